/-! ===== tapes' numbers, refusals, discs that are taken over (42: by wip/gen/p42.txt and fr.py) ===== -/
theorem RT_d {w v w' v' : Mem} (h : RT w v) (h1 : ∀ o, 48 ≤ o → o < 60 → w'.1 o = w.1 o) (h2 : ∀ o, 48 ≤ o → o < 60 → w'.2 o = w.2 o) (k3 : ∀ t, t < 6 → v'.1 3 (8+t) = v.1 3 (8+t)) (k15 : v'.1 15 = v.1 15) (k16 : v'.1 16 = v.1 16) (k17 : v'.2 17 = v.2 17) : RT w' v' := by
  intro t ht
  have a := h t ht
  rw [h1 (48+2*t) (by omega) (by omega), h2 (49+2*t) (by omega) (by omega), k3 t ht, k15, k16, k17]
  exact a
theorem tpC_t {x : Int32} (h : 0 ≤ x.toInt ∧ x.toInt ≤ 5) : f_X10_isTape x = some 1 := by
  unfold f_X10_isTape
  simp only [lt_e]
  rw [if_neg (by rw [i_lt]; simp; omega), if_neg (by rw [i_le]; simp; omega)]; rfl
theorem tpC_f {x : Int32} (h : ¬ (0 ≤ x.toInt ∧ x.toInt ≤ 5)) : f_X10_isTape x = some 0 := by
  unfold f_X10_isTape
  simp only [lt_e]
  by_cases c : x < 0
  · rw [if_pos c]; rfl
  · rw [if_neg c, if_pos (by rw [i_lt] at c; rw [i_le]; simp at c ⊢; omega)]; rfl
theorem tpM_t {x : Int32} (h : 0 ≤ x.toInt ∧ x.toInt ≤ 5) : f_X11_isTape x = some 1 := by
  unfold f_X11_isTape
  rw [in_t (by simpa using h), bd_s]; rfl
theorem tpM_f {x : Int32} (h : ¬ (0 ≤ x.toInt ∧ x.toInt ≤ 5)) : f_X11_isTape x = some 0 := by
  unfold f_X11_isTape
  rw [in_f (by simpa using h), bd_s]; rfl
theorem shC_t {x : Int32} (h : 0 ≤ x.toInt ∧ x.toInt ≤ 7) : f_X10_isShelf x = some 1 := by
  unfold f_X10_isShelf
  simp only [lt_e]
  rw [if_neg (by rw [i_lt]; simp; omega), if_neg (by rw [i_le]; simp; omega)]; rfl
theorem shC_f {x : Int32} (h : ¬ (0 ≤ x.toInt ∧ x.toInt ≤ 7)) : f_X10_isShelf x = some 0 := by
  unfold f_X10_isShelf
  simp only [lt_e]
  by_cases c : x < 0
  · rw [if_pos c]; rfl
  · rw [if_neg c, if_pos (by rw [i_lt] at c; rw [i_le]; simp at c ⊢; omega)]; rfl
theorem wiC_t {x n : Int32} (h0 : n.toInt ≠ -2147483648) (h : ir n.toInt x) : f_X10_isWithin x n = some 1 := by
  unfold f_X10_isWithin lt ir at *
  rw [if_neg (by rw [i_lt, i_neg h0]; omega), if_neg (by rw [i_lt]; omega)]; rfl
theorem wiC_f {x n : Int32} (h0 : n.toInt ≠ -2147483648) (h : ¬ ir n.toInt x) : f_X10_isWithin x n = some 0 := by
  unfold f_X10_isWithin lt ir at *
  by_cases c : x < -n
  · rw [if_pos c]; rfl
  · rw [if_neg c, if_pos (by rw [i_lt, i_neg h0] at c; rw [i_lt]; omega)]; rfl
theorem ref_C {r : Int32} (w : Mem) (h : -15 ≤ r.toInt ∧ r.toInt ≤ -11) : f_X10_counted r w = some (r, mS w 66 12 (w.1 66 12 + 1)) := by
  unfold f_X10_counted
  simp only [lt_e]
  rw [if_neg (by rw [i_lt]; simp; omega), if_neg (by rw [i_lt]; simp; omega)]
theorem ref_N {r : Int32} (w : Mem) (h : -11 < r.toInt) : f_X10_counted r w = some (r, w) := by
  unfold f_X10_counted
  simp only [lt_e]
  by_cases c : r < -15
  · rw [if_pos c]
  · rw [if_neg c, if_pos (by rw [i_lt]; simp; omega)]
theorem ref_M (r : Int32) (v : Mem) : f_X11_refuse r v = some (r, mS v 0 25 (v.1 0 25 + 1)) := rfl
theorem Rel_ref {w v : Mem} (h : Rel w v) : Rel (mS w 66 12 (w.1 66 12 + 1)) (mS v 0 25 (v.1 0 25 + 1)) := by
  obtain ⟨hD, hP, hH, hB, hJ, hS, hF, hR, hT⟩ := h
  refine ⟨?_, ?_, ?_, ?_, ?_, ?_, ?_, ?_, ?_⟩
  · exact RD_c hD (fun o ho => by first | rfl | simp (disch := omega) only [mS_o, mC_o]) (by first | rfl | simp [mS_o, mC_o] | simp (disch := omega) only [mS_o, mC_o]) (by first | rfl | simp [mS_o, mC_o] | simp (disch := omega) only [mS_o, mC_o]) (by first | rfl | simp [mS_o, mC_o] | simp (disch := omega) only [mS_o, mC_o])
  · exact RP_c hP (by first | rfl | simp [mS_o, mC_o] | simp (disch := omega) only [mS_o, mC_o]) (by first | rfl | simp [mS_o, mC_o] | simp (disch := omega) only [mS_o, mC_o]) (by first | rfl | simp [mS_o, mC_o] | simp (disch := omega) only [mS_o, mC_o]) (by first | rfl | (simp [mS_at]; done) | simp (disch := omega) only [mS_ne]) (by first | rfl | (simp [mS_at]; done) | simp (disch := omega) only [mS_ne]) (by first | rfl | simp [mS_o, mC_o] | simp (disch := omega) only [mS_o, mC_o]) (by first | rfl | simp [mS_o, mC_o] | simp (disch := omega) only [mS_o, mC_o])
  · exact RH_c hH (by first | rfl | (simp [mS_at]; done) | simp (disch := omega) only [mS_ne]) (by first | rfl | simp [mS_o, mC_o] | simp (disch := omega) only [mS_o, mC_o]) (by first | rfl | (simp [mS_at]; done) | simp (disch := omega) only [mS_ne]) (by first | rfl | simp [mS_o, mC_o] | simp (disch := omega) only [mS_o, mC_o])
  · exact RB_c hB (by first | rfl | simp [mS_o, mC_o] | simp (disch := omega) only [mS_o, mC_o]) (by first | rfl | simp [mS_o, mC_o] | simp (disch := omega) only [mS_o, mC_o]) (by first | rfl | simp [mS_o, mC_o] | simp (disch := omega) only [mS_o, mC_o]) (by first | rfl | (simp [mS_at]; done) | simp (disch := omega) only [mS_ne]) (by first | rfl | (simp [mS_at]; done) | simp (disch := omega) only [mS_ne]) (by first | rfl | (simp [mS_at]; done) | simp (disch := omega) only [mS_ne]) (by first | rfl | (simp [mS_at]; done) | simp (disch := omega) only [mS_ne])
  · exact RJ_c hJ (by first | rfl | (simp [mS_at]; done) | simp (disch := omega) only [mS_ne]) (by first | rfl | simp [mS_o, mC_o] | simp (disch := omega) only [mS_o, mC_o]) (by first | rfl | simp [mS_o, mC_o] | simp (disch := omega) only [mS_o, mC_o]) (by first | rfl | (simp [mS_at]; done) | simp (disch := omega) only [mS_ne]) (by first | rfl | simp [mS_o, mC_o] | simp (disch := omega) only [mS_o, mC_o]) (by first | rfl | simp [mS_o, mC_o] | simp (disch := omega) only [mS_o, mC_o])
  · exact RS_c hS (by first | rfl | simp [mS_o, mC_o] | simp (disch := omega) only [mS_o, mC_o]) (by first | rfl | simp [mS_o, mC_o] | simp (disch := omega) only [mS_o, mC_o]) (by first | rfl | simp [mS_o, mC_o] | simp (disch := omega) only [mS_o, mC_o]) (by first | rfl | (simp [mS_at]; done) | simp (disch := omega) only [mS_ne]) (by first | rfl | simp [mS_o, mC_o] | simp (disch := omega) only [mS_o, mC_o]) (by first | rfl | simp [mS_o, mC_o] | simp (disch := omega) only [mS_o, mC_o]) (by first | rfl | simp [mS_o, mC_o] | simp (disch := omega) only [mS_o, mC_o])
  · exact RF_c hF (by first | rfl | (simp [mS_at]; done) | simp (disch := omega) only [mS_ne]) (by first | rfl | simp [mS_o, mC_o] | simp (disch := omega) only [mS_o, mC_o]) (by first | rfl | simp [mS_o, mC_o] | simp (disch := omega) only [mS_o, mC_o]) (by first | rfl | (simp [mS_at]; done) | simp (disch := omega) only [mS_ne]) (by first | rfl | simp [mS_o, mC_o] | simp (disch := omega) only [mS_o, mC_o]) (by first | rfl | simp [mS_o, mC_o] | simp (disch := omega) only [mS_o, mC_o])
  · unfold RR at *; rw [mS_eq, mS_eq, hR]
  · exact RT_c hT (fun o h1 h2 => by first | rfl | simp (disch := omega) only [mS_o, mC_o]) (fun o h1 h2 => by first | rfl | simp (disch := omega) only [mL_o, mD_o, mS_at2, mC_2]) (by first | rfl | simp [mS_o, mC_o] | simp (disch := omega) only [mS_o, mC_o]) (by first | rfl | simp [mS_o, mC_o] | simp (disch := omega) only [mS_o, mC_o]) (by first | rfl | simp [mS_o, mC_o] | simp (disch := omega) only [mS_o, mC_o]) (by first | rfl | simp [mL_o, mD_o, mS_at2, mC_2])
theorem ix48 (a i : Nat) : (48 : Int32) * nI a + nI i = nI (48 * a + i) := by
  rw [nI_lit 48, pk_mul, nI_add]
theorem ix400 (a i : Nat) : (400 : Int32) * nI a + nI i = nI (400 * a + i) := by
  rw [nI_lit 400, pk_mul, nI_add]
theorem nI_s (i : Nat) : nI i + 1 = nI (i + 1) := nI_1 i
theorem mS2_b {w : Mem} {o o2 p y : Nat} {A B : Int32} (h : o ≠ o2) : (mS (mS w o2 p A) o p B).1 o y = if y = p then B else w.1 o y := by
  rw [mS_at, mS_ne h]; simp only [true_and]
theorem mS2_a {w : Mem} {o o2 p y : Nat} {A B : Int32} (h : o ≠ o2) : (mS (mS w o p A) o2 p B).1 o y = if y = p then A else w.1 o y := by
  rw [mS_ne h, mS_at]; simp only [true_and]
theorem copies_L (a b n : Nat) (ha : a < 15) (hb : b < 15) (hab : a ≠ b) (hn : n ≤ 48) : ∀ (k i m : Nat) (v : Mem), i + k = n → k < m → v.1 3 b = nI n →
    ∃ v', f_X11_copies_L14 (nI b) (nI a) m (nI i) v = some v' ∧ v'.2 = v.2 ∧ (∀ o, o ≠ 4 → o ≠ 5 → v'.1 o = v.1 o) ∧ (∀ x, v'.1 4 x = if 48*a+i ≤ x ∧ x < 48*a+n then v.1 4 (48*b+(x-48*a)) else v.1 4 x) ∧ (∀ x, v'.1 5 x = if 48*a+i ≤ x ∧ x < 48*a+n then v.1 5 (48*b+(x-48*a)) else v.1 5 x) := by
  intro k
  induction k with
  | zero =>
    intro i m v hi hm h3
    obtain ⟨m, rfl⟩ : ∃ q, m = q + 1 := ⟨m - 1, by omega⟩
    refine ⟨v, ?_, rfl, fun _ _ _ => rfl, fun x => by rw [if_neg (by omega)], fun x => by rw [if_neg (by omega)]⟩
    rw [f_X11_copies_L14_s, nI_clamp (by omega), h3, if_pos (by rw [nI_leI (by omega) (by omega)]; omega)]
  | succ k ih =>
    intro i m v hi hm h3
    obtain ⟨m, rfl⟩ : ∃ q, m = q + 1 := ⟨m - 1, by omega⟩
    obtain ⟨v', g1, g2, g3, g4, g5⟩ := ih (i + 1) m (mS (mS v 4 (48*a+i) (v.1 4 (48*b+i))) 5 (48*a+i) (v.1 5 (48*b+i))) (by omega) (by omega) (by rw [mS_ne (by decide), mS_ne (by decide)]; exact h3)
    refine ⟨v', ?_, g2, fun o h4 h5 => ?_, fun x => ?_, fun x => ?_⟩
    · rw [f_X11_copies_L14_s, nI_clamp (by omega), h3, if_neg (by rw [nI_leI (by omega) (by omega)]; omega)]
      simp only [lt, ix48]
      rw [gd_t (inb_nI (by omega) (by omega)), gd_t (inb_nI (by omega) (by omega)), nI_clamp (by omega), nI_clamp (by omega), mS_ne (a := 5) (o := 4) (by decide), nI_s]
      exact g1
    · rw [g3 o h4 h5, mS_o h5, mS_o h4]
    · rw [g4 x]
      simp only [mS2_a (show (4:Nat) ≠ 5 by decide)]
      by_cases q : x = 48*a+i
      · subst q
        rw [if_neg (by omega), if_pos rfl, if_pos (by omega), show 48 * a + i - 48 * a = i by omega]
      · rw [if_neg q]
        by_cases q2 : 48*a+(i+1) ≤ x ∧ x < 48*a+n
        · rw [if_pos q2, if_neg (by omega), if_pos (by omega)]
        · rw [if_neg q2, if_neg (by omega)]
    · rw [g5 x]
      simp only [mS2_b (show (5:Nat) ≠ 4 by decide)]
      by_cases q : x = 48*a+i
      · subst q
        rw [if_neg (by omega), if_pos rfl, if_pos (by omega), show 48 * a + i - 48 * a = i by omega]
      · rw [if_neg q]
        by_cases q2 : 48*a+(i+1) ≤ x ∧ x < 48*a+n
        · rw [if_pos q2, if_neg (by omega), if_pos (by omega)]
        · rw [if_neg q2, if_neg (by omega)]
/-- a disc taken over: in the class, in the reference -/
theorem bec {w v : Mem} (hD : RD w v) (a b : Nat) (ha : a < 15) (hb : b < 15) (hab : a ≠ b) : ∃ w' v', f_X1_become a b w = some w' ∧ f_X11_copies (nI b) (nI a) v = some v' ∧ RD w' v' ∧ w'.1 (3*a) 2 = w.1 (3*b) 2 ∧ v'.1 3 a = v.1 3 b ∧ (∀ j, j ≠ a → v'.1 3 j = v.1 3 j) ∧ (∀ o, o ≠ 3*a → o ≠ 3*a+1 → o ≠ 3*a+2 → w'.1 o = w.1 o) ∧ w'.2 = w.2 ∧ (∀ o, o ≠ 3 → o ≠ 4 → o ≠ 5 → v'.1 o = v.1 o) ∧ v'.2 = v.2 := by
  obtain ⟨n, hn, e1, e2, e3⟩ := hD b hb
  obtain ⟨v', g1, g2, g3, g4, g5⟩ := copies_L a b n ha hb hab hn n 0 FU (mS v 3 a (nI n)) (by omega) (by unfold FU; omega) (by rw [mS_at, if_neg (fun q => hab q.2.symm)]; exact e2)
  have z0 : (0 : Int32).toNatClampNeg = 0 := rfl
  have z48 : (48 : Int32).toNatClampNeg = 48 := rfl
  refine ⟨mS (mC (mC w (3*b+1) (3*a+1) 0 0 48) (3*b+2) (3*a+2) 0 0 48) (3*a) 2 (nI n), v', ?_, ?_, ?_, ?_, ?_, ?_, ?_, rfl, ?_, g2⟩
  · unfold f_X1_become
    simp only [lt_e]
    rw [gd_t (by decide), z0, z48]
    rw [mC_o (by omega), mC_o (by omega), e1]
  · unfold f_X11_copies
    simp only [lt_e]
    rw [gd_t (inb_nI hb (by omega)), gd_t (inb_nI ha (by omega)), nI_clamp (by omega), nI_clamp (by omega), e2, show (0 : Int32) = nI 0 from rfl, g1, bd_s]
  · intro d hd
    by_cases q : d = a
    · subst q
      refine ⟨n, hn, mS_eq, by rw [g3 3 (by decide) (by decide), mS_eq], fun j hj => ?_⟩
      obtain ⟨f1, f2, f3, f4⟩ := e3 j hj
      have k4 : v'.1 4 (48*d+j) = v.1 4 (48*b+j) := by rw [g4, if_pos (by omega), show 48*d+j-48*d = j by omega, mS_ne (by decide)]
      have k5 : v'.1 5 (48*d+j) = v.1 5 (48*b+j) := by rw [g5, if_pos (by omega), show 48*d+j-48*d = j by omega, mS_ne (by decide)]
      rw [k4, k5, mS_ne (by omega), mS_ne (by omega), mC_o (by omega), mC_s, mC_s, mC_o (by omega)]
      simp only [va_cpy]
      rw [if_pos (by omega), if_pos (by omega), show 0 + (j - 0) = j by omega]
      exact ⟨f1, f2, f3, f4⟩
    · obtain ⟨n2, hn2, e12, e22, e32⟩ := hD d hd
      refine ⟨n2, hn2, by rw [mS_ne (by omega), mC_o (by omega), mC_o (by omega)]; exact e12, by rw [g3 3 (by decide) (by decide), mS_at, if_neg (fun z => q z.2)]; exact e22, fun j hj => ?_⟩
      obtain ⟨f1, f2, f3, f4⟩ := e32 j hj
      have k4 : v'.1 4 (48*d+j) = v.1 4 (48*d+j) := by rw [g4, if_neg (by omega), mS_ne (by decide)]
      have k5 : v'.1 5 (48*d+j) = v.1 5 (48*d+j) := by rw [g5, if_neg (by omega), mS_ne (by decide)]
      rw [k4, k5, mS_ne (by omega), mS_ne (by omega), mC_o (by omega), mC_o (by omega), mC_o (by omega), mC_o (by omega)]
      exact ⟨f1, f2, f3, f4⟩
  · rw [mS_eq, e1]
  · rw [g3 3 (by decide) (by decide), mS_eq, e2]
  · intro j hj
    rw [g3 3 (by decide) (by decide), mS_at, if_neg (fun z => hj z.2)]
  · intro o h0 h1 h2
    rw [mS_o h0, mC_o h2, mC_o h1]
  · intro o h3 h4 h5
    rw [g3 o h4 h5, mS_o h3]
/-- .. and what it does to all parts, where no tape's disc is written -/
theorem Rel_bec {w v w' v' : Mem} (h : Rel w v) {a : Nat} (ha : a < 8 ∨ a = 14) (r1 : RD w' v') (r3 : ∀ j, j ≠ a → v'.1 3 j = v.1 3 j) (r4 : ∀ o, o ≠ 3*a → o ≠ 3*a+1 → o ≠ 3*a+2 → w'.1 o = w.1 o) (r5 : w'.2 = w.2) (r6 : ∀ o, o ≠ 3 → o ≠ 4 → o ≠ 5 → v'.1 o = v.1 o) (r7 : v'.2 = v.2) : Rel w' v' := by
  obtain ⟨hD, hP, hH, hB, hJ, hS, hF, hR, hT⟩ := h
  have k0 := r6 0 (by omega) (by omega) (by omega)
  refine ⟨r1, ?_, ?_, ?_, ?_, ?_, ?_, ?_, ?_⟩
  · exact RP_c hP (r4 _ (by omega) (by omega) (by omega)) (r4 _ (by omega) (by omega) (by omega)) (r4 _ (by omega) (by omega) (by omega)) (by rw [k0]) (by rw [k0]) (r6 _ (by omega) (by omega) (by omega)) (r6 _ (by omega) (by omega) (by omega))
  · exact RH_c hH (by rw [r4 72 (by omega) (by omega) (by omega)]) (r4 _ (by omega) (by omega) (by omega)) (by rw [k0]) (r6 _ (by omega) (by omega) (by omega))
  · exact RB_c hB (r4 _ (by omega) (by omega) (by omega)) (r4 _ (by omega) (by omega) (by omega)) (r6 _ (by omega) (by omega) (by omega)) (by rw [k0]) (by rw [k0]) (by rw [k0]) (by rw [k0])
  · exact RJ_c hJ (by rw [r4 76 (by omega) (by omega) (by omega)]) (r4 _ (by omega) (by omega) (by omega)) (r4 _ (by omega) (by omega) (by omega)) (by rw [k0]) (r6 _ (by omega) (by omega) (by omega)) (r6 _ (by omega) (by omega) (by omega))
  · exact RS_c hS (r4 _ (by omega) (by omega) (by omega)) (r4 _ (by omega) (by omega) (by omega)) (r4 _ (by omega) (by omega) (by omega)) (by rw [k0]) (r6 _ (by omega) (by omega) (by omega)) (r6 _ (by omega) (by omega) (by omega)) (r6 _ (by omega) (by omega) (by omega))
  · exact RF_c hF (by rw [r4 83 (by omega) (by omega) (by omega)]) (r4 _ (by omega) (by omega) (by omega)) (r4 _ (by omega) (by omega) (by omega)) (by rw [k0]) (r6 _ (by omega) (by omega) (by omega)) (r6 _ (by omega) (by omega) (by omega))
  · exact RR_c hR (by rw [r4 66 (by omega) (by omega) (by omega)]) (by rw [k0])
  · exact RT_d hT (fun o h1 h2 => r4 _ (by omega) (by omega) (by omega)) (fun o h1 h2 => by rw [r5]) (fun t ht => r3 _ (by omega)) (r6 _ (by omega) (by omega) (by omega)) (r6 _ (by omega) (by omega) (by omega)) (by rw [r7])
-- 9 lay
theorem step_9 {w v : Mem} (h : Rel w v) (x1 : Int32) : ∃ r w' v', f_X10_lay x1 w = some (r, w') ∧ f_X11_lay x1 v = some (r, v') ∧ Rel w' v' := by
  have hD := h.1
  by_cases c : 0 ≤ x1.toInt ∧ x1.toInt ≤ 7
  · obtain ⟨k, hk, rfl⟩ := i_nat (x := x1) (N := 8) c.1 (by omega) (by omega)
    obtain ⟨n, hn, e1, e2, e3⟩ := hD 14 (by omega)
    have z14 : (14 : Int32).toNatClampNeg = 14 := rfl
    by_cases q : n = 0
    · subst q
      refine ⟨-3, w, v, ?_, ?_, h⟩
      · unfold f_X10_lay
        rw [shC_t c, bd_s, if_neg one_ne, e1, if_pos (by decide)]
      · unfold f_X11_lay
        simp only [lt_e]
        rw [in_t (by simpa using c), bd_s, if_neg one_ne, gd_t (by decide), z14, e2, if_pos (by decide)]
    · obtain ⟨w', v', b1, b2, b3, b4, b5, b6, b7, b8, b9, b10⟩ := bec hD k 14 (by omega) (by omega) (by omega)
      have nz : ¬ nI n = 0 := nI_ne (a := n) (b := 0) (by omega) (by omega) q
      refine ⟨nI n, w', v', ?_, ?_, Rel_bec h (Or.inl hk) b3 b6 b7 b8 b9 b10⟩
      · unfold f_X10_lay
        rw [shC_t c, bd_s, if_neg one_ne, e1, if_neg nz, gd_t (inb_nI hk (by omega)), nI_clamp (by omega), b1, bd_s, b7 (3*14) (by omega) (by omega) (by omega), e1]
      · unfold f_X11_lay
        simp only [lt_e]
        rw [in_t (by simpa using c), bd_s, if_neg one_ne, gd_t (by decide), z14, e2, if_neg nz, show (14 : Int32) = nI 14 from rfl, b2, bd_s, b6 14 (by omega), e2]
  · refine ⟨-1, w, v, ?_, ?_, h⟩
    · unfold f_X10_lay
      rw [shC_f c, bd_s, if_pos rfl]
    · unfold f_X11_lay
      rw [in_f (by simpa using c), bd_s, if_pos rfl]
