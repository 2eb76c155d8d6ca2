/-! ===== 2 point, 3 advance, 11 turn, 44 toss, 47 at, 48 copy (45: by wip/gen/p45.txt and fr.py) ===== -/
theorem Rel_t {w v : Mem} (h : Rel w v) (t : Int32) : Rel w (mS v 0 0 t) := by
  obtain ⟨hD, hP, hH, hB, hJ, hS, hF, hR, hT⟩ := h
  refine ⟨?_, ?_, ?_, ?_, ?_, ?_, ?_, ?_, ?_⟩
  · exact RD_c hD (fun o ho => by first | rfl | simp (disch := omega) only [mS_o, mC_o]) (by first | rfl | simp [mS_o, mC_o] | simp (disch := omega) only [mS_o, mC_o]) (by first | rfl | simp [mS_o, mC_o] | simp (disch := omega) only [mS_o, mC_o]) (by first | rfl | simp [mS_o, mC_o] | simp (disch := omega) only [mS_o, mC_o])
  · exact RP_c hP (by first | rfl | simp [mS_o, mC_o] | simp (disch := omega) only [mS_o, mC_o]) (by first | rfl | simp [mS_o, mC_o] | simp (disch := omega) only [mS_o, mC_o]) (by first | rfl | simp [mS_o, mC_o] | simp (disch := omega) only [mS_o, mC_o]) (by first | rfl | (simp [mS_at]; done) | simp (disch := omega) only [mS_ne]) (by first | rfl | (simp [mS_at]; done) | simp (disch := omega) only [mS_ne]) (by first | rfl | simp [mS_o, mC_o] | simp (disch := omega) only [mS_o, mC_o]) (by first | rfl | simp [mS_o, mC_o] | simp (disch := omega) only [mS_o, mC_o])
  · exact RH_c hH (by first | rfl | (simp [mS_at]; done) | simp (disch := omega) only [mS_ne]) (by first | rfl | simp [mS_o, mC_o] | simp (disch := omega) only [mS_o, mC_o]) (by first | rfl | (simp [mS_at]; done) | simp (disch := omega) only [mS_ne]) (by first | rfl | simp [mS_o, mC_o] | simp (disch := omega) only [mS_o, mC_o])
  · exact RB_c hB (by first | rfl | simp [mS_o, mC_o] | simp (disch := omega) only [mS_o, mC_o]) (by first | rfl | simp [mS_o, mC_o] | simp (disch := omega) only [mS_o, mC_o]) (by first | rfl | simp [mS_o, mC_o] | simp (disch := omega) only [mS_o, mC_o]) (by first | rfl | (simp [mS_at]; done) | simp (disch := omega) only [mS_ne]) (by first | rfl | (simp [mS_at]; done) | simp (disch := omega) only [mS_ne]) (by first | rfl | (simp [mS_at]; done) | simp (disch := omega) only [mS_ne]) (by first | rfl | (simp [mS_at]; done) | simp (disch := omega) only [mS_ne])
  · exact RJ_c hJ (by first | rfl | (simp [mS_at]; done) | simp (disch := omega) only [mS_ne]) (by first | rfl | simp [mS_o, mC_o] | simp (disch := omega) only [mS_o, mC_o]) (by first | rfl | simp [mS_o, mC_o] | simp (disch := omega) only [mS_o, mC_o]) (by first | rfl | (simp [mS_at]; done) | simp (disch := omega) only [mS_ne]) (by first | rfl | simp [mS_o, mC_o] | simp (disch := omega) only [mS_o, mC_o]) (by first | rfl | simp [mS_o, mC_o] | simp (disch := omega) only [mS_o, mC_o])
  · exact RS_c hS (by first | rfl | simp [mS_o, mC_o] | simp (disch := omega) only [mS_o, mC_o]) (by first | rfl | simp [mS_o, mC_o] | simp (disch := omega) only [mS_o, mC_o]) (by first | rfl | simp [mS_o, mC_o] | simp (disch := omega) only [mS_o, mC_o]) (by first | rfl | (simp [mS_at]; done) | simp (disch := omega) only [mS_ne]) (by first | rfl | simp [mS_o, mC_o] | simp (disch := omega) only [mS_o, mC_o]) (by first | rfl | simp [mS_o, mC_o] | simp (disch := omega) only [mS_o, mC_o]) (by first | rfl | simp [mS_o, mC_o] | simp (disch := omega) only [mS_o, mC_o])
  · exact RF_c hF (by first | rfl | (simp [mS_at]; done) | simp (disch := omega) only [mS_ne]) (by first | rfl | simp [mS_o, mC_o] | simp (disch := omega) only [mS_o, mC_o]) (by first | rfl | simp [mS_o, mC_o] | simp (disch := omega) only [mS_o, mC_o]) (by first | rfl | (simp [mS_at]; done) | simp (disch := omega) only [mS_ne]) (by first | rfl | simp [mS_o, mC_o] | simp (disch := omega) only [mS_o, mC_o]) (by first | rfl | simp [mS_o, mC_o] | simp (disch := omega) only [mS_o, mC_o])
  · exact RR_c hR (by first | rfl | (simp [mS_at]; done) | simp (disch := omega) only [mS_ne]) (by first | rfl | (simp [mS_at]; done) | simp (disch := omega) only [mS_ne])
  · exact RT_c hT (fun o h1 h2 => by first | rfl | simp (disch := omega) only [mS_o, mC_o]) (fun o h1 h2 => by first | rfl | simp (disch := omega) only [mL_o, mD_o, mS_at2, mC_2]) (by first | rfl | simp [mS_o, mC_o] | simp (disch := omega) only [mS_o, mC_o]) (by first | rfl | simp [mS_o, mC_o] | simp (disch := omega) only [mS_o, mC_o]) (by first | rfl | simp [mS_o, mC_o] | simp (disch := omega) only [mS_o, mC_o]) (by first | rfl | simp [mL_o, mD_o, mS_at2, mC_2])
theorem Rel_o {w v : Mem} (h : Rel w v) (b : Int64) : Rel (mL w 88 0 b) v := by
  obtain ⟨hD, hP, hH, hB, hJ, hS, hF, hR, hT⟩ := h
  refine ⟨?_, ?_, ?_, ?_, ?_, ?_, ?_, ?_, ?_⟩
  · exact RD_c hD (fun o ho => by first | rfl | simp (disch := omega) only [mS_o, mC_o]) (by first | rfl | simp [mS_o, mC_o] | simp (disch := omega) only [mS_o, mC_o]) (by first | rfl | simp [mS_o, mC_o] | simp (disch := omega) only [mS_o, mC_o]) (by first | rfl | simp [mS_o, mC_o] | simp (disch := omega) only [mS_o, mC_o])
  · exact RP_c hP (by first | rfl | simp [mS_o, mC_o] | simp (disch := omega) only [mS_o, mC_o]) (by first | rfl | simp [mS_o, mC_o] | simp (disch := omega) only [mS_o, mC_o]) (by first | rfl | simp [mS_o, mC_o] | simp (disch := omega) only [mS_o, mC_o]) (by first | rfl | (simp [mS_at]; done) | simp (disch := omega) only [mS_ne]) (by first | rfl | (simp [mS_at]; done) | simp (disch := omega) only [mS_ne]) (by first | rfl | simp [mS_o, mC_o] | simp (disch := omega) only [mS_o, mC_o]) (by first | rfl | simp [mS_o, mC_o] | simp (disch := omega) only [mS_o, mC_o])
  · exact RH_c hH (by first | rfl | (simp [mS_at]; done) | simp (disch := omega) only [mS_ne]) (by first | rfl | simp [mS_o, mC_o] | simp (disch := omega) only [mS_o, mC_o]) (by first | rfl | (simp [mS_at]; done) | simp (disch := omega) only [mS_ne]) (by first | rfl | simp [mS_o, mC_o] | simp (disch := omega) only [mS_o, mC_o])
  · exact RB_c hB (by first | rfl | simp [mS_o, mC_o] | simp (disch := omega) only [mS_o, mC_o]) (by first | rfl | simp [mS_o, mC_o] | simp (disch := omega) only [mS_o, mC_o]) (by first | rfl | simp [mS_o, mC_o] | simp (disch := omega) only [mS_o, mC_o]) (by first | rfl | (simp [mS_at]; done) | simp (disch := omega) only [mS_ne]) (by first | rfl | (simp [mS_at]; done) | simp (disch := omega) only [mS_ne]) (by first | rfl | (simp [mS_at]; done) | simp (disch := omega) only [mS_ne]) (by first | rfl | (simp [mS_at]; done) | simp (disch := omega) only [mS_ne])
  · exact RJ_c hJ (by first | rfl | (simp [mS_at]; done) | simp (disch := omega) only [mS_ne]) (by first | rfl | simp [mS_o, mC_o] | simp (disch := omega) only [mS_o, mC_o]) (by first | rfl | simp [mS_o, mC_o] | simp (disch := omega) only [mS_o, mC_o]) (by first | rfl | (simp [mS_at]; done) | simp (disch := omega) only [mS_ne]) (by first | rfl | simp [mS_o, mC_o] | simp (disch := omega) only [mS_o, mC_o]) (by first | rfl | simp [mS_o, mC_o] | simp (disch := omega) only [mS_o, mC_o])
  · exact RS_c hS (by first | rfl | simp [mS_o, mC_o] | simp (disch := omega) only [mS_o, mC_o]) (by first | rfl | simp [mS_o, mC_o] | simp (disch := omega) only [mS_o, mC_o]) (by first | rfl | simp [mS_o, mC_o] | simp (disch := omega) only [mS_o, mC_o]) (by first | rfl | (simp [mS_at]; done) | simp (disch := omega) only [mS_ne]) (by first | rfl | simp [mS_o, mC_o] | simp (disch := omega) only [mS_o, mC_o]) (by first | rfl | simp [mS_o, mC_o] | simp (disch := omega) only [mS_o, mC_o]) (by first | rfl | simp [mS_o, mC_o] | simp (disch := omega) only [mS_o, mC_o])
  · exact RF_c hF (by first | rfl | (simp [mS_at]; done) | simp (disch := omega) only [mS_ne]) (by first | rfl | simp [mS_o, mC_o] | simp (disch := omega) only [mS_o, mC_o]) (by first | rfl | simp [mS_o, mC_o] | simp (disch := omega) only [mS_o, mC_o]) (by first | rfl | (simp [mS_at]; done) | simp (disch := omega) only [mS_ne]) (by first | rfl | simp [mS_o, mC_o] | simp (disch := omega) only [mS_o, mC_o]) (by first | rfl | simp [mS_o, mC_o] | simp (disch := omega) only [mS_o, mC_o])
  · exact RR_c hR (by first | rfl | (simp [mS_at]; done) | simp (disch := omega) only [mS_ne]) (by first | rfl | (simp [mS_at]; done) | simp (disch := omega) only [mS_ne])
  · exact RT_c hT (fun o h1 h2 => by first | rfl | simp (disch := omega) only [mS_o, mC_o]) (fun o h1 h2 => by first | rfl | simp (disch := omega) only [mL_o, mD_o, mS_at2, mC_2]) (by first | rfl | simp [mS_o, mC_o] | simp (disch := omega) only [mS_o, mC_o]) (by first | rfl | simp [mS_o, mC_o] | simp (disch := omega) only [mS_o, mC_o]) (by first | rfl | simp [mS_o, mC_o] | simp (disch := omega) only [mS_o, mC_o]) (by first | rfl | simp [mL_o, mD_o, mS_at2, mC_2])
theorem thr0 {w v : Mem} (h : Rel w v) (b : Int32) : f_X11_thrown (mS v 0 0 0) = some 0 ∧ ((0 : Int32) = 0 → (mL w 88 (0 : Int32).toNatClampNeg b.toInt64).2 88 0 = b.toInt64) ∧ Rel (mL w 88 (0 : Int32).toNatClampNeg b.toInt64) (mS v 0 0 0) :=
  ⟨rfl, fun _ => mL_eq, Rel_o (Rel_t h 0) _⟩
theorem thr1 {w v : Mem} (h : Rel w v) (t : Int32) (ht : ¬ t = 0) (b : Int64) : f_X11_thrown (mS v 0 0 t) = some t ∧ (t = 0 → w.2 88 0 = b) ∧ Rel w (mS v 0 0 t) :=
  ⟨rfl, fun q => absurd q ht, Rel_t h t⟩
theorem th0 {v : Mem} : (mS v 0 0 0).1 0 0 = 0 := mS_eq
theorem th1 {v : Mem} : ¬ (mS v 0 0 1).1 0 0 = 0 := by rw [mS_eq]; decide
theorem th2 {v : Mem} : ¬ (mS v 0 0 2).1 0 0 = 0 := by rw [mS_eq]; decide
-- 3 advance
theorem step_3 {w v : Mem} (h : Rel w v) : ∃ k w' b v', f_L_advance w = some (k, w') ∧ f_X11_advance v = some (b, v') ∧ f_X11_thrown v' = some k ∧ (k = 0 → w'.2 88 0 = b.toInt64) ∧ Rel w' v' := by
  obtain ⟨n, hn, e1, e2, e3, _⟩ := h.2.1
  unfold f_L_advance f_X10_advance f_X11_advance
  simp only [lt_e]
  rw [e1, e2]
  by_cases n0 : n = 0
  · subst n0
    rw [if_pos (show nI 0 = 0 by decide), if_pos (show nI 0 = 0 by decide), b2_s, if_neg th1]
    exact ⟨1, w, 0, mS v 0 0 1, rfl, rfl, thr1 h 1 (by decide) _⟩
  · have nn0 : ¬ nI n = 0 := nI_ne (a := n) (b := 0) (by omega) (by omega) n0
    rw [if_neg nn0, if_neg nn0, b2_s, if_pos th0, (e3 (by omega)).1]
    exact ⟨0, _, _, _, rfl, rfl, thr0 h _⟩
-- 2 point
theorem step_2 {w v : Mem} (h : Rel w v) (x1 x2 : Int32) : ∃ k w' b v', f_L_point x1 x2 w = some (k, w') ∧ f_X11_point x1 x2 v = some (b, v') ∧ f_X11_thrown v' = some k ∧ (k = 0 → w'.2 88 0 = b.toInt64) ∧ Rel w' v' := by
  obtain ⟨n, hn, e1, e2, e3, e6⟩ := h.2.1
  unfold f_L_point f_X10_point f_X11_point
  simp only [lt_e]
  rw [e1, e2]
  have e4 := nI_toInt (n := n) (by omega)
  have e5 : (nI n - 1).toInt = n - 1 := by rw [i_sub (by rw [e4]; simp; omega) (by rw [e4]; simp; omega), e4]; rfl
  rcases in_c x2 0 1 with ⟨q, k1⟩ | ⟨q, k1⟩
  rotate_left
  · rw [q, bd_s, if_pos rfl, if_neg th1]
    refine ⟨1, w, 0, mS v 0 0 1, ?_, rfl, thr1 h 1 (by decide) _⟩
    by_cases c : x2 < 0
    · rw [if_pos c]; rfl
    · rw [if_neg c, if_neg (by rw [i_lt] at c; rw [i_le]; simp at c k1 ⊢; omega)]; rfl
  simp at k1
  rw [q, bd_s, if_neg one_ne, if_neg (show ¬ x2 < 0 by rw [i_lt]; simp; omega), if_pos (show x2 ≤ 1 by rw [i_le]; simp; omega)]
  rcases in_c x1 0 (nI n - 1) with ⟨q2, k2⟩ | ⟨q2, k2⟩
  rotate_left
  · rw [q2, bd_s, if_pos rfl, if_neg th2]
    rw [e5] at k2
    refine ⟨2, w, 0, mS v 0 0 2, ?_, rfl, thr1 h 2 (by decide) _⟩
    by_cases c : x1 < 0
    · rw [if_pos c]; rfl
    · rw [if_neg c, if_neg (by rw [i_lt] at c; rw [i_lt, e4]; simp at c k2 ⊢; omega)]; rfl
  rw [e5] at k2
  simp at k2
  rw [q2, bd_s, if_neg one_ne, if_neg (show ¬ x1 < 0 by rw [i_lt]; simp; omega), if_pos (show x1 < nI n by rw [i_lt, e4]; omega)]
  obtain ⟨j, hj, rfl⟩ := i_nat (x := x1) (N := n) (by omega) (by omega) (by omega)
  obtain ⟨f1, f2, _⟩ := e6 j hj
  have g := inb_nI (n := j) (N := 24) (by omega) (by omega)
  simp only [gd_t g, nI_clamp (show j < 2147483648 by omega)]
  rw [if_pos (show (mS v 0 0 0).1 0 0 = 0 by rw [mS_eq])]
  by_cases c : x2 = 0
  · rw [if_pos c, if_pos c, b2_s]
    refine ⟨0, _, w.1 61 j, _, rfl, ?_, thr0 h _⟩
    rw [mS_ne (by decide), f1]
  · rw [if_neg c, if_neg c, b2_s]
    refine ⟨0, _, w.1 62 j, _, rfl, ?_, thr0 h _⟩
    rw [mS_ne (by decide), f2]
-- 47 at
theorem step_47 {w v : Mem} (h : Rel w v) (x1 x2 : Int32) : ∃ k w' b v', f_L_at x1 x2 w = some (k, w') ∧ f_X11_at x1 x2 v = some (b, v') ∧ f_X11_thrown v' = some k ∧ (k = 0 → w'.2 88 0 = b) ∧ Rel w' v' := by
  have hT := h.2.2.2.2.2.2.2.2
  unfold f_L_at f_X10_at f_X11_at
  rw [tp_eq, tpm_eq]
  rcases in_c x1 0 5 with ⟨q, k1⟩ | ⟨q, k1⟩
  rotate_left
  · simp only [lt_e]
    rw [q, bd_s, bd_s, if_pos rfl, if_pos rfl, b2_s, if_neg th1]
    exact ⟨1, w, 0, mS v 0 0 1, rfl, rfl, thr1 h 1 (by decide) _⟩
  rw [q, bd_s, bd_s]
  simp only [lt_e]
  rw [if_neg one_ne, if_neg one_ne]
  simp at k1
  obtain ⟨t, ht, rfl⟩ := i_nat (x := x1) (N := 6) (by omega) (by omega) (by omega)
  obtain ⟨⟨s, hs, a1, a2, a3⟩, ⟨n, hn, b1, b2⟩, c⟩ := hT t ht
  simp only [gd_t (inb_nI ht (show 6 ≤ 2147483648 by omega)), nI_clamp (show t < 2147483648 by omega), a2, b1, b2]
  by_cases s0 : s = 0
  · subst s0
    rw [isR_f a1 (by omega), if_pos (show nI 0 = 0 by decide), bd_s, if_pos rfl, b2_s, if_neg th2]
    exact ⟨2, w, 0, mS v 0 0 2, rfl, rfl, thr1 h 2 (by decide) _⟩
  rw [if_neg (show ¬ nI s = 0 from nI_ne (a := s) (b := 0) (by omega) (by omega) s0)]
  by_cases s5 : s = 5
  · subst s5
    rw [isR_f a1 (by omega), if_pos (show nI 5 = 5 by decide), bd_s, if_pos rfl, b2_s, if_neg th2]
    exact ⟨2, w, 0, mS v 0 0 2, rfl, rfl, thr1 h 2 (by decide) _⟩
  rw [if_neg (show ¬ nI s = 5 from nI_ne (a := s) (b := 5) (by omega) (by omega) s5), isR_t a1 (by omega), bd_s, if_neg one_ne]
  have e4 := nI_toInt (n := n) (by omega)
  have e5 : (nI n - 1).toInt = n - 1 := by rw [i_sub (by rw [e4]; simp; omega) (by rw [e4]; simp; omega), e4]; rfl
  rcases in_c x2 0 (nI n - 1) with ⟨q2, k2⟩ | ⟨q2, k2⟩
  rotate_left
  · rw [q2, bd_s, if_pos rfl, if_neg th2]
    rw [e5] at k2
    refine ⟨2, w, 0, mS v 0 0 2, ?_, rfl, thr1 h 2 (by decide) _⟩
    by_cases c : x2 < 0
    · rw [if_pos c]; rfl
    · rw [if_neg c, if_neg (by rw [i_lt] at c; rw [i_lt, e4]; simp at c k2 ⊢; omega)]; rfl
  rw [e5] at k2
  simp at k2
  rw [q2, bd_s, if_neg one_ne, if_neg (show ¬ x2 < 0 by rw [i_lt]; simp; omega), if_pos (show x2 < nI n by rw [i_lt, e4]; omega)]
  obtain ⟨j, hj, rfl⟩ := i_nat (x := x2) (N := n) (by omega) (by omega) (by omega)
  rw [ix400, gd_t (inb_nI (by omega) (by omega)), gd_t (inb_nI (by omega) (by omega)), nI_clamp (by omega), nI_clamp (by omega), b2_s, if_pos (show (mS v 0 0 0).1 0 0 = 0 by rw [mS_eq])]
  exact ⟨0, _, _, _, rfl, rfl, rfl, fun _ => by rw [show (0 : Int32).toNatClampNeg = 0 from rfl, mL_eq, c j (by omega)]; rfl, Rel_o (Rel_t h 0) _⟩
-- 48 copy
theorem hp_eq {w : Mem} {t n : Nat} (hn : n ≤ 400) (e : w.1 (48+2*t) 3 = nI n) (x1 x2 : Int32) : f_X9_hasPlaces t x1 x2 w = some (if 0 ≤ x1.toInt ∧ 0 ≤ x2.toInt ∧ x1.toInt + x2.toInt ≤ n then 1 else 0) := by
  unfold f_X9_hasPlaces
  simp only [lt_e]
  have e4 := nI_toInt (n := n) (by omega)
  have r2 := i_rng x2
  rw [e]
  by_cases c1 : x1 < 0
  · rw [if_pos c1, if_neg (fun q => by rw [i_lt] at c1; simp at c1; omega)]; rfl
  rw [if_neg c1]
  by_cases c2 : x2 < 0
  · rw [if_pos c2, if_neg (fun q => by rw [i_lt] at c2; simp at c2; omega)]; rfl
  rw [if_neg c2]
  rw [i_lt] at c1 c2
  simp at c1 c2
  have e5 : (nI n - x2).toInt = n - x2.toInt := by rw [i_sub (by rw [e4]; omega) (by rw [e4]; omega), e4]
  by_cases c3 : nI n - x2 < x1
  · rw [if_pos c3, if_neg (fun q => by rw [i_lt, e5] at c3; omega)]; rfl
  · rw [if_neg c3, if_pos (by rw [i_lt, e5] at c3; omega)]; rfl
theorem cpA (t a n : Nat) (ht : t < 6) (hn : a + n ≤ 400) : ∀ (k i m : Nat) (v : Mem), i + k = n → k < m → ∃ v', f_X11_copy_L124 (nI t) (nI a) (nI n) m (nI i) v = some v' ∧ v'.1 = v.1 ∧ ∀ o j, v'.2 o j = if o = 26 ∧ i ≤ j ∧ j < n then v.2 17 (400*t+a+j) else v.2 o j := by
  intro k
  induction k with
  | zero =>
    intro i m v hi hm
    obtain ⟨m, rfl⟩ : ∃ q, m = q + 1 := ⟨m - 1, by omega⟩
    refine ⟨v, ?_, rfl, fun o j => by rw [if_neg (by omega)]⟩
    rw [f_X11_copy_L124_s, if_pos (by rw [nI_leI (by omega) (by omega)]; omega)]
  | succ k ih =>
    intro i m v hi hm
    obtain ⟨m, rfl⟩ : ∃ q, m = q + 1 := ⟨m - 1, by omega⟩
    obtain ⟨v', g1, g2, g3⟩ := ih (i + 1) m (mL v 26 i (v.2 17 (400*t+a+i))) (by omega) (by omega)
    refine ⟨v', ?_, g2, fun o j => ?_⟩
    · rw [f_X11_copy_L124_s, if_neg (by rw [nI_leI (by omega) (by omega)]; omega)]
      simp only [lt_e]
      rw [ix400, nI_add, gd_t (inb_nI (by omega) (by omega)), gd_t (inb_nI (by omega) (by omega)), nI_clamp (by omega), nI_clamp (by omega), nI_s]
      exact g1
    · rw [g3, mL_ne (show (17:Nat) ≠ 26 by decide), mL_at]
      by_cases q : o = 26
      · by_cases q1 : j = i
        · subst q1; rw [if_neg (by omega), if_pos (by omega), if_pos (by omega)]
        · by_cases q2 : i + 1 ≤ j ∧ j < n
          · rw [if_pos ⟨q, q2⟩, if_pos (by omega)]
          · rw [if_neg (by omega), if_neg (by omega), if_neg (by omega)]
      · rw [if_neg (fun z => q z.1), if_neg (fun z => q z.1), if_neg (fun z => q z.1)]
theorem cpB (t a n : Nat) (ht : t < 6) (hn : a + n ≤ 400) : ∀ (k i m : Nat) (v : Mem), i + k = n → k < m → ∃ v', f_X11_copy_L162 (nI t) (nI a) (nI n) m (nI i) v = some v' ∧ v'.1 = v.1 ∧ ∀ o j, v'.2 o j = if o = 17 ∧ 400*t+a+i ≤ j ∧ j < 400*t+a+n then v.2 26 (j-(400*t+a)) else v.2 o j := by
  intro k
  induction k with
  | zero =>
    intro i m v hi hm
    obtain ⟨m, rfl⟩ : ∃ q, m = q + 1 := ⟨m - 1, by omega⟩
    refine ⟨v, ?_, rfl, fun o j => by rw [if_neg (by omega)]⟩
    rw [f_X11_copy_L162_s, if_pos (by rw [nI_leI (by omega) (by omega)]; omega)]
  | succ k ih =>
    intro i m v hi hm
    obtain ⟨m, rfl⟩ : ∃ q, m = q + 1 := ⟨m - 1, by omega⟩
    obtain ⟨v', g1, g2, g3⟩ := ih (i + 1) m (mL v 17 (400*t+a+i) (v.2 26 i)) (by omega) (by omega)
    refine ⟨v', ?_, g2, fun o j => ?_⟩
    · rw [f_X11_copy_L162_s, if_neg (by rw [nI_leI (by omega) (by omega)]; omega)]
      simp only [lt_e]
      rw [ix400, nI_add, gd_t (inb_nI (by omega) (by omega)), gd_t (inb_nI (by omega) (by omega)), nI_clamp (by omega), nI_clamp (by omega), nI_s]
      exact g1
    · rw [g3, mL_ne (show (26:Nat) ≠ 17 by decide), mL_at]
      by_cases q : o = 17
      · by_cases q1 : j = 400*t+a+i
        · subst q1; rw [if_neg (by omega), if_pos (by omega), if_pos (by omega), show 400*t+a+i-(400*t+a) = i by omega]
        · by_cases q2 : 400*t+a+(i+1) ≤ j ∧ j < 400*t+a+n
          · rw [if_pos ⟨q, q2⟩, if_pos (by omega)]
          · rw [if_neg (by omega), if_neg (by omega), if_neg (by omega)]
      · rw [if_neg (fun z => q z.1), if_neg (fun z => q z.1), if_neg (fun z => q z.1)]
theorem step_48 {w v : Mem} (h : Rel w v) (x1 x2 x3 x4 x5 : Int32) : ∃ r w' v', f_X10_copy x1 x2 x3 x4 x5 w = some (r, w') ∧ f_X11_copy x1 x2 x3 x4 x5 v = some (r, v') ∧ Rel w' v' := by
  have h0 := h
  obtain ⟨hD, hP, hH, hB, hJ, hS, hF, hR, hT⟩ := h
  unfold f_X10_copy f_X11_copy
  rw [tp_eq, tp_eq, tpm_eq, tpm_eq]
  rcases in_c x1 0 5 with ⟨q, k1⟩ | ⟨q, k1⟩
  rotate_left
  · rw [q, bd_s, bd_s, if_pos rfl, if_pos rfl]; exact ⟨-1, w, v, rfl, rfl, h0⟩
  rw [q, bd_s, bd_s, if_neg one_ne, if_neg one_ne]
  rcases in_c x3 0 5 with ⟨q3, k3⟩ | ⟨q3, k3⟩
  rotate_left
  · rw [q3, bd_s, bd_s, if_pos rfl, if_pos rfl]; exact ⟨-1, w, v, rfl, rfl, h0⟩
  rw [q3, bd_s, bd_s, if_neg one_ne, if_neg one_ne]
  simp at k1 k3
  obtain ⟨t, ht, rfl⟩ := i_nat (x := x1) (N := 6) (by omega) (by omega) (by omega)
  obtain ⟨t3, ht3, rfl⟩ := i_nat (x := x3) (N := 6) (by omega) (by omega) (by omega)
  obtain ⟨⟨s, hs, a1, a2, a3⟩, ⟨n, hn, b1, b2⟩, c⟩ := id hT t ht
  obtain ⟨⟨s3, hs3, a13, a23, a33⟩, ⟨n3, hn3, b13, b23⟩, c3⟩ := id hT t3 ht3
  simp only [lt_e, gd_t (inb_nI ht (show 6 ≤ 2147483648 by omega)), nI_clamp (show t < 2147483648 by omega), gd_t (inb_nI ht3 (show 6 ≤ 2147483648 by omega)), nI_clamp (show t3 < 2147483648 by omega), a1, a2, b2, a13, a23, b23, ref_C w (show -15 ≤ (-11 : Int32).toInt ∧ (-11 : Int32).toInt ≤ -11 by decide), ref_C w (show -15 ≤ (-12 : Int32).toInt ∧ (-12 : Int32).toInt ≤ -11 by decide), ref_C w (show -15 ≤ (-13 : Int32).toInt ∧ (-13 : Int32).toInt ≤ -11 by decide), ref_M, b2_s]
  by_cases s0 : s = 0
  · subst s0
    rw [if_pos (show nI 0 = 0 by decide), if_pos (show nI 0 = 0 by decide)]
    exact ⟨-11, _, _, rfl, rfl, Rel_ref h0⟩
  have ns0 : ¬ nI s = 0 := nI_ne (a := s) (b := 0) (by omega) (by omega) s0
  rw [if_neg ns0, if_neg ns0]
  by_cases s30 : s3 = 0
  · subst s30
    rw [if_pos (show nI 0 = 0 by decide), if_pos (show nI 0 = 0 by decide)]
    exact ⟨-11, _, _, rfl, rfl, Rel_ref h0⟩
  have ns30 : ¬ nI s3 = 0 := nI_ne (a := s3) (b := 0) (by omega) (by omega) s30
  rw [if_neg ns30, if_neg ns30]
  by_cases s5 : s = 5
  · subst s5
    rw [isR_f a1 (by omega), bd_s, if_pos rfl, if_pos (show nI 5 = 5 by decide)]
    exact ⟨-12, _, _, rfl, rfl, Rel_ref h0⟩
  rw [isR_t a1 (by omega), bd_s, if_neg one_ne, if_neg (show ¬ nI s = 5 from nI_ne (a := s) (b := 5) (by omega) (by omega) s5)]
  by_cases ss : s = s3
  rotate_left
  · have nss : ¬ nI s = nI s3 := nI_ne (by omega) (by omega) ss
    rw [if_neg nss, if_neg nss]
    exact ⟨-12, _, _, rfl, rfl, Rel_ref h0⟩
  subst ss
  rw [if_pos rfl, if_pos rfl, hp_eq hn b1, hp_eq hn3 b13]
  have e4 := nI_toInt (n := n) (by omega)
  have e43 := nI_toInt (n := n3) (by omega)
  have r2 := i_rng x2
  have r4 := i_rng x4
  have r5 := i_rng x5
  by_cases ok : 0 ≤ x2.toInt ∧ 0 ≤ x4.toInt ∧ 0 ≤ x5.toInt ∧ x2.toInt + x5.toInt ≤ n ∧ x4.toInt + x5.toInt ≤ n3
  rotate_left
  · refine ⟨-13, _, _, ?_, ?_, Rel_ref h0⟩
    · by_cases o1 : 0 ≤ x2.toInt ∧ 0 ≤ x5.toInt ∧ x2.toInt + x5.toInt ≤ n
      · rw [if_pos o1, bd_s, if_neg one_ne, if_neg (by omega), bd_s, if_pos rfl]
      · rw [if_neg o1, bd_s, if_pos rfl]
    · by_cases d1 : x5 < 0
      · rw [if_pos d1]
      rw [if_neg d1]
      by_cases d2 : x2 < 0
      · rw [if_pos d2]
      rw [if_neg d2]
      by_cases d3 : x4 < 0
      · rw [if_pos d3]
      rw [if_neg d3]
      rw [i_lt] at d1 d2 d3
      simp at d1 d2 d3
      by_cases d4 : nI n - x2 < x5
      · rw [if_pos d4]
      rw [if_neg d4, if_neg (fun d5 => by
        rw [i_lt, i_sub (by rw [e4]; omega) (by rw [e4]; omega), e4] at d4
        rw [i_le, i_sub (by rw [e43]; omega) (by rw [e43]; omega), e43] at d5
        omega)]
  rw [if_pos (by omega), if_pos (by omega), bd_s, bd_s, if_neg one_ne, if_neg one_ne, if_neg (show ¬ x5 < 0 by rw [i_lt]; simp; omega), if_neg (show ¬ x2 < 0 by rw [i_lt]; simp; omega), if_neg (show ¬ x4 < 0 by rw [i_lt]; simp; omega), if_neg (show ¬ nI n - x2 < x5 by rw [i_lt, i_sub (by rw [e4]; omega) (by rw [e4]; omega), e4]; omega), if_pos (show x5 ≤ nI n3 - x4 by rw [i_le, i_sub (by rw [e43]; omega) (by rw [e43]; omega), e43]; omega)]
  obtain ⟨a, ha, rfl⟩ := i_nat (x := x2) (N := 401) (by omega) (by omega) (by omega)
  obtain ⟨b, hb, rfl⟩ := i_nat (x := x4) (N := 401) (by omega) (by omega) (by omega)
  obtain ⟨l, hl, rfl⟩ := i_nat (x := x5) (N := 401) (by omega) (by omega) (by omega)
  rw [nI_toInt (by omega), nI_toInt (by omega), nI_toInt (by omega)] at ok
  obtain ⟨v1, g1, g2, g3⟩ := cpA t a l ht (by omega) l 0 FU v (by omega) (by unfold FU; omega)
  obtain ⟨v2, m1, m2, m3⟩ := cpB t3 b l ht3 (by omega) l 0 FU v1 (by omega) (by unfold FU; omega)
  have cp : cpk (nI a) (nI b) (nI l) 400 = true := by
    unfold cpk
    simp [nI_clamp (show a < 2147483648 by omega), nI_clamp (show b < 2147483648 by omega), nI_clamp (show l < 2147483648 by omega), nI_pos (show a < 2147483648 by omega), nI_pos (show b < 2147483648 by omega), nI_pos (show l < 2147483648 by omega)]
    omega
  rw [gd_t cp, show (0 : Int32) = nI 0 from rfl, g1, bd_s, m1, bd_s, nI_clamp (by omega), nI_clamp (by omega), nI_clamp (by omega)]
  refine ⟨nI l, _, v2, rfl, rfl, ?_, ?_, ?_, ?_, ?_, ?_, ?_, ?_, ?_⟩
  · exact RD_c hD (fun o ho => rfl) (by rw [m2, g2]) (by rw [m2, g2]) (by rw [m2, g2])
  · exact RP_c hP rfl rfl rfl (by rw [m2, g2]) (by rw [m2, g2]) (by rw [m2, g2]) (by rw [m2, g2])
  · exact RH_c hH rfl rfl (by rw [m2, g2]) (by rw [m2, g2])
  · exact RB_c hB rfl rfl (by rw [m2, g2]) (by rw [m2, g2]) (by rw [m2, g2]) (by rw [m2, g2]) (by rw [m2, g2])
  · exact RJ_c hJ rfl rfl rfl (by rw [m2, g2]) (by rw [m2, g2]) (by rw [m2, g2])
  · exact RS_c hS rfl rfl rfl (by rw [m2, g2]) (by rw [m2, g2]) (by rw [m2, g2]) (by rw [m2, g2])
  · exact RF_c hF rfl rfl rfl (by rw [m2, g2]) (by rw [m2, g2]) (by rw [m2, g2])
  · exact RR_c hR rfl (by rw [m2, g2])
  · intro r hr
    obtain ⟨p1, p2, p3⟩ := hT r hr
    rw [m2, g2]
    refine ⟨p1, p2, fun j hj => ?_⟩
    rw [m3]
    by_cases q : r = t3
    · subst q
      rw [mD_s]
      by_cases q2 : b ≤ j ∧ j < b + l
      · rw [pk_cpy_in q2.1 q2.2, if_pos (by omega), g3, if_pos (by omega), c _ (by omega)]
        rw [show 400*r+j-(400*r+b) = j-b by omega, show 400*t+(a+(j-b)) = 400*t+a+(j-b) by omega]
      · rw [pk_cpy_out (by omega), if_neg (by omega), g3, if_neg (by omega)]; exact p3 j hj
    · rw [mD_o (by omega), if_neg (by omega), g3, if_neg (by omega)]; exact p3 j hj
