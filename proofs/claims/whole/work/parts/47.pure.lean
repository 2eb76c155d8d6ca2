/-! ===== 11 turn, 20 tensions, 21 lock, 22 tune (47: by wip/gen/p47.txt and fr.py) ===== -/
theorem both_eq (w : Mem) : f_X0_bothThicks w = some (w.1 75 0 + w.1 75 1) := by
  unfold f_X0_bothThicks
  simp only [lt_e]
  rw [gd_t (by decide), gd_t (by decide)]; rfl
theorem dep_eq {w v : Mem} (hB : RB w v) {x y : Int32} (h1 : 1 ≤ x.toInt ∧ x.toInt ≤ 99) (h2 : 1 ≤ y.toInt ∧ y.toInt ≤ 99) : f_X0_depth x y w = some (((v.1 7 0 + v.1 7 1) * y) / (x + y)) ∧ f_X11_lockOf x y v = some (((v.1 7 0 + v.1 7 1) * y) / (x + y)) := by
  have e : (x + y).toInt = x.toInt + y.toInt := i_add (by omega) (by omega)
  have nz : ¬ x + y = 0 := fun q => by rw [i_eq, e] at q; simp at q; omega
  refine ⟨?_, ?_⟩
  · unfold f_X0_depth
    rw [if_pos (by rw [i_le, e]; simp; omega), both_eq, bd_s, gd_t nz, hB.1.1, hB.2.1.1]
  · unfold f_X11_lockOf
    simp only [lt_e]
    rw [gd_t (by decide), gd_t (by decide), gd_t nz]; rfl
theorem lie_eq {w v : Mem} (hB : RB w v) (x : Int32) : ∃ r, f_X0_whereLies x w = some r ∧ f_X11_liesIn x v = some r := by
  unfold f_X0_whereLies f_X11_liesIn
  simp only [lt_e, both_eq, bd_s]
  have z0 : (0 : Int32).toNatClampNeg = 0 := rfl
  have z1 : (1 : Int32).toNatClampNeg = 1 := rfl
  have g0 : inb 0 2 = true := by decide
  have g1 : inb 1 2 = true := by decide
  simp only [gd_t g0, gd_t g1, z0, z1, hB.1.1, hB.2.1.1]
  by_cases c1 : x ≤ 0
  · rw [if_pos c1, if_pos c1]
    by_cases c2 : x ≤ v.1 7 0
    · rw [if_pos c2, if_pos c2]
      by_cases c3 : x = 0
      · rw [if_pos c3, if_pos c3]; exact ⟨_, rfl, rfl⟩
      · rw [if_neg c3, if_neg c3]; exact ⟨_, rfl, rfl⟩
    · rw [if_neg c2, if_neg c2]
      by_cases c3 : v.1 7 0 + v.1 7 1 ≤ x
      · rw [if_pos c3, if_pos c3]
        by_cases c4 : x = 0
        · rw [if_pos c4, if_pos c4]; exact ⟨_, rfl, rfl⟩
        · rw [if_neg c4, if_neg c4]; exact ⟨_, rfl, rfl⟩
      · rw [if_neg c3, if_neg c3]; exact ⟨_, rfl, rfl⟩
  · rw [if_neg c1, if_neg c1]
    by_cases c0 : v.1 7 0 ≤ x
    · rw [if_pos c0, if_pos c0]
      by_cases c2 : x ≤ v.1 7 0
      · rw [if_pos c2, if_pos c2]
        by_cases c3 : x = 0
        · rw [if_pos c3, if_pos c3]; exact ⟨_, rfl, rfl⟩
        · rw [if_neg c3, if_neg c3]; exact ⟨_, rfl, rfl⟩
      · rw [if_neg c2, if_neg c2]
        by_cases c3 : v.1 7 0 + v.1 7 1 ≤ x
        · rw [if_pos c3, if_pos c3]
          by_cases c4 : x = 0
          · rw [if_pos c4, if_pos c4]; exact ⟨_, rfl, rfl⟩
          · rw [if_neg c4, if_neg c4]; exact ⟨_, rfl, rfl⟩
        · rw [if_neg c3, if_neg c3]; exact ⟨_, rfl, rfl⟩
    · rw [if_neg c0, if_neg c0]; exact ⟨_, rfl, rfl⟩
-- 21 lock
theorem step_21 {w v : Mem} (h : Rel w v) : ∃ r, f_X10_lock w = some r ∧ f_X11_lock v = some r := by
  have hB := h.2.2.2.1
  obtain ⟨-, -, ⟨a1, a2⟩, ⟨b1, b2⟩, -⟩ := id hB
  unfold f_X10_lock f_X11_lock
  unfold ib at a2 b2
  rw [a1, b1]
  obtain ⟨d1, d2⟩ := dep_eq hB a2 b2
  obtain ⟨r, l1, l2⟩ := lie_eq hB (((v.1 7 0 + v.1 7 1) * v.1 0 12) / (v.1 0 11 + v.1 0 12))
  rw [d1, d2, bd_s, bd_s, l1, l2]
  exact ⟨r, rfl, rfl⟩
-- 20 tensions
theorem step_20 {w v : Mem} (h : Rel w v) (x1 x2 : Int32) : ∃ r w' v', f_X10_tensions x1 x2 w = some (r, w') ∧ f_X11_tensions x1 x2 v = some (r, v') ∧ Rel w' v' := by
  have h0 := h
  obtain ⟨hD, hP, hH, hB, hJ, hS, hF, hR, hT⟩ := h
  unfold f_X10_tensions f_X11_tensions
  simp only [lt_e]
  rcases in_c x1 1 99 with ⟨q, k1⟩ | ⟨q, k1⟩
  rotate_left
  · rw [q, bd_s, if_pos rfl]
    refine ⟨-1, w, v, ?_, rfl, h0⟩
    by_cases c : x1 < 1
    · rw [if_pos c]
    · rw [if_neg c, if_pos (by rw [i_lt] at c; rw [i_lt]; simp at c k1 ⊢; omega)]
  simp at k1
  rw [q, bd_s, if_neg one_ne, if_neg (show ¬ x1 < 1 by rw [i_lt]; simp; omega), if_neg (show ¬ 99 < x1 by rw [i_lt]; simp; omega)]
  rcases in_c x2 1 99 with ⟨q2, k2⟩ | ⟨q2, k2⟩
  rotate_left
  · rw [q2, bd_s, if_pos rfl]
    refine ⟨-1, w, v, ?_, rfl, h0⟩
    by_cases c : x2 < 1
    · rw [if_pos c]
    · rw [if_neg c, if_neg (by rw [i_lt] at c; rw [i_le]; simp at c k2 ⊢; omega)]
  simp at k2
  rw [q2, bd_s, if_neg one_ne, if_neg (show ¬ x2 < 1 by rw [i_lt]; simp; omega), if_pos (show x2 ≤ 99 by rw [i_le]; simp; omega)]
  have hR' : Rel (mS (mS w 74 1 x1) 74 2 x2) (mS (mS v 0 11 x1) 0 12 x2) := by
    refine ⟨?_, ?_, ?_, ?_, ?_, ?_, ?_, ?_, ?_⟩
    · exact RD_c hD (fun o ho => by first | rfl | simp (disch := omega) only [mS_o, mC_o]) (by first | rfl | simp [mS_o, mC_o] | simp (disch := omega) only [mS_o, mC_o]) (by first | rfl | simp [mS_o, mC_o] | simp (disch := omega) only [mS_o, mC_o]) (by first | rfl | simp [mS_o, mC_o] | simp (disch := omega) only [mS_o, mC_o])
    · exact RP_c hP (by first | rfl | simp [mS_o, mC_o] | simp (disch := omega) only [mS_o, mC_o]) (by first | rfl | simp [mS_o, mC_o] | simp (disch := omega) only [mS_o, mC_o]) (by first | rfl | simp [mS_o, mC_o] | simp (disch := omega) only [mS_o, mC_o]) (by first | rfl | (simp [mS_at]; done) | simp (disch := omega) only [mS_ne]) (by first | rfl | (simp [mS_at]; done) | simp (disch := omega) only [mS_ne]) (by first | rfl | simp [mS_o, mC_o] | simp (disch := omega) only [mS_o, mC_o]) (by first | rfl | simp [mS_o, mC_o] | simp (disch := omega) only [mS_o, mC_o])
    · exact RH_c hH (by first | rfl | (simp [mS_at]; done) | simp (disch := omega) only [mS_ne]) (by first | rfl | simp [mS_o, mC_o] | simp (disch := omega) only [mS_o, mC_o]) (by first | rfl | (simp [mS_at]; done) | simp (disch := omega) only [mS_ne]) (by first | rfl | simp [mS_o, mC_o] | simp (disch := omega) only [mS_o, mC_o])
    · obtain ⟨p1, p2, p3, p4, p5, p6⟩ := hB
      refine ⟨p1, p2, ⟨?_, ?_⟩, ⟨?_, ?_⟩, p5, p6⟩
      · rw [mS_nj (by decide), mS_eq, mS_nj (by decide), mS_eq]
      · rw [mS_nj (by decide), mS_eq]; exact k1
      · rw [mS_eq, mS_eq]
      · rw [mS_eq]; exact k2
    · exact RJ_c hJ (by first | rfl | (simp [mS_at]; done) | simp (disch := omega) only [mS_ne]) (by first | rfl | simp [mS_o, mC_o] | simp (disch := omega) only [mS_o, mC_o]) (by first | rfl | simp [mS_o, mC_o] | simp (disch := omega) only [mS_o, mC_o]) (by first | rfl | (simp [mS_at]; done) | simp (disch := omega) only [mS_ne]) (by first | rfl | simp [mS_o, mC_o] | simp (disch := omega) only [mS_o, mC_o]) (by first | rfl | simp [mS_o, mC_o] | simp (disch := omega) only [mS_o, mC_o])
    · exact RS_c hS (by first | rfl | simp [mS_o, mC_o] | simp (disch := omega) only [mS_o, mC_o]) (by first | rfl | simp [mS_o, mC_o] | simp (disch := omega) only [mS_o, mC_o]) (by first | rfl | simp [mS_o, mC_o] | simp (disch := omega) only [mS_o, mC_o]) (by first | rfl | (simp [mS_at]; done) | simp (disch := omega) only [mS_ne]) (by first | rfl | simp [mS_o, mC_o] | simp (disch := omega) only [mS_o, mC_o]) (by first | rfl | simp [mS_o, mC_o] | simp (disch := omega) only [mS_o, mC_o]) (by first | rfl | simp [mS_o, mC_o] | simp (disch := omega) only [mS_o, mC_o])
    · exact RF_c hF (by first | rfl | (simp [mS_at]; done) | simp (disch := omega) only [mS_ne]) (by first | rfl | simp [mS_o, mC_o] | simp (disch := omega) only [mS_o, mC_o]) (by first | rfl | simp [mS_o, mC_o] | simp (disch := omega) only [mS_o, mC_o]) (by first | rfl | (simp [mS_at]; done) | simp (disch := omega) only [mS_ne]) (by first | rfl | simp [mS_o, mC_o] | simp (disch := omega) only [mS_o, mC_o]) (by first | rfl | simp [mS_o, mC_o] | simp (disch := omega) only [mS_o, mC_o])
    · exact RR_c hR (by first | rfl | (simp [mS_at]; done) | simp (disch := omega) only [mS_ne]) (by first | rfl | (simp [mS_at]; done) | simp (disch := omega) only [mS_ne])
    · exact RT_c hT (fun o h1 h2 => by first | rfl | simp (disch := omega) only [mS_o, mC_o]) (fun o h1 h2 => by first | rfl | simp (disch := omega) only [mL_o, mD_o, mS_at2, mC_2]) (by first | rfl | simp [mS_o, mC_o] | simp (disch := omega) only [mS_o, mC_o]) (by first | rfl | simp [mS_o, mC_o] | simp (disch := omega) only [mS_o, mC_o]) (by first | rfl | simp [mS_o, mC_o] | simp (disch := omega) only [mS_o, mC_o]) (by first | rfl | simp [mL_o, mD_o, mS_at2, mC_2])
  obtain ⟨d1, d2⟩ := dep_eq hR'.2.2.2.1 k1 k2
  rw [d1, d2]
  exact ⟨_, _, _, rfl, rfl, hR'⟩
-- 22 tune
theorem tune_in {w v : Mem} (hB : RB w v) (x1 : Int32) {s : Nat} (hs : s ≤ 198) : ∀ (k i m m' : Nat), i + k = (if s ≤ 100 then s else 100) → k < m → k < m' → 1 ≤ i → s ≤ i + 99 → ∃ r, f_X0_leastTensions_L18 w x1 (nI s) m (nI i) = some r ∧ f_X11_tune_L22 v x1 (nI s) m' (nI i) = some r := by
  intro k
  induction k with
  | zero =>
    intro i m m' hi hm hm' h1 h99
    obtain ⟨m, rfl⟩ : ∃ q, m = q + 1 := ⟨m - 1, by omega⟩
    obtain ⟨m', rfl⟩ : ∃ q, m' = q + 1 := ⟨m' - 1, by omega⟩
    have i99 : (¬ i ≤ 99 ∨ s ≤ i) ∧ i ≤ 198 := by split at hi <;> omega
    clear hi
    refine ⟨.inr (), ?_, ?_⟩
    · rw [f_X0_leastTensions_L18_s]
      by_cases c : (99 : Int32) < nI i
      · rw [if_pos c]
      · rw [if_neg c, if_pos (by rw [nI_leI (by omega) (by omega)]; rw [nI_lit 99, nI_ltI (by omega) (by omega)] at c; omega)]
    · rw [f_X11_tune_L22_s]
      by_cases c : nI s ≤ nI i
      · rw [if_pos c]
      · rw [if_neg c, if_pos (by rw [nI_lit 99, nI_ltI (by omega) (by omega)]; rw [nI_leI (by omega) (by omega)] at c; omega)]
  | succ k ih =>
    intro i m m' hi hm hm' h1 h99
    obtain ⟨m, rfl⟩ : ∃ q, m = q + 1 := ⟨m - 1, by omega⟩
    obtain ⟨m', rfl⟩ : ∃ q, m' = q + 1 := ⟨m' - 1, by omega⟩
    have i99 : i ≤ 99 ∧ i < s := by split at hi <;> omega
    have ei := nI_toInt (n := i) (by omega)
    have es := nI_toInt (n := s) (by omega)
    have ed : nI s - nI i = nI (s - i) := by
      rw [i_eq, i_sub (by rw [ei, es]; omega) (by rw [ei, es]; omega), ei, es, nI_toInt (by omega)]; omega
    obtain ⟨d1, d2⟩ := dep_eq hB (x := nI i) (y := nI (s - i)) (by rw [ei]; omega) (by rw [nI_toInt (by omega)]; omega)
    obtain ⟨l, l1, l2⟩ := lie_eq hB (((v.1 7 0 + v.1 7 1) * nI (s - i)) / (nI i + nI (s - i)))
    obtain ⟨r, g1, g2⟩ := ih (i + 1) m m' (by omega) (by omega) (by omega) (by omega) (by omega)
    rw [f_X0_leastTensions_L18_s, f_X11_tune_L22_s]
    simp only [lt_e]
    rw [if_neg (show ¬ (99 : Int32) < nI i by rw [nI_lit 99, nI_ltI (by omega) (by omega)]; omega), if_neg (show ¬ nI s ≤ nI i by rw [nI_leI (by omega) (by omega)]; omega), if_neg (show ¬ (99 : Int32) < nI i by rw [nI_lit 99, nI_ltI (by omega) (by omega)]; omega), if_neg (show ¬ nI s ≤ nI i by rw [nI_leI (by omega) (by omega)]; omega), ed, if_neg (show ¬ (99 : Int32) < nI (s - i) by rw [nI_lit 99, nI_ltI (by omega) (by omega)]; omega), d1, d2, bd_s, bd_s, l1, l2, bd_s, bd_s, nI_s]
    by_cases c : l = x1
    · rw [if_pos c, if_pos c]; exact ⟨_, rfl, rfl⟩
    · rw [if_neg c, if_neg c]; exact ⟨r, g1, g2⟩
theorem tune_skip {v : Mem} (x1 : Int32) {s lo : Nat} (hs : s ≤ 198) (hlo : lo + 99 ≤ s ∨ lo ≤ 1) {r : Sum Int32 Unit} {K : Nat} (hK : ∀ m', K < m' → f_X11_tune_L22 v x1 (nI s) m' (nI lo) = some r) : ∀ (k i m' : Nat), 1 ≤ i → i + k = lo → k + K < m' → f_X11_tune_L22 v x1 (nI s) m' (nI i) = some r := by
  intro k
  induction k with
  | zero =>
    intro i m' h1 hi hm'
    obtain rfl : i = lo := by omega
    exact hK m' (by omega)
  | succ k ih =>
    intro i m' h1 hi hm'
    obtain ⟨m', rfl⟩ : ∃ q, m' = q + 1 := ⟨m' - 1, by omega⟩
    have ei := nI_toInt (n := i) (by omega)
    have es := nI_toInt (n := s) (by omega)
    have ed : nI s - nI i = nI (s - i) := by
      rw [i_eq, i_sub (by rw [ei, es]; omega) (by rw [ei, es]; omega), ei, es, nI_toInt (by omega)]; omega
    rw [f_X11_tune_L22_s]
    simp only [lt_e]
    rw [if_neg (show ¬ nI s ≤ nI i by rw [nI_leI (by omega) (by omega)]; omega), if_neg (show ¬ (99 : Int32) < nI i by rw [nI_lit 99, nI_ltI (by omega) (by omega)]; omega), ed, if_pos (show (99 : Int32) < nI (s - i) by rw [nI_lit 99, nI_ltI (by omega) (by omega)]; omega), nI_s]
    exact ih (i + 1) m' (by omega) (by omega) (by omega)
theorem tune_out {w v : Mem} (hB : RB w v) (x1 : Int32) : ∀ (k s m m' : Nat), s + k = 199 → k < m → k < m' → 2 ≤ s → ∃ r, f_X0_leastTensions_L2 w x1 m (nI s) = some r ∧ f_X11_tune_L13 v x1 m' (nI s) = some r := by
  intro k
  induction k with
  | zero =>
    intro s m m' hi hm hm' h2
    obtain ⟨m, rfl⟩ : ∃ q, m = q + 1 := ⟨m - 1, by omega⟩
    obtain ⟨m', rfl⟩ : ∃ q, m' = q + 1 := ⟨m' - 1, by omega⟩
    refine ⟨.inr (), ?_, ?_⟩
    · rw [f_X0_leastTensions_L2_s, if_pos (by rw [nI_lit 198, nI_ltI (by omega) (by omega)]; omega)]
    · rw [f_X11_tune_L13_s, if_pos (by rw [nI_lit 198, nI_ltI (by omega) (by omega)]; omega)]
  | succ k ih =>
    intro s m m' hi hm hm' h2
    obtain ⟨m, rfl⟩ : ∃ q, m = q + 1 := ⟨m - 1, by omega⟩
    obtain ⟨m', rfl⟩ : ∃ q, m' = q + 1 := ⟨m' - 1, by omega⟩
    have es := nI_toInt (n := s) (by omega)
    obtain ⟨lo, hlo, l1⟩ : ∃ lo, lo = (if s ≤ 100 then 1 else s - 99) ∧ imax 1 (nI s - 99) = nI lo := by
      refine ⟨_, rfl, ?_⟩
      have e9 : (nI s - 99).toInt = s - 99 := by rw [i_sub (by rw [es]; simp; omega) (by rw [es]; simp; omega), es]; rfl
      rw [imax_e]
      by_cases c : s ≤ 100
      · rw [if_pos c, if_pos (by rw [i_le, e9]; simp; omega)]; rfl
      · rw [if_neg c, if_neg (by rw [i_le, e9]; simp; omega), i_eq, e9, nI_toInt (by omega)]; omega
    have hl1 : 1 ≤ lo ∧ s ≤ lo + 99 ∧ lo ≤ 99 ∧ lo < s ∧ (lo + 99 ≤ s ∨ lo ≤ 1) := by split at hlo <;> omega
    have hl2 : (if s ≤ 100 then s else 100) ≤ 100 ∧ lo ≤ (if s ≤ 100 then s else 100) := by split <;> omega
    obtain ⟨r, g1, _⟩ := tune_in hB x1 (by omega) ((if s ≤ 100 then s else 100) - lo) lo FU FU (by omega) (by unfold FU; omega) (by unfold FU; omega) hl1.1 hl1.2.1
    have g2 : ∀ m', 200 < m' → f_X11_tune_L22 v x1 (nI s) m' (nI lo) = some r := fun m' hm' => by
      obtain ⟨r2, q1, q2⟩ := tune_in hB x1 (by omega) ((if s ≤ 100 then s else 100) - lo) lo FU m' (by omega) (by unfold FU; omega) (by omega) hl1.1 hl1.2.1
      rw [q1] at g1; rw [q2, g1]
    have g3 := tune_skip x1 (show s ≤ 198 by omega) hl1.2.2.2.2 g2 (lo - 1) 1 FU (by omega) (by omega) (by unfold FU; omega)
    obtain ⟨r2, p1, p2⟩ := ih (s + 1) m m' (by omega) (by omega) (by omega) (by omega)
    rw [f_X0_leastTensions_L2_s, f_X11_tune_L13_s]
    simp only [lt_e]
    rw [if_neg (show ¬ (198 : Int32) < nI s by rw [nI_lit 198, nI_ltI (by omega) (by omega)]; omega), if_neg (show ¬ (198 : Int32) < nI s by rw [nI_lit 198, nI_ltI (by omega) (by omega)]; omega), l1, g1, show f_X11_tune_L22 v x1 (nI s) FU 1 = f_X11_tune_L22 v x1 (nI s) FU (nI 1) from rfl, g3, bd_s, bd_s, nI_s]
    rcases r with r | r
    · exact ⟨.inl r, rfl, rfl⟩
    · exact ⟨r2, p1, p2⟩
theorem step_22 {w v : Mem} (h : Rel w v) (x1 : Int32) : ∃ r, f_X10_tune x1 w = some r ∧ f_X11_tune x1 v = some r := by
  have hB := h.2.2.2.1
  unfold f_X10_tune f_X11_tune
  rcases in_c x1 0 1 with ⟨q, k1⟩ | ⟨q, k1⟩
  rotate_left
  · rw [q, bd_s, if_pos rfl]
    refine ⟨-1, ?_, rfl⟩
    by_cases c : x1 < 0
    · rw [if_pos c]
    · rw [if_neg c, if_neg (by rw [i_lt] at c; rw [i_le]; simp at c k1 ⊢; omega)]
  simp at k1
  rw [q, bd_s, if_neg one_ne, if_neg (show ¬ x1 < 0 by rw [i_lt]; simp; omega), if_pos (show x1 ≤ 1 by rw [i_le]; simp; omega)]
  unfold f_X0_leastTensions
  obtain ⟨r, g1, g2⟩ := tune_out hB x1 197 2 FU FU (by omega) (by unfold FU; omega) (by unfold FU; omega) (by omega)
  rw [show f_X0_leastTensions_L2 w x1 FU 2 = f_X0_leastTensions_L2 w x1 FU (nI 2) from rfl, show f_X11_tune_L13 v x1 FU 2 = f_X11_tune_L13 v x1 FU (nI 2) from rfl, g1, g2]
  rcases r with r | r
  · exact ⟨r, rfl, rfl⟩
  · exact ⟨-4, rfl, rfl⟩
-- 11 turn
theorem turnC {n a : Nat} (hn : n ≤ 48) (ha : a < n) (s : Int32) : ∀ (k i m : Nat) (u : Mem), i + k = n → k < m → u.1 (3*15) 2 = nI n → ∃ w', f_X1_becomeTurned_L3 14 15 (nI a) s m (nI i) u = some w' ∧ w'.2 = u.2 ∧ (∀ o, o ≠ 3*14+1 → o ≠ 3*14+2 → w'.1 o = u.1 o) ∧ (∀ j, w'.1 (3*14+1) j = if i ≤ j ∧ j < n then s * u.1 (3*15+1) ((a+j)%n) else u.1 (3*14+1) j) ∧ (∀ j, w'.1 (3*14+2) j = if i ≤ j ∧ j < n then u.1 (3*15+2) ((a+j)%n) else u.1 (3*14+2) j) := by
  intro k
  induction k with
  | zero =>
    intro i m u hi hm hu
    obtain ⟨m, rfl⟩ : ∃ q, m = q + 1 := ⟨m - 1, by omega⟩
    refine ⟨u, ?_, rfl, fun _ _ _ => rfl, fun j => by rw [if_neg (by omega)], fun j => by rw [if_neg (by omega)]⟩
    rw [f_X1_becomeTurned_L3_s, hu, if_pos (by rw [nI_leI (by omega) (by omega)]; omega)]
  | succ k ih =>
    intro i m u hi hm hu
    obtain ⟨m, rfl⟩ : ∃ q, m = q + 1 := ⟨m - 1, by omega⟩
    have mo : (a+i)%n < n := Nat.mod_lt _ (by omega)
    obtain ⟨w', g1, g2, g3, g4, g5⟩ := ih (i + 1) m (mS (mS u (3*14+1) i (s * u.1 (3*15+1) ((a+i)%n))) (3*14+2) i (u.1 (3*15+2) ((a+i)%n))) (by omega) (by omega) (by rw [mS_ne (by decide), mS_ne (by decide)]; exact hu)
    refine ⟨w', ?_, g2, fun o h1 h2 => by rw [g3 o h1 h2, mS_o h2, mS_o h1], fun j => ?_, fun j => ?_⟩
    · rw [f_X1_becomeTurned_L3_s, hu, if_neg (by rw [nI_leI (by omega) (by omega)]; omega), gd_t (show ¬ nI n = 0 from nI_ne (a := n) (b := 0) (by omega) (by omega) (by omega))]
      simp only [lt_e]
      unfold irm
      rw [nI_add, pk_rem (by omega) (by omega) (by omega), gd_t (inb_nI (by omega) (by omega)), gd_t (inb_nI (by omega) (by omega)), nI_clamp (by omega), nI_clamp (by omega), mS_ne (a := 3*15+2) (o := 3*14+1) (by decide), nI_s]
      exact g1
    · rw [g4, mS_ne (a := 3*15+1) (o := 3*14+2) (by decide), mS_ne (a := 3*15+1) (o := 3*14+1) (by decide), mS_ne (a := 3*14+1) (o := 3*14+2) (by decide), mS_at]
      by_cases q : j = i
      · subst q; rw [if_neg (by omega), if_pos ⟨rfl, rfl⟩, if_pos (by omega)]
      · by_cases q2 : i + 1 ≤ j ∧ j < n
        · rw [if_pos q2, if_pos (by omega)]
        · rw [if_neg q2, if_neg (by omega), if_neg (by omega)]
    · rw [g5, mS_ne (a := 3*15+2) (o := 3*14+2) (by decide), mS_ne (a := 3*15+2) (o := 3*14+1) (by decide), mS_at, mS_ne (a := 3*14+2) (o := 3*14+1) (by decide)]
      by_cases q : j = i
      · subst q; rw [if_neg (by omega), if_pos ⟨rfl, rfl⟩, if_pos (by omega)]
      · by_cases q2 : i + 1 ≤ j ∧ j < n
        · rw [if_pos q2, if_pos (by omega)]
        · rw [if_neg q2, if_neg (by omega), if_neg (by omega)]
theorem turnA {n a : Nat} (hn : n ≤ 48) (ha : a < n) (y : Int32) : ∀ (k i m : Nat) (u : Mem), i + k = n → k < m → ∃ w', f_X11_turn_L33 (nI a) y (nI n) m (nI i) u = some w' ∧ w'.2 = u.2 ∧ (∀ o, o ≠ 22 → o ≠ 23 → w'.1 o = u.1 o) ∧ (∀ j, w'.1 22 j = if i ≤ j ∧ j < n then (if y = 1 then - u.1 4 (672+(a+j)%n) else u.1 4 (672+(a+j)%n)) else u.1 22 j) ∧ (∀ j, w'.1 23 j = if i ≤ j ∧ j < n then u.1 5 (672+(a+j)%n) else u.1 23 j) := by
  intro k
  induction k with
  | zero =>
    intro i m u hi hm
    obtain ⟨m, rfl⟩ : ∃ q, m = q + 1 := ⟨m - 1, by omega⟩
    refine ⟨u, ?_, rfl, fun _ _ _ => rfl, fun j => by rw [if_neg (by omega)], fun j => by rw [if_neg (by omega)]⟩
    rw [f_X11_turn_L33_s, if_pos (by rw [nI_leI (by omega) (by omega)]; omega)]
  | succ k ih =>
    intro i m u hi hm
    obtain ⟨m, rfl⟩ : ∃ q, m = q + 1 := ⟨m - 1, by omega⟩
    have mo : (a+i)%n < n := Nat.mod_lt _ (by omega)
    obtain ⟨w', g1, g2, g3, g4, g5⟩ := ih (i + 1) m (mS (mS u 22 i (if y = 1 then - u.1 4 (672+(a+i)%n) else u.1 4 (672+(a+i)%n))) 23 i (u.1 5 (672+(a+i)%n))) (by omega) (by omega)
    refine ⟨w', ?_, g2, fun o h1 h2 => by rw [g3 o h1 h2, mS_o h2, mS_o h1], fun j => ?_, fun j => ?_⟩
    · rw [f_X11_turn_L33_s, if_neg (by rw [nI_leI (by omega) (by omega)]; omega), gd_t (show ¬ nI n = 0 from nI_ne (a := n) (b := 0) (by omega) (by omega) (by omega))]
      simp only [lt_e]
      unfold irm
      rw [nI_add, pk_rem (by omega) (by omega) (by omega), show (672 : Int32) + nI ((a+i)%n) = nI (672 + (a+i)%n) from by rw [nI_lit 672, nI_add]]
      have e1 := inb_nI (n := 672 + (a+i)%n) (N := 720) (by omega) (by omega)
      have e2 := inb_nI (n := i) (N := 48) (by omega) (by omega)
      simp only [gd_t e1, gd_t e2, nI_clamp (show i < 2147483648 by omega), nI_clamp (show 672 + (a+i)%n < 2147483648 by omega)]
      rw [mS_ne (a := 5) (o := 22) (by decide), nI_s]
      exact g1
    · rw [g4, mS_ne (a := 4) (o := 23) (by decide), mS_ne (a := 4) (o := 22) (by decide), mS_ne (a := 22) (o := 23) (by decide), mS_at]
      by_cases q : j = i
      · subst q; rw [if_neg (show ¬ (j + 1 ≤ j ∧ j < n) by omega), if_pos ⟨rfl, rfl⟩, if_pos (show j ≤ j ∧ j < n by omega)]
      · rw [if_neg (show ¬ ((22:Nat) = 22 ∧ j = i) from fun z => q z.2)]
        by_cases q2 : i + 1 ≤ j ∧ j < n
        · rw [if_pos q2, if_pos (show i ≤ j ∧ j < n by omega)]
        · rw [if_neg q2, if_neg (show ¬ (i ≤ j ∧ j < n) by omega)]
    · rw [g5, mS_ne (a := 5) (o := 23) (by decide), mS_ne (a := 5) (o := 22) (by decide), mS_at, mS_ne (a := 23) (o := 22) (by decide)]
      by_cases q : j = i
      · subst q; rw [if_neg (by omega), if_pos ⟨rfl, rfl⟩, if_pos (by omega)]
      · by_cases q2 : i + 1 ≤ j ∧ j < n
        · rw [if_pos q2, if_pos (by omega)]
        · rw [if_neg q2, if_neg (by omega), if_neg (by omega)]
theorem turnB {n : Nat} (hn : n ≤ 48) : ∀ (k i m : Nat) (u : Mem), i + k = n → k < m → ∃ w', f_X11_turn_L107 (nI n) m (nI i) u = some w' ∧ w'.2 = u.2 ∧ (∀ o, o ≠ 4 → o ≠ 5 → w'.1 o = u.1 o) ∧ (∀ x, w'.1 4 x = if 672+i ≤ x ∧ x < 672+n then u.1 22 (x-672) else u.1 4 x) ∧ (∀ x, w'.1 5 x = if 672+i ≤ x ∧ x < 672+n then u.1 23 (x-672) else u.1 5 x) := by
  intro k
  induction k with
  | zero =>
    intro i m u hi hm
    obtain ⟨m, rfl⟩ : ∃ q, m = q + 1 := ⟨m - 1, by omega⟩
    refine ⟨u, ?_, rfl, fun _ _ _ => rfl, fun j => by rw [if_neg (by omega)], fun j => by rw [if_neg (by omega)]⟩
    rw [f_X11_turn_L107_s, if_pos (by rw [nI_leI (by omega) (by omega)]; omega)]
  | succ k ih =>
    intro i m u hi hm
    obtain ⟨m, rfl⟩ : ∃ q, m = q + 1 := ⟨m - 1, by omega⟩
    obtain ⟨w', g1, g2, g3, g4, g5⟩ := ih (i + 1) m (mS (mS u 4 (672+i) (u.1 22 i)) 5 (672+i) (u.1 23 i)) (by omega) (by omega)
    refine ⟨w', ?_, g2, fun o h1 h2 => by rw [g3 o h1 h2, mS_o h2, mS_o h1], fun j => ?_, fun j => ?_⟩
    · rw [f_X11_turn_L107_s, if_neg (by rw [nI_leI (by omega) (by omega)]; omega)]
      simp only [lt_e]
      rw [show (672 : Int32) + nI i = nI (672 + i) from by rw [nI_lit 672, nI_add]]
      have e1 := inb_nI (n := 672 + i) (N := 720) (by omega) (by omega)
      have e2 := inb_nI (n := i) (N := 48) (by omega) (by omega)
      simp only [gd_t e1, gd_t e2, nI_clamp (show i < 2147483648 by omega), nI_clamp (show 672 + i < 2147483648 by omega)]
      rw [mS_ne (a := 23) (o := 4) (by decide), nI_s]
      exact g1
    · rw [g4, mS_ne (a := 22) (o := 5) (by decide), mS_ne (a := 22) (o := 4) (by decide), mS_ne (a := 4) (o := 5) (by decide), mS_at]
      by_cases q : j = 672 + i
      · subst q; rw [if_neg (by omega), if_pos ⟨rfl, rfl⟩, if_pos (by omega), show 672 + i - 672 = i by omega]
      · rw [if_neg (show ¬ ((4:Nat) = 4 ∧ j = 672 + i) from fun z => q z.2)]
        by_cases q2 : 672 + (i + 1) ≤ j ∧ j < 672 + n
        · rw [if_pos q2, if_pos (by omega)]
        · rw [if_neg q2, if_neg (by omega)]
    · rw [g5, mS_ne (a := 23) (o := 5) (by decide), mS_ne (a := 23) (o := 4) (by decide), mS_at, mS_ne (a := 5) (o := 4) (by decide)]
      by_cases q : j = 672 + i
      · subst q; rw [if_neg (by omega), if_pos ⟨rfl, rfl⟩, if_pos (by omega), show 672 + i - 672 = i by omega]
      · rw [if_neg (show ¬ ((5:Nat) = 5 ∧ j = 672 + i) from fun z => q z.2)]
        by_cases q2 : 672 + (i + 1) ≤ j ∧ j < 672 + n
        · rw [if_pos q2, if_pos (by omega)]
        · rw [if_neg q2, if_neg (by omega)]
theorem neg1 (x : Int32) : (-1 : Int32) * x = -x := by rw [Int32.neg_mul, Int32.one_mul]
theorem ir_n {n : Int} (hn : n < 1000000) {x : Int32} (h : ir n x) : ir n (-x) := by
  unfold ir at *
  rw [i_neg (by omega)]; omega
theorem step_11 {w v : Mem} (h : Rel w v) (x1 x2 : Int32) : ∃ r w' v', f_X10_turn x1 x2 w = some (r, w') ∧ f_X11_turn x1 x2 v = some (r, v') ∧ Rel w' v' := by
  have h0 := h
  obtain ⟨hD, hP, hH, hB, hJ, hS, hF, hR, hT⟩ := h
  obtain ⟨n, hn, e1, e2, e3⟩ := id (hD 14 (by omega))
  have z14 : (14 : Int32).toNatClampNeg = 14 := rfl
  have g14 : inb 14 15 = true := by decide
  have e4 := nI_toInt (n := n) (by omega)
  have e5 : (nI n - 1).toInt = n - 1 := by rw [i_sub (by rw [e4]; simp; omega) (by rw [e4]; simp; omega), e4]; rfl
  unfold f_X10_turn f_X11_turn
  simp only [lt_e]
  rw [gd_t g14, z14, e1, e2]
  rcases in_c x1 0 (nI n - 1) with ⟨q, k1⟩ | ⟨q, k1⟩
  rotate_left
  · rw [q, bd_s, if_pos rfl]
    rw [e5] at k1
    refine ⟨-1, w, v, ?_, rfl, h0⟩
    by_cases c : x1 < 0
    · rw [if_pos c]
    · rw [if_neg c, if_pos (by rw [i_lt] at c; rw [i_le, e4]; simp at c k1 ⊢; omega)]
  rw [e5] at k1
  simp at k1
  rw [q, bd_s, if_neg one_ne, if_neg (show ¬ x1 < 0 by rw [i_lt]; simp; omega), if_neg (show ¬ nI n ≤ x1 by rw [i_le, e4]; omega)]
  rcases in_c x2 0 1 with ⟨q2, k2⟩ | ⟨q2, k2⟩
  rotate_left
  · rw [q2, bd_s, if_pos rfl]
    refine ⟨-1, w, v, ?_, rfl, h0⟩
    by_cases c : x2 < 0
    · rw [if_pos c]
    · rw [if_neg c, if_neg (by rw [i_lt] at c; rw [i_le]; simp at c k2 ⊢; omega)]
  simp at k2
  rw [q2, bd_s, if_neg one_ne, if_neg (show ¬ x2 < 0 by rw [i_lt]; simp; omega), if_pos (show x2 ≤ 1 by rw [i_le]; simp; omega)]
  obtain ⟨a, ha, rfl⟩ := i_nat (x := x1) (N := n) (by omega) (by omega) (by omega)
  have z0 : (0 : Int32).toNatClampNeg = 0 := rfl
  have z48 : (48 : Int32).toNatClampNeg = 48 := rfl
  have b1 : f_X1_become 15 14 w = some (mS (mC (mC w (3*14+1) (3*15+1) 0 0 48) (3*14+2) (3*15+2) 0 0 48) (3*15) 2 (nI n)) := by
    unfold f_X1_become
    simp only [lt_e]
    rw [gd_t (by decide), z0, z48]
    rw [mC_o (by omega), mC_o (by omega), e1]
  obtain ⟨w', c1, c2, c3, c4, c5⟩ := turnC hn ha (if x2 = 1 then -1 else 1) n 0 FU (mS (mC (mC w (3*14+1) (3*15+1) 0 0 48) (3*14+2) (3*15+2) 0 0 48) (3*15) 2 (nI n)) (by omega) (by unfold FU; omega) mS_eq
  obtain ⟨v1, m1, m2, m3, m4, m5⟩ := turnA hn ha x2 n 0 FU v (by omega) (by unfold FU; omega)
  obtain ⟨v', p1, p2, p3, p4, p5⟩ := turnB hn n 0 FU v1 (by omega) (by unfold FU; omega)
  rw [b1, bd_s]
  unfold f_X1_becomeTurned
  rw [show (0 : Int32) = nI 0 from rfl, c1, m1, bd_s, bd_s, bd_s, p1, bd_s]
  have u1 : ∀ o, o ≠ 3*14+1 → o ≠ 3*14+2 → o ≠ 3*15 → o ≠ 3*15+1 → o ≠ 3*15+2 → w'.1 o = w.1 o := fun o h1 h2 h3 h4 h5 => by rw [c3 o h1 h2, mS_o h3, mC_o h5, mC_o h4]
  have u2 : ∀ o, o ≠ 4 → o ≠ 5 → o ≠ 22 → o ≠ 23 → v'.1 o = v.1 o := fun o h1 h2 h3 h4 => by rw [p3 o h1 h2, m3 o h3 h4]
  have u0 := u2 0 (by omega) (by omega) (by omega) (by omega)
  refine ⟨1, w', v', rfl, rfl, ?_, ?_, ?_, ?_, ?_, ?_, ?_, ?_, ?_⟩
  · intro d hd
    obtain ⟨nn, y1, y2, y3, y4⟩ := hD d hd
    by_cases q : d = 14
    · subst q
      have nn' : nn = n := by rw [e2] at y3; exact ((nI_eq (by omega) (by omega)).mp y3).symm
      subst nn'
      refine ⟨nn, hn, by rw [u1 _ (by omega) (by omega) (by omega) (by omega) (by omega)]; exact e1, by rw [u2 3 (by omega) (by omega) (by omega) (by omega)]; exact e2, fun j hj => ?_⟩
      have mo : (a+j)%nn < nn := Nat.mod_lt _ (by omega)
      obtain ⟨f1, f2, f3, f4⟩ := e3 _ mo
      have s1 : (mS (mC (mC w (3*14+1) (3*15+1) 0 0 48) (3*14+2) (3*15+2) 0 0 48) (3*15) 2 (nI nn)).1 (3*15+1) ((a+j)%nn) = v.1 4 (672+(a+j)%nn) := by
        rw [mS_ne (by decide), mC_o (by decide), mC_s, pk_cpy_in (by omega) (by omega), show 0 + ((a+j)%nn - 0) = (a+j)%nn by omega]; exact f1
      have s2 : (mS (mC (mC w (3*14+1) (3*15+1) 0 0 48) (3*14+2) (3*15+2) 0 0 48) (3*15) 2 (nI nn)).1 (3*15+2) ((a+j)%nn) = v.1 5 (672+(a+j)%nn) := by
        rw [mS_ne (by decide), mC_s, pk_cpy_in (by omega) (by omega), mC_o (by decide), show 0 + ((a+j)%nn - 0) = (a+j)%nn by omega]; exact f2
      rw [c4 j, c5 j, p4 (48*14+j), p5 (48*14+j), if_pos (show 0 ≤ j ∧ j < nn by omega), if_pos (show 0 ≤ j ∧ j < nn by omega), if_pos (show 672+0 ≤ 48*14+j ∧ 48*14+j < 672+nn by omega), if_pos (show 672+0 ≤ 48*14+j ∧ 48*14+j < 672+nn by omega), s1, s2, show 48*14+j-672 = j by omega, m4, m5, if_pos (show 0 ≤ j ∧ j < nn by omega), if_pos (show 0 ≤ j ∧ j < nn by omega)]
      by_cases c : x2 = 1
      · rw [if_pos c, if_pos c, neg1]; exact ⟨rfl, rfl, ir_n (by omega) f3, f4⟩
      · rw [if_neg c, if_neg c, Int32.one_mul]; exact ⟨rfl, rfl, f3, f4⟩
    · refine ⟨nn, y1, by rw [u1 _ (by omega) (by omega) (by omega) (by omega) (by omega)]; exact y2, by rw [u2 3 (by omega) (by omega) (by omega) (by omega)]; exact y3, fun j hj => ?_⟩
      rw [u1 _ (by omega) (by omega) (by omega) (by omega) (by omega), u1 _ (by omega) (by omega) (by omega) (by omega) (by omega), p4, p5, if_neg (by omega), if_neg (by omega), m3 4 (by omega) (by omega), m3 5 (by omega) (by omega)]
      exact y4 j hj
  · exact RP_c hP (u1 _ (by omega) (by omega) (by omega) (by omega) (by omega)) (u1 _ (by omega) (by omega) (by omega) (by omega) (by omega)) (u1 _ (by omega) (by omega) (by omega) (by omega) (by omega)) (by rw [u0]) (by rw [u0]) (u2 _ (by omega) (by omega) (by omega) (by omega)) (u2 _ (by omega) (by omega) (by omega) (by omega))
  · exact RH_c hH (by rw [u1 72 (by omega) (by omega) (by omega) (by omega) (by omega)]) (u1 _ (by omega) (by omega) (by omega) (by omega) (by omega)) (by rw [u0]) (u2 _ (by omega) (by omega) (by omega) (by omega))
  · exact RB_c hB (u1 _ (by omega) (by omega) (by omega) (by omega) (by omega)) (u1 _ (by omega) (by omega) (by omega) (by omega) (by omega)) (u2 _ (by omega) (by omega) (by omega) (by omega)) (by rw [u0]) (by rw [u0]) (by rw [u0]) (by rw [u0])
  · exact RJ_c hJ (by rw [u1 76 (by omega) (by omega) (by omega) (by omega) (by omega)]) (u1 _ (by omega) (by omega) (by omega) (by omega) (by omega)) (u1 _ (by omega) (by omega) (by omega) (by omega) (by omega)) (by rw [u0]) (u2 _ (by omega) (by omega) (by omega) (by omega)) (u2 _ (by omega) (by omega) (by omega) (by omega))
  · exact RS_c hS (u1 _ (by omega) (by omega) (by omega) (by omega) (by omega)) (u1 _ (by omega) (by omega) (by omega) (by omega) (by omega)) (u1 _ (by omega) (by omega) (by omega) (by omega) (by omega)) (by rw [u0]) (u2 _ (by omega) (by omega) (by omega) (by omega)) (u2 _ (by omega) (by omega) (by omega) (by omega)) (u2 _ (by omega) (by omega) (by omega) (by omega))
  · exact RF_c hF (by rw [u1 83 (by omega) (by omega) (by omega) (by omega) (by omega)]) (u1 _ (by omega) (by omega) (by omega) (by omega) (by omega)) (u1 _ (by omega) (by omega) (by omega) (by omega) (by omega)) (by rw [u0]) (u2 _ (by omega) (by omega) (by omega) (by omega)) (u2 _ (by omega) (by omega) (by omega) (by omega))
  · exact RR_c hR (by rw [u1 66 (by omega) (by omega) (by omega) (by omega) (by omega)]) (by rw [u0])
  · exact RT_c hT (fun o h1 h2 => u1 _ (by omega) (by omega) (by omega) (by omega) (by omega)) (fun o h1 h2 => by rw [c2]; rfl) (u2 _ (by omega) (by omega) (by omega) (by omega)) (u2 _ (by omega) (by omega) (by omega) (by omega)) (u2 _ (by omega) (by omega) (by omega) (by omega)) (by rw [p2, m2])
