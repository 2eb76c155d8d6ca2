/-! ===== 0 begin (55: by wip/gen/p55.txt and fr.py) ===== -/
theorem begC : ∀ (k i m : Nat) (w : Mem), i + k = 8 → k < m → ∃ w', f_X10_begin_L16 m (nI i) w = some w' ∧ w'.2 = w.2 ∧ ∀ o j, w'.1 o j = if (o % 3 = 0 ∧ 3*i ≤ o ∧ o < 24) ∧ j = 2 then 0 else w.1 o j := by
  intro k
  induction k with
  | zero =>
    intro i m w hi hm
    obtain ⟨m, rfl⟩ : ∃ q, m = q + 1 := ⟨m - 1, by omega⟩
    refine ⟨w, ?_, rfl, fun o j => ?_⟩
    · rw [f_X10_begin_L16_s, if_pos (by rw [nI_lit 8, nI_leI (by omega) (by omega)]; omega)]
    · rw [if_neg (by omega)]
  | succ k ih =>
    intro i m w hi hm
    obtain ⟨m, rfl⟩ : ∃ q, m = q + 1 := ⟨m - 1, by omega⟩
    obtain ⟨w', g1, g2, g3⟩ := ih (i + 1) m (mS w (3*i) 2 0) (by omega) (by omega)
    refine ⟨w', ?_, g2, fun o j => ?_⟩
    · rw [f_X10_begin_L16_s, if_neg (by rw [nI_lit 8, nI_leI (by omega) (by omega)]; omega), gd_t (inb_nI (by omega) (by omega)), nI_clamp (by omega)]
      unfold f_X1_forget
      rw [lt_e, bd_s, lt_e, nI_s]; exact g1
    · rw [g3, mS_at]
      by_cases c : o = 3*i ∧ j = 2
      · rw [if_pos c, if_pos (show (o % 3 = 0 ∧ 3*i ≤ o ∧ o < 24) ∧ j = 2 by omega)]; split <;> rfl
      · rw [if_neg c]
        by_cases d : (o % 3 = 0 ∧ 3*(i+1) ≤ o ∧ o < 24) ∧ j = 2
        · rw [if_pos d, if_pos (by omega)]
        · rw [if_neg d, if_neg (by omega)]
theorem begM : ∀ (k i m : Nat) (w : Mem), i + k = 8 → k < m → ∃ w', f_X11_begin_L7 m (nI i) w = some w' ∧ w'.2 = w.2 ∧ ∀ o j, w'.1 o j = if o = 3 ∧ i ≤ j ∧ j < 8 then 0 else w.1 o j := by
  intro k
  induction k with
  | zero =>
    intro i m w hi hm
    obtain ⟨m, rfl⟩ : ∃ q, m = q + 1 := ⟨m - 1, by omega⟩
    refine ⟨w, ?_, rfl, fun o j => ?_⟩
    · rw [f_X11_begin_L7_s, if_pos (by rw [nI_lit 8, nI_leI (by omega) (by omega)]; omega)]
    · rw [if_neg (by omega)]
  | succ k ih =>
    intro i m w hi hm
    obtain ⟨m, rfl⟩ : ∃ q, m = q + 1 := ⟨m - 1, by omega⟩
    obtain ⟨w', g1, g2, g3⟩ := ih (i + 1) m (mS w 3 i 0) (by omega) (by omega)
    refine ⟨w', ?_, g2, fun o j => ?_⟩
    · rw [f_X11_begin_L7_s, if_neg (by rw [nI_lit 8, nI_leI (by omega) (by omega)]; omega), gd_t (inb_nI (by omega) (by omega)), nI_clamp (by omega), lt_e, lt_e, nI_s]; exact g1
    · rw [g3, mS_at]
      by_cases c : o = 3 ∧ j = i
      · rw [if_pos c, if_pos (show o = 3 ∧ i ≤ j ∧ j < 8 by omega)]; split <;> rfl
      · rw [if_neg c]
        by_cases d : o = 3 ∧ i + 1 ≤ j ∧ j < 8
        · rw [if_pos d, if_pos (by omega)]
        · rw [if_neg d, if_neg (by omega)]
theorem begC_e (w : Mem) : ∃ w', f_X10_begin w = some (0, w') ∧ w'.2 = w.2 ∧ (∀ d, d < 8 ∨ d = 14 → w'.1 (3*d) 2 = 0) ∧ (∀ o, o < 60 → (∀ d, d < 8 ∨ d = 14 → o ≠ 3*d) → w'.1 o = w.1 o) ∧ w'.1 60 2 = 0 ∧ w'.1 72 1 = 0 ∧ w'.1 75 0 = 4 ∧ w'.1 75 1 = 0 ∧ w'.1 74 1 = 20 ∧ w'.1 74 2 = 20 ∧ w'.1 74 3 = 100000 ∧ w'.1 74 4 = 5000 ∧ w'.1 76 2 = 0 ∧ w'.1 79 2 = 0 ∧ w'.1 79 3 = 0 ∧ w'.1 83 2 = 0 ∧ w'.1 66 12 = 0 := by
  obtain ⟨w1, c1, c2, c3⟩ := begC 8 0 FU (mS (mS (mS w (60+3*0) 2 0) (60+3*0) 3 0) (3*14) 2 0) (by omega) (by unfold FU; omega)
  have e0 : (0 : Int32).toNatClampNeg = 0 := rfl
  have e1 : (1 : Int32).toNatClampNeg = 1 := rfl
  refine ⟨mS (mS (mS (mS (mS (mS (mS (mS (mS (mS (mS (mS w1 72 1 0) 75 0 4) 75 1 0) 74 1 20) 74 2 20) 74 3 100000) 74 4 5000) 76 2 0) 79 2 0) 79 3 0) 83 2 0) 66 12 0, ?_, c2, ?_, ?_, ?_, ?_, ?_, ?_, ?_, ?_, ?_, ?_, ?_, ?_, ?_, ?_, ?_⟩
  · unfold f_X10_begin f_X5_forget f_X1_forget
    simp only [lt_e, bd_s]
    rw [show f_X10_begin_L16 FU 0 = f_X10_begin_L16 FU (nI 0) from rfl, c1, bd_s]
    unfold f_X0_reset f_X8_forget
    rw [gd_t (show inb 0 2 = true by decide)]
    simp only [lt_e, bd_s, e0, e1]
    rw [gd_t (show inb 1 2 = true by decide)]
    simp only [bd_s]
  · intro d hd
    simp only [mS_at, c3]
    rcases hd with hd | hd
    · rw [if_neg (by omega), if_neg (by omega), if_neg (by omega), if_neg (by omega), if_neg (by omega), if_neg (by omega), if_neg (by omega), if_neg (by omega), if_neg (by omega), if_neg (by omega), if_neg (by omega), if_neg (by omega)]
      rw [if_pos ⟨by omega, trivial⟩]
    · subst hd; simp
  · intro o ho hd
    funext j
    have n1 : ∀ q, 60 ≤ q → ¬ o = q := by omega
    have n2 : ¬ ((o % 3 = 0 ∧ 3*0 ≤ o ∧ o < 24) ∧ j = 2) := by
      intro q; exact hd (o/3) (Or.inl (by omega)) (by omega)
    have n3 := hd 14 (Or.inr rfl)
    simp only [mS_at, c3, if_neg n2]
    rw [if_neg (fun q => n1 66 (by omega) q.1), if_neg (fun q => n1 83 (by omega) q.1), if_neg (fun q => n1 79 (by omega) q.1), if_neg (fun q => n1 79 (by omega) q.1), if_neg (fun q => n1 76 (by omega) q.1), if_neg (fun q => n1 74 (by omega) q.1), if_neg (fun q => n1 74 (by omega) q.1), if_neg (fun q => n1 74 (by omega) q.1), if_neg (fun q => n1 74 (by omega) q.1), if_neg (fun q => n1 75 (by omega) q.1), if_neg (fun q => n1 75 (by omega) q.1), if_neg (fun q => n1 72 (by omega) q.1), if_neg (fun q => n3 q.1), if_neg (fun q => n1 (60+3*0) (by omega) q.1), if_neg (fun q => n1 (60+3*0) (by omega) q.1)]
  all_goals simp [mS_at, c3]
theorem begM_e (v : Mem) : ∃ v', f_X11_begin v = some (0, v') ∧ v'.2 = v.2 ∧ (∀ d, d < 8 ∨ d = 14 → v'.1 3 d = 0) ∧ (∀ d, 8 ≤ d → d < 14 → v'.1 3 d = v.1 3 d) ∧ (∀ o, o ≠ 0 → o ≠ 3 → o ≠ 7 → v'.1 o = v.1 o) ∧ v'.1 0 1 = 0 ∧ v'.1 0 8 = 0 ∧ v'.1 7 0 = 4 ∧ v'.1 7 1 = 0 ∧ v'.1 0 11 = 20 ∧ v'.1 0 12 = 20 ∧ v'.1 0 13 = 100000 ∧ v'.1 0 14 = 5000 ∧ v'.1 0 15 = 0 ∧ v'.1 0 18 = 0 ∧ v'.1 0 22 = 0 ∧ v'.1 0 25 = 0 := by
  obtain ⟨v1, d1, d2, d3⟩ := begM 8 0 FU (mS v 0 1 0) (by omega) (by unfold FU; omega)
  have e0 : (0 : Int32).toNatClampNeg = 0 := rfl
  have e1 : (1 : Int32).toNatClampNeg = 1 := rfl
  refine ⟨mS (mS (mS (mS (mS (mS (mS (mS (mS (mS (mS (mS v1 3 14 0) 0 8 0) 7 0 4) 7 1 0) 0 11 20) 0 12 20) 0 13 100000) 0 14 5000) 0 15 0) 0 18 0) 0 22 0) 0 25 0, ?_, d2, ?_, ?_, ?_, ?_, ?_, ?_, ?_, ?_, ?_, ?_, ?_, ?_, ?_, ?_, ?_⟩
  · unfold f_X11_begin
    simp only [lt_e]
    rw [show f_X11_begin_L7 FU 0 = f_X11_begin_L7 FU (nI 0) from rfl, d1, bd_s, gd_t g14, gd_t (show inb 0 2 = true by decide), gd_t (show inb 1 2 = true by decide), e0, e1, z14]
  · intro d hd
    simp only [mS_at, d3]
    rcases hd with hd | hd
    · simp; omega
    · subst hd; simp
  · intro d hd1 hd2
    simp only [mS_at, d3]
    rw [if_neg (by omega), if_neg (by omega), if_neg (by omega), if_neg (by omega), if_neg (by omega), if_neg (by omega), if_neg (by omega), if_neg (by omega), if_neg (by omega), if_neg (by omega), if_neg (by omega), if_neg (by omega), if_neg (by omega), if_neg (by omega)]
  · intro o h1 h2 h3
    funext j
    simp only [mS_at, d3]
    simp [h1, h2, h3]
  all_goals simp [mS_at, d3]
theorem step_0 {w v : Mem} (h : Rel w v) : ∃ r w' v', f_X10_begin w = some (r, w') ∧ f_X11_begin v = some (r, v') ∧ Rel w' v' := by
  obtain ⟨hD, hP, hH, hB, hJ, hS, hF, hR, hT⟩ := h
  obtain ⟨w', c0, c1, c2, c3, c4, c5, c6, c7, c8, c9, c10, c11, c12, c13, c14, c15, c16⟩ := begC_e w
  obtain ⟨v', d0, d1, d2, d2b, d3, d4, d5, d6, d7, d8, d9, d10, d11, d12, d13, d15, d16⟩ := begM_e v
  refine ⟨0, w', v', c0, d0, ?_, ?_, ?_, ?_, ?_, ?_, ?_, ?_, ?_⟩
  · intro d hd
    by_cases q : d < 8 ∨ d = 14
    · exact ⟨0, by omega, c2 d q, d2 d q, fun j hj => by omega⟩
    · obtain ⟨n, hn, e1, e2, e3⟩ := hD d hd
      rw [c3 (3*d) (by omega) (by omega), c3 (3*d+1) (by omega) (by omega), c3 (3*d+2) (by omega) (by omega), d2b d (by omega) (by omega), d3 4 (by decide) (by decide) (by decide), d3 5 (by decide) (by decide) (by decide)]
      exact ⟨n, hn, e1, e2, e3⟩
  · exact ⟨0, by omega, c4, d4, fun q => by omega, fun j hj => by omega⟩
  · exact ⟨0, by omega, c5, d5, fun j hj => by omega⟩
  · refine ⟨⟨by rw [c6, d6], ?_⟩, ⟨by rw [c7, d7], ?_⟩, ⟨by rw [c8, d8], ?_⟩, ⟨by rw [c9, d9], ?_⟩, ⟨by rw [c10, d10], ?_⟩, ⟨by rw [c11, d11], ?_⟩⟩
    · rw [d6]; unfold ib; decide
    · rw [d7]; unfold ib; decide
    · rw [d8]; unfold ib; decide
    · rw [d9]; unfold ib; decide
    · rw [d10]; unfold ib; decide
    · rw [d11]; unfold ib; decide
  · exact ⟨0, by omega, c12, d12, fun j hj => by omega⟩
  · exact ⟨by rw [c13, d13], Or.inl ⟨d13, c14⟩⟩
  · exact ⟨0, by omega, c15, d15, fun j hj => by omega⟩
  · unfold RR; rw [c16, d16]
  · intro t ht
    obtain ⟨⟨s, u1, u2, u3, u4⟩, b, c⟩ := hT t ht
    rw [c3 (48+2*t) (by omega) (by omega), c1, d1, d3 15 (by decide) (by decide) (by decide), d3 16 (by decide) (by decide) (by decide), d2b (8+t) (by omega) (by omega)]
    exact ⟨⟨s, u1, u2, u3, u4⟩, b, c⟩
