/-! ===== tapes: 41 tape, 42 keep, 43 back, 45 clear, 46 put, 48 copy (44: by wip/gen/p44.txt and fr.py) ===== -/
theorem fill_L (d : Nat) (x : Int64) : ∀ (k i m : Nat) (w : Mem), i + k = 400 → k < m → ∃ w', f_J7_fill_d0a16_L6 d x m (nI i) w = some w' ∧ w'.1 = w.1 ∧ ∀ o j, w'.2 o j = if o = 49+2*d ∧ i ≤ j ∧ j < 400 then x else w.2 o j := by
  intro k
  induction k with
  | zero =>
    intro i m w hi hm
    obtain ⟨m, rfl⟩ : ∃ q, m = q + 1 := ⟨m - 1, by omega⟩
    refine ⟨w, ?_, rfl, fun o j => by rw [if_neg (by omega)]⟩
    rw [f_J7_fill_d0a16_L6_s, if_pos (by rw [i_le, nI_toInt (by omega)]; simp; omega)]
  | succ k ih =>
    intro i m w hi hm
    obtain ⟨m, rfl⟩ : ∃ q, m = q + 1 := ⟨m - 1, by omega⟩
    obtain ⟨w', g1, g2, g3⟩ := ih (i + 1) m (mL w (49+2*d) i x) (by omega) (by omega)
    refine ⟨w', ?_, g2, fun o j => ?_⟩
    · rw [f_J7_fill_d0a16_L6_s, if_neg (by rw [i_le, nI_toInt (by omega)]; simp; omega), gd_t (inb_nI (by omega) (by omega)), nI_clamp (by omega)]
      simp only [lt_e]
      rw [nI_s]; exact g1
    · rw [g3, mL_at]
      by_cases q : o = 49+2*d
      · by_cases q1 : j = i
        · rw [if_neg (by omega), if_pos ⟨q, q1⟩, if_pos (by omega)]
        · by_cases q2 : i + 1 ≤ j ∧ j < 400
          · rw [if_pos ⟨q, q2⟩, if_pos (by omega)]
          · rw [if_neg (by omega), if_neg (by omega), if_neg (by omega)]
      · rw [if_neg (fun z => q z.1), if_neg (fun z => q z.1), if_neg (fun z => q z.1)]
theorem clears_L (t : Nat) (ht : t < 6) : ∀ (k i m : Nat) (w : Mem), i + k = 400 → k < m → ∃ w', f_X11_clears_L17 (nI t) m (nI i) w = some w' ∧ w'.1 = w.1 ∧ ∀ o j, w'.2 o j = if o = 17 ∧ 400*t+i ≤ j ∧ j < 400*t+400 then 0 else w.2 o j := by
  intro k
  induction k with
  | zero =>
    intro i m w hi hm
    obtain ⟨m, rfl⟩ : ∃ q, m = q + 1 := ⟨m - 1, by omega⟩
    refine ⟨w, ?_, rfl, fun o j => by rw [if_neg (by omega)]⟩
    rw [f_X11_clears_L17_s, if_pos (by rw [i_le, nI_toInt (by omega)]; simp; omega)]
  | succ k ih =>
    intro i m w hi hm
    obtain ⟨m, rfl⟩ : ∃ q, m = q + 1 := ⟨m - 1, by omega⟩
    obtain ⟨w', g1, g2, g3⟩ := ih (i + 1) m (mL w 17 (400*t+i) 0) (by omega) (by omega)
    refine ⟨w', ?_, g2, fun o j => ?_⟩
    · rw [f_X11_clears_L17_s, if_neg (by rw [i_le, nI_toInt (by omega)]; simp; omega), ix400, gd_t (inb_nI (by omega) (by omega)), nI_clamp (by omega)]
      simp only [lt_e]
      rw [nI_s]; exact g1
    · rw [g3, mL_at]
      by_cases q : o = 17
      · by_cases q1 : j = 400*t+i
        · rw [if_neg (by omega), if_pos ⟨q, q1⟩, if_pos (by omega)]
        · by_cases q2 : 400*t+(i+1) ≤ j ∧ j < 400*t+400
          · rw [if_pos ⟨q, q2⟩, if_pos (by omega)]
          · rw [if_neg (by omega), if_neg (by omega), if_neg (by omega)]
      · rw [if_neg (fun z => q z.1), if_neg (fun z => q z.1), if_neg (fun z => q z.1)]
/-- a new row on a tape -/
theorem row_new {w v : Mem} (h : Rel w v) {t s n : Nat} (ht : t < 6) (hs : s ≤ 4) (hn : n ≤ 400) : ∃ w' v', f_X9_becomeRow t (nI s) (nI n) w = some w' ∧ f_X11_clears (nI t) (nI s) (nI n) v = some v' ∧ Rel w' v' ∧ (∀ o, o ≠ 48+2*t → w'.1 o = w.1 o) ∧ (∀ o, o ≠ 15 → o ≠ 16 → v'.1 o = v.1 o) := by
  obtain ⟨hD, hP, hH, hB, hJ, hS, hF, hR, hT⟩ := h
  obtain ⟨w', g1, g2, g3⟩ := fill_L t 0 400 0 FU (mS (mS w (48+2*t) 2 (nI s)) (48+2*t) 3 (nI n)) (by omega) (by unfold FU; omega)
  obtain ⟨v', k1, k2, k3⟩ := clears_L t ht 400 0 FU (mS (mS v 15 t (nI s)) 16 t (nI n)) (by omega) (by unfold FU; omega)
  have p1 : ∀ o, o ≠ 48+2*t → w'.1 o = w.1 o := fun o ho => by rw [g2, mS_o ho, mS_o ho]
  have p2 : ∀ o, o ≠ 15 → o ≠ 16 → v'.1 o = v.1 o := fun o h1 h2 => by rw [k2, mS_o h2, mS_o h1]
  refine ⟨w', v', ?_, ?_, ⟨?_, ?_, ?_, ?_, ?_, ?_, ?_, ?_, ?_⟩, p1, p2⟩
  · unfold f_X9_becomeRow f_J7_fill_d0a16
    simp only [lt_e]
    rw [show (0 : Int32) = nI 0 from rfl, g1]; rfl
  · unfold f_X11_clears
    simp only [lt_e]
    rw [gd_t (inb_nI ht (by omega)), nI_clamp (by omega), show (0 : Int32) = nI 0 from rfl, k1]; rfl
  · exact RD_c hD (fun o ho => p1 o (by omega)) (p2 _ (by omega) (by omega)) (p2 _ (by omega) (by omega)) (p2 _ (by omega) (by omega))
  · exact RP_c hP (p1 _ (by omega)) (p1 _ (by omega)) (p1 _ (by omega)) (by rw [p2 0 (by omega) (by omega)]) (by rw [p2 0 (by omega) (by omega)]) (p2 _ (by omega) (by omega)) (p2 _ (by omega) (by omega))
  · exact RH_c hH (by rw [p1 72 (by omega)]) (p1 _ (by omega)) (by rw [p2 0 (by omega) (by omega)]) (p2 _ (by omega) (by omega))
  · exact RB_c hB (p1 _ (by omega)) (p1 _ (by omega)) (p2 _ (by omega) (by omega)) (by rw [p2 0 (by omega) (by omega)]) (by rw [p2 0 (by omega) (by omega)]) (by rw [p2 0 (by omega) (by omega)]) (by rw [p2 0 (by omega) (by omega)])
  · exact RJ_c hJ (by rw [p1 76 (by omega)]) (p1 _ (by omega)) (p1 _ (by omega)) (by rw [p2 0 (by omega) (by omega)]) (p2 _ (by omega) (by omega)) (p2 _ (by omega) (by omega))
  · exact RS_c hS (p1 _ (by omega)) (p1 _ (by omega)) (p1 _ (by omega)) (by rw [p2 0 (by omega) (by omega)]) (p2 _ (by omega) (by omega)) (p2 _ (by omega) (by omega)) (p2 _ (by omega) (by omega))
  · exact RF_c hF (by rw [p1 83 (by omega)]) (p1 _ (by omega)) (p1 _ (by omega)) (by rw [p2 0 (by omega) (by omega)]) (p2 _ (by omega) (by omega)) (p2 _ (by omega) (by omega))
  · exact RR_c hR (by rw [p1 66 (by omega)]) (by rw [p2 0 (by omega) (by omega)])
  · intro r hr
    obtain ⟨⟨s2, a1, a2, a3, a4⟩, ⟨n2, b1, b2, b3⟩, c⟩ := hT r hr
    rw [g2, k2]
    by_cases q : r = t
    · subst q
      refine ⟨⟨s, by omega, by rw [mS_nj (by omega), mS_eq], by rw [mS_ne (by omega), mS_eq], by omega⟩, ⟨n, hn, mS_eq, mS_eq⟩, fun j hj => ?_⟩
      rw [g3, k3, if_pos (by omega), if_pos (by omega)]
    · refine ⟨⟨s2, a1, by rw [mS_ne (by omega), mS_ne (by omega)]; exact a2, by rw [mS_ne (by omega), mS_nj (by omega)]; exact a3, by rw [mS_ne (by omega), mS_ne (by omega)]; exact a4⟩, ⟨n2, b1, by rw [mS_ne (by omega), mS_ne (by omega)]; exact b2, by rw [mS_nj (by omega), mS_ne (by omega)]; exact b3⟩, fun j hj => ?_⟩
      rw [g3, k3, if_neg (by omega), if_neg (by omega)]
      exact c j hj
-- 41 tape
theorem step_41 {w v : Mem} (h : Rel w v) (x1 x2 x3 : Int32) : ∃ r w' v', f_X10_tape x1 x2 x3 w = some (r, w') ∧ f_X11_tape x1 x2 x3 v = some (r, v') ∧ Rel w' v' := by
  unfold f_X10_tape f_X11_tape
  rw [tp_eq, tpm_eq]
  rcases in_c x1 0 5 with ⟨q, k1⟩ | ⟨q, k1⟩
  rotate_left
  · rw [q, bd_s, bd_s, if_pos rfl, if_pos rfl]; exact ⟨-1, w, v, rfl, rfl, h⟩
  rw [q, bd_s, bd_s, if_neg one_ne, if_neg one_ne]
  rcases in_c x2 1 4 with ⟨q2, k2⟩ | ⟨q2, k2⟩
  rotate_left
  · rw [q2, bd_s, if_pos rfl]
    refine ⟨-1, w, v, ?_, rfl, h⟩
    by_cases c : x2 < 1
    · rw [if_pos c]
    · rw [if_neg c, if_pos (by rw [i_lt] at c; rw [i_lt]; simp at c k2 ⊢; omega)]
  rw [q2, bd_s, if_neg one_ne]
  simp at k1 k2
  rw [if_neg (show ¬ x2 < 1 by rw [i_lt]; simp; omega), if_neg (show ¬ 4 < x2 by rw [i_lt]; simp; omega)]
  by_cases c1 : x3 ≤ 400
  rotate_left
  · rw [if_neg c1, if_neg c1]; exact ⟨-1, w, v, rfl, rfl, h⟩
  rw [if_pos c1, if_pos c1]
  by_cases c2 : 0 ≤ x3
  rotate_left
  · rw [if_neg c2, if_neg c2, ref_C w (by decide), ref_M]; exact ⟨-14, _, _, rfl, rfl, Rel_ref h⟩
  rw [if_pos c2, if_pos c2]
  rw [i_le] at c1 c2
  simp at c1 c2
  obtain ⟨t, ht, rfl⟩ := i_nat (x := x1) (N := 6) (by omega) (by omega) (by omega)
  obtain ⟨s, hs, rfl⟩ := i_nat (x := x2) (N := 5) (by omega) (by omega) (by omega)
  obtain ⟨n, hn, rfl⟩ := i_nat (x := x3) (N := 401) (by omega) (by omega) (by omega)
  obtain ⟨w', v', e1, e2, e3, _⟩ := row_new h ht (show s ≤ 4 by omega) (show n ≤ 400 by omega)
  rw [gd_t (inb_nI ht (by omega)), nI_clamp (by omega), e1, e2]
  exact ⟨nI n, w', v', rfl, rfl, e3⟩
/-- one cell of a tape's row -/
theorem Rel_L {w v : Mem} (h : Rel w v) {t j : Nat} (ht : t < 6) (hj : j < 400) (x : Int64) : Rel (mL w (49+2*t) j x) (mL v 17 (400*t+j) x) := by
  obtain ⟨hD, hP, hH, hB, hJ, hS, hF, hR, hT⟩ := h
  refine ⟨?_, ?_, ?_, ?_, ?_, ?_, ?_, ?_, ?_⟩
  · exact RD_c hD (fun o ho => by first | rfl | simp (disch := omega) only [mS_o, mC_o]) (by first | rfl | simp [mS_o, mC_o] | simp (disch := omega) only [mS_o, mC_o]) (by first | rfl | simp [mS_o, mC_o] | simp (disch := omega) only [mS_o, mC_o]) (by first | rfl | simp [mS_o, mC_o] | simp (disch := omega) only [mS_o, mC_o])
  · exact RP_c hP (by first | rfl | simp [mS_o, mC_o] | simp (disch := omega) only [mS_o, mC_o]) (by first | rfl | simp [mS_o, mC_o] | simp (disch := omega) only [mS_o, mC_o]) (by first | rfl | simp [mS_o, mC_o] | simp (disch := omega) only [mS_o, mC_o]) (by first | rfl | (simp [mS_at]; done) | simp (disch := omega) only [mS_ne]) (by first | rfl | (simp [mS_at]; done) | simp (disch := omega) only [mS_ne]) (by first | rfl | simp [mS_o, mC_o] | simp (disch := omega) only [mS_o, mC_o]) (by first | rfl | simp [mS_o, mC_o] | simp (disch := omega) only [mS_o, mC_o])
  · exact RH_c hH (by first | rfl | (simp [mS_at]; done) | simp (disch := omega) only [mS_ne]) (by first | rfl | simp [mS_o, mC_o] | simp (disch := omega) only [mS_o, mC_o]) (by first | rfl | (simp [mS_at]; done) | simp (disch := omega) only [mS_ne]) (by first | rfl | simp [mS_o, mC_o] | simp (disch := omega) only [mS_o, mC_o])
  · exact RB_c hB (by first | rfl | simp [mS_o, mC_o] | simp (disch := omega) only [mS_o, mC_o]) (by first | rfl | simp [mS_o, mC_o] | simp (disch := omega) only [mS_o, mC_o]) (by first | rfl | simp [mS_o, mC_o] | simp (disch := omega) only [mS_o, mC_o]) (by first | rfl | (simp [mS_at]; done) | simp (disch := omega) only [mS_ne]) (by first | rfl | (simp [mS_at]; done) | simp (disch := omega) only [mS_ne]) (by first | rfl | (simp [mS_at]; done) | simp (disch := omega) only [mS_ne]) (by first | rfl | (simp [mS_at]; done) | simp (disch := omega) only [mS_ne])
  · exact RJ_c hJ (by first | rfl | (simp [mS_at]; done) | simp (disch := omega) only [mS_ne]) (by first | rfl | simp [mS_o, mC_o] | simp (disch := omega) only [mS_o, mC_o]) (by first | rfl | simp [mS_o, mC_o] | simp (disch := omega) only [mS_o, mC_o]) (by first | rfl | (simp [mS_at]; done) | simp (disch := omega) only [mS_ne]) (by first | rfl | simp [mS_o, mC_o] | simp (disch := omega) only [mS_o, mC_o]) (by first | rfl | simp [mS_o, mC_o] | simp (disch := omega) only [mS_o, mC_o])
  · exact RS_c hS (by first | rfl | simp [mS_o, mC_o] | simp (disch := omega) only [mS_o, mC_o]) (by first | rfl | simp [mS_o, mC_o] | simp (disch := omega) only [mS_o, mC_o]) (by first | rfl | simp [mS_o, mC_o] | simp (disch := omega) only [mS_o, mC_o]) (by first | rfl | (simp [mS_at]; done) | simp (disch := omega) only [mS_ne]) (by first | rfl | simp [mS_o, mC_o] | simp (disch := omega) only [mS_o, mC_o]) (by first | rfl | simp [mS_o, mC_o] | simp (disch := omega) only [mS_o, mC_o]) (by first | rfl | simp [mS_o, mC_o] | simp (disch := omega) only [mS_o, mC_o])
  · exact RF_c hF (by first | rfl | (simp [mS_at]; done) | simp (disch := omega) only [mS_ne]) (by first | rfl | simp [mS_o, mC_o] | simp (disch := omega) only [mS_o, mC_o]) (by first | rfl | simp [mS_o, mC_o] | simp (disch := omega) only [mS_o, mC_o]) (by first | rfl | (simp [mS_at]; done) | simp (disch := omega) only [mS_ne]) (by first | rfl | simp [mS_o, mC_o] | simp (disch := omega) only [mS_o, mC_o]) (by first | rfl | simp [mS_o, mC_o] | simp (disch := omega) only [mS_o, mC_o])
  · exact RR_c hR (by first | rfl | (simp [mS_at]; done) | simp (disch := omega) only [mS_ne]) (by first | rfl | (simp [mS_at]; done) | simp (disch := omega) only [mS_ne])
  · intro r hr
    obtain ⟨a, b, c⟩ := hT r hr
    refine ⟨a, b, fun i hi => ?_⟩
    rw [mL_at, mL_at]
    by_cases q : r = t ∧ i = j
    · rw [if_pos (by omega), if_pos (by omega)]
    · rw [if_neg (by omega), if_neg (by omega)]; exact c i hi
-- 45 clear
theorem step_45 {w v : Mem} (h : Rel w v) (x1 : Int32) : ∃ r w' v', f_X10_clear x1 w = some (r, w') ∧ f_X11_clear x1 v = some (r, v') ∧ Rel w' v' := by
  have h0 := h
  obtain ⟨hD, hP, hH, hB, hJ, hS, hF, hR, hT⟩ := h
  unfold f_X10_clear f_X11_clear
  rw [tp_eq, tpm_eq]
  rcases in_c x1 0 5 with ⟨q, k1⟩ | ⟨q, k1⟩
  rotate_left
  · rw [q, bd_s, bd_s, if_pos rfl, if_pos rfl]; exact ⟨-1, w, v, rfl, rfl, h0⟩
  rw [q, bd_s, bd_s, if_neg one_ne, if_neg one_ne]
  simp at k1
  obtain ⟨t, ht, rfl⟩ := i_nat (x := x1) (N := 6) (by omega) (by omega) (by omega)
  obtain ⟨⟨s, hs, a1, a2, a3⟩, ⟨n, hn, b1, b2⟩, c⟩ := id hT t ht
  simp only [lt_e]
  rw [gd_t (inb_nI ht (by omega)), gd_t (inb_nI ht (by omega)), nI_clamp (by omega), a1, a2]
  refine ⟨nI s, _, _, rfl, rfl, ?_, ?_, ?_, ?_, ?_, ?_, ?_, ?_, ?_⟩
  · exact RD_c hD (fun o ho => by first | rfl | simp (disch := omega) only [mS_o, mC_o]) (by first | rfl | simp [mS_o, mC_o] | simp (disch := omega) only [mS_o, mC_o]) (by first | rfl | simp [mS_o, mC_o] | simp (disch := omega) only [mS_o, mC_o]) (by first | rfl | simp [mS_o, mC_o] | simp (disch := omega) only [mS_o, mC_o])
  · exact RP_c hP (by first | rfl | simp [mS_o, mC_o] | simp (disch := omega) only [mS_o, mC_o]) (by first | rfl | simp [mS_o, mC_o] | simp (disch := omega) only [mS_o, mC_o]) (by first | rfl | simp [mS_o, mC_o] | simp (disch := omega) only [mS_o, mC_o]) (by first | rfl | (simp [mS_at]; done) | simp (disch := omega) only [mS_ne]) (by first | rfl | (simp [mS_at]; done) | simp (disch := omega) only [mS_ne]) (by first | rfl | simp [mS_o, mC_o] | simp (disch := omega) only [mS_o, mC_o]) (by first | rfl | simp [mS_o, mC_o] | simp (disch := omega) only [mS_o, mC_o])
  · exact RH_c hH (by first | rfl | (simp [mS_at]; done) | simp (disch := omega) only [mS_ne]) (by first | rfl | simp [mS_o, mC_o] | simp (disch := omega) only [mS_o, mC_o]) (by first | rfl | (simp [mS_at]; done) | simp (disch := omega) only [mS_ne]) (by first | rfl | simp [mS_o, mC_o] | simp (disch := omega) only [mS_o, mC_o])
  · exact RB_c hB (by first | rfl | simp [mS_o, mC_o] | simp (disch := omega) only [mS_o, mC_o]) (by first | rfl | simp [mS_o, mC_o] | simp (disch := omega) only [mS_o, mC_o]) (by first | rfl | simp [mS_o, mC_o] | simp (disch := omega) only [mS_o, mC_o]) (by first | rfl | (simp [mS_at]; done) | simp (disch := omega) only [mS_ne]) (by first | rfl | (simp [mS_at]; done) | simp (disch := omega) only [mS_ne]) (by first | rfl | (simp [mS_at]; done) | simp (disch := omega) only [mS_ne]) (by first | rfl | (simp [mS_at]; done) | simp (disch := omega) only [mS_ne])
  · exact RJ_c hJ (by first | rfl | (simp [mS_at]; done) | simp (disch := omega) only [mS_ne]) (by first | rfl | simp [mS_o, mC_o] | simp (disch := omega) only [mS_o, mC_o]) (by first | rfl | simp [mS_o, mC_o] | simp (disch := omega) only [mS_o, mC_o]) (by first | rfl | (simp [mS_at]; done) | simp (disch := omega) only [mS_ne]) (by first | rfl | simp [mS_o, mC_o] | simp (disch := omega) only [mS_o, mC_o]) (by first | rfl | simp [mS_o, mC_o] | simp (disch := omega) only [mS_o, mC_o])
  · exact RS_c hS (by first | rfl | simp [mS_o, mC_o] | simp (disch := omega) only [mS_o, mC_o]) (by first | rfl | simp [mS_o, mC_o] | simp (disch := omega) only [mS_o, mC_o]) (by first | rfl | simp [mS_o, mC_o] | simp (disch := omega) only [mS_o, mC_o]) (by first | rfl | (simp [mS_at]; done) | simp (disch := omega) only [mS_ne]) (by first | rfl | simp [mS_o, mC_o] | simp (disch := omega) only [mS_o, mC_o]) (by first | rfl | simp [mS_o, mC_o] | simp (disch := omega) only [mS_o, mC_o]) (by first | rfl | simp [mS_o, mC_o] | simp (disch := omega) only [mS_o, mC_o])
  · exact RF_c hF (by first | rfl | (simp [mS_at]; done) | simp (disch := omega) only [mS_ne]) (by first | rfl | simp [mS_o, mC_o] | simp (disch := omega) only [mS_o, mC_o]) (by first | rfl | simp [mS_o, mC_o] | simp (disch := omega) only [mS_o, mC_o]) (by first | rfl | (simp [mS_at]; done) | simp (disch := omega) only [mS_ne]) (by first | rfl | simp [mS_o, mC_o] | simp (disch := omega) only [mS_o, mC_o]) (by first | rfl | simp [mS_o, mC_o] | simp (disch := omega) only [mS_o, mC_o])
  · exact RR_c hR (by first | rfl | (simp [mS_at]; done) | simp (disch := omega) only [mS_ne]) (by first | rfl | (simp [mS_at]; done) | simp (disch := omega) only [mS_ne])
  · intro r hr
    obtain ⟨⟨s2, u1, u2, u3, u4⟩, ⟨n2, y1, y2, y3⟩, c⟩ := hT r hr
    refine ⟨?_, ⟨n2, y1, by rw [mS_nj (by omega)]; exact y2, by rw [mS_ne (by omega)]; exact y3⟩, c⟩
    by_cases q : r = t
    · subst q; exact ⟨0, by omega, mS_eq, mS_eq, by omega⟩
    · exact ⟨s2, u1, by rw [mS_ne (by omega)]; exact u2, by rw [mS_nj (by omega)]; exact u3, by rw [mS_ne (by omega)]; exact u4⟩
-- 46 put
theorem isR_t {w : Mem} {t s : Nat} (e : w.1 (48+2*t) 2 = nI s) (h : 1 ≤ s ∧ s ≤ 4) : f_X9_isRow t w = some 1 := by
  unfold f_X9_isRow
  have e4 := nI_toInt (n := s) (by omega)
  simp only [lt_e]
  rw [e, if_neg (by rw [i_lt, e4]; simp; omega), if_neg (by rw [i_lt, e4]; simp; omega)]; rfl
theorem isR_f {w : Mem} {t s : Nat} (e : w.1 (48+2*t) 2 = nI s) (h : s = 0 ∨ s = 5) : f_X9_isRow t w = some 0 := by
  unfold f_X9_isRow
  simp only [lt_e]
  rw [e]
  rcases h with rfl | rfl <;> rfl
theorem nar_eq (t : Nat) (x : Int64) (w : Mem) : f_X9_narrowed t x w = f_X11_narrowed (w.1 (48+2*t) 2) x := rfl
theorem step_46 {w v : Mem} (h : Rel w v) (x1 x2 : Int32) (x3 : Int64) : ∃ r w' v', f_X10_put x1 x2 x3 w = some (r, w') ∧ f_X11_put x1 x2 x3 v = some (r, v') ∧ Rel w' v' := by
  have h0 := h
  obtain ⟨hD, hP, hH, hB, hJ, hS, hF, hR, hT⟩ := h
  unfold f_X10_put f_X10_againstRow f_X11_put
  rw [tp_eq, tpm_eq]
  rcases in_c x1 0 5 with ⟨q, k1⟩ | ⟨q, k1⟩
  rotate_left
  · rw [q, bd_s, bd_s, if_pos rfl, if_pos rfl, bd_s, if_neg (by decide), ref_N w (by decide)]; exact ⟨-1, w, v, rfl, rfl, h0⟩
  rw [q, bd_s, bd_s, if_neg one_ne, if_neg one_ne]
  simp at k1
  obtain ⟨t, ht, rfl⟩ := i_nat (x := x1) (N := 6) (by omega) (by omega) (by omega)
  obtain ⟨⟨s, hs, a1, a2, a3⟩, ⟨n, hn, b1, b2⟩, c⟩ := id hT t ht
  simp only [lt_e]
  simp only [gd_t (inb_nI ht (show 6 ≤ 2147483648 by omega)), nI_clamp (show t < 2147483648 by omega), a1, a2, b1, b2]
  by_cases s0 : s = 0
  · subst s0
    rw [if_pos (show nI 0 = 0 by decide), if_pos (show nI 0 = 0 by decide), bd_s, if_neg (show ¬ (-11 : Int32) = 0 by decide), ref_C w (by decide), ref_M]
    exact ⟨-11, _, _, rfl, rfl, Rel_ref h0⟩
  have ns0 : ¬ nI s = 0 := nI_ne (a := s) (b := 0) (by omega) (by omega) s0
  rw [if_neg ns0, if_neg ns0]
  by_cases s5 : s = 5
  · subst s5
    rw [isR_f a1 (by omega), if_pos (show nI 5 = 5 by decide), bd_s, if_pos (show (0 : Int32) = 0 by decide), bd_s, if_neg (show ¬ (-12 : Int32) = 0 by decide), ref_C w (by decide), ref_M]
    exact ⟨-12, _, _, rfl, rfl, Rel_ref h0⟩
  have ns5 : ¬ nI s = 5 := nI_ne (a := s) (b := 5) (by omega) (by omega) s5
  have e4 := nI_toInt (n := n) (by omega)
  have e5 : (nI n - 1).toInt = n - 1 := by rw [i_sub (by rw [e4]; simp; omega) (by rw [e4]; simp; omega), e4]; rfl
  rw [isR_t a1 (by omega), if_neg ns5, bd_s, if_neg one_ne, bd_s, if_pos (by decide)]
  rcases in_c x2 0 (nI n - 1) with ⟨q2, k2⟩ | ⟨q2, k2⟩
  rotate_left
  · rw [q2, bd_s, if_pos rfl, ref_M]
    rw [e5] at k2
    refine ⟨-13, _, _, ?_, rfl, Rel_ref h0⟩
    rw [ref_C w (by decide)]
    by_cases c : x2 < 0
    · rw [if_pos c]; rfl
    · rw [if_neg c, if_neg (by rw [i_lt] at c; rw [i_lt, e4]; simp at c k2 ⊢; omega)]; rfl
  rw [e5] at k2
  simp at k2
  rw [q2, bd_s, if_neg one_ne, if_neg (show ¬ x2 < 0 by rw [i_lt]; simp; omega), if_pos (show x2 < nI n by rw [i_lt, e4]; omega)]
  obtain ⟨j, hj, rfl⟩ := i_nat (x := x2) (N := n) (by omega) (by omega) (by omega)
  rw [nar_eq, a1]
  obtain ⟨y, ey⟩ : ∃ y, f_X11_narrowed (nI s) x3 = some y := by
    unfold f_X11_narrowed; simp only [lt_e]
    repeat' split
    all_goals exact ⟨_, rfl⟩
  rw [ey, bd_s, bd_s, ix400, gd_t (inb_nI (by omega) (by omega)), gd_t (inb_nI (by omega) (by omega)), nI_clamp (by omega), nI_clamp (by omega)]
  exact ⟨1, _, _, rfl, rfl, Rel_L h0 ht (by omega) y⟩
-- 42 keep
theorem step_42 {w v : Mem} (h : Rel w v) (x1 : Int32) : ∃ r w' v', f_X10_keep x1 w = some (r, w') ∧ f_X11_keep x1 v = some (r, v') ∧ Rel w' v' := by
  have h0 := h
  obtain ⟨hD, hP, hH, hB, hJ, hS, hF, hR, hT⟩ := h
  unfold f_X10_keep f_X11_keep
  rw [tp_eq, tpm_eq]
  rcases in_c x1 0 5 with ⟨q, k1⟩ | ⟨q, k1⟩
  rotate_left
  · rw [q, bd_s, bd_s, if_pos rfl, if_pos rfl]; exact ⟨-1, w, v, rfl, rfl, h0⟩
  rw [q, bd_s, bd_s, if_neg one_ne, if_neg one_ne]
  simp at k1
  obtain ⟨t, ht, rfl⟩ := i_nat (x := x1) (N := 6) (by omega) (by omega) (by omega)
  obtain ⟨n, hn, e1, e2, e3⟩ := id (hD 14 (by omega))
  have z14 : (14 : Int32).toNatClampNeg = 14 := rfl
  have g14 : inb 14 15 = true := by decide
  simp only [lt_e]
  rw [gd_t g14, z14, e1, e2]
  by_cases n0 : n = 0
  · subst n0
    rw [if_pos (by decide), if_pos (by decide)]
    exact ⟨-3, w, v, rfl, rfl, h0⟩
  have nn0 : ¬ nI n = 0 := nI_ne (a := n) (b := 0) (by omega) (by omega) n0
  have hD1 : RD (mS w (48+2*t) 2 5) (mS v 15 t 5) := RD_c hD (fun o ho => mS_o (by omega)) (mS_o (by omega)) (mS_o (by omega)) (mS_o (by omega))
  obtain ⟨w', v', g1, g2, g3, g4, g5, g6, g7, g8, g9, g10⟩ := bec hD1 (8+t) 14 (by omega) (by omega) (by omega)
  rw [if_neg nn0, if_neg nn0, gd_t (inb_nI ht (by omega)), gd_t (inb_nI ht (by omega)), nI_clamp (by omega)]
  unfold f_X9_becomeDisc
  simp only [lt_e]
  rw [show (8 : Int32) + nI t = nI (8 + t) from by rw [nI_lit 8, nI_add], show (14 : Int32) = nI 14 from rfl, g1, g2, bd_s, bd_s, bd_s, g7 (3*14) (by omega) (by omega) (by omega), mS_ne (by omega), e1, g6 14 (by omega), mS_ne (by omega), e2]
  have p1 : ∀ o, 45 ≤ o ∨ (42 ≤ o ∧ o < 45) → o ≠ 48+2*t → w'.1 o = w.1 o := fun o ho h1 => by rw [g7 o (by omega) (by omega) (by omega), mS_o h1]
  have p2 : ∀ o, o ≠ 3 → o ≠ 4 → o ≠ 5 → o ≠ 15 → v'.1 o = v.1 o := fun o h1 h2 h3 h4 => by rw [g9 o h1 h2 h3, mS_o h4]
  have q0 := p2 0 (by omega) (by omega) (by omega) (by omega)
  refine ⟨nI n, w', v', rfl, rfl, g3, ?_, ?_, ?_, ?_, ?_, ?_, ?_, ?_⟩
  · exact RP_c hP (p1 _ (by omega) (by omega)) (p1 _ (by omega) (by omega)) (p1 _ (by omega) (by omega)) (by rw [q0]) (by rw [q0]) (p2 _ (by omega) (by omega) (by omega) (by omega)) (p2 _ (by omega) (by omega) (by omega) (by omega))
  · exact RH_c hH (by rw [p1 72 (by omega) (by omega)]) (p1 _ (by omega) (by omega)) (by rw [q0]) (p2 _ (by omega) (by omega) (by omega) (by omega))
  · exact RB_c hB (p1 _ (by omega) (by omega)) (p1 _ (by omega) (by omega)) (p2 _ (by omega) (by omega) (by omega) (by omega)) (by rw [q0]) (by rw [q0]) (by rw [q0]) (by rw [q0])
  · exact RJ_c hJ (by rw [p1 76 (by omega) (by omega)]) (p1 _ (by omega) (by omega)) (p1 _ (by omega) (by omega)) (by rw [q0]) (p2 _ (by omega) (by omega) (by omega) (by omega)) (p2 _ (by omega) (by omega) (by omega) (by omega))
  · exact RS_c hS (p1 _ (by omega) (by omega)) (p1 _ (by omega) (by omega)) (p1 _ (by omega) (by omega)) (by rw [q0]) (p2 _ (by omega) (by omega) (by omega) (by omega)) (p2 _ (by omega) (by omega) (by omega) (by omega)) (p2 _ (by omega) (by omega) (by omega) (by omega))
  · exact RF_c hF (by rw [p1 83 (by omega) (by omega)]) (p1 _ (by omega) (by omega)) (p1 _ (by omega) (by omega)) (by rw [q0]) (p2 _ (by omega) (by omega) (by omega) (by omega)) (p2 _ (by omega) (by omega) (by omega) (by omega))
  · exact RR_c hR (by rw [p1 66 (by omega) (by omega)]) (by rw [q0])
  · intro r hr
    obtain ⟨⟨s2, u1, u2, u3, u4⟩, ⟨n2, y1, y2, y3⟩, c⟩ := hT r hr
    have y5 : w'.1 (48+2*r) 3 = w.1 (48+2*r) 3 := by rw [g7 _ (by omega) (by omega) (by omega), mS_nj (by omega)]
    have y6 := p2 16 (by omega) (by omega) (by omega) (by omega)
    refine ⟨?_, ⟨n2, y1, by rw [y5]; exact y2, by rw [y6]; exact y3⟩, fun j hj => by rw [g8, g10]; exact c j hj⟩
    have y7 : w'.1 (48+2*r) 2 = (mS w (48+2*t) 2 5).1 (48+2*r) 2 := by rw [g7 _ (by omega) (by omega) (by omega)]
    have y8 : v'.1 15 r = (mS v 15 t 5).1 15 r := by rw [g9 15 (by omega) (by omega) (by omega)]
    rw [y7, y8]
    by_cases q : r = t
    · subst q
      refine ⟨5, by omega, mS_eq, mS_eq, fun _ => ?_⟩
      rw [g5, mS_ne (by omega), e2]; exact nn0
    · refine ⟨s2, u1, by rw [mS_ne (by omega)]; exact u2, by rw [mS_nj (by omega)]; exact u3, ?_⟩
      rw [g6 _ (by omega), mS_ne (by omega)]; exact u4
-- 43 back
/-- the tape named holds a disc, or what is answered instead -/
theorem lacks {w v : Mem} (h : Rel w v) (x1 : Int32) : (∃ t, t < 6 ∧ x1 = nI t ∧ f_X10_againstSort x1 5 w = some 0 ∧ f_X11_lacks x1 v = some (0, v) ∧ ¬ v.1 3 (8+t) = 0) ∨ ∃ r w' v', ¬ r = 0 ∧ f_X10_againstSort x1 5 w = some r ∧ f_X10_counted r w = some (r, w') ∧ f_X11_lacks x1 v = some (r, v') ∧ Rel w' v' := by
  have h0 := h
  obtain ⟨hD, hP, hH, hB, hJ, hS, hF, hR, hT⟩ := h
  unfold f_X10_againstSort f_X11_lacks
  rw [tp_eq, tpm_eq]
  rcases in_c x1 0 5 with ⟨q, k1⟩ | ⟨q, k1⟩
  rotate_left
  · rw [q, bd_s, bd_s, if_pos rfl, if_pos rfl]; exact Or.inr ⟨-1, w, v, by decide, rfl, ref_N w (by decide), rfl, h0⟩
  rw [q, bd_s, bd_s, if_neg one_ne, if_neg one_ne]
  simp at k1
  obtain ⟨t, ht, rfl⟩ := i_nat (x := x1) (N := 6) (by omega) (by omega) (by omega)
  obtain ⟨⟨s, hs, a1, a2, a3⟩, ⟨n, hn, b1, b2⟩, c⟩ := id hT t ht
  simp only [lt_e]
  simp only [gd_t (inb_nI ht (show 6 ≤ 2147483648 by omega)), nI_clamp (show t < 2147483648 by omega), a1, a2]
  by_cases s0 : s = 0
  · subst s0
    rw [if_pos (by decide), if_pos (by decide), ref_M]
    exact Or.inr ⟨-11, _, _, by decide, rfl, ref_C w (by decide), rfl, Rel_ref h0⟩
  have ns0 : ¬ nI s = 0 := nI_ne (a := s) (b := 0) (by omega) (by omega) s0
  rw [if_neg ns0, if_neg ns0]
  by_cases s5 : s = 5
  · subst s5
    rw [if_pos (by decide), if_pos (by decide)]
    exact Or.inl ⟨t, ht, rfl, rfl, rfl, a3 rfl⟩
  have ns5 : ¬ nI s = 5 := nI_ne (a := s) (b := 5) (by omega) (by omega) s5
  rw [if_neg ns5, if_neg ns5, ref_M]
  exact Or.inr ⟨-12, _, _, by decide, rfl, ref_C w (by decide), rfl, Rel_ref h0⟩
theorem step_43 {w v : Mem} (h : Rel w v) (x1 : Int32) : ∃ r w' v', f_X10_back x1 w = some (r, w') ∧ f_X11_back x1 v = some (r, v') ∧ Rel w' v' := by
  unfold f_X10_back f_X11_back
  rcases lacks h x1 with ⟨t, ht, rfl, a, b, n0⟩ | ⟨r, w', v', r0, a, b, c, d⟩
  · obtain ⟨w', v', g1, g2, g3, g4, g5, g6, g7, g8, g9, g10⟩ := bec h.1 14 (8+t) (by omega) (by omega) (by omega)
    obtain ⟨n, hn, e1, e2, e3⟩ := g3 14 (by omega)
    rw [a, b, bd_s, b2_s, if_pos rfl, if_pos rfl, gd_t (inb_nI ht (by omega)), nI_clamp (by omega), show (8 : Int32) + nI t = nI (8 + t) from by rw [nI_lit 8, nI_add], show (14 : Int32) = nI 14 from rfl, g1, g2, bd_s, bd_s, gd_t (by decide)]
    simp only [lt_e]
    rw [nI_clamp (by omega), e1, e2]
    exact ⟨nI n, w', v', rfl, rfl, Rel_bec h (Or.inr rfl) g3 g6 g7 g8 g9 g10⟩
  · rw [a, c, bd_s, b2_s, if_neg r0, if_neg r0, b]
    exact ⟨r, w', v', rfl, rfl, d⟩
