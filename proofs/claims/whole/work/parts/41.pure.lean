/-! ===== what each call does, where its text is enough (41: by wip/gen/p41.txt and fr.py) ===== -/
theorem lt_e {α β : Type} {e : α} {K : α → β} : lt e K = K e := rfl
theorem in_eq (v a b : Int32) : f_X11_in v a b = some (if a ≤ v ∧ v ≤ b then 1 else 0) := by
  unfold f_X11_in lt gd bz
  by_cases h1 : v < a
  · rw [if_pos h1, if_neg (fun q => by rw [i_lt] at h1; have := i_le.mp q.1; omega)]; rfl
  · rw [if_neg h1]
    by_cases h2 : b < v
    · rw [if_pos h2, if_neg (fun q => by rw [i_lt] at h2; have := i_le.mp q.2; omega)]; rfl
    · rw [if_neg h2, if_pos ⟨by rw [i_lt] at h1; rw [i_le]; omega, by rw [i_lt] at h2; rw [i_le]; omega⟩]; rfl
theorem in_t {v a b : Int32} (h : a.toInt ≤ v.toInt ∧ v.toInt ≤ b.toInt) : f_X11_in v a b = some 1 := by
  rw [in_eq, if_pos ⟨i_le.mpr h.1, i_le.mpr h.2⟩]
theorem in_f {v a b : Int32} (h : ¬ (a.toInt ≤ v.toInt ∧ v.toInt ≤ b.toInt)) : f_X11_in v a b = some 0 := by
  rw [in_eq, if_neg (fun q => h ⟨i_le.mp q.1, i_le.mp q.2⟩)]
theorem one_ne : ¬ (1 : Int32) = 0 := by decide
theorem nI_ne {a b : Nat} (ha : a < 2147483648) (hb : b < 2147483648) (h : a ≠ b) : ¬ nI a = nI b := fun q => h ((nI_eq ha hb).mp q)
theorem nI_lit (n : Nat) : (OfNat.ofNat n : Int32) = nI n := rfl
-- 12 side
theorem step_12 {w v : Mem} (h : Rel w v) (x1 : Int32) : ∃ r w' v', f_X10_side x1 w = some (r, w') ∧ f_X11_side x1 v = some (r, v') ∧ Rel w' v' := by
  have h0 := h
  obtain ⟨hD, hP, hH, hB, hJ, hS, hF, hR, hT⟩ := h
  obtain ⟨n, hn, e1, e2, e3⟩ := id hH
  by_cases c : 1 ≤ x1.toInt ∧ x1.toInt ≤ 999
  · have i1 : f_X11_in x1 1 999 = some 1 := in_t (by simp; omega)
    by_cases cn : n = 8
    · subst cn
      refine ⟨-2, w, v, ?_, ?_, h0⟩
      · unfold f_X10_side
        rw [if_neg (by rw [i_lt]; simp; omega), if_pos (by rw [i_le]; simp; omega), e1, if_neg (by decide)]
      · unfold f_X11_side
        rw [i1, bd_s, if_neg one_ne, e2, if_pos (by decide)]
    · have e4 := nI_toInt (n := n) (by omega)
      refine ⟨nI (n + 1), mS (mS w 73 n x1) 72 1 (nI (n + 1)), mS (mS v 6 n x1) 0 8 (nI (n + 1)), ?_, ?_, ?_, ?_, ?_, ?_, ?_, ?_, ?_, ?_, ?_⟩
      · unfold f_X10_side lt
        rw [if_neg (by rw [i_lt]; simp; omega), if_pos (by rw [i_le]; simp; omega), e1, if_pos (by rw [i_lt, e4]; simp; omega), gd_t (inb_nI (by omega) (by omega)), nI_clamp (by omega)]
        simp only [mS_ne (show (72:Nat) ≠ 73 by decide), e1, nI_1, mS_eq]
      · unfold f_X11_side lt
        rw [i1, bd_s, if_neg one_ne, e2, if_neg (show ¬ nI n = 8 from nI_ne (a := n) (b := 8) (by omega) (by omega) cn), gd_t (inb_nI (by omega) (by omega)), nI_clamp (by omega)]
        simp only [mS_ne (show (0:Nat) ≠ 6 by decide), e2, nI_1, mS_eq]
      · exact RD_c hD (fun o ho => by first | rfl | simp (disch := omega) only [mS_o, mC_o]) (by first | rfl | simp [mS_o, mC_o] | simp (disch := omega) only [mS_o, mC_o]) (by first | rfl | simp [mS_o, mC_o] | simp (disch := omega) only [mS_o, mC_o]) (by first | rfl | simp [mS_o, mC_o] | simp (disch := omega) only [mS_o, mC_o])
      · exact RP_c hP (by first | rfl | simp [mS_o, mC_o] | simp (disch := omega) only [mS_o, mC_o]) (by first | rfl | simp [mS_o, mC_o] | simp (disch := omega) only [mS_o, mC_o]) (by first | rfl | simp [mS_o, mC_o] | simp (disch := omega) only [mS_o, mC_o]) (by first | rfl | (simp [mS_at]; done) | simp (disch := omega) only [mS_ne]) (by first | rfl | (simp [mS_at]; done) | simp (disch := omega) only [mS_ne]) (by first | rfl | simp [mS_o, mC_o] | simp (disch := omega) only [mS_o, mC_o]) (by first | rfl | simp [mS_o, mC_o] | simp (disch := omega) only [mS_o, mC_o])
      · refine ⟨n + 1, by omega, mS_eq, mS_eq, fun j hj => ?_⟩
        rw [mS_ne (a := 73) (o := 72) (by decide), mS_at, mS_ne (a := 6) (o := 0) (by decide), mS_at]
        by_cases q : j = n
        · subst q; rw [if_pos ⟨rfl, rfl⟩, if_pos ⟨rfl, rfl⟩]; exact ⟨rfl, c⟩
        · rw [if_neg (fun z => q z.2), if_neg (fun z => q z.2)]; exact e3 j (by omega)
      · exact RB_c hB (by first | rfl | simp [mS_o, mC_o] | simp (disch := omega) only [mS_o, mC_o]) (by first | rfl | simp [mS_o, mC_o] | simp (disch := omega) only [mS_o, mC_o]) (by first | rfl | simp [mS_o, mC_o] | simp (disch := omega) only [mS_o, mC_o]) (by first | rfl | (simp [mS_at]; done) | simp (disch := omega) only [mS_ne]) (by first | rfl | (simp [mS_at]; done) | simp (disch := omega) only [mS_ne]) (by first | rfl | (simp [mS_at]; done) | simp (disch := omega) only [mS_ne]) (by first | rfl | (simp [mS_at]; done) | simp (disch := omega) only [mS_ne])
      · exact RJ_c hJ (by first | rfl | (simp [mS_at]; done) | simp (disch := omega) only [mS_ne]) (by first | rfl | simp [mS_o, mC_o] | simp (disch := omega) only [mS_o, mC_o]) (by first | rfl | simp [mS_o, mC_o] | simp (disch := omega) only [mS_o, mC_o]) (by first | rfl | (simp [mS_at]; done) | simp (disch := omega) only [mS_ne]) (by first | rfl | simp [mS_o, mC_o] | simp (disch := omega) only [mS_o, mC_o]) (by first | rfl | simp [mS_o, mC_o] | simp (disch := omega) only [mS_o, mC_o])
      · exact RS_c hS (by first | rfl | simp [mS_o, mC_o] | simp (disch := omega) only [mS_o, mC_o]) (by first | rfl | simp [mS_o, mC_o] | simp (disch := omega) only [mS_o, mC_o]) (by first | rfl | simp [mS_o, mC_o] | simp (disch := omega) only [mS_o, mC_o]) (by first | rfl | (simp [mS_at]; done) | simp (disch := omega) only [mS_ne]) (by first | rfl | simp [mS_o, mC_o] | simp (disch := omega) only [mS_o, mC_o]) (by first | rfl | simp [mS_o, mC_o] | simp (disch := omega) only [mS_o, mC_o]) (by first | rfl | simp [mS_o, mC_o] | simp (disch := omega) only [mS_o, mC_o])
      · exact RF_c hF (by first | rfl | (simp [mS_at]; done) | simp (disch := omega) only [mS_ne]) (by first | rfl | simp [mS_o, mC_o] | simp (disch := omega) only [mS_o, mC_o]) (by first | rfl | simp [mS_o, mC_o] | simp (disch := omega) only [mS_o, mC_o]) (by first | rfl | (simp [mS_at]; done) | simp (disch := omega) only [mS_ne]) (by first | rfl | simp [mS_o, mC_o] | simp (disch := omega) only [mS_o, mC_o]) (by first | rfl | simp [mS_o, mC_o] | simp (disch := omega) only [mS_o, mC_o])
      · exact RR_c hR (by first | rfl | (simp [mS_at]; done) | simp (disch := omega) only [mS_ne]) (by first | rfl | (simp [mS_at]; done) | simp (disch := omega) only [mS_ne])
      · exact RT_c hT (fun o h1 h2 => by first | rfl | simp (disch := omega) only [mS_o, mC_o]) (fun o h1 h2 => by first | rfl | simp (disch := omega) only [mL_o, mD_o, mS_at2, mC_2]) (by first | rfl | simp [mS_o, mC_o] | simp (disch := omega) only [mS_o, mC_o]) (by first | rfl | simp [mS_o, mC_o] | simp (disch := omega) only [mS_o, mC_o]) (by first | rfl | simp [mS_o, mC_o] | simp (disch := omega) only [mS_o, mC_o]) (by first | rfl | simp [mL_o, mD_o, mS_at2, mC_2])
  · refine ⟨-1, w, v, ?_, ?_, h0⟩
    · unfold f_X10_side
      by_cases c1 : x1 < 1
      · rw [if_pos c1]
      · rw [if_neg c1, if_neg (by rw [i_lt] at c1; rw [i_le]; simp at c1 ⊢; omega)]
    · unfold f_X11_side
      rw [in_f (by simpa using c), bd_s, if_pos rfl]
-- 19 cloth
theorem cloth_no {x1 x2 : Int32} {w : Mem} (h : ¬ (0 ≤ x1.toInt ∧ x1.toInt ≤ 1 ∧ 0 ≤ x2.toInt ∧ x2.toInt ≤ 60)) : f_X10_cloth x1 x2 w = some (-1, w) := by
  unfold f_X10_cloth gd lt
  repeat' split
  all_goals first | rfl | (exfalso; simp only [i_lt, i_le, Int32.reduceToInt] at *; omega)
theorem cloth_yes {k : Nat} {x2 : Int32} {w : Mem} (h : k < 2) (h2 : 0 ≤ x2.toInt ∧ x2.toInt ≤ 60) : f_X10_cloth (nI k) x2 w = some (w.1 75 k, mS w 75 k x2) := by
  unfold f_X10_cloth lt
  have e := nI_toInt (n := k) (by omega)
  rw [gd_t (inb_nI h (by omega)), nI_clamp (by omega)]
  repeat' split
  all_goals first | rfl | (exfalso; simp only [i_lt, i_le, e, Int32.reduceToInt] at *; omega)
theorem step_19 {w v : Mem} (h : Rel w v) (x1 x2 : Int32) : ∃ r w' v', f_X10_cloth x1 x2 w = some (r, w') ∧ f_X11_cloth x1 x2 v = some (r, v') ∧ Rel w' v' := by
  have h0 := h
  obtain ⟨hD, hP, hH, hB, hJ, hS, hF, hR, hT⟩ := h
  by_cases c : 0 ≤ x1.toInt ∧ x1.toInt ≤ 1 ∧ 0 ≤ x2.toInt ∧ x2.toInt ≤ 60
  · obtain ⟨k, hk, rfl⟩ := i_nat (x := x1) (N := 2) c.1 (by omega) (by omega)
    have hb : w.1 75 k = v.1 7 k := by
      rcases (show k = 0 ∨ k = 1 by omega) with rfl | rfl
      · exact hB.1.1
      · exact hB.2.1.1
    refine ⟨w.1 75 k, mS w 75 k x2, mS v 7 k x2, cloth_yes hk c.2.2, ?_, ?_, ?_, ?_, ?_, ?_, ?_, ?_, ?_, ?_⟩
    · unfold f_X11_cloth lt
      rw [in_t (by simp; omega), bd_s, if_neg one_ne, in_t (by simp; omega), bd_s, if_neg one_ne, gd_t (inb_nI hk (by omega)), nI_clamp (by omega), hb]
    · exact RD_c hD (fun o ho => by first | rfl | simp (disch := omega) only [mS_o, mC_o]) (by first | rfl | simp [mS_o, mC_o] | simp (disch := omega) only [mS_o, mC_o]) (by first | rfl | simp [mS_o, mC_o] | simp (disch := omega) only [mS_o, mC_o]) (by first | rfl | simp [mS_o, mC_o] | simp (disch := omega) only [mS_o, mC_o])
    · exact RP_c hP (by first | rfl | simp [mS_o, mC_o] | simp (disch := omega) only [mS_o, mC_o]) (by first | rfl | simp [mS_o, mC_o] | simp (disch := omega) only [mS_o, mC_o]) (by first | rfl | simp [mS_o, mC_o] | simp (disch := omega) only [mS_o, mC_o]) (by first | rfl | (simp [mS_at]; done) | simp (disch := omega) only [mS_ne]) (by first | rfl | (simp [mS_at]; done) | simp (disch := omega) only [mS_ne]) (by first | rfl | simp [mS_o, mC_o] | simp (disch := omega) only [mS_o, mC_o]) (by first | rfl | simp [mS_o, mC_o] | simp (disch := omega) only [mS_o, mC_o])
    · exact RH_c hH (by first | rfl | (simp [mS_at]; done) | simp (disch := omega) only [mS_ne]) (by first | rfl | simp [mS_o, mC_o] | simp (disch := omega) only [mS_o, mC_o]) (by first | rfl | (simp [mS_at]; done) | simp (disch := omega) only [mS_ne]) (by first | rfl | simp [mS_o, mC_o] | simp (disch := omega) only [mS_o, mC_o])
    · obtain ⟨⟨a1, a2⟩, ⟨b1, b2⟩, r⟩ := hB
      refine ⟨?_, ?_, ?_⟩
      · rw [mS_at, mS_at]; by_cases q : k = 0
        · subst q; exact ⟨rfl, c.2.2⟩
        · rw [if_neg (fun z => q z.2.symm), if_neg (fun z => q z.2.symm)]; exact ⟨a1, a2⟩
      · rw [mS_at, mS_at]; by_cases q : k = 1
        · subst q; exact ⟨rfl, c.2.2⟩
        · rw [if_neg (fun z => q z.2.symm), if_neg (fun z => q z.2.symm)]; exact ⟨b1, b2⟩
      · simp only [mS_ne (show (74:Nat) ≠ 75 by decide), mS_ne (show (0:Nat) ≠ 7 by decide)]; exact r
    · exact RJ_c hJ (by first | rfl | (simp [mS_at]; done) | simp (disch := omega) only [mS_ne]) (by first | rfl | simp [mS_o, mC_o] | simp (disch := omega) only [mS_o, mC_o]) (by first | rfl | simp [mS_o, mC_o] | simp (disch := omega) only [mS_o, mC_o]) (by first | rfl | (simp [mS_at]; done) | simp (disch := omega) only [mS_ne]) (by first | rfl | simp [mS_o, mC_o] | simp (disch := omega) only [mS_o, mC_o]) (by first | rfl | simp [mS_o, mC_o] | simp (disch := omega) only [mS_o, mC_o])
    · exact RS_c hS (by first | rfl | simp [mS_o, mC_o] | simp (disch := omega) only [mS_o, mC_o]) (by first | rfl | simp [mS_o, mC_o] | simp (disch := omega) only [mS_o, mC_o]) (by first | rfl | simp [mS_o, mC_o] | simp (disch := omega) only [mS_o, mC_o]) (by first | rfl | (simp [mS_at]; done) | simp (disch := omega) only [mS_ne]) (by first | rfl | simp [mS_o, mC_o] | simp (disch := omega) only [mS_o, mC_o]) (by first | rfl | simp [mS_o, mC_o] | simp (disch := omega) only [mS_o, mC_o]) (by first | rfl | simp [mS_o, mC_o] | simp (disch := omega) only [mS_o, mC_o])
    · exact RF_c hF (by first | rfl | (simp [mS_at]; done) | simp (disch := omega) only [mS_ne]) (by first | rfl | simp [mS_o, mC_o] | simp (disch := omega) only [mS_o, mC_o]) (by first | rfl | simp [mS_o, mC_o] | simp (disch := omega) only [mS_o, mC_o]) (by first | rfl | (simp [mS_at]; done) | simp (disch := omega) only [mS_ne]) (by first | rfl | simp [mS_o, mC_o] | simp (disch := omega) only [mS_o, mC_o]) (by first | rfl | simp [mS_o, mC_o] | simp (disch := omega) only [mS_o, mC_o])
    · exact RR_c hR (by first | rfl | (simp [mS_at]; done) | simp (disch := omega) only [mS_ne]) (by first | rfl | (simp [mS_at]; done) | simp (disch := omega) only [mS_ne])
    · exact RT_c hT (fun o h1 h2 => by first | rfl | simp (disch := omega) only [mS_o, mC_o]) (fun o h1 h2 => by first | rfl | simp (disch := omega) only [mL_o, mD_o, mS_at2, mC_2]) (by first | rfl | simp [mS_o, mC_o] | simp (disch := omega) only [mS_o, mC_o]) (by first | rfl | simp [mS_o, mC_o] | simp (disch := omega) only [mS_o, mC_o]) (by first | rfl | simp [mS_o, mC_o] | simp (disch := omega) only [mS_o, mC_o]) (by first | rfl | simp [mL_o, mD_o, mS_at2, mC_2])
  · refine ⟨-1, w, v, cloth_no c, ?_, h0⟩
    unfold f_X11_cloth
    by_cases c1 : 0 ≤ x1.toInt ∧ x1.toInt ≤ 1
    · rw [in_t (by simpa using c1), bd_s, if_neg one_ne, in_f (by simp; omega), bd_s, if_pos rfl]
    · rw [in_f (by simpa using c1), bd_s, if_pos rfl]
-- 23 wind
theorem step_23 {w v : Mem} (h : Rel w v) (x1 x2 : Int32) : ∃ r w' v', f_X10_wind x1 x2 w = some (r, w') ∧ f_X11_wind x1 x2 v = some (r, v') ∧ Rel w' v' := by
  have h0 := h
  obtain ⟨hD, hP, hH, hB, hJ, hS, hF, hR, hT⟩ := h
  by_cases c : 0 ≤ x1.toInt ∧ x1.toInt ≤ 1000000 ∧ 0 ≤ x2.toInt ∧ x2.toInt ≤ 1000000
  · refine ⟨0, mS (mS w 74 3 x1) 74 4 x2, mS (mS v 0 13 x1) 0 14 x2, ?_, ?_, ?_, ?_, ?_, ?_, ?_, ?_, ?_, ?_, ?_⟩
    · unfold f_X10_wind lt
      repeat' split
      all_goals first | rfl | (exfalso; simp only [i_lt, i_le, Int32.reduceToInt] at *; omega)
    · unfold f_X11_wind lt
      rw [in_t (by simp; omega), bd_s, if_neg one_ne, in_t (by simp; omega), bd_s, if_neg one_ne]
    · exact RD_c hD (fun o ho => by first | rfl | simp (disch := omega) only [mS_o, mC_o]) (by first | rfl | simp [mS_o, mC_o] | simp (disch := omega) only [mS_o, mC_o]) (by first | rfl | simp [mS_o, mC_o] | simp (disch := omega) only [mS_o, mC_o]) (by first | rfl | simp [mS_o, mC_o] | simp (disch := omega) only [mS_o, mC_o])
    · exact RP_c hP (by first | rfl | simp [mS_o, mC_o] | simp (disch := omega) only [mS_o, mC_o]) (by first | rfl | simp [mS_o, mC_o] | simp (disch := omega) only [mS_o, mC_o]) (by first | rfl | simp [mS_o, mC_o] | simp (disch := omega) only [mS_o, mC_o]) (by first | rfl | (simp [mS_at]; done) | simp (disch := omega) only [mS_ne]) (by first | rfl | (simp [mS_at]; done) | simp (disch := omega) only [mS_ne]) (by first | rfl | simp [mS_o, mC_o] | simp (disch := omega) only [mS_o, mC_o]) (by first | rfl | simp [mS_o, mC_o] | simp (disch := omega) only [mS_o, mC_o])
    · exact RH_c hH (by first | rfl | (simp [mS_at]; done) | simp (disch := omega) only [mS_ne]) (by first | rfl | simp [mS_o, mC_o] | simp (disch := omega) only [mS_o, mC_o]) (by first | rfl | (simp [mS_at]; done) | simp (disch := omega) only [mS_ne]) (by first | rfl | simp [mS_o, mC_o] | simp (disch := omega) only [mS_o, mC_o])
    · obtain ⟨a, b, c1, c2, d1, d2⟩ := hB
      simp only [RB, mS_ne (show (75:Nat) ≠ 74 by decide), mS_ne (show (7:Nat) ≠ 0 by decide), mS_at]
      exact ⟨a, b, c1, c2, ⟨rfl, c.1, c.2.1⟩, ⟨rfl, c.2.2⟩⟩
    · exact RJ_c hJ (by first | rfl | (simp [mS_at]; done) | simp (disch := omega) only [mS_ne]) (by first | rfl | simp [mS_o, mC_o] | simp (disch := omega) only [mS_o, mC_o]) (by first | rfl | simp [mS_o, mC_o] | simp (disch := omega) only [mS_o, mC_o]) (by first | rfl | (simp [mS_at]; done) | simp (disch := omega) only [mS_ne]) (by first | rfl | simp [mS_o, mC_o] | simp (disch := omega) only [mS_o, mC_o]) (by first | rfl | simp [mS_o, mC_o] | simp (disch := omega) only [mS_o, mC_o])
    · exact RS_c hS (by first | rfl | simp [mS_o, mC_o] | simp (disch := omega) only [mS_o, mC_o]) (by first | rfl | simp [mS_o, mC_o] | simp (disch := omega) only [mS_o, mC_o]) (by first | rfl | simp [mS_o, mC_o] | simp (disch := omega) only [mS_o, mC_o]) (by first | rfl | (simp [mS_at]; done) | simp (disch := omega) only [mS_ne]) (by first | rfl | simp [mS_o, mC_o] | simp (disch := omega) only [mS_o, mC_o]) (by first | rfl | simp [mS_o, mC_o] | simp (disch := omega) only [mS_o, mC_o]) (by first | rfl | simp [mS_o, mC_o] | simp (disch := omega) only [mS_o, mC_o])
    · exact RF_c hF (by first | rfl | (simp [mS_at]; done) | simp (disch := omega) only [mS_ne]) (by first | rfl | simp [mS_o, mC_o] | simp (disch := omega) only [mS_o, mC_o]) (by first | rfl | simp [mS_o, mC_o] | simp (disch := omega) only [mS_o, mC_o]) (by first | rfl | (simp [mS_at]; done) | simp (disch := omega) only [mS_ne]) (by first | rfl | simp [mS_o, mC_o] | simp (disch := omega) only [mS_o, mC_o]) (by first | rfl | simp [mS_o, mC_o] | simp (disch := omega) only [mS_o, mC_o])
    · exact RR_c hR (by first | rfl | (simp [mS_at]; done) | simp (disch := omega) only [mS_ne]) (by first | rfl | (simp [mS_at]; done) | simp (disch := omega) only [mS_ne])
    · exact RT_c hT (fun o h1 h2 => by first | rfl | simp (disch := omega) only [mS_o, mC_o]) (fun o h1 h2 => by first | rfl | simp (disch := omega) only [mL_o, mD_o, mS_at2, mC_2]) (by first | rfl | simp [mS_o, mC_o] | simp (disch := omega) only [mS_o, mC_o]) (by first | rfl | simp [mS_o, mC_o] | simp (disch := omega) only [mS_o, mC_o]) (by first | rfl | simp [mS_o, mC_o] | simp (disch := omega) only [mS_o, mC_o]) (by first | rfl | simp [mL_o, mD_o, mS_at2, mC_2])
  · refine ⟨-1, w, v, ?_, ?_, h0⟩
    · unfold f_X10_wind lt
      repeat' split
      all_goals first | rfl | (exfalso; simp only [i_lt, i_le, Int32.reduceToInt] at *; omega)
    · unfold f_X11_wind
      by_cases c1 : 0 ≤ x1.toInt ∧ x1.toInt ≤ 1000000
      · rw [in_t (by simpa using c1), bd_s, if_neg one_ne, in_f (by simp; omega), bd_s, if_pos rfl]
      · rw [in_f (by simpa using c1), bd_s, if_pos rfl]
-- 25 stepless
theorem step_25 {w v : Mem} (h : Rel w v) : ∃ r w' v', f_X10_stepless w = some (r, w') ∧ f_X11_stepless v = some (r, v') ∧ Rel w' v' := by
  obtain ⟨hD, hP, hH, hB, hJ, hS, hF, hR, hT⟩ := h
  obtain ⟨n, hn, h1, h2, h3⟩ := hJ
  refine ⟨nI n, mS w 76 2 0, mS v 0 15 0, by simp only [f_X10_stepless, lt, h1], by simp only [f_X11_stepless, lt, h2], ?_, ?_, ?_, ?_, ?_, ?_, ?_, ?_, ?_⟩
  · exact RD_c hD (fun o ho => by first | rfl | simp (disch := omega) only [mS_o, mC_o]) (by first | rfl | simp [mS_o, mC_o] | simp (disch := omega) only [mS_o, mC_o]) (by first | rfl | simp [mS_o, mC_o] | simp (disch := omega) only [mS_o, mC_o]) (by first | rfl | simp [mS_o, mC_o] | simp (disch := omega) only [mS_o, mC_o])
  · exact RP_c hP (by first | rfl | simp [mS_o, mC_o] | simp (disch := omega) only [mS_o, mC_o]) (by first | rfl | simp [mS_o, mC_o] | simp (disch := omega) only [mS_o, mC_o]) (by first | rfl | simp [mS_o, mC_o] | simp (disch := omega) only [mS_o, mC_o]) (by first | rfl | (simp [mS_at]; done) | simp (disch := omega) only [mS_ne]) (by first | rfl | (simp [mS_at]; done) | simp (disch := omega) only [mS_ne]) (by first | rfl | simp [mS_o, mC_o] | simp (disch := omega) only [mS_o, mC_o]) (by first | rfl | simp [mS_o, mC_o] | simp (disch := omega) only [mS_o, mC_o])
  · exact RH_c hH (by first | rfl | (simp [mS_at]; done) | simp (disch := omega) only [mS_ne]) (by first | rfl | simp [mS_o, mC_o] | simp (disch := omega) only [mS_o, mC_o]) (by first | rfl | (simp [mS_at]; done) | simp (disch := omega) only [mS_ne]) (by first | rfl | simp [mS_o, mC_o] | simp (disch := omega) only [mS_o, mC_o])
  · exact RB_c hB (by first | rfl | simp [mS_o, mC_o] | simp (disch := omega) only [mS_o, mC_o]) (by first | rfl | simp [mS_o, mC_o] | simp (disch := omega) only [mS_o, mC_o]) (by first | rfl | simp [mS_o, mC_o] | simp (disch := omega) only [mS_o, mC_o]) (by first | rfl | (simp [mS_at]; done) | simp (disch := omega) only [mS_ne]) (by first | rfl | (simp [mS_at]; done) | simp (disch := omega) only [mS_ne]) (by first | rfl | (simp [mS_at]; done) | simp (disch := omega) only [mS_ne]) (by first | rfl | (simp [mS_at]; done) | simp (disch := omega) only [mS_ne])
  · exact ⟨0, by omega, mS_eq, mS_eq, fun j hj => by omega⟩
  · exact RS_c hS (by first | rfl | simp [mS_o, mC_o] | simp (disch := omega) only [mS_o, mC_o]) (by first | rfl | simp [mS_o, mC_o] | simp (disch := omega) only [mS_o, mC_o]) (by first | rfl | simp [mS_o, mC_o] | simp (disch := omega) only [mS_o, mC_o]) (by first | rfl | (simp [mS_at]; done) | simp (disch := omega) only [mS_ne]) (by first | rfl | simp [mS_o, mC_o] | simp (disch := omega) only [mS_o, mC_o]) (by first | rfl | simp [mS_o, mC_o] | simp (disch := omega) only [mS_o, mC_o]) (by first | rfl | simp [mS_o, mC_o] | simp (disch := omega) only [mS_o, mC_o])
  · exact RF_c hF (by first | rfl | (simp [mS_at]; done) | simp (disch := omega) only [mS_ne]) (by first | rfl | simp [mS_o, mC_o] | simp (disch := omega) only [mS_o, mC_o]) (by first | rfl | simp [mS_o, mC_o] | simp (disch := omega) only [mS_o, mC_o]) (by first | rfl | (simp [mS_at]; done) | simp (disch := omega) only [mS_ne]) (by first | rfl | simp [mS_o, mC_o] | simp (disch := omega) only [mS_o, mC_o]) (by first | rfl | simp [mS_o, mC_o] | simp (disch := omega) only [mS_o, mC_o])
  · exact RR_c hR (by first | rfl | (simp [mS_at]; done) | simp (disch := omega) only [mS_ne]) (by first | rfl | (simp [mS_at]; done) | simp (disch := omega) only [mS_ne])
  · exact RT_c hT (fun o h1 h2 => by first | rfl | simp (disch := omega) only [mS_o, mC_o]) (fun o h1 h2 => by first | rfl | simp (disch := omega) only [mL_o, mD_o, mS_at2, mC_2]) (by first | rfl | simp [mS_o, mC_o] | simp (disch := omega) only [mS_o, mC_o]) (by first | rfl | simp [mS_o, mC_o] | simp (disch := omega) only [mS_o, mC_o]) (by first | rfl | simp [mS_o, mC_o] | simp (disch := omega) only [mS_o, mC_o]) (by first | rfl | simp [mL_o, mD_o, mS_at2, mC_2])
-- 35 noteless
theorem step_35 {w v : Mem} (h : Rel w v) : ∃ r w' v', f_X10_noteless w = some (r, w') ∧ f_X11_noteless v = some (r, v') ∧ Rel w' v' := by
  obtain ⟨hD, hP, hH, hB, hJ, hS, hF, hR, hT⟩ := h
  obtain ⟨n, hn, h1, h2, h3⟩ := hF
  refine ⟨nI n, mS w 83 2 0, mS v 0 22 0, by simp only [f_X10_noteless, lt, h1], by simp only [f_X11_noteless, lt, h2], ?_, ?_, ?_, ?_, ?_, ?_, ?_, ?_, ?_⟩
  · exact RD_c hD (fun o ho => by first | rfl | simp (disch := omega) only [mS_o, mC_o]) (by first | rfl | simp [mS_o, mC_o] | simp (disch := omega) only [mS_o, mC_o]) (by first | rfl | simp [mS_o, mC_o] | simp (disch := omega) only [mS_o, mC_o]) (by first | rfl | simp [mS_o, mC_o] | simp (disch := omega) only [mS_o, mC_o])
  · exact RP_c hP (by first | rfl | simp [mS_o, mC_o] | simp (disch := omega) only [mS_o, mC_o]) (by first | rfl | simp [mS_o, mC_o] | simp (disch := omega) only [mS_o, mC_o]) (by first | rfl | simp [mS_o, mC_o] | simp (disch := omega) only [mS_o, mC_o]) (by first | rfl | (simp [mS_at]; done) | simp (disch := omega) only [mS_ne]) (by first | rfl | (simp [mS_at]; done) | simp (disch := omega) only [mS_ne]) (by first | rfl | simp [mS_o, mC_o] | simp (disch := omega) only [mS_o, mC_o]) (by first | rfl | simp [mS_o, mC_o] | simp (disch := omega) only [mS_o, mC_o])
  · exact RH_c hH (by first | rfl | (simp [mS_at]; done) | simp (disch := omega) only [mS_ne]) (by first | rfl | simp [mS_o, mC_o] | simp (disch := omega) only [mS_o, mC_o]) (by first | rfl | (simp [mS_at]; done) | simp (disch := omega) only [mS_ne]) (by first | rfl | simp [mS_o, mC_o] | simp (disch := omega) only [mS_o, mC_o])
  · exact RB_c hB (by first | rfl | simp [mS_o, mC_o] | simp (disch := omega) only [mS_o, mC_o]) (by first | rfl | simp [mS_o, mC_o] | simp (disch := omega) only [mS_o, mC_o]) (by first | rfl | simp [mS_o, mC_o] | simp (disch := omega) only [mS_o, mC_o]) (by first | rfl | (simp [mS_at]; done) | simp (disch := omega) only [mS_ne]) (by first | rfl | (simp [mS_at]; done) | simp (disch := omega) only [mS_ne]) (by first | rfl | (simp [mS_at]; done) | simp (disch := omega) only [mS_ne]) (by first | rfl | (simp [mS_at]; done) | simp (disch := omega) only [mS_ne])
  · exact RJ_c hJ (by first | rfl | (simp [mS_at]; done) | simp (disch := omega) only [mS_ne]) (by first | rfl | simp [mS_o, mC_o] | simp (disch := omega) only [mS_o, mC_o]) (by first | rfl | simp [mS_o, mC_o] | simp (disch := omega) only [mS_o, mC_o]) (by first | rfl | (simp [mS_at]; done) | simp (disch := omega) only [mS_ne]) (by first | rfl | simp [mS_o, mC_o] | simp (disch := omega) only [mS_o, mC_o]) (by first | rfl | simp [mS_o, mC_o] | simp (disch := omega) only [mS_o, mC_o])
  · exact RS_c hS (by first | rfl | simp [mS_o, mC_o] | simp (disch := omega) only [mS_o, mC_o]) (by first | rfl | simp [mS_o, mC_o] | simp (disch := omega) only [mS_o, mC_o]) (by first | rfl | simp [mS_o, mC_o] | simp (disch := omega) only [mS_o, mC_o]) (by first | rfl | (simp [mS_at]; done) | simp (disch := omega) only [mS_ne]) (by first | rfl | simp [mS_o, mC_o] | simp (disch := omega) only [mS_o, mC_o]) (by first | rfl | simp [mS_o, mC_o] | simp (disch := omega) only [mS_o, mC_o]) (by first | rfl | simp [mS_o, mC_o] | simp (disch := omega) only [mS_o, mC_o])
  · exact ⟨0, by omega, mS_eq, mS_eq, fun j hj => by omega⟩
  · exact RR_c hR (by first | rfl | (simp [mS_at]; done) | simp (disch := omega) only [mS_ne]) (by first | rfl | (simp [mS_at]; done) | simp (disch := omega) only [mS_ne])
  · exact RT_c hT (fun o h1 h2 => by first | rfl | simp (disch := omega) only [mS_o, mC_o]) (fun o h1 h2 => by first | rfl | simp (disch := omega) only [mL_o, mD_o, mS_at2, mC_2]) (by first | rfl | simp [mS_o, mC_o] | simp (disch := omega) only [mS_o, mC_o]) (by first | rfl | simp [mS_o, mC_o] | simp (disch := omega) only [mS_o, mC_o]) (by first | rfl | simp [mS_o, mC_o] | simp (disch := omega) only [mS_o, mC_o]) (by first | rfl | simp [mL_o, mD_o, mS_at2, mC_2])
-- 29 thread
theorem step_29 {w v : Mem} (h : Rel w v) (x1 : Int32) : ∃ r, f_X10_thread x1 w = some r ∧ f_X11_thread x1 v = some r := by
  obtain ⟨hD, hP, hH, hB, hJ, hS, hF, hR, hT⟩ := h
  obtain ⟨a, b, c1, c2, d1, d2⟩ := hB
  by_cases q0 : x1 = 0
  · subst q0
    exact ⟨_, by unfold f_X10_thread lt; rw [if_neg (by decide), if_pos (by decide), if_pos rfl, d1.1], by unfold f_X11_thread lt; rw [if_pos rfl]⟩
  · by_cases q1 : x1 = 1
    · subst q1
      exact ⟨_, by unfold f_X10_thread lt; rw [if_neg (by decide), if_pos (by decide), if_neg (by decide), d2.1], by unfold f_X11_thread lt; rw [if_neg (by decide), if_pos rfl]⟩
    · refine ⟨-1, ?_, by unfold f_X11_thread lt; rw [if_neg q0, if_neg q1]⟩
      unfold f_X10_thread lt
      rw [i_eq] at q0 q1
      repeat' split
      all_goals first | rfl | (exfalso; simp only [i_lt, i_le, i_eq, Int32.reduceToInt] at *; omega)
