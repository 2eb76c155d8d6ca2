/-! ===== 7 file, 24 step, 34 note, 49 count (43: by wip/gen/p43.txt and fr.py) ===== -/
theorem tr_eq (x : Int32) : f_X10_isTrial x = f_X11_in x 0 324 := by
  rw [in_eq]; unfold f_X10_isTrial; simp only [lt_e]
  repeat' split
  all_goals first | rfl | (exfalso; simp only [i_lt, i_le, Int32.reduceToInt] at *; omega)
theorem sta_eq (x : Int32) : f_X10_isState x = f_X11_in x 0 2771 := by
  rw [in_eq]; unfold f_X10_isState; simp only [lt_e]
  repeat' split
  all_goals first | rfl | (exfalso; simp only [i_lt, i_le, Int32.reduceToInt] at *; omega)
theorem ca_eq (x : Int32) : f_X10_isCauses x = f_X11_in x 0 4 := by
  rw [in_eq]; unfold f_X10_isCauses; simp only [lt_e]
  repeat' split
  all_goals first | rfl | (exfalso; simp only [i_lt, i_le, Int32.reduceToInt] at *; omega)
theorem tp_eq (x : Int32) : f_X10_isTape x = f_X11_in x 0 5 := by
  by_cases c : 0 ≤ x.toInt ∧ x.toInt ≤ 5
  · rw [tpC_t c, in_t (by simpa using c)]
  · rw [tpC_f c, in_f (by simpa using c)]
theorem tpm_eq (x : Int32) : f_X11_isTape x = f_X11_in x 0 5 := by
  by_cases c : 0 ≤ x.toInt ∧ x.toInt ≤ 5
  · rw [tpM_t c, in_t (by simpa using c)]
  · rw [tpM_f c, in_f (by simpa using c)]
theorem sh_eq (x : Int32) : f_X10_isShelf x = f_X11_in x 0 7 := by
  by_cases c : 0 ≤ x.toInt ∧ x.toInt ≤ 7
  · rw [shC_t c, in_t (by simpa using c)]
  · rw [shC_f c, in_f (by simpa using c)]
theorem wi_eq (x n : Int32) (h : n.toInt ≠ -2147483648) : f_X10_isWithin x n = f_X11_in x (-n) n := by
  by_cases c : ir n.toInt x
  · rw [wiC_t h c, in_t (by rw [i_neg h]; exact c)]
  · rw [wiC_f h c, in_f (by rw [i_neg h]; exact c)]
theorem in_c (v a b : Int32) : (f_X11_in v a b = some 1 ∧ a.toInt ≤ v.toInt ∧ v.toInt ≤ b.toInt) ∨ (f_X11_in v a b = some 0 ∧ ¬ (a.toInt ≤ v.toInt ∧ v.toInt ≤ b.toInt)) := by
  by_cases c : a.toInt ≤ v.toInt ∧ v.toInt ≤ b.toInt
  · exact Or.inl ⟨in_t c, c⟩
  · exact Or.inr ⟨in_f c, c⟩
-- 24 step
theorem sp_0 (n : Int32) : f_X4_isStep 0 n = f_X11_in n 0 7 := by
  unfold f_X4_isStep
  rw [if_pos rfl, sh_eq, in_eq]
  split <;> rfl
theorem sp_1 (n : Int32) : f_X4_isStep 1 n = f_X11_in n 1 200 := by
  unfold f_X4_isStep; simp only [lt_e]
  rw [if_neg (by decide), if_pos trivial, in_eq]
  repeat' split
  all_goals first | rfl | (exfalso; simp only [i_lt, i_le, Int32.reduceToInt] at *; omega)
theorem sp_2 (n : Int32) : f_X4_isStep 2 n = f_X11_in n 1 3 := by
  unfold f_X4_isStep; simp only [lt_e]
  rw [if_neg (by decide), if_neg (by decide), if_pos trivial, in_eq]
  repeat' split
  all_goals first | rfl | (exfalso; simp only [i_lt, i_le, Int32.reduceToInt] at *; omega)
theorem sp_3 (n : Int32) : f_X4_isStep 3 n = some (if n = 0 then 1 else 0) := by
  unfold f_X4_isStep; simp only [lt_e]
  rw [if_neg (by decide), if_neg (by decide), if_neg (by decide), if_pos trivial]
  split <;> rfl
theorem sp_n {k n : Int32} (h0 : ¬ k = 0) (h1 : ¬ k = 1) (h2 : ¬ k = 2) (h3 : ¬ k = 3) : f_X4_isStep k n = some 0 := by
  unfold f_X4_isStep; simp only [lt_e]
  rw [if_neg h0, if_neg h1, if_neg h2, if_neg h3]
def spK (x1 x2 : Int32) (w : Mem) (t_2 : Int32) : Option (Int32 × Mem) :=
  if t_2 = 0 then
      (some ((-1), w))
    else
      (if (w.1 0 15) = 20 then
        (some ((-2), w))
      else
        (gd (inb (w.1 0 15) 20 = true) <|
        lt (mS w 8 ((w.1 0 15).toNatClampNeg) x1) fun w_6 =>
        gd (inb (w_6.1 0 15) 20 = true) <|
        lt (mS w_6 9 ((w_6.1 0 15).toNatClampNeg) x2) fun w_8 =>
        lt (mS w_8 0 15 ((w_8.1 0 15) + 1)) fun w_9 =>
        some (w_9.1 0 15, w_9)))
theorem sp_m (x1 x2 : Int32) (v : Mem) : f_X11_step x1 x2 v = bd (f_X4_isStep x1 x2) (spK x1 x2 v) := by
  unfold f_X11_step; simp only [lt_e]
  by_cases h0 : x1 = 0
  · subst h0; rw [if_pos rfl, sp_0]; rfl
  · rw [if_neg h0]
    by_cases h1 : x1 = 1
    · subst h1; rw [if_pos rfl, sp_1]; rfl
    · rw [if_neg h1]
      by_cases h2 : x1 = 2
      · subst h2; rw [if_pos rfl, sp_2]; rfl
      · rw [if_neg h2]
        by_cases h3 : x1 = 3
        · subst h3; rw [if_pos rfl, sp_3]; split <;> rfl
        · rw [if_neg h3, sp_n h0 h1 h2 h3]; rfl
theorem sp_c (k n : Int32) : (f_X4_isStep k n = some 1 ∧ stepOk k n) ∨ f_X4_isStep k n = some 0 := by
  unfold stepOk ib
  by_cases h0 : k = 0
  · subst h0; rw [sp_0]; rcases in_c n 0 7 with q | q
    · exact Or.inl ⟨q.1, Or.inl ⟨rfl, by simpa using q.2⟩⟩
    · exact Or.inr q.1
  by_cases h1 : k = 1
  · subst h1; rw [sp_1]; rcases in_c n 1 200 with q | q
    · exact Or.inl ⟨q.1, Or.inr (Or.inl ⟨rfl, by simpa using q.2⟩)⟩
    · exact Or.inr q.1
  by_cases h2 : k = 2
  · subst h2; rw [sp_2]; rcases in_c n 1 3 with q | q
    · exact Or.inl ⟨q.1, Or.inr (Or.inr (Or.inl ⟨rfl, by simpa using q.2⟩))⟩
    · exact Or.inr q.1
  by_cases h3 : k = 3
  · subst h3; rw [sp_3]
    by_cases c : n = 0
    · rw [if_pos c]; exact Or.inl ⟨rfl, Or.inr (Or.inr (Or.inr ⟨rfl, c⟩))⟩
    · rw [if_neg c]; exact Or.inr rfl
  exact Or.inr (sp_n h0 h1 h2 h3)
theorem step_24 {w v : Mem} (h : Rel w v) (x1 x2 : Int32) : ∃ r w' v', f_X10_step x1 x2 w = some (r, w') ∧ f_X11_step x1 x2 v = some (r, v') ∧ Rel w' v' := by
  have h0 := h
  obtain ⟨hD, hP, hH, hB, hJ, hS, hF, hR, hT⟩ := h
  obtain ⟨n, hn, e1, e2, e3⟩ := id hJ
  rw [sp_m]
  unfold f_X10_step
  rcases sp_c x1 x2 with ⟨q, ok⟩ | q
  · rw [q, bd_s, bd_s, if_neg one_ne]
    unfold spK
    rw [if_neg one_ne]
    by_cases cn : n = 20
    · subst cn
      refine ⟨-2, w, v, ?_, ?_, h0⟩
      · rw [e1, if_neg (by decide)]
      · rw [e2, if_pos (by decide)]
    · have e4 := nI_toInt (n := n) (by omega)
      refine ⟨nI (n + 1), mS (mS (mS w 77 n x1) 78 n x2) 76 2 (nI (n + 1)), mS (mS (mS v 8 n x1) 9 n x2) 0 15 (nI (n + 1)), ?_, ?_, ?_, ?_, ?_, ?_, ?_, ?_, ?_, ?_, ?_⟩
      · rw [e1, if_pos (by rw [i_lt, e4]; simp; omega)]
        simp only [lt_e, mS_ne (show (76:Nat) ≠ 77 by decide), mS_ne (show (76:Nat) ≠ 78 by decide), e1, mS_eq, nI_1, nI_clamp (show n < 2147483648 by omega)]
        rw [gd_t (inb_nI (by omega) (by omega)), gd_t (inb_nI (by omega) (by omega))]
      · rw [e2, if_neg (show ¬ nI n = 20 from nI_ne (a := n) (b := 20) (by omega) (by omega) cn)]
        simp only [lt_e, mS_ne (show (0:Nat) ≠ 8 by decide), mS_ne (show (0:Nat) ≠ 9 by decide), e2, mS_eq, nI_1, nI_clamp (show n < 2147483648 by omega)]
        rw [gd_t (inb_nI (by omega) (by omega)), gd_t (inb_nI (by omega) (by omega))]
      · exact RD_c hD (fun o ho => by first | rfl | simp (disch := omega) only [mS_o, mC_o]) (by first | rfl | simp [mS_o, mC_o] | simp (disch := omega) only [mS_o, mC_o]) (by first | rfl | simp [mS_o, mC_o] | simp (disch := omega) only [mS_o, mC_o]) (by first | rfl | simp [mS_o, mC_o] | simp (disch := omega) only [mS_o, mC_o])
      · exact RP_c hP (by first | rfl | simp [mS_o, mC_o] | simp (disch := omega) only [mS_o, mC_o]) (by first | rfl | simp [mS_o, mC_o] | simp (disch := omega) only [mS_o, mC_o]) (by first | rfl | simp [mS_o, mC_o] | simp (disch := omega) only [mS_o, mC_o]) (by first | rfl | (simp [mS_at]; done) | simp (disch := omega) only [mS_ne]) (by first | rfl | (simp [mS_at]; done) | simp (disch := omega) only [mS_ne]) (by first | rfl | simp [mS_o, mC_o] | simp (disch := omega) only [mS_o, mC_o]) (by first | rfl | simp [mS_o, mC_o] | simp (disch := omega) only [mS_o, mC_o])
      · exact RH_c hH (by first | rfl | (simp [mS_at]; done) | simp (disch := omega) only [mS_ne]) (by first | rfl | simp [mS_o, mC_o] | simp (disch := omega) only [mS_o, mC_o]) (by first | rfl | (simp [mS_at]; done) | simp (disch := omega) only [mS_ne]) (by first | rfl | simp [mS_o, mC_o] | simp (disch := omega) only [mS_o, mC_o])
      · exact RB_c hB (by first | rfl | simp [mS_o, mC_o] | simp (disch := omega) only [mS_o, mC_o]) (by first | rfl | simp [mS_o, mC_o] | simp (disch := omega) only [mS_o, mC_o]) (by first | rfl | simp [mS_o, mC_o] | simp (disch := omega) only [mS_o, mC_o]) (by first | rfl | (simp [mS_at]; done) | simp (disch := omega) only [mS_ne]) (by first | rfl | (simp [mS_at]; done) | simp (disch := omega) only [mS_ne]) (by first | rfl | (simp [mS_at]; done) | simp (disch := omega) only [mS_ne]) (by first | rfl | (simp [mS_at]; done) | simp (disch := omega) only [mS_ne])
      · refine ⟨n + 1, by omega, mS_eq, mS_eq, fun j hj => ?_⟩
        by_cases q : j = n
        · subst q; simp only [mS_at, false_and, and_true, and_false, if_true, if_false, reduceCtorEq, Nat.reduceEqDiff]; exact ⟨trivial, trivial, ok⟩
        · have a := e3 j (by omega); simp only [mS_at, q, and_true, and_false, if_true, if_false, reduceCtorEq, Nat.reduceEqDiff, false_and]; exact a
      · exact RS_c hS (by first | rfl | simp [mS_o, mC_o] | simp (disch := omega) only [mS_o, mC_o]) (by first | rfl | simp [mS_o, mC_o] | simp (disch := omega) only [mS_o, mC_o]) (by first | rfl | simp [mS_o, mC_o] | simp (disch := omega) only [mS_o, mC_o]) (by first | rfl | (simp [mS_at]; done) | simp (disch := omega) only [mS_ne]) (by first | rfl | simp [mS_o, mC_o] | simp (disch := omega) only [mS_o, mC_o]) (by first | rfl | simp [mS_o, mC_o] | simp (disch := omega) only [mS_o, mC_o]) (by first | rfl | simp [mS_o, mC_o] | simp (disch := omega) only [mS_o, mC_o])
      · exact RF_c hF (by first | rfl | (simp [mS_at]; done) | simp (disch := omega) only [mS_ne]) (by first | rfl | simp [mS_o, mC_o] | simp (disch := omega) only [mS_o, mC_o]) (by first | rfl | simp [mS_o, mC_o] | simp (disch := omega) only [mS_o, mC_o]) (by first | rfl | (simp [mS_at]; done) | simp (disch := omega) only [mS_ne]) (by first | rfl | simp [mS_o, mC_o] | simp (disch := omega) only [mS_o, mC_o]) (by first | rfl | simp [mS_o, mC_o] | simp (disch := omega) only [mS_o, mC_o])
      · exact RR_c hR (by first | rfl | (simp [mS_at]; done) | simp (disch := omega) only [mS_ne]) (by first | rfl | (simp [mS_at]; done) | simp (disch := omega) only [mS_ne])
      · exact RT_c hT (fun o h1 h2 => by first | rfl | simp (disch := omega) only [mS_o, mC_o]) (fun o h1 h2 => by first | rfl | simp (disch := omega) only [mL_o, mD_o, mS_at2, mC_2]) (by first | rfl | simp [mS_o, mC_o] | simp (disch := omega) only [mS_o, mC_o]) (by first | rfl | simp [mS_o, mC_o] | simp (disch := omega) only [mS_o, mC_o]) (by first | rfl | simp [mS_o, mC_o] | simp (disch := omega) only [mS_o, mC_o]) (by first | rfl | simp [mL_o, mD_o, mS_at2, mC_2])
  · rw [q, bd_s, bd_s, if_pos rfl]
    unfold spK
    rw [if_pos rfl]
    exact ⟨-1, w, v, rfl, rfl, h0⟩
-- 34 note
theorem step_34 {w v : Mem} (h : Rel w v) (x1 x2 : Int32) : ∃ r w' v', f_X10_note x1 x2 w = some (r, w') ∧ f_X11_note x1 x2 v = some (r, v') ∧ Rel w' v' := by
  have h0 := h
  obtain ⟨hD, hP, hH, hB, hJ, hS, hF, hR, hT⟩ := h
  obtain ⟨n, hn, e1, e2, e3⟩ := id hF
  unfold f_X10_note f_X11_note
  rw [tr_eq]
  rcases in_c x1 0 324 with ⟨q, k1⟩ | ⟨q, k1⟩
  rotate_left
  · rw [q, bd_s, bd_s, if_pos rfl, if_pos rfl]; exact ⟨-1, w, v, rfl, rfl, h0⟩
  rw [q, bd_s, bd_s, if_neg one_ne, if_neg one_ne]
  rcases in_c x2 0 4 with ⟨q2, k2⟩ | ⟨q2, k2⟩
  rotate_left
  · rw [q2, bd_s, if_pos rfl]
    refine ⟨-1, w, v, ?_, rfl, h0⟩
    by_cases c : x2 < 0
    · rw [if_pos c]
    · rw [if_neg c, if_neg (by rw [i_lt] at c; rw [i_lt]; simp at c k2 ⊢; omega)]
  rw [q2, bd_s, if_neg one_ne]
  simp at k1 k2
  rw [if_neg (show ¬ x2 < 0 by rw [i_lt]; simp; omega), if_pos (show x2 < 5 by rw [i_lt]; simp; omega)]
  by_cases cn : n = 24
  · subst cn
    refine ⟨-2, w, v, ?_, ?_, h0⟩
    · rw [e1, if_neg (by decide)]
    · rw [e2, if_pos (by decide)]
  · have e4 := nI_toInt (n := n) (by omega)
    refine ⟨nI (n + 1), mS (mS (mS w 84 n x1) 85 n x2) 83 2 (nI (n + 1)), mS (mS (mS v 13 n x1) 14 n x2) 0 22 (nI (n + 1)), ?_, ?_, ?_, ?_, ?_, ?_, ?_, ?_, ?_, ?_, ?_⟩
    · rw [e1, if_pos (by rw [i_lt, e4]; simp; omega)]
      simp only [lt_e, mS_ne (show (83:Nat) ≠ 84 by decide), mS_ne (show (83:Nat) ≠ 85 by decide), e1, mS_eq, nI_1, nI_clamp (show n < 2147483648 by omega)]
      rw [gd_t (inb_nI (by omega) (by omega)), gd_t (inb_nI (by omega) (by omega))]
    · rw [e2, if_neg (show ¬ nI n = 24 from nI_ne (a := n) (b := 24) (by omega) (by omega) cn)]
      simp only [lt_e, mS_ne (show (0:Nat) ≠ 13 by decide), mS_ne (show (0:Nat) ≠ 14 by decide), e2, mS_eq, nI_1, nI_clamp (show n < 2147483648 by omega)]
      rw [gd_t (inb_nI (by omega) (by omega)), gd_t (inb_nI (by omega) (by omega))]
    · exact RD_c hD (fun o ho => by first | rfl | simp (disch := omega) only [mS_o, mC_o]) (by first | rfl | simp [mS_o, mC_o] | simp (disch := omega) only [mS_o, mC_o]) (by first | rfl | simp [mS_o, mC_o] | simp (disch := omega) only [mS_o, mC_o]) (by first | rfl | simp [mS_o, mC_o] | simp (disch := omega) only [mS_o, mC_o])
    · exact RP_c hP (by first | rfl | simp [mS_o, mC_o] | simp (disch := omega) only [mS_o, mC_o]) (by first | rfl | simp [mS_o, mC_o] | simp (disch := omega) only [mS_o, mC_o]) (by first | rfl | simp [mS_o, mC_o] | simp (disch := omega) only [mS_o, mC_o]) (by first | rfl | (simp [mS_at]; done) | simp (disch := omega) only [mS_ne]) (by first | rfl | (simp [mS_at]; done) | simp (disch := omega) only [mS_ne]) (by first | rfl | simp [mS_o, mC_o] | simp (disch := omega) only [mS_o, mC_o]) (by first | rfl | simp [mS_o, mC_o] | simp (disch := omega) only [mS_o, mC_o])
    · exact RH_c hH (by first | rfl | (simp [mS_at]; done) | simp (disch := omega) only [mS_ne]) (by first | rfl | simp [mS_o, mC_o] | simp (disch := omega) only [mS_o, mC_o]) (by first | rfl | (simp [mS_at]; done) | simp (disch := omega) only [mS_ne]) (by first | rfl | simp [mS_o, mC_o] | simp (disch := omega) only [mS_o, mC_o])
    · exact RB_c hB (by first | rfl | simp [mS_o, mC_o] | simp (disch := omega) only [mS_o, mC_o]) (by first | rfl | simp [mS_o, mC_o] | simp (disch := omega) only [mS_o, mC_o]) (by first | rfl | simp [mS_o, mC_o] | simp (disch := omega) only [mS_o, mC_o]) (by first | rfl | (simp [mS_at]; done) | simp (disch := omega) only [mS_ne]) (by first | rfl | (simp [mS_at]; done) | simp (disch := omega) only [mS_ne]) (by first | rfl | (simp [mS_at]; done) | simp (disch := omega) only [mS_ne]) (by first | rfl | (simp [mS_at]; done) | simp (disch := omega) only [mS_ne])
    · exact RJ_c hJ (by first | rfl | (simp [mS_at]; done) | simp (disch := omega) only [mS_ne]) (by first | rfl | simp [mS_o, mC_o] | simp (disch := omega) only [mS_o, mC_o]) (by first | rfl | simp [mS_o, mC_o] | simp (disch := omega) only [mS_o, mC_o]) (by first | rfl | (simp [mS_at]; done) | simp (disch := omega) only [mS_ne]) (by first | rfl | simp [mS_o, mC_o] | simp (disch := omega) only [mS_o, mC_o]) (by first | rfl | simp [mS_o, mC_o] | simp (disch := omega) only [mS_o, mC_o])
    · exact RS_c hS (by first | rfl | simp [mS_o, mC_o] | simp (disch := omega) only [mS_o, mC_o]) (by first | rfl | simp [mS_o, mC_o] | simp (disch := omega) only [mS_o, mC_o]) (by first | rfl | simp [mS_o, mC_o] | simp (disch := omega) only [mS_o, mC_o]) (by first | rfl | (simp [mS_at]; done) | simp (disch := omega) only [mS_ne]) (by first | rfl | simp [mS_o, mC_o] | simp (disch := omega) only [mS_o, mC_o]) (by first | rfl | simp [mS_o, mC_o] | simp (disch := omega) only [mS_o, mC_o]) (by first | rfl | simp [mS_o, mC_o] | simp (disch := omega) only [mS_o, mC_o])
    · refine ⟨n + 1, by omega, mS_eq, mS_eq, fun j hj => ?_⟩
      by_cases q : j = n
      · subst q; simp only [mS_at, false_and, and_true, and_false, if_true, if_false, reduceCtorEq, Nat.reduceEqDiff]; exact ⟨trivial, trivial, k1, k2⟩
      · have a := e3 j (by omega); simp only [mS_at, q, and_true, and_false, if_true, if_false, reduceCtorEq, Nat.reduceEqDiff, false_and]; exact a
    · exact RR_c hR (by first | rfl | (simp [mS_at]; done) | simp (disch := omega) only [mS_ne]) (by first | rfl | (simp [mS_at]; done) | simp (disch := omega) only [mS_ne])
    · exact RT_c hT (fun o h1 h2 => by first | rfl | simp (disch := omega) only [mS_o, mC_o]) (fun o h1 h2 => by first | rfl | simp (disch := omega) only [mL_o, mD_o, mS_at2, mC_2]) (by first | rfl | simp [mS_o, mC_o] | simp (disch := omega) only [mS_o, mC_o]) (by first | rfl | simp [mS_o, mC_o] | simp (disch := omega) only [mS_o, mC_o]) (by first | rfl | simp [mS_o, mC_o] | simp (disch := omega) only [mS_o, mC_o]) (by first | rfl | simp [mL_o, mD_o, mS_at2, mC_2])
-- 7 file
theorem step_7 {w v : Mem} (h : Rel w v) (x1 x2 x3 : Int32) : ∃ r w' v', f_X10_file x1 x2 x3 w = some (r, w') ∧ f_X11_file x1 x2 x3 v = some (r, v') ∧ Rel w' v' := by
  have h0 := h
  obtain ⟨hD, hP, hH, hB, hJ, hS, hF, hR, hT⟩ := h
  obtain ⟨n, hn, e1, e2, e3⟩ := id (hD 14 (by omega))
  have z14 : (14 : Int32).toNatClampNeg = 14 := rfl
  have g14 : inb 14 15 = true := by decide
  have e4 := nI_toInt (n := n) (by omega)
  have e5 : (nI n - 1).toInt = n - 1 := by rw [i_sub (by rw [e4]; simp; omega) (by rw [e4]; simp; omega), e4]; rfl
  unfold f_X10_file f_X11_file
  simp only [lt_e]
  rw [gd_t g14, z14, e1, e2, wi_eq x2 12 (by decide), wi_eq x3 12 (by decide)]
  rcases in_c x1 0 (nI n - 1) with ⟨q, k1⟩ | ⟨q, k1⟩
  rotate_left
  · rw [q, bd_s, if_pos rfl]
    rw [e5] at k1
    refine ⟨-1, w, v, ?_, rfl, h0⟩
    by_cases c : x1 < 0
    · rw [if_pos c]
    · rw [if_neg c, if_pos (by rw [i_lt] at c; rw [i_le, e4]; simp at c k1 ⊢; omega)]
  rw [e5] at k1
  simp at k1
  rw [q, bd_s, if_neg one_ne, if_neg (show ¬ x1 < 0 by rw [i_lt]; simp; omega), if_neg (show ¬ nI n ≤ x1 by rw [i_le, e4]; omega)]
  rw [show (-(12 : Int32)) = -12 from rfl]
  rcases in_c x2 (-12) 12 with ⟨q2, k2⟩ | ⟨q2, k2⟩
  rotate_left
  · rw [q2, bd_s, bd_s, if_pos rfl, if_pos rfl]; exact ⟨-1, w, v, rfl, rfl, h0⟩
  rw [q2, bd_s, bd_s, if_neg one_ne, if_neg one_ne]
  rcases in_c x3 (-12) 12 with ⟨q3, k3⟩ | ⟨q3, k3⟩
  rotate_left
  · rw [q3, bd_s, bd_s, if_pos rfl, if_pos rfl]; exact ⟨-1, w, v, rfl, rfl, h0⟩
  rw [q3, bd_s, bd_s, if_neg one_ne, if_neg one_ne]
  obtain ⟨k, hk, rfl⟩ := i_nat (x := x1) (N := n) (by omega) (by omega) (by omega)
  rw [gd_t (inb_nI (by omega) (by omega)), show (672 : Int32) + nI k = nI (672 + k) from by rw [nI_lit 672, nI_add], gd_t (inb_nI (by omega) (by omega)), nI_clamp (by omega), nI_clamp (by omega)]
  simp at k2 k3
  refine ⟨1, mS (mS w (3*14+1) k x2) (3*14+2) k x3, mS (mS v 4 (672+k) x2) 5 (672+k) x3, rfl, rfl, ?_, ?_, ?_, ?_, ?_, ?_, ?_, ?_, ?_⟩
  · intro d hd
    obtain ⟨m, hm, f1, f2, f3⟩ := hD d hd
    refine ⟨m, hm, by rw [mS_ne (by omega), mS_ne (by omega)]; exact f1, by rw [mS_ne (by omega), mS_ne (by omega)]; exact f2, fun j hj => ?_⟩
    by_cases q : d = 14 ∧ j = k
    · obtain ⟨rfl, rfl⟩ := q; rw [mS_ne (a := 3*14+1) (o := 3*14+2) (by decide), mS_eq, mS_eq, mS_ne (a := 4) (o := 5) (by decide), mS_eq, mS_eq]; exact ⟨rfl, rfl, ⟨by omega, by omega⟩, ⟨by omega, by omega⟩⟩
    · have a := f3 j hj; rw [mS_at, mS_at, mS_at, mS_at, mS_at, mS_at, mS_at, mS_at, if_neg (by omega), if_neg (by omega), if_neg (by omega), if_neg (by omega), if_neg (by omega), if_neg (by omega), if_neg (by omega), if_neg (by omega)]; exact a
  · exact RP_c hP (by first | rfl | simp [mS_o, mC_o]) (by first | rfl | simp [mS_o, mC_o]) (by first | rfl | simp [mS_o, mC_o]) (by first | rfl | simp [mS_at]) (by first | rfl | simp [mS_at]) (by first | rfl | simp [mS_o, mC_o]) (by first | rfl | simp [mS_o, mC_o])
  · exact RH_c hH (by first | rfl | (simp [mS_at]; done) | simp (disch := omega) only [mS_ne]) (by first | rfl | simp [mS_o, mC_o] | simp (disch := omega) only [mS_o, mC_o]) (by first | rfl | (simp [mS_at]; done) | simp (disch := omega) only [mS_ne]) (by first | rfl | simp [mS_o, mC_o] | simp (disch := omega) only [mS_o, mC_o])
  · exact RB_c hB (by first | rfl | simp [mS_o, mC_o] | simp (disch := omega) only [mS_o, mC_o]) (by first | rfl | simp [mS_o, mC_o] | simp (disch := omega) only [mS_o, mC_o]) (by first | rfl | simp [mS_o, mC_o] | simp (disch := omega) only [mS_o, mC_o]) (by first | rfl | (simp [mS_at]; done) | simp (disch := omega) only [mS_ne]) (by first | rfl | (simp [mS_at]; done) | simp (disch := omega) only [mS_ne]) (by first | rfl | (simp [mS_at]; done) | simp (disch := omega) only [mS_ne]) (by first | rfl | (simp [mS_at]; done) | simp (disch := omega) only [mS_ne])
  · exact RJ_c hJ (by first | rfl | (simp [mS_at]; done) | simp (disch := omega) only [mS_ne]) (by first | rfl | simp [mS_o, mC_o] | simp (disch := omega) only [mS_o, mC_o]) (by first | rfl | simp [mS_o, mC_o] | simp (disch := omega) only [mS_o, mC_o]) (by first | rfl | (simp [mS_at]; done) | simp (disch := omega) only [mS_ne]) (by first | rfl | simp [mS_o, mC_o] | simp (disch := omega) only [mS_o, mC_o]) (by first | rfl | simp [mS_o, mC_o] | simp (disch := omega) only [mS_o, mC_o])
  · exact RS_c hS (by first | rfl | simp [mS_o, mC_o] | simp (disch := omega) only [mS_o, mC_o]) (by first | rfl | simp [mS_o, mC_o] | simp (disch := omega) only [mS_o, mC_o]) (by first | rfl | simp [mS_o, mC_o] | simp (disch := omega) only [mS_o, mC_o]) (by first | rfl | (simp [mS_at]; done) | simp (disch := omega) only [mS_ne]) (by first | rfl | simp [mS_o, mC_o] | simp (disch := omega) only [mS_o, mC_o]) (by first | rfl | simp [mS_o, mC_o] | simp (disch := omega) only [mS_o, mC_o]) (by first | rfl | simp [mS_o, mC_o] | simp (disch := omega) only [mS_o, mC_o])
  · exact RF_c hF (by first | rfl | (simp [mS_at]; done) | simp (disch := omega) only [mS_ne]) (by first | rfl | simp [mS_o, mC_o] | simp (disch := omega) only [mS_o, mC_o]) (by first | rfl | simp [mS_o, mC_o] | simp (disch := omega) only [mS_o, mC_o]) (by first | rfl | (simp [mS_at]; done) | simp (disch := omega) only [mS_ne]) (by first | rfl | simp [mS_o, mC_o] | simp (disch := omega) only [mS_o, mC_o]) (by first | rfl | simp [mS_o, mC_o] | simp (disch := omega) only [mS_o, mC_o])
  · exact RR_c hR (by first | rfl | (simp [mS_at]; done) | simp (disch := omega) only [mS_ne]) (by first | rfl | (simp [mS_at]; done) | simp (disch := omega) only [mS_ne])
  · exact RT_c hT (fun o h1 h2 => by first | rfl | simp (disch := omega) only [mS_o, mC_o]) (fun o h1 h2 => by first | rfl | simp (disch := omega) only [mL_o, mD_o, mS_at2, mC_2]) (by first | rfl | simp [mS_o, mC_o] | simp (disch := omega) only [mS_o, mC_o]) (by first | rfl | simp [mS_o, mC_o] | simp (disch := omega) only [mS_o, mC_o]) (by first | rfl | simp [mS_o, mC_o] | simp (disch := omega) only [mS_o, mC_o]) (by first | rfl | simp [mL_o, mD_o, mS_at2, mC_2])
-- 49 count
theorem shelves {w v : Mem} (hD : RD w v) : ∀ (k i m m' : Nat) (x : Int32), i + k = 8 → k < m → k < m' → ∃ r, f_X10_shelvesInUse_L4 w m x (nI i) = some r ∧ f_X11_count_L47 v m' x (nI i) = some r := by
  intro k
  induction k with
  | zero =>
    intro i m m' x hi hm hm'
    obtain ⟨m, rfl⟩ : ∃ q, m = q + 1 := ⟨m - 1, by omega⟩
    obtain ⟨m', rfl⟩ : ∃ q, m' = q + 1 := ⟨m' - 1, by omega⟩
    obtain rfl : i = 8 := by omega
    refine ⟨x, ?_, ?_⟩
    · rw [f_X10_shelvesInUse_L4_s, if_pos (by decide)]
    · rw [f_X11_count_L47_s, if_pos (by decide)]
  | succ k ih =>
    intro i m m' x hi hm hm'
    obtain ⟨m, rfl⟩ : ∃ q, m = q + 1 := ⟨m - 1, by omega⟩
    obtain ⟨m', rfl⟩ : ∃ q, m' = q + 1 := ⟨m' - 1, by omega⟩
    obtain ⟨n, hn, e1, e2, e3⟩ := hD i (by omega)
    have e4 := nI_toInt (n := n) (by omega)
    have e5 := nI_toInt (n := i) (by omega)
    by_cases q : n = 0
    · subst q
      obtain ⟨r, a1, a2⟩ := ih (i + 1) m m' x (by omega) (by omega) (by omega)
      refine ⟨r, ?_, ?_⟩
      · rw [f_X10_shelvesInUse_L4_s, if_neg (by rw [i_le, e5]; simp; omega), gd_t (inb_nI (by omega) (by omega)), nI_clamp (by omega)]
        simp only [lt_e]
        rw [e1, if_pos (by decide), nI_s]; exact a1
      · rw [f_X11_count_L47_s, if_neg (by rw [i_le, e5]; simp; omega), gd_t (inb_nI (by omega) (by omega)), nI_clamp (by omega)]
        simp only [lt_e]
        rw [e2, if_pos (by decide), nI_s, Int32.add_zero]; exact a2
    · obtain ⟨r, a1, a2⟩ := ih (i + 1) m m' (x + 1) (by omega) (by omega) (by omega)
      refine ⟨r, ?_, ?_⟩
      · rw [f_X10_shelvesInUse_L4_s, if_neg (by rw [i_le, e5]; simp; omega), gd_t (inb_nI (by omega) (by omega)), nI_clamp (by omega)]
        simp only [lt_e]
        rw [e1, if_neg (by rw [i_le, e4]; simp; omega), nI_s]; exact a1
      · rw [f_X11_count_L47_s, if_neg (by rw [i_le, e5]; simp; omega), gd_t (inb_nI (by omega) (by omega)), nI_clamp (by omega)]
        simp only [lt_e]
        rw [e2, if_neg (by rw [i_le, e4]; simp; omega), nI_s]; exact a2
theorem step_49 {w v : Mem} (h : Rel w v) (x1 : Int32) : ∃ r, f_X10_count x1 w = some r ∧ f_X11_count x1 v = some r := by
  obtain ⟨hD, hP, hH, hB, hJ, hS, hF, hR, hT⟩ := h
  unfold f_X10_count f_X11_count
  by_cases c0 : x1 = 0
  · obtain ⟨n, hn, a, b, _⟩ := hP
    rw [if_pos c0, if_pos c0, a, b]; exact ⟨_, rfl, rfl⟩
  rw [if_neg c0, if_neg c0]
  by_cases c1 : x1 = 1
  · obtain ⟨r, a, b⟩ := shelves hD 8 0 FU FU 0 (by omega) (by unfold FU; omega) (by unfold FU; omega)
    rw [if_pos c1, if_pos c1]
    refine ⟨r, ?_, ?_⟩
    · unfold f_X10_shelvesInUse
      rw [show (0 : Int32) = nI 0 from rfl] at a ⊢
      rw [a]; rfl
    · rw [show (0 : Int32) = nI 0 from rfl] at b ⊢
      rw [b]; rfl
  rw [if_neg c1, if_neg c1]
  by_cases c2 : x1 = 2
  · obtain ⟨n, hn, a, b, _⟩ := hH
    rw [if_pos c2, if_pos c2, a, b]; exact ⟨_, rfl, rfl⟩
  rw [if_neg c2, if_neg c2]
  by_cases c3 : x1 = 3
  · obtain ⟨n, hn, a, b, _⟩ := hJ
    rw [if_pos c3, if_pos c3, a, b]; exact ⟨_, rfl, rfl⟩
  rw [if_neg c3, if_neg c3]
  by_cases c4 : x1 = 4
  · obtain ⟨n, hn, a, b, _⟩ := hF
    rw [if_pos c4, if_pos c4, a, b]; exact ⟨_, rfl, rfl⟩
  rw [if_neg c4, if_neg c4]
  by_cases c5 : x1 = 5
  · rw [if_pos c5, if_pos c5, hR]; exact ⟨_, rfl, rfl⟩
  rw [if_neg c5, if_neg c5]
  exact ⟨_, rfl, rfl⟩
