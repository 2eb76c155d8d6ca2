/-! ===== the hem measured (50: by wip/gen/p50.txt and fr.py) ===== -/
theorem can_e {w v : Mem} (hD : RD w v) {r : Int32} (e : f_X11_lengthOf 14 v = some r) (hr : v.1 3 14 = 0 → r = 0) : f_X11_canHem v = some (if r.toInt ≤ 0 then 0 else 1) := by
  obtain ⟨n, hn, e1, e2, e3⟩ := hD 14 (by omega)
  have e4 := nI_toInt (n := n) (by omega)
  have z14 : (14 : Int32).toNatClampNeg = 14 := rfl
  unfold f_X11_canHem
  rw [gd_t (show inb 14 15 = true by decide), z14, lt_e, e2]
  by_cases n0 : n = 0
  · subst n0
    rw [if_pos (show nI 0 ≤ 0 by decide), hr e2, if_pos (by decide)]
  rw [if_neg (show ¬ nI n ≤ 0 by rw [i_le, e4]; simp; omega), e, bd_s, lt_e]
  by_cases c : r.toInt ≤ 0
  · rw [if_pos (show r ≤ 0 by rw [i_le]; simpa using c), if_pos c]; rfl
  · rw [if_neg (show ¬ r ≤ 0 by rw [i_le]; simpa using c), if_neg c]; rfl
theorem Rel_72 {w v w' : Mem} (h : Rel w v) (p1 : ∀ o, o ≠ 72 → w'.1 o = w.1 o) (p2 : w'.1 72 1 = w.1 72 1) (p3 : w'.2 = w.2) : Rel w' v := by
  obtain ⟨hD, hP, hH, hB, hJ, hS, hF, hR, hT⟩ := h
  refine ⟨?_, ?_, ?_, ?_, ?_, ?_, ?_, ?_, ?_⟩
  · exact RD_c hD (fun o ho => p1 o (by omega)) rfl rfl rfl
  · exact RP_c hP (p1 _ (by omega)) (p1 _ (by omega)) (p1 _ (by omega)) rfl rfl rfl rfl
  · exact RH_c hH p2 (p1 _ (by omega)) rfl rfl
  · exact RB_c hB (p1 _ (by omega)) (p1 _ (by omega)) rfl rfl rfl rfl rfl
  · exact RJ_c hJ (by rw [p1 76 (by omega)]) (p1 _ (by omega)) (p1 _ (by omega)) rfl rfl rfl
  · exact RS_c hS (p1 _ (by omega)) (p1 _ (by omega)) (p1 _ (by omega)) rfl rfl rfl rfl
  · exact RF_c hF (by rw [p1 83 (by omega)]) (p1 _ (by omega)) (p1 _ (by omega)) rfl rfl rfl
  · exact RR_c hR (by rw [p1 66 (by omega)]) rfl
  · exact RT_c hT (fun o h1 h2 => p1 o (by omega)) (fun o h1 h2 => by rw [p3]) rfl rfl rfl rfl
/-- a number of rounds is tried, and what follows from it -/
theorem choice {S L : Nat} (hS : 1 ≤ S ∧ S ≤ 999) (hL : 1 ≤ L ∧ L ≤ 576) : ∃ a, imax 1 (nI S / nI L) = nI a ∧ a ≤ 999 ∧ ((nI S - nI a * nI L ≤ (nI a + 1) * nI L - nI S ∧ hemR S L = a) ∨ (¬ nI S - nI a * nI L ≤ (nI a + 1) * nI L - nI S ∧ hemR S L = a + 1)) := by
  have q5 : S / L ≤ S := Nat.div_le_self S L
  have q1 : S / L * L ≤ S := Nat.div_mul_le_self S L
  have q3 : (S / L + 1) * L = S / L * L + L := Nat.succ_mul _ _
  rw [pk_div (by omega) (by omega) (by omega), imax_e]
  by_cases c : S < L
  · have q0 : S / L = 0 := Nat.div_eq_of_lt c
    refine ⟨1, by rw [q0, if_pos (by decide)]; rfl, by omega, Or.inl ⟨?_, by unfold hemR; rw [if_pos c]⟩⟩
    rw [nI_1, pk_mul, pk_mul, i_le, i_sub (by rw [nI_toInt (by omega), nI_toInt (by omega)]; omega) (by rw [nI_toInt (by omega), nI_toInt (by omega)]; omega), i_sub (by rw [nI_toInt (by omega), nI_toInt (by omega)]; omega) (by rw [nI_toInt (by omega), nI_toInt (by omega)]; omega), nI_toInt (by omega), nI_toInt (by omega), nI_toInt (by omega)]
    omega
  have q4 : 1 ≤ S / L := (Nat.one_le_div_iff (by omega)).mpr (by omega)
  have cmp : (nI S - nI (S / L) * nI L ≤ (nI (S / L) + 1) * nI L - nI S) ↔ S - S / L * L ≤ (S / L + 1) * L - S := by
    have q2 : S < S / L * L + L := by have := Nat.lt_div_mul_add (a := S) (b := L) (by omega); omega
    rw [nI_1, pk_mul, pk_mul, i_le, i_sub (by rw [nI_toInt (by omega), nI_toInt (by omega)]; omega) (by rw [nI_toInt (by omega), nI_toInt (by omega)]; omega), i_sub (by rw [nI_toInt (by omega), nI_toInt (by omega)]; omega) (by rw [nI_toInt (by omega), nI_toInt (by omega)]; omega), nI_toInt (by omega), nI_toInt (by omega), nI_toInt (by omega)]
    omega
  refine ⟨S / L, ?_, by omega, ?_⟩
  · by_cases z : nI (S / L) ≤ 1
    · rw [if_pos z]
      rw [nI_lit 1, nI_leI (by omega) (by omega)] at z
      rw [show S / L = 1 by omega]; rfl
    · rw [if_neg z]
  · unfold hemR
    rw [if_neg c, cmp]
    by_cases d : S - S / L * L ≤ (S / L + 1) * L - S
    · exact Or.inl ⟨d, by rw [if_pos d]⟩
    · exact Or.inr ⟨d, by rw [if_neg d]⟩
