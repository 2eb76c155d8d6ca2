/-! ===== the hem measured (50: by wip/gen/p50.txt and fr.py) ===== -/
theorem can_e {w v : Mem} (hD : RD w v) {r : Int32} (e : f_X11_lengthOf 14 v = some r) (hr : v.1 3 14 = 0 → r = 0) : f_X11_canHem v = some (if r.toInt ≤ 0 then 0 else 1) := by
  obtain ⟨n, hn, e1, e2, e3⟩ := hD 14 (by omega)
  have e4 := nI_toInt (n := n) (by omega)
  have z14 : (14 : Int32).toNatClampNeg = 14 := rfl
  unfold f_X11_canHem
  rw [gd_t (show inb 14 15 = true by decide), z14, lt_e, e2]
  by_cases n0 : n = 0
  · subst n0
    rw [if_pos (show nI 0 ≤ 0 by decide), hr e2, if_pos (by decide)]
  rw [if_neg (show ¬ nI n ≤ 0 by rw [i_le, e4]; simp; omega), e, bd_s, lt_e]
  by_cases c : r.toInt ≤ 0
  · rw [if_pos (show r ≤ 0 by rw [i_le]; simpa using c), if_pos c]; rfl
  · rw [if_neg (show ¬ r ≤ 0 by rw [i_le]; simpa using c), if_neg c]; rfl
theorem Rel_72 {w v w' : Mem} (h : Rel w v) (p1 : ∀ o, o ≠ 72 → w'.1 o = w.1 o) (p2 : w'.1 72 1 = w.1 72 1) (p3 : w'.2 = w.2) : Rel w' v := by
  obtain ⟨hD, hP, hH, hB, hJ, hS, hF, hR, hT⟩ := h
  refine ⟨?_, ?_, ?_, ?_, ?_, ?_, ?_, ?_, ?_⟩
  · exact RD_c hD (fun o ho => p1 o (by omega)) rfl rfl rfl
  · exact RP_c hP (p1 _ (by omega)) (p1 _ (by omega)) (p1 _ (by omega)) rfl rfl rfl rfl
  · exact RH_c hH p2 (p1 _ (by omega)) rfl rfl
  · exact RB_c hB (p1 _ (by omega)) (p1 _ (by omega)) rfl rfl rfl rfl rfl
  · exact RJ_c hJ (by rw [p1 76 (by omega)]) (p1 _ (by omega)) (p1 _ (by omega)) rfl rfl rfl
  · exact RS_c hS (p1 _ (by omega)) (p1 _ (by omega)) (p1 _ (by omega)) rfl rfl rfl rfl
  · exact RF_c hF (by rw [p1 83 (by omega)]) (p1 _ (by omega)) (p1 _ (by omega)) rfl rfl rfl
  · exact RR_c hR (by rw [p1 66 (by omega)]) rfl
  · exact RT_c hT (fun o h1 h2 => p1 o (by omega)) (fun o h1 h2 => by rw [p3]) rfl rfl rfl rfl
/-- a number of rounds is tried, and what follows from it -/
theorem choice {S L : Nat} (hS : 1 ≤ S ∧ S ≤ 999) (hL : 1 ≤ L ∧ L ≤ 576) : ∃ a, imax 1 (nI S / nI L) = nI a ∧ a ≤ 999 ∧ ((nI S - nI a * nI L ≤ (nI a + 1) * nI L - nI S ∧ hemR S L = a) ∨ (¬ nI S - nI a * nI L ≤ (nI a + 1) * nI L - nI S ∧ hemR S L = a + 1)) := by
  have q5 : S / L ≤ S := Nat.div_le_self S L
  have q1 : S / L * L ≤ S := Nat.div_mul_le_self S L
  have q3 : (S / L + 1) * L = S / L * L + L := Nat.succ_mul _ _
  rw [pk_div (by omega) (by omega) (by omega), imax_e]
  by_cases c : S < L
  · have q0 : S / L = 0 := Nat.div_eq_of_lt c
    refine ⟨1, by rw [q0, if_pos (by decide)]; rfl, by omega, Or.inl ⟨?_, by unfold hemR; rw [if_pos c]⟩⟩
    rw [nI_1, pk_mul, pk_mul, i_le, i_sub (by rw [nI_toInt (by omega), nI_toInt (by omega)]; omega) (by rw [nI_toInt (by omega), nI_toInt (by omega)]; omega), i_sub (by rw [nI_toInt (by omega), nI_toInt (by omega)]; omega) (by rw [nI_toInt (by omega), nI_toInt (by omega)]; omega), nI_toInt (by omega), nI_toInt (by omega), nI_toInt (by omega)]
    omega
  have q4 : 1 ≤ S / L := (Nat.one_le_div_iff (by omega)).mpr (by omega)
  have cmp : (nI S - nI (S / L) * nI L ≤ (nI (S / L) + 1) * nI L - nI S) ↔ S - S / L * L ≤ (S / L + 1) * L - S := by
    have q2 : S < S / L * L + L := by have := Nat.lt_div_mul_add (a := S) (b := L) (by omega); omega
    rw [nI_1, pk_mul, pk_mul, i_le, i_sub (by rw [nI_toInt (by omega), nI_toInt (by omega)]; omega) (by rw [nI_toInt (by omega), nI_toInt (by omega)]; omega), i_sub (by rw [nI_toInt (by omega), nI_toInt (by omega)]; omega) (by rw [nI_toInt (by omega), nI_toInt (by omega)]; omega), nI_toInt (by omega), nI_toInt (by omega), nI_toInt (by omega)]
    omega
  refine ⟨S / L, ?_, by omega, ?_⟩
  · by_cases z : nI (S / L) ≤ 1
    · rw [if_pos z]
      rw [nI_lit 1, nI_leI (by omega) (by omega)] at z
      rw [show S / L = 1 by omega]; rfl
    · rw [if_neg z]
  · unfold hemR
    rw [if_neg c, cmp]
    by_cases d : S - S / L * L ≤ (S / L + 1) * L - S
    · exact Or.inl ⟨d, by rw [if_pos d]⟩
    · exact Or.inr ⟨d, by rw [if_neg d]⟩
/-- the class measures, the reference can hem: both or neither -/
theorem meas {w v : Mem} (h : Rel w v) (x1 : Int32) : (∃ (j n S L : Nat) (w' : Mem), j < 8 ∧ x1 = nI j ∧ (1 ≤ n ∧ n ≤ 48) ∧ v.1 3 14 = nI n ∧ w.1 (3*14) 2 = nI n ∧ (1 ≤ S ∧ S ≤ 999) ∧ (1 ≤ L ∧ L ≤ 576) ∧ v.1 6 j = nI S ∧ w.1 73 j = nI S ∧ f_X1_sumOfFeeds 14 w = some (nI L) ∧ f_X11_lengthOf 14 v = some (nI L) ∧ f_X11_in x1 0 (v.1 0 8 - 1) = some 1 ∧ f_X11_canHem v = some 1 ∧ f_X11_rounds x1 v = some (nI (hemR S L)) ∧ f_X3_measures x1 14 w = some (1, w') ∧ w'.1 72 2 = nI (hemR S L) ∧ w'.1 72 3 = nI S - nI (hemR S L) * nI L ∧ w'.1 72 4 = nI (hemR S L * n) ∧ (∀ o, o ≠ 72 → w'.1 o = w.1 o) ∧ w'.1 72 1 = w.1 72 1 ∧ w'.2 = w.2 ∧ Rel w' v) ∨ (f_X3_measures x1 14 w = some (0, w) ∧ (f_X11_in x1 0 (v.1 0 8 - 1) = some 0 ∨ (f_X11_in x1 0 (v.1 0 8 - 1) = some 1 ∧ f_X11_canHem v = some 0))) := by
  obtain ⟨ns, hns, s1, s2, s3⟩ := h.2.2.1
  obtain ⟨n, hn, e1, e2, e3⟩ := h.1 14 (by omega)
  obtain ⟨r, p1, p2, p3, p4⟩ := sumB h.1 (d := 14) (by omega)
  have can := can_e h.1 p2 p4
  have e4 := nI_toInt (n := ns) (by omega)
  have e5 : (nI ns - 1).toInt = ns - 1 := by rw [i_sub (by rw [e4]; simp; omega) (by rw [e4]; simp; omega), e4]; rfl
  rw [s2]
  rcases in_c x1 0 (nI ns - 1) with ⟨q, k1⟩ | ⟨q, k1⟩
  rotate_left
  · refine Or.inr ⟨?_, Or.inl q⟩
    rw [e5] at k1
    unfold f_X3_measures
    rw [p1, bd_s, s1]
    by_cases c : x1 < 0
    · rw [if_pos c]
    · rw [if_neg c, if_pos (show nI ns ≤ x1 by rw [i_lt] at c; rw [i_le, e4]; simp at c k1 ⊢; omega)]
  rw [e5] at k1
  simp at k1
  have c1 : ¬ x1 < 0 := by rw [i_lt]; simp; omega
  have c2 : ¬ nI ns ≤ x1 := by rw [i_le, e4]; omega
  by_cases c : r.toInt ≤ 0
  · refine Or.inr ⟨?_, Or.inr ⟨q, by rw [can, if_pos c]⟩⟩
    unfold f_X3_measures
    rw [p1, bd_s, s1, if_neg c1, if_neg c2, if_neg (show ¬ 1 ≤ r by rw [i_le]; simp; omega)]
  obtain ⟨j, hj, rfl⟩ := i_nat (x := x1) (N := ns) (by omega) (by omega) (by omega)
  unfold ir at p3
  obtain ⟨L, hL, rfl⟩ := i_nat (x := r) (N := 577) (by omega) (by omega) (by omega)
  rw [nI_toInt (by omega)] at c
  obtain ⟨t1, t2⟩ := s3 j hj
  unfold ib at t2
  obtain ⟨S, hS, eS⟩ := i_nat (x := v.1 6 j) (N := 1000) (by omega) (by omega) (by omega)
  rw [eS, nI_toInt (by omega)] at t2
  rw [eS] at t1
  have n1 : 1 ≤ n := by
    rcases Nat.eq_zero_or_pos n with z | z
    · subst z
      have := p4 e2
      rw [show (0 : Int32) = nI 0 from rfl, nI_eq (by omega) (by omega)] at this
      omega
    · exact z
  have hS' : 1 ≤ S ∧ S ≤ 999 := by omega
  have hL' : 1 ≤ L ∧ L ≤ 576 := by omega
  have rd := rounds_e (show j < 8 by omega) hS' hL' eS p2
  obtain ⟨a, a1, a2, a3⟩ := choice hS' hL'
  have nz : ¬ nI L = 0 := nI_ne (a := L) (b := 0) (by omega) (by omega) (by omega)
  have fin : ∃ w', f_X3_measures (nI j) 14 w = some (1, w') ∧ w'.1 72 2 = nI (hemR S L) ∧ w'.1 72 3 = nI S - nI (hemR S L) * nI L ∧ w'.1 72 4 = nI (hemR S L * n) ∧ (∀ o, o ≠ 72 → w'.1 o = w.1 o) ∧ w'.1 72 1 = w.1 72 1 ∧ w'.2 = w.2 := by
    unfold f_X3_measures
    rw [p1, bd_s, s1, if_neg c1, if_neg c2, if_pos (show 1 ≤ nI L by rw [i_le, nI_toInt (by omega)]; simp; omega), gd_t (inb_nI (by omega) (by omega)), nI_clamp (by omega), lt_e, t1, gd_t nz, a1, lt_e, lt_e, mS_eq, lt_e, lt_e, lt_e]
    rcases a3 with ⟨a3, a4⟩ | ⟨a3, a4⟩
    · rw [if_pos a3, a4]; simp only [lt_e]
      rw [mS_eq, mS_nj (show (2:Nat) ≠ 3 by decide), mS_eq, mS_ne (show 3*14 ≠ 72 by decide), mS_ne (show 3*14 ≠ 72 by decide), e1, pk_mul (a := a) (b := n)]
      refine ⟨_, rfl, ?_, ?_, ?_, fun o ho => ?_, ?_, rfl⟩
      · rw [mS_nj (by decide), mS_nj (by decide), mS_eq]
      · rw [mS_nj (by decide), mS_eq]
      · rw [mS_eq]
      · rw [mS_o ho, mS_o ho, mS_o ho]
      · rw [mS_nj (by decide), mS_nj (by decide), mS_nj (by decide), s1]
    · rw [if_neg a3, a4, lt_e, nI_1]; simp only [lt_e]
      rw [mS_eq, mS_nj (show (2:Nat) ≠ 3 by decide), mS_eq, mS_ne (show 3*14 ≠ 72 by decide), mS_ne (show 3*14 ≠ 72 by decide), mS_ne (show 3*14 ≠ 72 by decide), e1, pk_mul (a := a + 1) (b := n)]
      refine ⟨_, rfl, ?_, ?_, ?_, fun o ho => ?_, ?_, rfl⟩
      · rw [mS_nj (by decide), mS_nj (by decide), mS_eq]
      · rw [mS_nj (by decide), mS_eq]
      · rw [mS_eq]
      · rw [mS_o ho, mS_o ho, mS_o ho, mS_o ho]
      · rw [mS_nj (by decide), mS_nj (by decide), mS_nj (by decide), mS_nj (by decide), s1]
  obtain ⟨w', g1, g2, g3, g4, g5, g6, g7⟩ := fin
  refine Or.inl ⟨j, n, S, L, w', by omega, rfl, ⟨n1, hn⟩, e2, e1, hS', hL', eS, t1, p1, p2, q, by rw [can, if_neg (by rw [nI_toInt (by omega)]; omega)], rd, g1, g2, g3, g4, g5, by rw [g6, s1], g7, Rel_72 h g5 g6 g7⟩
