/-! ===== 18 judge, 0 begin (54: by wip/gen/p54.txt and fr.py) ===== -/
theorem ag_e {w : Mem} {t s : Nat} (ht : t < 6) (hs : s ≤ 5) (e : w.1 (48+2*t) 2 = nI s) (y : Int32) : f_X10_againstSort (nI t) y w = some (if s = 0 then -11 else if nI s = y then 0 else -12) := by
  unfold f_X10_againstSort
  have e4 := nI_toInt (n := t) (by omega)
  rw [tp_eq, in_t (by rw [e4]; simp; omega), bd_s, if_neg one_ne, gd_t (inb_nI ht (by omega))]
  simp only [lt_e]
  rw [nI_clamp (by omega), e]
  by_cases s0 : s = 0
  · subst s0; rw [if_pos (show nI 0 = 0 by decide), if_pos rfl]
  · rw [if_neg (nz (n := s) (by omega) (by omega)), if_neg s0]
def okj (x f C : Int32) : Prop := (-12 ≤ x.toInt ∧ x.toInt ≤ 12) ∧ ((x.toInt - f.toInt).natAbs : Int) ≤ C.toInt
theorem wi_c {x C : Int32} (hC : 0 ≤ C.toInt) : (f_X10_isWithin x C = some 1 ∧ (x.toInt.natAbs : Int) ≤ C.toInt) ∨ (f_X10_isWithin x C = some 0 ∧ ¬ (x.toInt.natAbs : Int) ≤ C.toInt) := by
  have eN : (-C).toInt = -C.toInt := i_neg (by omega)
  rw [wi_eq _ C (by omega)]
  rcases in_c x (-C) C with ⟨p, k4⟩ | ⟨p, k4⟩
  · exact Or.inl ⟨p, by omega⟩
  · exact Or.inr ⟨p, by omega⟩
theorem judC_s {w v : Mem} {i n S L t T j m : Nat} {C x x5 : Int32} (hm : HM w v i n S L) (hT : T ≤ 400) (eT : w.1 (48+2*t) 3 = nI T) (eR : j < 400 → (w.2 (49+2*t) j).toInt32 = x) (hC : 0 ≤ C.toInt) (hj : j < hemR S L * n) : (T ≤ j ∧ f_X3_judged_L23 w t 14 C (m + 1) x5 (nI j) = some (.inl (-13))) ∨ (j < T ∧ okj x (v.1 5 (672 + j % n)) C ∧ f_X3_judged_L23 w t 14 C (m + 1) x5 (nI j) = f_X3_judged_L23 w t 14 C m (x5 + x) (nI (j + 1))) ∨ (j < T ∧ ¬ okj x (v.1 5 (672 + j % n)) C ∧ f_X3_judged_L23 w t 14 C (m + 1) x5 (nI j) = some (.inl (nI j))) := by
  obtain ⟨hi, hn, e1, e2, hS, hL, e3, e4, e5, e6, e7⟩ := hm
  have hA := HM_A hS hL hn
  have jm : j % n < n := Nat.mod_lt _ (by omega)
  obtain ⟨q1, q2⟩ := e7 (j % n) jm
  have hN : ¬ nI (hemR S L * n) ≤ nI j := by rw [nI_leI (by omega) (by omega)]; omega
  by_cases c : j < T
  rotate_left
  · refine Or.inl ⟨by omega, ?_⟩
    rw [f_X3_judged_L23_s, e6, if_neg hN, eT, if_neg (by rw [nI_ltI (by omega) (by omega)]; exact c)]
  have g1 : nI j < nI T := by rw [nI_ltI (by omega) (by omega)]; exact c
  have ex : f_X3_judged_L23 w t 14 C (m + 1) x5 (nI j) = (bd (f_X10_isWithin x 12) fun r_12 =>
        if r_12 = 0 then
          (some (.inl (nI j)))
        else
          (bd (f_X10_isWithin (x - (v.1 5 (672 + j % n))) C) fun r_19 =>
          if r_19 = 0 then
            (some (.inl (nI j)))
          else f_X3_judged_L23 w t 14 C m (x5 + x) (nI (j + 1)))) := by
    rw [f_X3_judged_L23_s, e6, if_neg hN, eT, if_pos g1, gd_t (inb_nI (by omega) (by omega)), e2]
    simp only [lt_e]
    rw [nI_clamp (n := j) (by omega), eR (by omega), rem_e (by omega) (by omega) (by omega), nI_clamp (n := j % n) (by omega), q1, nI_s]
    simp only [gd_t (nz hn.1 (show n < 2147483648 by omega)), gd_t (inb_nI (show j % n < 48 by omega) (show 48 ≤ 2147483648 by omega))]
  refine Or.inr ?_
  rw [ex]
  rcases wi_c (x := x) (C := 12) (by decide) with ⟨p, k1⟩ | ⟨p, k1⟩
  rotate_left
  · refine Or.inr ⟨c, fun o => k1 ?_, by rw [p]; rfl⟩
    have := o.1
    simp; omega
  simp at k1
  unfold ir at q2
  have ed : (x - v.1 5 (672+j%n)).toInt = x.toInt - (v.1 5 (672+j%n)).toInt := i_sub (by omega) (by omega)
  rcases wi_c (x := x - v.1 5 (672+j%n)) (C := C) hC with ⟨p2, k2⟩ | ⟨p2, k2⟩
  · refine Or.inl ⟨c, ⟨by omega, by rw [← ed]; exact k2⟩, by rw [p, bd_s, p2]; rfl⟩
  · refine Or.inr ⟨c, fun o => k2 (by rw [ed]; exact o.2), by rw [p, bd_s, p2]; rfl⟩
theorem judM_s {v : Mem} {n A t T j m : Nat} {C x x5 : Int32} (hn : 1 ≤ n ∧ n ≤ 48) (e1 : v.1 3 14 = nI n) (ir5 : ir 12 (v.1 5 (672 + j % n))) (ht : t < 6) (hT : T ≤ 400) (eT : v.1 16 t = nI T) (eR : j < 400 → (v.2 17 (400*t+j)).toInt32 = x) (hA : A ≤ 47952) (hj : j < A) : (T ≤ j ∧ f_X11_judge_L94 v (nI t) (nI A) C (m + 1) x5 (nI j) = some (.inl (-13, mS v 0 25 (v.1 0 25 + 1)))) ∨ (j < T ∧ okj x (v.1 5 (672 + j % n)) C ∧ f_X11_judge_L94 v (nI t) (nI A) C (m + 1) x5 (nI j) = f_X11_judge_L94 v (nI t) (nI A) C m (x5 + x) (nI (j + 1))) ∨ (j < T ∧ ¬ okj x (v.1 5 (672 + j % n)) C ∧ f_X11_judge_L94 v (nI t) (nI A) C (m + 1) x5 (nI j) = some (.inl (nI j, v))) := by
  have jm : j % n < n := Nat.mod_lt _ (by omega)
  have hN : ¬ nI A ≤ nI j := by rw [nI_leI (by omega) (by omega)]; omega
  by_cases c : j < T
  rotate_left
  · refine Or.inl ⟨by omega, ?_⟩
    rw [f_X11_judge_L94_s, if_neg hN, nI_clamp (n := t) (by omega), eT, if_neg (by rw [nI_ltI (by omega) (by omega)]; exact c), ref_M]
    rfl
  have g1 : nI j < nI T := by rw [nI_ltI (by omega) (by omega)]; exact c
  have ex : f_X11_judge_L94 v (nI t) (nI A) C (m + 1) x5 (nI j) = (bd (f_X11_in x (-12) 12) fun r_28 =>
        if r_28 = 0 then
          (some (.inl (nI j, v)))
        else if iabs (x - (v.1 5 (672 + j % n))) ≤ C then f_X11_judge_L94 v (nI t) (nI A) C m (x5 + x) (nI (j + 1)) else (some (.inl (nI j, v)))) := by
    rw [f_X11_judge_L94_s, if_neg hN, nI_clamp (n := t) (by omega), eT, if_pos g1, ix400, gd_t (inb_nI (by omega) (by omega))]
    simp only [lt_e]
    rw [nI_clamp (n := 400*t+j) (by omega), eR (by omega), z14, e1, rem_e (by omega) (by omega) (by omega), i672, nI_clamp (n := 672 + j % n) (by omega), away_e, nI_s]
    simp only [gd_t (nz hn.1 (show n < 2147483648 by omega)), gd_t (inb_nI (show 672 + j % n < 720 by omega) (show 720 ≤ 2147483648 by omega)), bd_s]
  refine Or.inr ?_
  rw [ex]
  rcases in_c x (-12) 12 with ⟨p, k1⟩ | ⟨p, k1⟩
  rotate_left
  · refine Or.inr ⟨c, fun o => k1 ?_, by rw [p]; rfl⟩
    have := o.1
    exact ⟨by simpa using this.1, by simpa using this.2⟩
  have k3 : -12 ≤ x.toInt ∧ x.toInt ≤ 12 := ⟨by simpa using k1.1, by simpa using k1.2⟩
  unfold ir at ir5
  have ed : (x - v.1 5 (672+j%n)).toInt = x.toInt - (v.1 5 (672+j%n)).toInt := i_sub (by omega) (by omega)
  have ei : (iabs (x - v.1 5 (672+j%n))).toInt = ((x - v.1 5 (672+j%n)).toInt.natAbs : Int) := iabs_t (by omega)
  rw [p, bd_s, if_neg one_ne]
  by_cases d : iabs (x - v.1 5 (672+j%n)) ≤ C
  · rw [if_pos d]
    rw [i_le, ei, ed] at d
    exact Or.inl ⟨c, ⟨k3, d⟩, rfl⟩
  · rw [if_neg d]
    rw [i_le, ei, ed] at d
    exact Or.inr ⟨c, fun o => d o.2, rfl⟩
theorem judge_L {w v : Mem} {i n S L t T : Nat} {C : Int32} (hm : HM w v i n S L) (ht : t < 6) (hT : T ≤ 400) (eT : w.1 (48+2*t) 3 = nI T) (eU : v.1 16 t = nI T) (eR : ∀ j, j < 400 → w.2 (49+2*t) j = v.2 17 (400*t+j)) (hC : 0 ≤ C.toInt) : ∀ (k j m m' : Nat) (x5 : Int32), j + k = hemR S L * n → k < m → k < m' → (∃ s, f_X3_judged_L23 w t 14 C m x5 (nI j) = some (.inr s) ∧ f_X11_judge_L94 v (nI t) (nI (hemR S L * n)) C m' x5 (nI j) = some (.inr s)) ∨ (∃ a, a < hemR S L * n ∧ f_X3_judged_L23 w t 14 C m x5 (nI j) = some (.inl (nI a)) ∧ f_X11_judge_L94 v (nI t) (nI (hemR S L * n)) C m' x5 (nI j) = some (.inl (nI a, v))) ∨ (f_X3_judged_L23 w t 14 C m x5 (nI j) = some (.inl (-13)) ∧ f_X11_judge_L94 v (nI t) (nI (hemR S L * n)) C m' x5 (nI j) = some (.inl (-13, mS v 0 25 (v.1 0 25 + 1)))) := by
  have hm0 := hm
  obtain ⟨hi, hn, e1, e2, hS, hL, e3, e4, e5, e6, e7⟩ := hm
  have hA := HM_A hS hL hn
  intro k
  induction k with
  | zero =>
    intro j m m' x5 hj k1 k2
    obtain ⟨m, rfl⟩ : ∃ q, m = q + 1 := ⟨m - 1, by omega⟩
    obtain ⟨m', rfl⟩ : ∃ q, m' = q + 1 := ⟨m' - 1, by omega⟩
    refine Or.inl ⟨x5, ?_, ?_⟩
    · rw [f_X3_judged_L23_s, e6, if_pos (by rw [nI_leI (by omega) (by omega)]; omega)]
    · rw [f_X11_judge_L94_s, if_pos (by rw [nI_leI (by omega) (by omega)]; omega)]
  | succ k ih =>
    intro j m m' x5 hj k1 k2
    obtain ⟨m, rfl⟩ : ∃ q, m = q + 1 := ⟨m - 1, by omega⟩
    obtain ⟨m', rfl⟩ : ∃ q, m' = q + 1 := ⟨m' - 1, by omega⟩
    have jm : j % n < n := Nat.mod_lt _ (by omega)
    rcases judC_s (m := m) (x5 := x5) hm0 hT eT (fun q => by rw [eR j q]) hC (j := j) (by omega) with ⟨a1, a2⟩ | ⟨a1, a2, a3⟩ | ⟨a1, a2, a3⟩ <;>
    rcases judM_s (m := m') (x5 := x5) (C := C) (A := hemR S L * n) hn e1 (e7 (j % n) jm).2 ht hT eU (fun _ => rfl) hA.2 (by omega) with ⟨b1, b2⟩ | ⟨b1, b2, b3⟩ | ⟨b1, b2, b3⟩
    · exact Or.inr (Or.inr ⟨a2, b2⟩)
    · omega
    · omega
    · omega
    · rw [a3, b3]; exact ih (j + 1) m m' _ (by omega) (by omega) (by omega)
    · exact absurd a2 b2
    · omega
    · exact absurd b2 a2
    · exact Or.inr (Or.inl ⟨j, by omega, a3, b3⟩)
theorem step_18 {w v : Mem} (h : Rel w v) (x1 x2 : Int32) : ∃ r w' v', f_X10_judge x1 x2 w = some (r, w') ∧ f_X11_judge x1 x2 v = some (r, v') ∧ Rel w' v' := by
  unfold f_X10_judge f_X11_judge
  rw [tp_eq, tpm_eq]
  rcases in_c x1 0 5 with ⟨q, k1⟩ | ⟨q, k1⟩
  rotate_left
  · rw [q, bd_s, bd_s, if_pos rfl, if_pos rfl]; exact ⟨-1, w, v, rfl, rfl, h⟩
  rw [q, bd_s, bd_s, if_neg one_ne, if_neg one_ne]
  simp at k1
  obtain ⟨t, ht, rfl⟩ := i_nat (x := x1) (N := 6) (by omega) (by omega) (by omega)
  rcases measH h x2 with ⟨i, n, S, L, w', rfl, hm, p1, p2, p3, p4, p5, p6, p7, p8, hr⟩ | ⟨p1, p2⟩
  rotate_left
  · rw [p1, b2_s, if_pos rfl]
    rcases p2 with p2 | ⟨p2, p3⟩
    · rw [p2, bd_s, if_pos rfl]; exact ⟨-3, w, v, rfl, rfl, h⟩
    · rw [p2, bd_s, if_neg one_ne, p3, bd_s, if_pos rfl]; exact ⟨-3, w, v, rfl, rfl, h⟩
  obtain ⟨⟨s, hs, a1, a2, a3⟩, ⟨T, hT, b1, b2⟩, c⟩ := hr.2.2.2.2.2.2.2.2 t ht
  rw [p3, b2_s, if_neg one_ne, p1, bd_s, if_neg one_ne, p2, bd_s, if_neg one_ne, ag_e ht hs a1, bd_s, gd_t (inb_nI ht (by omega)), gd_t (inb_nI ht (by omega)), nI_clamp (n := t) (by omega), a2]
  by_cases s0 : s = 0
  · subst s0
    rw [if_pos rfl, if_neg (show ¬ (-11 : Int32) = 0 by decide), if_pos (show nI 0 = 0 by decide), ref_C w' (by decide), ref_M]
    exact ⟨-11, _, _, rfl, rfl, Rel_ref hr⟩
  rw [if_neg s0, if_neg (nz (n := s) (by omega) (by omega))]
  by_cases s2 : s = 2
  rotate_left
  · have ns2 : ¬ nI s = 2 := nI_ne (a := s) (b := 2) (by omega) (by omega) s2
    rw [if_neg ns2, if_neg (show ¬ (-12 : Int32) = 0 by decide), if_neg ns2, ref_C w' (by decide), ref_M]
    exact ⟨-12, _, _, rfl, rfl, Rel_ref hr⟩
  subst s2
  have rd := HM_rd hm
  obtain ⟨y, C, l1, l2, l3, l4, l5, l6⟩ := look hm
  have hm0 := hm
  obtain ⟨hi, hn, e1, e2, hS, hL, e3, e4, e5, e6, e7⟩ := hm
  have hA := HM_A hS hL hn
  rw [if_pos (show nI 2 = 2 by decide), if_pos rfl, if_pos (show nI 2 = 2 by decide), rd, bd_s, gd_t g14, lt_e, lt_e, z14, e1, pk_mul (a := hemR S L) (b := n), l6, bd_s, if_pos rfl]
  unfold f_X3_judged
  rw [e2, if_pos (by rw [i_le, nI_toInt (by omega)]; simp; omega), l2, bd_s, show f_X3_judged_L23 w' t 14 C FU 0 0 = f_X3_judged_L23 w' t 14 C FU 0 (nI 0) from rfl, show f_X11_judge_L94 v (nI t) (nI (hemR S L * n)) C FU 0 0 = f_X11_judge_L94 v (nI t) (nI (hemR S L * n)) C FU 0 (nI 0) from rfl]
  rcases judge_L hm0 ht hT b1 b2 c l3 (hemR S L * n) 0 FU FU 0 (by omega) (by unfold FU; omega) (by unfold FU; omega) with ⟨r, g1, g2⟩ | ⟨a, ha, g1, g2⟩ | ⟨g1, g2⟩
  · rw [g1, g2, bd_s, bd_s]
    simp only [sm]
    rw [gd_t (inb_nI (by omega) (by omega)), gd_t (inb_nI (by omega) (by omega)), lt_e, lt_e, nI_clamp (n := i) (by omega), bd_s, p5, e3, e6]
    have nr : -11 < (if r = nI S then (9999 : Int32) else nI (hemR S L * n)).toInt := by
      split
      · decide
      · rw [nI_toInt (by omega)]; omega
    rw [ref_N w' nr]
    exact ⟨_, _, _, rfl, rfl, hr⟩
  · rw [g1, g2, bd_s, bd_s]
    simp only [sm]
    rw [bd_s, ref_N w' (by rw [nI_toInt (by omega)]; omega)]
    exact ⟨_, _, _, rfl, rfl, hr⟩
  · rw [g1, g2, bd_s, bd_s]
    simp only [sm]
    rw [bd_s, ref_C w' (by decide)]
    exact ⟨-13, _, _, rfl, rfl, Rel_ref hr⟩
