/-! ===== 14 hem, 15 fed, 16 meets, 17 feeds (53: by wip/gen/p53.txt and fr.py) ===== -/
theorem len_c {v v' : Mem} (e3 : v'.1 3 = v.1 3) (e5 : v'.1 5 = v.1 5) : ∀ (m : Nat) (d x i : Int32), f_X11_lengthOf_L7 v' d m x i = f_X11_lengthOf_L7 v d m x i := by
  intro m
  induction m with
  | zero => intro d x i; rfl
  | succ m ih =>
    intro d x i
    rw [f_X11_lengthOf_L7_s, f_X11_lengthOf_L7_s, e3, e5]
    simp only [ih]
theorem lenOf_c {v v' : Mem} (e3 : v'.1 3 = v.1 3) (e5 : v'.1 5 = v.1 5) (d : Int32) : f_X11_lengthOf d v' = f_X11_lengthOf d v := by
  unfold f_X11_lengthOf
  simp only [len_c e3 e5]
theorem can_c {v v' : Mem} (e3 : v'.1 3 = v.1 3) (e5 : v'.1 5 = v.1 5) : f_X11_canHem v' = f_X11_canHem v := by
  unfold f_X11_canHem
  rw [e3, lenOf_c e3 e5]
theorem HM_c {w v w' v' : Mem} {i n S L : Nat} (h : HM w v i n S L) (e3 : v'.1 3 = v.1 3) (e5 : v'.1 5 = v.1 5) (e6 : v'.1 6 = v.1 6) (f0 : w'.1 (3*14) = w.1 (3*14)) (f2 : w'.1 (3*14+2) = w.1 (3*14+2)) (f7 : w'.1 72 = w.1 72) : HM w' v' i n S L := by
  unfold HM at *
  rw [e3, e5, e6, lenOf_c e3 e5, f0, f2, f7]
  exact h
theorem HM_rd {w v : Mem} {i n S L : Nat} (h : HM w v i n S L) : f_X11_rounds (nI i) v = some (nI (hemR S L)) := by
  obtain ⟨hi, hn, e1, e2, hS, hL, e3, e4, e5, e6, e7⟩ := h
  exact rounds_e hi hS hL e3 e4
theorem measH {w v : Mem} (h : Rel w v) (x1 : Int32) : (∃ (i n S L : Nat) (w' : Mem), x1 = nI i ∧ HM w' v i n S L ∧ f_X11_in x1 0 (v.1 0 8 - 1) = some 1 ∧ f_X11_canHem v = some 1 ∧ f_X3_measures x1 14 w = some (1, w') ∧ w'.1 72 2 = nI (hemR S L) ∧ w'.1 73 i = nI S ∧ w'.1 72 1 = w.1 72 1 ∧ w'.2 = w.2 ∧ (∀ o, o ≠ 72 → w'.1 o = w.1 o) ∧ Rel w' v) ∨ (f_X3_measures x1 14 w = some (0, w) ∧ (f_X11_in x1 0 (v.1 0 8 - 1) = some 0 ∨ (f_X11_in x1 0 (v.1 0 8 - 1) = some 1 ∧ f_X11_canHem v = some 0))) := by
  rcases meas h x1 with ⟨j, n, S, L, w', a1, a2, a3, a4, a5, a6, a7, a8, a9, a10, a11, a12, a13, a14, a15, a16, a17, a18, a19, a20, a21, a22⟩ | q
  · refine Or.inl ⟨j, n, S, L, w', a2, ⟨a1, a3, a4, by rw [a19 _ (by decide)]; exact a5, a6, a7, a8, a11, a17, a18, fun t ht => ?_⟩, a12, a13, a15, a16, by rw [a19 _ (by decide)]; exact a9, a20, a21, a19, a22⟩
    obtain ⟨n2, hn2, e1, e2, e3⟩ := h.1 14 (by omega)
    rw [a4, nI_eq (by omega) (by omega)] at e2
    subst e2
    rw [a19 _ (by decide)]
    exact ⟨(e3 t ht).2.1, (e3 t ht).2.2.2⟩
  · exact Or.inr q
theorem nle_n {x : Int32} (h : 0 ≤ x.toInt) : ¬ x < 0 := by rw [i_lt]; simp; omega
-- 14 hem
theorem step_14 {w v : Mem} (h : Rel w v) (x1 x2 : Int32) : ∃ k w' b v', f_L_hem x1 x2 w = some (k, w') ∧ f_X11_hem x1 x2 v = some (b, v') ∧ f_X11_thrown v' = some k ∧ (k = 0 → w'.2 88 0 = b.toInt64) ∧ Rel w' v' := by
  unfold f_L_hem f_X10_hem f_X11_hem
  rcases in_c x2 0 4 with ⟨q, k1⟩ | ⟨q, k1⟩
  rotate_left
  · simp only [lt_e]
    rw [q, bd_s, if_pos rfl, if_neg th1]
    refine ⟨1, w, 0, mS v 0 0 1, ?_, rfl, thr1 h 1 (by decide) _⟩
    by_cases c : x2 < 0
    · rw [if_pos c]; rfl
    · rw [if_neg c, if_neg (by rw [i_lt] at c; rw [i_le]; simp at c k1 ⊢; omega)]; rfl
  simp at k1
  simp only [lt_e]
  rw [q, bd_s, if_neg one_ne, if_neg (nle_n k1.1), if_pos (show x2 ≤ 4 by rw [i_le]; simp; omega)]
  rcases measH h x1 with ⟨i, n, S, L, w', rfl, hm, p1, p2, p3, p4, p5, p6, p7, p8, hr⟩ | ⟨p1, p2⟩
  rotate_left
  · rw [p1, b2_s, if_pos rfl, b2_s]
    rcases p2 with p2 | ⟨p2, p3⟩
    · rw [p2, bd_s, if_pos rfl, if_neg th2]; exact ⟨2, w, 0, mS v 0 0 2, rfl, rfl, thr1 h 2 (by decide) _⟩
    · rw [p2, bd_s, if_neg one_ne, p3, bd_s, if_pos rfl, if_neg th2]; exact ⟨2, w, 0, mS v 0 0 2, rfl, rfl, thr1 h 2 (by decide) _⟩
  have hm1 : HM w' (mS v 0 0 0) i n S L := HM_c hm (mS_o (by decide)) (mS_o (by decide)) (mS_o (by decide)) rfl rfl rfl
  have ro := restOf_e hm1
  have rd := HM_rd hm1
  obtain ⟨y, C, l1, l2, l3, l4, l5, l6⟩ := look hm1
  rw [p3, b2_s, if_neg one_ne, p1, bd_s, if_neg one_ne, p2, bd_s, if_neg one_ne, if_pos th0]
  obtain ⟨hi, hn, e1, e2, hS, hL, e3, e4, e5, e6, e7⟩ := hm1
  by_cases c0 : x2 = 0
  · rw [if_pos c0, if_pos c0, b2_s, rd, bd_s, p4]; exact ⟨0, _, _, _, rfl, rfl, thr0 hr _⟩
  rw [if_neg c0, if_neg c0]
  by_cases c1 : x2 = 1
  · rw [if_pos c1, if_pos c1, b2_s, ro, bd_s, e5]; exact ⟨0, _, _, _, rfl, rfl, thr0 hr _⟩
  rw [if_neg c1, if_neg c1]
  by_cases c2 : x2 = 2
  · rw [if_pos c2, if_pos c2, l5, bd_s, b2_s, l6, bd_s, c2, if_neg (show ¬ (2 : Int32) = 4 by decide)]; exact ⟨0, _, _, _, rfl, rfl, thr0 hr _⟩
  rw [if_neg c2, if_neg c2]
  by_cases c3 : x2 = 3
  · rw [if_pos c3, if_pos c3, b2_s, rd, bd_s, gd_t g14, z14, e1, pk_mul (a := hemR S L) (b := n), e6]; exact ⟨0, _, _, _, rfl, rfl, thr0 hr _⟩
  rw [if_neg c3, if_neg c3]
  have c4 : x2 = 4 := by
    rw [i_eq] at c0 c1 c2 c3 ⊢
    simp at c0 c1 c2 c3 ⊢
    omega
  rw [l2, bd_s, b2_s, l6, bd_s, if_pos c4]; exact ⟨0, _, _, _, rfl, rfl, thr0 hr _⟩
-- 15 fed
theorem step_15 {w v : Mem} (h : Rel w v) (x1 x2 : Int32) : ∃ k w' b v', f_L_fed x1 x2 w = some (k, w') ∧ f_X11_fed x1 x2 v = some (b, v') ∧ f_X11_thrown v' = some k ∧ (k = 0 → w'.2 88 0 = b.toInt64) ∧ Rel w' v' := by
  unfold f_L_fed f_X10_fed f_X11_fed
  simp only [lt_e, ↓reduceIte]
  rcases measH h x1 with ⟨i, n, S, L, w', rfl, hm, p1, p2, p3, p4, p5, p6, p7, p8, hr⟩ | ⟨p1, p2⟩
  rotate_left
  · rw [p1, b2_s, if_pos rfl, b2_s]
    rcases p2 with p2 | ⟨p2, p3⟩
    · rw [p2, bd_s, if_pos rfl]; exact ⟨1, w, 0, mS v 0 0 1, rfl, rfl, thr1 h 1 (by decide) _⟩
    · rw [p2, bd_s, if_neg one_ne, p3, bd_s, if_pos rfl]; exact ⟨1, w, 0, mS v 0 0 1, rfl, rfl, thr1 h 1 (by decide) _⟩
  have hm1 : HM w' (mS v 0 0 0) i n S L := HM_c hm (mS_o (by decide)) (mS_o (by decide)) (mS_o (by decide)) rfl rfl rfl
  have rd := HM_rd hm
  have hm2 := hm
  obtain ⟨hi, hn, e1, e2, hS, hL, e3, e4, e5, e6, e7⟩ := hm2
  have hA := HM_A hS hL hn
  have e8 : (nI (hemR S L * n)).toInt = (hemR S L * n : Nat) := nI_toInt (by omega)
  have e9 : (nI (hemR S L * n) - 1).toInt = (hemR S L * n : Nat) - 1 := by rw [i_sub (by rw [e8]; simp; omega) (by rw [e8]; simp; omega), e8]; rfl
  rw [p3, b2_s, if_neg one_ne, p1, bd_s, if_neg one_ne, p2, bd_s, if_neg one_ne, rd, bd_s, gd_t g14, z14, e1, pk_mul (a := hemR S L) (b := n), e6]
  rcases in_c x2 0 (nI (hemR S L * n) - 1) with ⟨q2, k2⟩ | ⟨q2, k2⟩
  rotate_left
  · rw [q2, bd_s, if_pos rfl]
    rw [e9] at k2
    refine ⟨1, w', 0, mS v 0 0 1, ?_, rfl, thr1 hr 1 (by decide) _⟩
    by_cases c : x2 < 0
    · rw [if_pos c]; rfl
    · rw [if_neg c, if_neg (by rw [i_lt] at c; rw [i_lt, e8]; simp at c k2 ⊢; omega)]; rfl
  rw [e9] at k2
  simp at k2
  rw [q2, bd_s, if_neg one_ne, if_neg (nle_n k2.1), if_pos (show x2 < nI (hemR S L * n) by rw [i_lt, e8]; omega)]
  obtain ⟨j, hj, rfl⟩ := i_nat (x := x2) (N := hemR S L * n) (by omega) (by omega) (by omega)
  obtain ⟨z, hz, hz2, y3, y4⟩ := rest_b hS hL
  obtain ⟨r, r1, r2, r3⟩ := fe hm1 hz hz2 hj
  have f1 : (if (1 : Int32) = 0 then (1 : Int32) else 0) = 0 := rfl
  rw [r1, bd_s, b2_s, if_neg one_ne, f1, r2, bd_s]
  exact ⟨0, _, _, _, rfl, rfl, thr0 hr _⟩
-- 16 meets
theorem meets_0 {w v : Mem} (h : Rel w v) {ns : Nat} (hns : ns ≤ 8) (e : v.1 0 8 = nI ns) (can : f_X11_canHem v = some 1) : ∀ (k i m' : Nat), i + k = ns → k < m' → f_X11_meets_L21 v m' 0 (nI i) = some 0 := by
  intro k
  induction k with
  | zero =>
    intro i m hi hm
    obtain ⟨m, rfl⟩ : ∃ q, m = q + 1 := ⟨m - 1, by omega⟩
    rw [f_X11_meets_L21_s, e, if_pos (by rw [nI_leI (by omega) (by omega)]; omega)]
  | succ k ih =>
    intro i m hi hm
    obtain ⟨m, rfl⟩ : ∃ q, m = q + 1 := ⟨m - 1, by omega⟩
    rcases measH h (nI i) with ⟨i', n, S, L, w', q0, hm, p1, p2, p3, p4, p5, p6, p7, p8, hr⟩ | ⟨p1, p2⟩
    · obtain ⟨y, C, l1, l2, l3, l4, l5, l6⟩ := look hm
      rw [f_X11_meets_L21_s, e, if_neg (by rw [nI_leI (by omega) (by omega)]; omega), q0, l6, bd_s, ← q0, lt_e, lt_e, nI_s, if_neg (show ¬ (2 : Int32) = 4 by decide)]
      rw [show (if (if y = 0 then (0 : Int32) else 1) = 0 then (0 : Int32) else 0) = 0 by split <;> rfl]
      exact ih (i + 1) m (by omega) (by omega)
    · rw [e] at p2
      have t : f_X11_in (nI i) 0 (nI ns - 1) = some 1 := in_t (by rw [nI_toInt (by omega), nI_pr (by omega), nI_toInt (by omega)]; simp; omega)
      rcases p2 with p2 | ⟨p2, p3⟩
      · rw [t] at p2; exact absurd p2 (by decide)
      · rw [can] at p3; exact absurd p3 (by decide)
theorem meets_1 {v : Mem} {ns : Nat} (hns : ns ≤ 8) (e : v.1 0 8 = nI ns) (can : f_X11_canHem v = some 1) : ∀ (k i m m' : Nat) (w : Mem), Rel w v → i + k = ns → k < m → k < m' → ∃ w', Rel w' v ∧ ((f_X10_meets_L15 m (nI i) w = some (.inr w') ∧ f_X11_meets_L21 v m' 1 (nI i) = some 1) ∨ (f_X10_meets_L15 m (nI i) w = some (.inl (0, w')) ∧ f_X11_meets_L21 v m' 1 (nI i) = some 0)) := by
  intro k
  induction k with
  | zero =>
    intro i m m' w h hi hm hm'
    obtain ⟨m, rfl⟩ : ∃ q, m = q + 1 := ⟨m - 1, by omega⟩
    obtain ⟨m', rfl⟩ : ∃ q, m' = q + 1 := ⟨m' - 1, by omega⟩
    obtain ⟨ns', hns', s1, s2, s3⟩ := h.2.2.1
    rw [e, nI_eq (by omega) (by omega)] at s2
    subst s2
    refine ⟨w, h, Or.inl ⟨?_, ?_⟩⟩
    · rw [f_X10_meets_L15_s, s1, if_pos (by rw [nI_leI (by omega) (by omega)]; omega)]
    · rw [f_X11_meets_L21_s, e, if_pos (by rw [nI_leI (by omega) (by omega)]; omega)]
  | succ k ih =>
    intro i m m' w h hi hm hm'
    obtain ⟨m, rfl⟩ : ∃ q, m = q + 1 := ⟨m - 1, by omega⟩
    obtain ⟨m', rfl⟩ : ∃ q, m' = q + 1 := ⟨m' - 1, by omega⟩
    obtain ⟨ns', hns', s1, s2, s3⟩ := h.2.2.1
    rw [e, nI_eq (by omega) (by omega)] at s2
    subst s2
    rcases measH h (nI i) with ⟨i', n, S, L, w', q0, hm, p1, p2, p3, p4, p5, p6, p7, p8, hr⟩ | ⟨p1, p2⟩
    · obtain ⟨y, C, l1, l2, l3, l4, l5, l6⟩ := look hm
      have l7 := l6 2
      rw [← q0, if_neg (show ¬ (2 : Int32) = 4 by decide)] at l7
      rw [f_X10_meets_L15_s, f_X11_meets_L21_s, e, s1, if_neg (by rw [nI_leI (by omega) (by omega)]; omega), if_neg (by rw [nI_leI (by omega) (by omega)]; omega), l7, bd_s, p3, b2_s, if_neg one_ne, l5, bd_s, lt_e, lt_e, lt_e, nI_s]
      rcases l1 with c | c
      · refine ⟨w', hr, Or.inr ⟨by rw [if_pos c], ?_⟩⟩
        rw [if_pos c, if_pos rfl]
        exact meets_0 hr hns e can k (i + 1) m' (by omega) (by omega)
      · subst c
        rw [if_neg one_ne, if_neg one_ne, if_neg one_ne]
        exact ih (i + 1) m m' w' hr (by omega) (by omega) (by omega)
    · rw [e] at p2
      have t : f_X11_in (nI i) 0 (nI ns - 1) = some 1 := in_t (by rw [nI_toInt (by omega), nI_pr (by omega), nI_toInt (by omega)]; simp; omega)
      rcases p2 with p2 | ⟨p2, p3⟩
      · rw [t] at p2; exact absurd p2 (by decide)
      · rw [can] at p3; exact absurd p3 (by decide)
theorem step_16 {w v : Mem} (h : Rel w v) : ∃ r w', f_X10_meets w = some (r, w') ∧ f_X11_meets v = some r ∧ Rel w' v := by
  obtain ⟨ns, hns, s1, s2, s3⟩ := h.2.2.1
  unfold f_X10_meets f_X11_meets
  rw [s1, s2]
  by_cases n0 : ns = 0
  · subst n0
    rw [if_pos (by decide), if_pos (by decide)]
    exact ⟨-3, w, rfl, rfl, h⟩
  rw [if_neg (nz (n := ns) (by omega) (by omega)), if_neg (nz (n := ns) (by omega) (by omega)), show f_X10_meets_L15 FU 0 w = f_X10_meets_L15 FU (nI 0) w from rfl, show f_X11_meets_L21 v FU 1 0 = f_X11_meets_L21 v FU 1 (nI 0) from rfl]
  rcases measH h (nI 0) with ⟨i', n, S, L, w', q0, hm, p1, p2, p3, p4, p5, p6, p7, p8, hr⟩ | ⟨p1, p2⟩
  · obtain ⟨w2, r1, r2⟩ := meets_1 hns s2 p2 ns 0 FU FU w h (by omega) (by unfold FU; omega) (by unfold FU; omega)
    rw [p2, bd_s, if_neg one_ne]
    rcases r2 with ⟨r2, r3⟩ | ⟨r2, r3⟩
    · rw [r2, r3]; exact ⟨1, w2, rfl, rfl, r1⟩
    · rw [r2, r3]; exact ⟨0, w2, rfl, rfl, r1⟩
  · have t : f_X11_in (nI 0) 0 (nI ns - 1) = some 1 := in_t (by rw [nI_pr (by omega), nI_toInt (n := 0) (by omega), nI_toInt (n := ns - 1) (by omega)]; simp)
    rw [s2] at p2
    rcases p2 with p2 | ⟨p2, p3⟩
    · rw [t] at p2; exact absurd p2 (by decide)
    · rw [p3, bd_s, if_pos rfl]
      refine ⟨-3, w, ?_, rfl, h⟩
      have : FU = 1999999 + 1 := rfl
      rw [this, f_X10_meets_L15_s, s1, if_neg (by rw [nI_leI (by omega) (by omega)]; omega), p1]
      rfl
-- 17 feeds
theorem feeds_L {i n S L t : Nat} (ht : t < 6) (hA4 : hemR S L * n ≤ 400) : ∀ (k j m m' : Nat) (w v : Mem), HM w v i n S L → Rel w v → j + k = hemR S L * n → k < m → k < m' → ∃ w' v', f_X10_feeds_L62 (nI t) m (nI j) w = some w' ∧ f_X11_feeds_L67 (nI t) (nI i) (nI (hemR S L * n)) m' (nI j) v = some v' ∧ Rel w' v' ∧ w'.1 = w.1 := by
  intro k
  induction k with
  | zero =>
    intro j m m' w v hm h hj k1 k2
    obtain ⟨m, rfl⟩ : ∃ q, m = q + 1 := ⟨m - 1, by omega⟩
    obtain ⟨m', rfl⟩ : ∃ q, m' = q + 1 := ⟨m' - 1, by omega⟩
    obtain ⟨hi, hn, e1, e2, hS, hL, e3, e4, e5, e6, e7⟩ := hm
    refine ⟨w, v, ?_, ?_, h, rfl⟩
    · rw [f_X10_feeds_L62_s, e6, if_pos (by rw [nI_leI (by omega) (by omega)]; omega)]
    · rw [f_X11_feeds_L67_s, if_pos (by rw [nI_leI (by omega) (by omega)]; omega)]
  | succ k ih =>
    intro j m m' w v hm h hj k1 k2
    obtain ⟨m, rfl⟩ : ∃ q, m = q + 1 := ⟨m - 1, by omega⟩
    obtain ⟨m', rfl⟩ : ∃ q, m' = q + 1 := ⟨m' - 1, by omega⟩
    have hm0 := hm
    obtain ⟨hi, hn, e1, e2, hS, hL, e3, e4, e5, e6, e7⟩ := hm
    obtain ⟨z, hz, hz2, y3, y4⟩ := rest_b hS hL
    obtain ⟨r, r1, r2, r3⟩ := fe hm0 hz hz2 (j := j) (by omega)
    have hm1 : HM (mL w (49+2*t) j r.toInt64) (mL v 17 (400*t+j) r.toInt64) i n S L := HM_c hm0 rfl rfl rfl rfl rfl rfl
    obtain ⟨w', v', g1, g2, g3, g4⟩ := ih (j + 1) m m' _ _ hm1 (Rel_L h ht (by omega) r.toInt64) (by omega) (by omega) (by omega)
    refine ⟨w', v', ?_, ?_, g3, g4⟩
    · rw [f_X10_feeds_L62_s, e6, if_neg (by rw [nI_leI (by omega) (by omega)]; omega), r1, bd_s, gd_t (inb_nI (by omega) (by omega)), lt_e, lt_e, nI_clamp (by omega), nI_clamp (by omega), nI_s]
      exact g1
    · rw [f_X11_feeds_L67_s, if_neg (by rw [nI_leI (by omega) (by omega)]; omega), r2, bd_s, ix400, gd_t (inb_nI (by omega) (by omega)), lt_e, lt_e, nI_clamp (by omega), nI_s]
      exact g2
theorem step_17 {w v : Mem} (h : Rel w v) (x1 x2 : Int32) : ∃ r w' v', f_X10_feeds x1 x2 w = some (r, w') ∧ f_X11_feeds x1 x2 v = some (r, v') ∧ Rel w' v' := by
  unfold f_X10_feeds f_X11_feeds
  rw [tp_eq, tpm_eq]
  rcases in_c x1 0 5 with ⟨q, k1⟩ | ⟨q, k1⟩
  rotate_left
  · rw [q, bd_s, bd_s, if_pos rfl, if_pos rfl]; exact ⟨-1, w, v, rfl, rfl, h⟩
  rw [q, bd_s, bd_s, if_neg one_ne, if_neg one_ne]
  simp at k1
  obtain ⟨t, ht, rfl⟩ := i_nat (x := x1) (N := 6) (by omega) (by omega) (by omega)
  rcases measH h x2 with ⟨i, n, S, L, w', rfl, hm, p1, p2, p3, p4, p5, p6, p7, p8, hr⟩ | ⟨p1, p2⟩
  rotate_left
  · rw [p1, b2_s, if_pos rfl]
    rcases p2 with p2 | ⟨p2, p3⟩
    · rw [p2, bd_s, if_pos rfl]; exact ⟨-3, w, v, rfl, rfl, h⟩
    · rw [p2, bd_s, if_neg one_ne, p3, bd_s, if_pos rfl]; exact ⟨-3, w, v, rfl, rfl, h⟩
  have rd := HM_rd hm
  have hm0 := hm
  obtain ⟨hi, hn, e1, e2, hS, hL, e3, e4, e5, e6, e7⟩ := hm
  have hA := HM_A hS hL hn
  rw [p3, b2_s, if_neg one_ne, p1, bd_s, if_neg one_ne, p2, bd_s, if_neg one_ne, rd, bd_s, gd_t g14, lt_e, lt_e, z14, e1, pk_mul (a := hemR S L) (b := n), e6]
  by_cases c : hemR S L * n ≤ 400
  rotate_left
  · rw [if_neg (by rw [nI_lit 400, nI_leI (by omega) (by omega)]; exact c), if_neg (by rw [nI_lit 400, nI_leI (by omega) (by omega)]; exact c)]
    exact ⟨-2, w', v, rfl, rfl, hr⟩
  rw [if_pos (by rw [nI_lit 400, nI_leI (by omega) (by omega)]; exact c), if_pos (by rw [nI_lit 400, nI_leI (by omega) (by omega)]; exact c), gd_t (inb_nI ht (by omega)), nI_clamp (by omega)]
  obtain ⟨w1, v1, a1, a2, a3, a4, a5⟩ := row_new hr (t := t) (s := 2) (n := hemR S L * n) ht (by omega) c
  have hm1 : HM w1 v1 i n S L := HM_c hm0 (a5 3 (by decide) (by decide)) (a5 5 (by decide) (by decide)) (a5 6 (by decide) (by decide)) (a4 _ (by omega)) (a4 _ (by omega)) (a4 _ (by omega))
  obtain ⟨w2, v2, b1, b2, b3, b4⟩ := feeds_L ht c (hemR S L * n) 0 FU FU w1 v1 hm1 a3 (by omega) (by unfold FU; omega) (by unfold FU; omega)
  rw [show (2 : Int32) = nI 2 from rfl, a1, a2, bd_s, bd_s, show f_X10_feeds_L62 (nI t) FU 0 w1 = f_X10_feeds_L62 (nI t) FU (nI 0) w1 from rfl, b1, show f_X11_feeds_L67 (nI t) (nI i) (nI (hemR S L * n)) FU 0 v1 = f_X11_feeds_L67 (nI t) (nI i) (nI (hemR S L * n)) FU (nI 0) v1 from rfl, b2, bd_s, bd_s, b4, hm1.2.2.2.2.2.2.2.2.2.1]
  exact ⟨_, _, _, rfl, rfl, b3⟩
