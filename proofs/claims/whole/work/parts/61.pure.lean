/-! ===== 26 sew: the steps (61: by wip/gen/p61.txt and fr.py) ===== -/
theorem sews_L {N : Nat} (hN : ¬ nI N = 0) {n : Nat} (hn : n ≤ 200) : ∀ (k i m m' : Nat) (w v : Mem), OTH w v → SWI w v → v.1 0 53 = 0 → v.1 3 14 = nI N → i + k = n → k < m → k < m' → ∃ w' v', OTH w' v' ∧ SWI w' v' ∧ v'.1 0 15 = v.1 0 15 ∧ ((f_X8_sews_L17 14 (nI n) m (nI i) w = some (.inr w') ∧ f_X11_ends_L59 (nI n) m' (nI i) v = some (.inr v') ∧ v'.1 0 53 = 0) ∨ (f_X8_sews_L17 14 (nI n) m (nI i) w = some (.inl (0, w')) ∧ f_X11_ends_L59 (nI n) m' (nI i) v = some (.inl (0, v')))) := by
  intro k
  induction k with
  | zero =>
    intro i m m' w v hO hS hy h14 hi hm hm'
    obtain ⟨m, rfl⟩ : ∃ q, m = q + 1 := ⟨m - 1, by omega⟩
    obtain ⟨m', rfl⟩ : ∃ q, m' = q + 1 := ⟨m' - 1, by omega⟩
    refine ⟨w, v, hO, hS, rfl, Or.inl ⟨?_, ?_, hy⟩⟩
    · rw [f_X8_sews_L17_s, if_pos (by rw [nI_leI (by omega) (by omega)]; omega)]
    · rw [f_X11_ends_L59_s, if_pos (by rw [nI_leI (by omega) (by omega)]; omega)]
  | succ k ih =>
    intro i m m' w v hO hS hy h14 hi hm hm'
    obtain ⟨m, rfl⟩ : ∃ q, m = q + 1 := ⟨m - 1, by omega⟩
    obtain ⟨m', rfl⟩ : ∃ q, m' = q + 1 := ⟨m' - 1, by omega⟩
    obtain ⟨r, w1, v1, a1, a2, a3, a4, a5, a15, a6⟩ := sew1 hO hS hy (by rw [h14]; exact hN)
    have C : f_X8_sews_L17 14 (nI n) (m + 1) (nI i) w = if r = 0 then some (.inl (0, w1)) else f_X8_sews_L17 14 (nI n) m (nI (i + 1)) w1 := by
      rw [f_X8_sews_L17_s, if_neg (by rw [nI_leI (by omega) (by omega)]; omega), a1, b2_s, lt_e, nI_s]
    have M : f_X11_ends_L59 (nI n) (m' + 1) (nI i) v = if r = 0 then some (.inl (0, v1)) else f_X11_ends_L59 (nI n) m' (nI (i + 1)) v1 := by
      rw [f_X11_ends_L59_s, if_neg (by rw [nI_leI (by omega) (by omega)]; omega), a2, b2_s, lt_e, nI_s]
    rw [C, M]
    rcases a6 with ⟨a6, a7⟩ | a6
    · subst a6
      rw [if_neg one_ne, if_neg one_ne]
      obtain ⟨w2, v2, b1, b2, b3, b4⟩ := ih (i + 1) m m' w1 v1 a3 a4 a7 (by rw [a5]; exact h14) (by omega) (by omega) (by omega)
      exact ⟨w2, v2, b1, b2, by rw [b3, a15], b4⟩
    · subst a6
      rw [if_pos rfl, if_pos rfl]
      exact ⟨w1, v1, a3, a4, a15, Or.inr ⟨rfl, rfl⟩⟩
theorem ends_1 {w v : Mem} (hO : OTH w v) (hS : SWI w v) (hy : v.1 0 53 = 0) {x2 : Int32} (h2 : ib 1 200 x2) : ∃ r w' v', f_X10_endsStep 1 x2 w = some (r, w') ∧ f_X11_ends 1 x2 v = some (r, v') ∧ OTH w' v' ∧ SWI w' v' ∧ v'.1 0 15 = v.1 0 15 ∧ ((r = 1 ∧ v'.1 0 53 = 0) ∨ r = 0) := by
  unfold ib at h2
  obtain ⟨n, hn, rfl⟩ := i_nat (x := x2) (N := 201) (by omega) (by omega) (by omega)
  obtain ⟨N, hN, e1, e2, e3⟩ := hO.1 14 (by omega)
  unfold f_X10_endsStep f_X11_ends f_X8_sews
  rw [if_neg one_ne, if_neg one_ne, if_pos rfl, if_pos rfl, gd_t g14]
  simp only [lt_e]
  rw [z14, e1, e2]
  by_cases N0 : nI N = 0
  · rw [if_pos N0, if_pos N0]
    simp only [lt_e, b2_s]
    rw [gd_t (show bz 0 = true by decide)]
    obtain ⟨p, q⟩ := why_c hO hS 4
    exact ⟨0, _, _, rfl, rfl, p, q, rfl, Or.inr rfl⟩
  rw [if_neg N0, if_neg N0]
  obtain ⟨w', v', a1, a2, a15, a3⟩ := sews_L N0 (show n ≤ 200 by omega) n 0 FU FU w v hO hS hy e2 (by omega) (by unfold FU; omega) (by unfold FU; omega)
  rw [show f_X8_sews_L17 14 (nI n) FU 0 w = f_X8_sews_L17 14 (nI n) FU (nI 0) w from rfl, show f_X11_ends_L59 (nI n) FU 0 v = f_X11_ends_L59 (nI n) FU (nI 0) v from rfl]
  rcases a3 with ⟨b1, b2, b3⟩ | ⟨b1, b2⟩
  · rw [b1, b2]
    exact ⟨1, w', v', rfl, rfl, a1, a2, a15, Or.inl ⟨rfl, b3⟩⟩
  · rw [b1, b2]
    exact ⟨0, w', v', rfl, rfl, a1, a2, a15, Or.inr rfl⟩
theorem ends_0 {w v : Mem} (hO : OTH w v) (hS : SWI w v) (hy : v.1 0 53 = 0) {x2 : Int32} (h2 : ib 0 7 x2) : ∃ r w' v', f_X10_endsStep 0 x2 w = some (r, w') ∧ f_X11_ends 0 x2 v = some (r, v') ∧ OTH w' v' ∧ SWI w' v' ∧ v'.1 0 15 = v.1 0 15 ∧ ((r = 1 ∧ v'.1 0 53 = 0) ∨ r = 0) := by
  unfold ib at h2
  obtain ⟨s, hs, rfl⟩ := i_nat (x := x2) (N := 8) (by omega) (by omega) (by omega)
  obtain ⟨N, hN, e1, e2, e3⟩ := hO.1 s (by omega)
  unfold f_X10_endsStep f_X11_ends f_X10_comesFrom
  rw [if_pos rfl, if_pos rfl, gd_t (inb_nI (by omega) (by omega)), gd_t (inb_nI (by omega) (by omega)), lt_e, nI_clamp (by omega), e1, e2]
  by_cases N0 : nI N = 0
  · rw [if_pos N0, if_pos N0, b2_s, if_pos rfl]
    simp only [lt_e]
    obtain ⟨p, q⟩ := why_c hO hS 4
    exact ⟨0, _, _, rfl, rfl, p, q, rfl, Or.inr rfl⟩
  rw [if_neg N0, if_neg N0]
  obtain ⟨w', v', g1, g2, g3, g4, g5, g6, g7, g8, g9, g10⟩ := bec hO.1 14 s (by omega) (by omega) (by omega)
  rw [show (14 : Int32) = nI 14 from rfl, g1, g2, bd_s, bd_s, b2_s, if_neg one_ne]
  simp only [lt_e]
  obtain ⟨hD, hP, hH, hB, hJ, hF, hR, hT⟩ := hO
  have kw : ∀ o, o ≠ 42 → o ≠ 43 → o ≠ 44 → o ≠ 79 → (mS w' 79 12 0).1 o = w.1 o := fun o a b c d => by rw [mS_o d, g7 o (by omega) (by omega) (by omega)]
  have k0 : ∀ j, j ≠ 52 → (mS v' 0 52 0).1 0 j = v.1 0 j := fun j a => by rw [mS_nj a, g9 0 (by decide) (by decide) (by decide)]
  have kv : ∀ o, o ≠ 0 → o ≠ 3 → o ≠ 4 → o ≠ 5 → (mS v' 0 52 0).1 o = v.1 o := fun o a b c d => by rw [mS_o a, g9 o b c d]
  have n79 : ∀ j, j ≠ 12 → (mS w' 79 12 0).1 79 j = w.1 79 j := fun j a => by rw [mS_nj a, g7 79 (by omega) (by omega) (by omega)]
  refine ⟨1, mS w' 79 12 0, mS v' 0 52 0, rfl, rfl, ⟨?_, ?_, ?_, ?_, ?_, ?_, ?_, ?_⟩, ?_, k0 _ (by decide), Or.inl ⟨rfl, ?_⟩⟩
  · exact RD_c g3 (fun o ho => mS_o (by omega)) (mS_o (by decide)) (mS_o (by decide)) (mS_o (by decide))
  · exact RP_c hP (kw _ (by decide) (by decide) (by decide) (by decide)) (kw _ (by decide) (by decide) (by decide) (by decide)) (kw _ (by decide) (by decide) (by decide) (by decide)) (k0 _ (by decide)) (k0 _ (by decide)) (kv _ (by decide) (by decide) (by decide) (by decide)) (kv _ (by decide) (by decide) (by decide) (by decide))
  · exact RH_c hH (by rw [kw 72 (by decide) (by decide) (by decide) (by decide)]) (kw _ (by decide) (by decide) (by decide) (by decide)) (k0 _ (by decide)) (kv _ (by decide) (by decide) (by decide) (by decide))
  · exact RB_c hB (kw _ (by decide) (by decide) (by decide) (by decide)) (kw _ (by decide) (by decide) (by decide) (by decide)) (kv _ (by decide) (by decide) (by decide) (by decide)) (k0 _ (by decide)) (k0 _ (by decide)) (k0 _ (by decide)) (k0 _ (by decide))
  · exact RJ_c hJ (by rw [kw 76 (by decide) (by decide) (by decide) (by decide)]) (kw _ (by decide) (by decide) (by decide) (by decide)) (kw _ (by decide) (by decide) (by decide) (by decide)) (k0 _ (by decide)) (kv _ (by decide) (by decide) (by decide) (by decide)) (kv _ (by decide) (by decide) (by decide) (by decide))
  · exact RF_c hF (by rw [kw 83 (by decide) (by decide) (by decide) (by decide)]) (kw _ (by decide) (by decide) (by decide) (by decide)) (kw _ (by decide) (by decide) (by decide) (by decide)) (k0 _ (by decide)) (kv _ (by decide) (by decide) (by decide) (by decide)) (kv _ (by decide) (by decide) (by decide) (by decide))
  · exact RR_c hR (by rw [kw 66 (by decide) (by decide) (by decide) (by decide)]) (k0 _ (by decide))
  · refine RT_d hT (fun o a b => kw o (by omega) (by omega) (by omega) (by omega)) (fun o a b => by rw [mS_at2, g8]) (fun t ht => ?_) (kv _ (by decide) (by decide) (by decide) (by decide)) (kv _ (by decide) (by decide) (by decide) (by decide)) (by rw [mS_at2, g10])
    rw [mS_ne (show (3 : Nat) ≠ 0 by decide), g6 _ (by omega)]
  · obtain ⟨c, nx, N2, h1, h2, h3, h4, h5, h6, h7, h8, h9, h10, h11, h12, h13, h14, h15, h16, h17, h18, h19, h20, h21⟩ := hS
    refine ⟨c, 0, N, h1, hN, Or.inl rfl, ?_, ?_, ?_, ?_, ?_, ?_, ?_, ?_, ?_, ?_, ?_, ?_, mS_eq, mS_eq, ?_, ?_, ?_, ?_⟩
    · rw [mS_ne (show (3 : Nat) ≠ 0 by decide), g5, e2]
    · rw [n79 _ (by decide)]; exact h5
    · rw [n79 _ (by decide)]; exact h6
    · rw [k0 _ (by decide)]; exact h7
    · rw [n79 _ (by decide), k0 _ (by decide)]; exact h8
    · rw [n79 _ (by decide), k0 _ (by decide)]; exact h9
    · rw [n79 _ (by decide), k0 _ (by decide)]; exact h10
    · rw [n79 _ (by decide), k0 _ (by decide)]; exact h11
    · rw [k0 _ (by decide)]; exact h12
    · rw [n79 _ (by decide), k0 _ (by decide)]; exact h13
    · rw [n79 _ (by decide), k0 _ (by decide)]; exact h14
    · rw [n79 _ (by decide), k0 _ (by decide)]; exact h15
    · rw [n79 _ (by decide), k0 _ (by decide)]; exact h18
    · rw [k0 _ (by decide)]; exact h19
    · rw [k0 _ (by decide), kv 11 (by decide) (by decide) (by decide) (by decide), kv 12 (by decide) (by decide) (by decide) (by decide)]; exact h20
    · rw [kw 80 (by decide) (by decide) (by decide) (by decide), kw 81 (by decide) (by decide) (by decide) (by decide), kv 11 (by decide) (by decide) (by decide) (by decide), kv 12 (by decide) (by decide) (by decide) (by decide)]; exact h21
  · rw [k0 _ (by decide)]; exact hy
theorem ends_2 {w v : Mem} (hO : OTH w v) (hS : SWI w v) (hy : v.1 0 53 = 0) (x2 : Int32) : ∃ r w' v', f_X10_endsStep 2 x2 w = some (r, w') ∧ f_X11_ends 2 x2 v = some (r, v') ∧ OTH w' v' ∧ SWI w' v' ∧ v'.1 0 15 = v.1 0 15 ∧ ((r = 1 ∧ v'.1 0 53 = 0) ∨ r = 0) := by
  obtain ⟨c, nx, N, h1, h2, h3, h4, h5, h6, h7, h8, h9, h10, h11, h12, h13, h14, h15, h16, h17, h18, h19, h20, h21⟩ := hS
  unfold f_X10_endsStep f_X11_ends
  have n20 : ¬ (2 : Int32) = 0 := by decide
  have n21 : ¬ (2 : Int32) = 1 := by decide
  rw [if_neg n20, if_neg n21, if_pos rfl, if_neg n20, if_neg n21, if_pos rfl]
  simp only [lt_e]
  rw [h10]
  refine ⟨1, _, _, rfl, rfl, ?_, ?_, rfl, Or.inl ⟨rfl, hy⟩⟩
  · refine OTH_c hO (fun o a b c d => mS_o b) rfl (fun o a b c d => mS_o a) rfl (mS_nj (by decide)) (mS_nj (by decide)) (mS_nj (by decide)) (mS_nj (by decide)) (mS_nj (by decide)) (mS_nj (by decide)) ?_
    exact RB_c hO.2.2.2.1 (mS_o (by decide)) (mS_o (by decide)) (mS_o (by decide)) (mS_nj (by decide)) (mS_nj (by decide)) (mS_nj (by decide)) (mS_nj (by decide))
  · refine ⟨c, nx, N, h1, h2, h3, h4, h5, h6, h7, h8, h9, ?_, h11, h12, h13, h14, h15, h16, h17, h18, h19, ?_, ?_⟩
    · rw [mS_eq, mS_eq]
    · rw [mS_nj (show (54 : Nat) ≠ 49 by decide), mS_o (show (11 : Nat) ≠ 0 by decide), mS_o (show (12 : Nat) ≠ 0 by decide)]; exact h20
    · rw [mS_o (show (80 : Nat) ≠ 79 by decide), mS_o (show (81 : Nat) ≠ 79 by decide), mS_o (show (11 : Nat) ≠ 0 by decide), mS_o (show (12 : Nat) ≠ 0 by decide)]; exact h21
theorem ends_3 {w v : Mem} (hO : OTH w v) (hS : SWI w v) (hy : v.1 0 53 = 0) (x2 : Int32) : ∃ r w' v', f_X10_endsStep 3 x2 w = some (r, w') ∧ f_X11_ends 3 x2 v = some (r, v') ∧ OTH w' v' ∧ SWI w' v' ∧ v'.1 0 15 = v.1 0 15 ∧ ((r = 1 ∧ v'.1 0 53 = 0) ∨ r = 0) := by
  obtain ⟨c, nx, N, h1, h2, h3, h4, h5, h6, h7, h8, h9, h10, h11, h12, h13, h14, h15, h16, h17, h18, h19, h20, h21⟩ := hS
  unfold f_X10_endsStep f_X11_ends
  have n20 : ¬ (3 : Int32) = 0 := by decide
  have n21 : ¬ (3 : Int32) = 1 := by decide
  have n22 : ¬ (3 : Int32) = 2 := by decide
  rw [if_neg n20, if_neg n21, if_neg n22, if_neg n20, if_neg n21, if_neg n22]
  simp only [lt_e]
  rw [h11]
  have hz : bz (if v.1 0 50 = 0 then 1 else 0) = true := by
    split <;> decide
  rw [gd_t hz, gd_t hz]
  refine ⟨1, _, _, rfl, rfl, ?_, ?_, rfl, Or.inl ⟨rfl, hy⟩⟩
  · refine OTH_c hO (fun o a b c d => mS_o b) rfl (fun o a b c d => mS_o a) rfl (mS_nj (by decide)) (mS_nj (by decide)) (mS_nj (by decide)) (mS_nj (by decide)) (mS_nj (by decide)) (mS_nj (by decide)) ?_
    exact RB_c hO.2.2.2.1 (mS_o (by decide)) (mS_o (by decide)) (mS_o (by decide)) (mS_nj (by decide)) (mS_nj (by decide)) (mS_nj (by decide)) (mS_nj (by decide))
  · refine ⟨c, nx, N, h1, h2, h3, h4, h5, h6, h7, h8, h9, h10, ?_, ?_, h13, h14, h15, h16, h17, h18, h19, ?_, ?_⟩
    · rw [mS_eq, mS_eq]
    · rw [mS_eq]
      split
      · exact Or.inr rfl
      · exact Or.inl rfl
    · rw [mS_nj (show (54 : Nat) ≠ 50 by decide), mS_o (show (11 : Nat) ≠ 0 by decide), mS_o (show (12 : Nat) ≠ 0 by decide)]; exact h20
    · rw [mS_o (show (80 : Nat) ≠ 79 by decide), mS_o (show (81 : Nat) ≠ 79 by decide), mS_o (show (11 : Nat) ≠ 0 by decide), mS_o (show (12 : Nat) ≠ 0 by decide)]; exact h21
theorem ends_e {w v : Mem} (hO : OTH w v) (hS : SWI w v) (hy : v.1 0 53 = 0) {x1 x2 : Int32} (h : stepOk x1 x2) : ∃ r w' v', f_X10_endsStep x1 x2 w = some (r, w') ∧ f_X11_ends x1 x2 v = some (r, v') ∧ OTH w' v' ∧ SWI w' v' ∧ v'.1 0 15 = v.1 0 15 ∧ ((r = 1 ∧ v'.1 0 53 = 0) ∨ r = 0) := by
  rcases h with ⟨rfl, h⟩ | ⟨rfl, h⟩ | ⟨rfl, h⟩ | ⟨rfl, h⟩
  · exact ends_0 hO hS hy h
  · exact ends_1 hO hS hy h
  · exact ends_2 hO hS hy x2
  · exact ends_3 hO hS hy x2
theorem sew_L : ∀ (k i m m' : Nat) (w v : Mem), OTH w v → SWI w v → v.1 0 53 = 0 → v.1 0 15 = nI (i + k) → i + k ≤ 20 → k < m → k < m' → ∃ d w' v', f_X10_sew_L16 m (nI i) w = some (d, w') ∧ f_X11_sew_L88 m' (nI i) v = some (d, v') ∧ OTH w' v' ∧ SWI w' v' := by
  intro k
  induction k with
  | zero =>
    intro i m m' w v hO hS hy hn hi hm hm'
    obtain ⟨m, rfl⟩ : ∃ q, m = q + 1 := ⟨m - 1, by omega⟩
    obtain ⟨m', rfl⟩ : ∃ q, m' = q + 1 := ⟨m' - 1, by omega⟩
    obtain ⟨n, hn2, e1, e2, e3⟩ := hO.2.2.2.2.1
    rw [hn, nI_eq (by omega) (by omega)] at e2
    subst e2
    refine ⟨nI i, w, v, ?_, ?_, hO, hS⟩
    · rw [f_X10_sew_L16_s, e1, if_pos (by rw [nI_leI (by omega) (by omega)]; omega)]
    · rw [f_X11_sew_L88_s, hn, if_pos (by rw [nI_leI (by omega) (by omega)]; omega)]
  | succ k ih =>
    intro i m m' w v hO hS hy hn hi hm hm'
    obtain ⟨m, rfl⟩ : ∃ q, m = q + 1 := ⟨m - 1, by omega⟩
    obtain ⟨m', rfl⟩ : ∃ q, m' = q + 1 := ⟨m' - 1, by omega⟩
    obtain ⟨n, hn2, e1, e2, e3⟩ := hO.2.2.2.2.1
    rw [hn, nI_eq (by omega) (by omega)] at e2
    subst e2
    obtain ⟨f1, f2, f3⟩ := e3 i (by omega)
    obtain ⟨r, w1, v1, a1, a2, a3, a4, a15, a5⟩ := ends_e hO hS hy f3
    have C : f_X10_sew_L16 (m + 1) (nI i) w = if r = 0 then some (nI i, w1) else f_X10_sew_L16 m (nI (i + 1)) w1 := by
      rw [f_X10_sew_L16_s, e1, if_neg (by rw [nI_leI (by omega) (by omega)]; omega), gd_t (inb_nI (by omega) (by omega)), lt_e, lt_e, nI_clamp (by omega), f1, f2, a1, b2_s, lt_e, nI_s]
    have M : f_X11_sew_L88 (m' + 1) (nI i) v = if r = 0 then some (nI i, v1) else f_X11_sew_L88 m' (nI (i + 1)) v1 := by
      rw [f_X11_sew_L88_s, hn, if_neg (by rw [nI_leI (by omega) (by omega)]; omega), gd_t (inb_nI (by omega) (by omega)), lt_e, lt_e, nI_clamp (by omega), a2, b2_s, lt_e, nI_s]
    rw [C, M]
    rcases a5 with ⟨a5, a6⟩ | a5
    · subst a5
      rw [if_neg one_ne, if_neg one_ne]
      exact ih (i + 1) m m' w1 v1 a3 a4 a6 (by rw [a15, hn, show i + 1 + k = i + (k + 1) by omega]) (by omega) (by omega) (by omega)
    · subst a5
      rw [if_pos rfl, if_pos rfl]
      exact ⟨_, w1, v1, rfl, rfl, a3, a4⟩
theorem tp2_s {α β δ : Type} {a : α} {b : β} {K : α → β → δ} : tp2 (a, b) K = K a b := rfl
theorem sewV {v : Mem} {needle : Int32} (hn : (if v.1 3 14 = 0 then some 0 else (gd (inb (672 + v.1 3 14 - 1) 720 = true) <| some (v.1 4 (672 + v.1 3 14 - 1).toNatClampNeg))) = some needle) {d : Int32} {u : Mem} (hd : f_X11_sew_L88 FU 0 (mS (mS (mS (mS (mS (mS (mS (mS (mS (mS (mS v 0 46 0) 0 47 0) 0 48 0) 0 49 0) 0 50 0) 0 51 needle) 0 52 0) 0 53 0) 0 54 0) 0 55 0) 0 56 0) = some (d, u)) : f_X11_sew v = some (u.1 0 46, mS (mS (mS (mS (mS (mS (mS (mS (mS (mS (mS u 0 18 1) 10 0 (u.1 0 46)) 10 1 (u.1 0 47)) 10 2 (u.1 0 48)) 10 3 (u.1 0 49)) 10 4 (if u.1 0 50 = 0 then 0 else 1)) 10 5 (u.1 0 53)) 10 6 (u.1 0 54)) 10 7 (u.1 0 55)) 10 8 (u.1 0 56)) 10 9 d) := by
  unfold f_X11_sew
  rw [lt_e, lt_e, lt_e, lt_e, lt_e, gd_t g14, lt_e, z14]
  have e3 : (mS (mS (mS (mS (mS v 0 46 0) 0 47 0) 0 48 0) 0 49 0) 0 50 0).1 3 = v.1 3 := by simp (disch := decide) only [mS_o]
  have e4 : (mS (mS (mS (mS (mS v 0 46 0) 0 47 0) 0 48 0) 0 49 0) 0 50 0).1 4 = v.1 4 := by simp (disch := decide) only [mS_o]
  rw [e3, e4]
  rw [lt_e]
  have K : ∀ t : Int32, t = needle → (lt (mS (mS (mS (mS (mS (mS v 0 46 0) 0 47 0) 0 48 0) 0 49 0) 0 50 0) 0 51 t) fun w_10 =>
    lt (mS w_10 0 52 0) fun w_11 =>
    lt (mS w_11 0 53 0) fun w_12 =>
    lt (mS w_12 0 54 0) fun w_13 =>
    lt (mS w_13 0 55 0) fun w_14 =>
    lt (mS w_14 0 56 0) fun w_15 =>
    bd (f_X11_sew_L88 FU 0 w_15) fun ex => tp2 ex fun x1_30 w_31 =>
    lt (mS w_31 0 18 1) fun w_32 =>
    gd (inb 0 10 = true) <|
    lt (mS w_32 10 ((0 : Int32).toNatClampNeg) (w_32.1 0 46)) fun w_34 =>
    gd (inb 1 10 = true) <|
    lt (mS w_34 10 ((1 : Int32).toNatClampNeg) (w_34.1 0 47)) fun w_36 =>
    gd (inb 2 10 = true) <|
    lt (mS w_36 10 ((2 : Int32).toNatClampNeg) (w_36.1 0 48)) fun w_38 =>
    gd (inb 3 10 = true) <|
    lt (mS w_38 10 ((3 : Int32).toNatClampNeg) (w_38.1 0 49)) fun w_40 =>
    lt (if (w_40.1 0 50) = 0 then 0 else 1 : Int32) fun v_41 =>
    gd (inb 4 10 = true) <|
    lt (mS w_40 10 ((4 : Int32).toNatClampNeg) v_41) fun w_44 =>
    gd (inb 5 10 = true) <|
    lt (mS w_44 10 ((5 : Int32).toNatClampNeg) (w_44.1 0 53)) fun w_46 =>
    gd (inb 6 10 = true) <|
    lt (mS w_46 10 ((6 : Int32).toNatClampNeg) (w_46.1 0 54)) fun w_48 =>
    gd (inb 7 10 = true) <|
    lt (mS w_48 10 ((7 : Int32).toNatClampNeg) (w_48.1 0 55)) fun w_50 =>
    gd (inb 8 10 = true) <|
    lt (mS w_50 10 ((8 : Int32).toNatClampNeg) (w_50.1 0 56)) fun w_52 =>
    gd (inb 9 10 = true) <|
    lt (mS w_52 10 ((9 : Int32).toNatClampNeg) x1_30) fun w_54 =>
    some (w_54.1 0 46, w_54)) = some (u.1 0 46, mS (mS (mS (mS (mS (mS (mS (mS (mS (mS (mS u 0 18 1) 10 0 (u.1 0 46)) 10 1 (u.1 0 47)) 10 2 (u.1 0 48)) 10 3 (u.1 0 49)) 10 4 (if u.1 0 50 = 0 then 0 else 1)) 10 5 (u.1 0 53)) 10 6 (u.1 0 54)) 10 7 (u.1 0 55)) 10 8 (u.1 0 56)) 10 9 d) := by
    intro t ht
    subst ht
    rw [lt_e, lt_e, lt_e, lt_e, lt_e, lt_e, hd, bd_s]
    rw [tp2_s, lt_e, gd_t (show inb 0 10 = true by decide), lt_e, gd_t (show inb 1 10 = true by decide), lt_e, gd_t (show inb 2 10 = true by decide), lt_e, gd_t (show inb 3 10 = true by decide), lt_e, lt_e, gd_t (show inb 4 10 = true by decide), lt_e, gd_t (show inb 5 10 = true by decide), lt_e, gd_t (show inb 6 10 = true by decide), lt_e, gd_t (show inb 7 10 = true by decide), lt_e, gd_t (show inb 8 10 = true by decide), lt_e, gd_t (show inb 9 10 = true by decide), lt_e]
    rfl
  by_cases c : v.1 3 14 = 0
  · rw [if_pos c] at hn
    rw [if_pos c]
    exact K 0 (Option.some.inj hn)
  · rw [if_neg c] at hn
    rw [if_neg c]
    have hn' := of_gd hn
    rw [lt_e, gd_t hn'.1, lt_e]
    exact K _ (Option.some.inj hn'.2)
theorem step_26 {w v : Mem} (h : Rel w v) : ∃ r w' v', f_X10_sew w = some (r, w') ∧ f_X11_sew v = some (r, v') ∧ Rel w' v' := by
  obtain ⟨hD, hP, hH, hB, hJ, hS, hF, hR, hT⟩ := h
  obtain ⟨N, hN, e1, e2, e3⟩ := id (hD 14 (by omega))
  obtain ⟨ns, hns, j1, j2, j3⟩ := id hJ
  obtain ⟨needle, q1, q2, q3⟩ : ∃ needle : Int32, f_X1_needle 14 w = some needle ∧ (if v.1 3 14 = 0 then some 0 else (gd (inb (672 + v.1 3 14 - 1) 720 = true) <| some (v.1 4 (672 + v.1 3 14 - 1).toNatClampNeg))) = some needle ∧ ir 12 needle := by
    unfold f_X1_needle
    simp only [lt_e]
    rw [e1, e2]
    by_cases N0 : N = 0
    · subst N0
      exact ⟨0, by rw [if_pos (show nI 0 ≤ 0 by decide)], by rw [if_pos (show nI 0 = 0 by decide)], by unfold ir; decide⟩
    · obtain ⟨f1, f2, f3, f4⟩ := e3 (N - 1) (by omega)
      refine ⟨v.1 4 (48*14+(N-1)), ?_, ?_, f3⟩
      · rw [if_neg (show ¬ nI N ≤ 0 by rw [show (0 : Int32) = nI 0 from rfl, nI_leI (by omega) (by omega)]; omega), nI_pr (by omega), gd_t (inb_nI (by omega) (by omega)), nI_clamp (by omega), f1]
      · rw [if_neg (nz (n := N) (by omega) (by omega)), i672, nI_pr (by omega), gd_t (inb_nI (by omega) (by omega)), nI_clamp (by omega), show 672 + N - 1 = 48*14+(N-1) by omega]
  have hO : OTH (mS (mS (mS (mS (mS (mS (mS (mS (mS (mS (mS (mS w 79 2 1) 79 3 0) 79 4 0) 79 5 0) 79 6 0) 79 7 0) 79 8 0) 79 9 0) 79 10 0) 79 11 0) 79 12 0) 79 13 needle) (mS (mS (mS (mS (mS (mS (mS (mS (mS (mS (mS v 0 46 0) 0 47 0) 0 48 0) 0 49 0) 0 50 0) 0 51 needle) 0 52 0) 0 53 0) 0 54 0) 0 55 0) 0 56 0) := by
    refine OTH_c ⟨hD, hP, hH, hB, hJ, hF, hR, hT⟩ (fun o a b c d => ?_) rfl (fun o a b c d => ?_) rfl rfl rfl rfl rfl rfl rfl hB
    · rw [mS_o b, mS_o b, mS_o b, mS_o b, mS_o b, mS_o b, mS_o b, mS_o b, mS_o b, mS_o b, mS_o b, mS_o b]
    · rw [mS_o a, mS_o a, mS_o a, mS_o a, mS_o a, mS_o a, mS_o a, mS_o a, mS_o a, mS_o a, mS_o a]
  have hSW : SWI (mS (mS (mS (mS (mS (mS (mS (mS (mS (mS (mS (mS w 79 2 1) 79 3 0) 79 4 0) 79 5 0) 79 6 0) 79 7 0) 79 8 0) 79 9 0) 79 10 0) 79 11 0) 79 12 0) 79 13 needle) (mS (mS (mS (mS (mS (mS (mS (mS (mS (mS (mS v 0 46 0) 0 47 0) 0 48 0) 0 49 0) 0 50 0) 0 51 needle) 0 52 0) 0 53 0) 0 54 0) 0 55 0) 0 56 0) :=
    ⟨0, 0, N, by omega, hN, Or.inl rfl, e2, rfl, rfl, rfl, rfl, rfl, rfl, rfl, Or.inl rfl, rfl, rfl, rfl, rfl, rfl, rfl, q3, rfl, fun j hj => absurd hj (Nat.not_lt_zero _)⟩
  obtain ⟨d, w1, v1, s1, s2, s3, s4⟩ := sew_L ns 0 FU FU _ _ hO hSW rfl (by rw [Nat.zero_add]; exact j2) (by omega) (by unfold FU; omega) (by unfold FU; omega)
  have M := sewV q2 s2
  obtain ⟨c, nx, N2, h1, h2, h3, h4, h5, h6, h7, h8, h9, h10, h11, h12, h13, h14, h15, h16, h17, h18, h19, h20, h21⟩ := s4
  refine ⟨nI c, mS w1 79 11 d, _, ?_, by rw [M, h7], ?_⟩
  · unfold f_X10_sew f_X8_start
    rw [q1, bd_s, lt_e, lt_e, lt_e, lt_e, lt_e, lt_e, lt_e, lt_e, lt_e, lt_e, lt_e, lt_e, bd_s]
    rw [show f_X10_sew_L16 FU 0 = f_X10_sew_L16 FU (nI 0) from rfl, s1, bd_s]
    rw [tp2_s, lt_e, mS_nj (show (3 : Nat) ≠ 11 by decide), h6]
  · have O2 : OTH (mS w1 79 11 d) (mS (mS (mS (mS (mS (mS (mS (mS (mS (mS (mS v1 0 18 1) 10 0 (v1.1 0 46)) 10 1 (v1.1 0 47)) 10 2 (v1.1 0 48)) 10 3 (v1.1 0 49)) 10 4 (if v1.1 0 50 = 0 then 0 else 1)) 10 5 (v1.1 0 53)) 10 6 (v1.1 0 54)) 10 7 (v1.1 0 55)) 10 8 (v1.1 0 56)) 10 9 d) := by
      refine OTH_c s3 (fun o a b c d => mS_o b) rfl (fun o a b c d => ?_) rfl rfl rfl rfl rfl rfl rfl s3.2.2.2.1
      rw [mS_o b, mS_o b, mS_o b, mS_o b, mS_o b, mS_o b, mS_o b, mS_o b, mS_o b, mS_o b, mS_o a]
    obtain ⟨oD, oP, oH, oB, oJ, oF, oR, oT⟩ := O2
    rw [← h7]
    refine ⟨oD, oP, oH, oB, oJ, ?_, oF, oR, oT⟩
    refine ⟨h5, Or.inr ⟨rfl, c, h1, h6, h7, h8, h9, h10, ?_, ?_, h13, h20, h14, h15, rfl, h21⟩⟩
    · show w1.1 79 7 = if v1.1 0 50 = 0 then 0 else 1
      rw [h11]
      rcases h12 with z | z <;> rw [z] <;> rfl
    · show (if v1.1 0 50 = 0 then (0 : Int32) else 1) = 0 ∨ (if v1.1 0 50 = 0 then (0 : Int32) else 1) = 1
      split
      · exact Or.inl rfl
      · exact Or.inr rfl
