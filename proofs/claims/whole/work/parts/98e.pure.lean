/-! ===== 1 read: the whole (98e: by wip/gen/p98e.txt and fr.py) ===== -/
/-- a draft of the class and the reference's new rows -/
def RDY (w v : Mem) : Prop := ∃ c, 0 < c ∧ c ≤ 24 ∧ w.1 63 2 = nI c ∧ v.1 0 32 = nI c ∧ w.1 63 3 = v.1 0 37 ∧ ir 100 (v.1 0 37) ∧ ∀ j, j < c → w.1 64 j = v.1 18 j ∧ w.1 65 j = v.1 19 j ∧ ir 12 (v.1 18 j) ∧ ir 100 (v.1 19 j)
theorem txt_c {v v' : Mem} (h : FV v v') (t : Nat) : txt v' t = txt v t := by
  funext q
  unfold txt
  rw [h.2.2]
theorem read_L {t T : Nat} : ∀ (K d p cnt m m' : Nat) (a l E : Nat → Nat) (w v : Mem), STR w v t T d p a l → IVR (txt v t) T d p a l E → sumN (rmN d p a l E) T ≤ K → cnt + K < 1000000 → K + 1 < m → K + 2 < m' → (∃ x w' v', x ≤ 400 ∧ FC w w' ∧ FV v v' ∧ (f_X6_firstFault_L8 t m (nI p) (nI cnt) w = some (.inl (nI x, w')) ∨ (f_X6_firstFault_L8 t m (nI p) (nI cnt) w = some (.inr w') ∧ x = T)) ∧ f_X11_read_L97 m' v = some (.inl (-100 - nI x, v'))) ∨ (∃ w' v', FC w w' ∧ FV v v' ∧ RDY w' v' ∧ f_X6_firstFault_L8 t m (nI p) (nI cnt) w = some (.inl (-1, w')) ∧ f_X11_read_L97 m' v = some (.inr v')) := by
  intro K
  induction K with
  | zero =>
    intro d p cnt m m' a l E w v h hi hs hc hm hm'
    obtain ⟨m, rfl⟩ : ∃ q, m = q + 1 := ⟨m - 1, by omega⟩
    obtain ⟨m', rfl⟩ : ∃ q, m' = q + 2 := ⟨m' - 2, by omega⟩
    have h0 := h
    obtain ⟨⟨h1, h2, h3, h4⟩, ⟨h5, h6, h7, h8⟩, _⟩ := h
    have pT := hi.2.1
    by_cases c : p = T
    · subst c
      refine Or.inl ⟨p, w, v, h2, FC_r w, FV_r v, Or.inr ⟨?_, rfl⟩, ?_⟩
      · rw [f_X6_firstFault_L8_s, if_neg (show ¬ 1000000 ≤ nI cnt by rw [nI_lit 1000000, nI_leI (by omega) (by omega)]; omega), h3, if_pos (show nI p ≤ nI p by rw [nI_leI (by omega) (by omega)]; omega)]
      · rw [f_X11_read_L97_s, h8, if_pos rfl, h5, h6, if_pos rfl]
    · rcases ord_e h0 hi (show p < T by omega) (show cnt < 1000000 by omega) with ⟨w', v', a1, a2, a3, a4⟩ | ⟨v', a1, a2, a3, a4⟩ | ⟨w', v', d', p', a', l', E', a1, a2, a3, a4, a5, a6, a7⟩
      · exact Or.inl ⟨p, w', v', by omega, a1, a2, Or.inl (a3 m), a4 _⟩
      · exact Or.inr ⟨w, v', FC_r w, a1, a2, a3 m, a4 _⟩
      · omega
  | succ K ih =>
    intro d p cnt m m' a l E w v h hi hs hc hm hm'
    obtain ⟨m, rfl⟩ : ∃ q, m = q + 1 := ⟨m - 1, by omega⟩
    obtain ⟨m', rfl⟩ : ∃ q, m' = q + 2 := ⟨m' - 2, by omega⟩
    have h0 := h
    obtain ⟨⟨h1, h2, h3, h4⟩, ⟨h5, h6, h7, h8⟩, _⟩ := h
    have pT := hi.2.1
    by_cases c : p = T
    · subst c
      refine Or.inl ⟨p, w, v, h2, FC_r w, FV_r v, Or.inr ⟨?_, rfl⟩, ?_⟩
      · rw [f_X6_firstFault_L8_s, if_neg (show ¬ 1000000 ≤ nI cnt by rw [nI_lit 1000000, nI_leI (by omega) (by omega)]; omega), h3, if_pos (show nI p ≤ nI p by rw [nI_leI (by omega) (by omega)]; omega)]
      · rw [f_X11_read_L97_s, h8, if_pos rfl, h5, h6, if_pos rfl]
    · rcases ord_e h0 hi (show p < T by omega) (show cnt < 1000000 by omega) with ⟨w', v', a1, a2, a3, a4⟩ | ⟨v', a1, a2, a3, a4⟩ | ⟨w', v', d', p', a', l', E', a1, a2, a3, a4, a5, a6, a7⟩
      · exact Or.inl ⟨p, w', v', by omega, a1, a2, Or.inl (a3 m), a4 _⟩
      · exact Or.inr ⟨w, v', FC_r w, a1, a2, a3 m, a4 _⟩
      · have g := ih d' p' (cnt + 1) m (m' + 1) a' l' E' w' v' a3 (by rw [txt_c a2]; exact a4) (by omega) (by omega) (by omega) (by omega)
        rw [a6 m, a7 (m' + 1)]
        rcases g with ⟨x, w2, v2, g1, g2, g3, g4, g5⟩ | ⟨w2, v2, g2, g3, g4, g5, g6⟩
        · exact Or.inl ⟨x, w2, v2, g1, FC_t a1 g2, FV_t a2 g3, g4, g5⟩
        · exact Or.inr ⟨w2, v2, FC_t a1 g2, FV_t a2 g3, g4, g5, g6⟩
theorem rcp_L {c : Nat} (hc : c ≤ 24) : ∀ (k i m : Nat) (v : Mem), i + k = c → k < m → v.1 0 1 = nI c → ∃ v', f_X11_read_L148 m (nI i) v = some v' ∧ v'.2 = v.2 ∧ (∀ o, o ≠ 1 → o ≠ 2 → v'.1 o = v.1 o) ∧ (∀ j, v'.1 1 j = if i ≤ j ∧ j < c then v.1 18 j else v.1 1 j) ∧ ∀ j, v'.1 2 j = if i ≤ j ∧ j < c then v.1 19 j else v.1 2 j := by
  intro k
  induction k with
  | zero =>
    intro i m v hi hm e
    obtain ⟨m, rfl⟩ : ∃ q, m = q + 1 := ⟨m - 1, by omega⟩
    refine ⟨v, ?_, rfl, fun _ _ _ => rfl, fun j => ?_, fun j => ?_⟩
    · rw [f_X11_read_L148_s, e, if_pos (by rw [nI_leI (by omega) (by omega)]; omega)]
    · rw [if_neg (by omega)]
    · rw [if_neg (by omega)]
  | succ k ih =>
    intro i m v hi hm e
    obtain ⟨m, rfl⟩ : ∃ q, m = q + 1 := ⟨m - 1, by omega⟩
    obtain ⟨v', g1, g2, g3, g4, g5⟩ := ih (i + 1) m (mS (mS v 1 i (v.1 18 i)) 2 i (v.1 19 i)) (by omega) (by omega) (by rw [mS_ne (by decide), mS_ne (by decide)]; exact e)
    refine ⟨v', ?_, g2, fun o p q => by rw [g3 o p q, mS_o q, mS_o p], fun j => ?_, fun j => ?_⟩
    · rw [f_X11_read_L148_s, e, if_neg (by rw [nI_leI (by omega) (by omega)]; omega), gd_t (inb_nI (by omega) (by omega))]
      rw [lt_e, lt_e, lt_e, lt_e, lt_e, nI_clamp (by omega), mS_ne (show (19 : Nat) ≠ 1 by decide), nI_s]
      exact g1
    · rw [g4, mS_ne (show (18 : Nat) ≠ 2 by decide), mS_ne (show (18 : Nat) ≠ 1 by decide), mS_ne (show (1 : Nat) ≠ 2 by decide)]
      by_cases q : j = i
      · subst q; rw [if_neg (by omega), if_pos (by omega), mS_eq]
      · rw [mS_nj q]
        by_cases r : i + 1 ≤ j ∧ j < c
        · rw [if_pos r, if_pos (by omega)]
        · rw [if_neg r, if_neg (by omega)]
    · rw [g5, mS_ne (show (19 : Nat) ≠ 2 by decide), mS_ne (show (19 : Nat) ≠ 1 by decide)]
      by_cases q : j = i
      · subst q; rw [if_neg (by omega), if_pos (by omega), mS_eq]
      · rw [mS_nj q, mS_ne (show (2 : Nat) ≠ 1 by decide)]
        by_cases r : i + 1 ≤ j ∧ j < c
        · rw [if_pos r, if_pos (by omega)]
        · rw [if_neg r, if_neg (by omega)]
theorem fin_e {w v : Mem} (h : Rel w v) (hr : RDY w v) : ∃ c w' v', f_X5_become 0 1 w = some w' ∧ w'.1 (60+3*0) 2 = nI c ∧ f_X11_read_L148 FU 0 (mS (mS v 0 1 (v.1 0 32)) 0 4 ((mS v 0 1 (v.1 0 32)).1 0 37)) = some v' ∧ v'.1 0 1 = nI c ∧ Rel w' v' := by
  obtain ⟨hD, hP, hH, hB, hJ, hS, hF, hR, hT⟩ := h
  obtain ⟨c, c0, hc, e1, e2, e3, e4, e5⟩ := hr
  have k1 : (mS (mS v 0 1 (nI c)) 0 4 (v.1 0 37)).1 0 1 = nI c := by rw [mS_nj (by decide), mS_eq]
  obtain ⟨v', g1, g2, g3, g4, g5⟩ := rcp_L hc c 0 FU (mS (mS v 0 1 (nI c)) 0 4 (v.1 0 37)) (by omega) (by unfold FU; omega) k1
  refine ⟨c, mS (mS (mC (mC w 64 61 0 0 24) 65 62 0 0 24) 60 2 (nI c)) 60 3 (v.1 0 37), v', ?_, ?_, ?_, ?_, ?_⟩
  · unfold f_X5_become
    have z24 : (24 : Int32).toNatClampNeg = 24 := rfl
    rw [gd_t (show cpk 0 0 24 24 = true by decide), lt_e, lt_e, lt_e, lt_e, z0, z24]
    have m1 : (mC (mC w (61+3*1) (61+3*0) 0 0 24) (62+3*1) (62+3*0) 0 0 24).1 (60+3*1) 2 = nI c := by
      rw [mC_o (by decide), mC_o (by decide)]; exact e1
    have m2 : (mS (mC (mC w (61+3*1) (61+3*0) 0 0 24) (62+3*1) (62+3*0) 0 0 24) (60+3*0) 2 (nI c)).1 (60+3*1) 3 = v.1 0 37 := by
      rw [mS_ne (by decide), mC_o (by decide), mC_o (by decide)]; exact e3
    rw [m1, m2]
  · rw [mS_nj (by decide), mS_eq]
  · rw [e2, mS_nj (show (37 : Nat) ≠ 1 by decide)]; exact g1
  · rw [g3 0 (by decide) (by decide)]; exact k1
  · have w1 : ∀ o, o ≠ 60 → o ≠ 61 → o ≠ 62 → (mS (mS (mC (mC w 64 61 0 0 24) 65 62 0 0 24) 60 2 (nI c)) 60 3 (v.1 0 37)).1 o = w.1 o := fun o p q r => by
      rw [mS_o p, mS_o p, mC_o r, mC_o q]
    have w2 : (mS (mS (mC (mC w 64 61 0 0 24) 65 62 0 0 24) 60 2 (nI c)) 60 3 (v.1 0 37)).2 = w.2 := rfl
    have v1 : ∀ o, o ≠ 0 → o ≠ 1 → o ≠ 2 → v'.1 o = v.1 o := fun o p q r => by
      rw [g3 o q r, mS_o p, mS_o p]
    have v0 : ∀ j, j ≠ 1 → j ≠ 4 → v'.1 0 j = v.1 0 j := fun j p q => by
      rw [g3 0 (by decide) (by decide), mS_nj q, mS_nj p]
    have v2 : v'.2 = v.2 := by rw [g2]; rfl
    refine ⟨?_, ?_, ?_, ?_, ?_, ?_, ?_, ?_, ?_⟩
    · exact RD_c hD (fun o ho => w1 o (by omega) (by omega) (by omega)) (v1 _ (by decide) (by decide) (by decide)) (v1 _ (by decide) (by decide) (by decide)) (v1 _ (by decide) (by decide) (by decide))
    · refine ⟨c, hc, by rw [mS_nj (by decide), mS_eq], by rw [g3 0 (by decide) (by decide)]; exact k1, fun _ => ?_, fun j hj => ?_⟩
      · have e04 : v'.1 0 4 = v.1 0 37 := by rw [g3 0 (by decide) (by decide), mS_eq]
        rw [mS_eq, e04]; exact ⟨rfl, e4⟩
      · obtain ⟨f1, f2, f3, f4⟩ := e5 j hj
        rw [g4, g5, if_pos (by omega), if_pos (by omega), mS_ne (show (18 : Nat) ≠ 0 by decide), mS_ne (show (18 : Nat) ≠ 0 by decide), mS_ne (show (19 : Nat) ≠ 0 by decide), mS_ne (show (19 : Nat) ≠ 0 by decide), mS_ne (show (61 : Nat) ≠ 60 by decide), mS_ne (show (61 : Nat) ≠ 60 by decide), mS_ne (show (62 : Nat) ≠ 60 by decide), mS_ne (show (62 : Nat) ≠ 60 by decide), mC_o (show (61 : Nat) ≠ 62 by decide), mC_s, mC_s, mC_o (show (65 : Nat) ≠ 61 by decide)]
        unfold va_cpy
        rw [if_pos (by omega), if_pos (by omega), show 0 + (j - 0) = j by omega]
        exact ⟨f1, f2, f3, f4⟩
    · exact RH_c hH (by rw [w1 72 (by decide) (by decide) (by decide)]) (w1 _ (by decide) (by decide) (by decide)) (v0 _ (by decide) (by decide)) (v1 _ (by decide) (by decide) (by decide))
    · exact RB_c hB (w1 _ (by decide) (by decide) (by decide)) (w1 _ (by decide) (by decide) (by decide)) (v1 _ (by decide) (by decide) (by decide)) (v0 _ (by decide) (by decide)) (v0 _ (by decide) (by decide)) (v0 _ (by decide) (by decide)) (v0 _ (by decide) (by decide))
    · exact RJ_c hJ (by rw [w1 76 (by decide) (by decide) (by decide)]) (w1 _ (by decide) (by decide) (by decide)) (w1 _ (by decide) (by decide) (by decide)) (v0 _ (by decide) (by decide)) (v1 _ (by decide) (by decide) (by decide)) (v1 _ (by decide) (by decide) (by decide))
    · exact RS_c hS (w1 _ (by decide) (by decide) (by decide)) (w1 _ (by decide) (by decide) (by decide)) (w1 _ (by decide) (by decide) (by decide)) (v0 _ (by decide) (by decide)) (v1 _ (by decide) (by decide) (by decide)) (v1 _ (by decide) (by decide) (by decide)) (v1 _ (by decide) (by decide) (by decide))
    · exact RF_c hF (by rw [w1 83 (by decide) (by decide) (by decide)]) (w1 _ (by decide) (by decide) (by decide)) (w1 _ (by decide) (by decide) (by decide)) (v0 _ (by decide) (by decide)) (v1 _ (by decide) (by decide) (by decide)) (v1 _ (by decide) (by decide) (by decide))
    · exact RR_c hR (by rw [w1 66 (by decide) (by decide) (by decide)]) (v0 _ (by decide) (by decide))
    · exact RT_c hT (fun o p q => w1 o (by omega) (by omega) (by omega)) (fun o p q => by rw [w2]) (v1 _ (by decide) (by decide) (by decide)) (v1 _ (by decide) (by decide) (by decide)) (v1 _ (by decide) (by decide) (by decide)) (by rw [v2])
theorem step_1 {w v : Mem} (h : Rel w v) (x1 : Int32) : ∃ r w' v', f_X10_read x1 w = some (r, w') ∧ f_X11_read x1 v = some (r, v') ∧ Rel w' v' := by
  have h0 := h
  unfold f_X10_read f_X11_read
  rw [tpm_eq]
  rcases in_c x1 0 5 with ⟨q, k1⟩ | ⟨q, k1⟩
  rotate_left
  · have ag : f_X10_againstSort x1 1 w = some (-1) := by
      unfold f_X10_againstSort
      rw [tp_eq, q, bd_s, if_pos rfl]
    rw [ag, q, bd_s, bd_s, if_neg (show ¬ (-1 : Int32) = 0 by decide), ref_N w (by decide), b2_s, if_pos rfl]
    exact ⟨-1, w, v, rfl, rfl, h0⟩
  simp at k1
  obtain ⟨t, ht, rfl⟩ := i_nat (x := x1) (N := 6) (by omega) (by omega) (by omega)
  obtain ⟨⟨s, hs, a1, a2, a3⟩, ⟨T, hT, b1, b2⟩, c⟩ := h.2.2.2.2.2.2.2.2 t ht
  rw [q, bd_s, ag_e ht hs a1, bd_s, if_neg one_ne, gd_t (inb_nI ht (by omega)), gd_t (inb_nI ht (by omega)), nI_clamp (n := t) (by omega), a2]
  by_cases s0 : s = 0
  · subst s0
    rw [if_pos rfl, if_neg (show ¬ (-11 : Int32) = 0 by decide), if_pos (show nI 0 = 0 by decide), ref_C w (by decide), ref_M]
    exact ⟨-11, _, _, rfl, rfl, Rel_ref h0⟩
  rw [if_neg s0, if_neg (nz (n := s) (by omega) (by omega))]
  by_cases s1 : s = 1
  rotate_left
  · have ns1 : ¬ nI s = 1 := nI_ne (a := s) (b := 1) (by omega) (by omega) s1
    rw [if_neg ns1, if_neg (show ¬ (-12 : Int32) = 0 by decide), if_neg ns1, ref_C w (by decide), ref_M]
    exact ⟨-12, _, _, rfl, rfl, Rel_ref h0⟩
  subst s1
  rw [if_pos (show nI 1 = 1 by decide), if_pos rfl, if_pos (show nI 1 = 1 by decide)]
  -- both begin
  have fc : FC w (mS (mS (mS (mS (mS (mS (mS w 63 2 0) 63 3 0) 67 3 0) 67 5 0) 67 6 0) 67 7 0) 67 8 0) := FC_s (FC_s (FC_s (FC_s (FC_s (FC_s (FC_s (FC_r w) (o := 63) (by omega)) (o := 63) (by omega)) (o := 67) (by omega)) (o := 67) (by omega)) (o := 67) (by omega)) (o := 67) (by omega)) (o := 67) (by omega)
  have fv : FV v (mS (mS (mS (mS (mS (mS (mS (mS (mS (mS v 0 31 (nI t)) 0 30 (nI T)) 0 29 0) 0 32 0) 0 33 0) 0 34 0) 0 35 0) 0 36 0) 0 38 0) 0 39 0) := FV_s (FV_s (FV_s (FV_s (FV_s (FV_s (FV_s (FV_s (FV_s (FV_s (FV_r v) (o := 0) (j := 31) (by omega)) (o := 0) (j := 30) (by omega)) (o := 0) (j := 29) (by omega)) (o := 0) (j := 32) (by omega)) (o := 0) (j := 33) (by omega)) (o := 0) (j := 34) (by omega)) (o := 0) (j := 35) (by omega)) (o := 0) (j := 36) (by omega)) (o := 0) (j := 38) (by omega)) (o := 0) (j := 39) (by omega)
  have st : STR (mS (mS (mS (mS (mS (mS (mS w 63 2 0) 63 3 0) 67 3 0) 67 5 0) 67 6 0) 67 7 0) 67 8 0) (mS (mS (mS (mS (mS (mS (mS (mS (mS (mS v 0 31 (nI t)) 0 30 (nI T)) 0 29 0) 0 32 0) 0 33 0) 0 34 0) 0 35 0) 0 36 0) 0 38 0) 0 39 0) t T 0 0 (fun _ => 0) (fun _ => 0) := by
    refine ⟨⟨ht, hT, ?_, fun j hj => ?_⟩, ⟨rfl, rfl, rfl, rfl⟩, ⟨rfl, rfl⟩, ⟨rfl, rfl⟩, ⟨rfl, Or.inl rfl⟩, ⟨rfl, Or.inl rfl⟩, fun k hk => absurd hk (Nat.not_lt_zero _), ⟨0, by omega, rfl, rfl, fun j hj => absurd hj (Nat.not_lt_zero _)⟩, fun z => absurd z (show ¬ (0 : Int32) = 1 by decide)⟩
    · rw [fc.1 _ (by omega) (by omega) (by omega) (by omega) (by omega) (by omega)]; exact b1
    · unfold txt
      rw [fc.2, fv.2.2, c j hj]
  obtain ⟨i1, i2⟩ := IV_0 (txt (mS (mS (mS (mS (mS (mS (mS (mS (mS (mS v 0 31 (nI t)) 0 30 (nI T)) 0 29 0) 0 32 0) 0 33 0) 0 34 0) 0 35 0) 0 36 0) 0 38 0) 0 39 0) t) hT
  have R := read_L 300000 0 0 0 FU FU _ _ _ _ _ st i1 (by omega) (by omega) (by unfold FU; omega) (by unfold FU; omega)
  have S : ∀ x, f_X6_firstFault_L8 t FU (nI 0) (nI 0) (mS (mS (mS (mS (mS (mS (mS w 63 2 0) 63 3 0) 67 3 0) 67 5 0) 67 6 0) 67 7 0) 67 8 0) = x → f_X6_firstFault t w = bd x fun ex => sm ex (fun ret => ret) fun w_42 => some (w_42.1 (48+2*t) 3, w_42) := by
    intro x hx
    unfold f_X6_firstFault f_X6_start f_X5_forget
    rw [lt_e, lt_e, bd_s, lt_e, lt_e, lt_e, lt_e, lt_e, bd_s]
    rw [← hx]
    rfl
  rw [lt_e, lt_e, lt_e, lt_e, lt_e, lt_e, lt_e, lt_e, lt_e, lt_e, lt_e, mS_ne (show (16 : Nat) ≠ 0 by decide), b2]
  rcases R with ⟨x, w', v', g1, g2, g3, g4, g5⟩ | ⟨w', v', g2, g3, g4, g5, g6⟩
  · have F : f_X6_firstFault t w = some (nI x, w') := by
      rcases g4 with g4 | ⟨g4, g6⟩
      · rw [S _ g4]; rfl
      · rw [S _ g4, bd_s]
        show some (w'.1 (48+2*t) 3, w') = _
        rw [(FC_t fc g2).1 _ (by omega) (by omega) (by omega) (by omega) (by omega) (by omega), b1, g6]
    rw [F, b2_s, if_neg (show ¬ nI x = -1 from fun z => no1 (i := x) (by omega) z.symm), g5]
    exact ⟨_, w', v', rfl, rfl, Rel_FCV h0 (FC_t fc g2) (FV_t fv g3)⟩
  · have F : f_X6_firstFault t w = some (-1, w') := by rw [S _ g5]; rfl
    obtain ⟨c', w2, v2, f1, f2, f3, f4, f5⟩ := fin_e (Rel_FCV h0 (FC_t fc g2) (FV_t fv g3)) g4
    rw [F, b2_s, if_pos rfl, f1, bd_s, f2, g6, bd_s]
    refine ⟨nI c', w2, v2, rfl, ?_, f5⟩
    show (lt _ fun _ => _) = _
    rw [lt_e, lt_e, lt_e, f3, bd_s, f4]
