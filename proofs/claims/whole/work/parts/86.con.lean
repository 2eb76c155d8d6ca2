/-! ===== contracts (by program: wip/gen/gen.py): X11_canHem X11_rounds X11_restOf X11_more X11_looksAt X11_hem X11_fedAt X11_fed X11_meets X11_clears X11_feeds X11_judge X11_lockOf X11_liesIn X11_cloth X11_tensions X11_lock X11_tune X11_wind X11_thread X11_step X11_stepless ===== -/
theorem in_X11_canHem_X11 : ∀ w ∈ wsX110, w ∈ wsX11_canHem := by decide +kernel
theorem lk_X11_canHem_0 : Cond.fieldLink RX11 16 "CamStitchModel" "many" "[I" ∈ wsX11_canHem := by decide +kernel
set_option maxHeartbeats 4000000 in
set_option maxRecDepth 100000 in
theorem c_X11_canHem (l : Launch) {z : LZ} (hz : IM z)  (w : Mem) {r : Int32} (hf : f_X11_canHem w = some r) : Met l yX11_canHem wsX11_canHem (rm 1 23) (PZ z w [.ref (z.2.1 0)]) (QR (some (.int r))) 0 0 (fun _ => False) := by
  refine mk_Rz (cc := cX11_canHem) (maxL := 1) (by decide +kernel) rfl (Nat.le_of_ble_eq_true rfl) ?_
  intro p e s m args below meth c hx hb hml hts hown hK hW Q hret ls hl
  have hl : lv_has ls 1 [(0, .ref (z.2.1 0))] := hl
  unfold f_X11_canHem at hf
  refine lv_aload_n hx hb dX11_canHem_0 rfl (lv_at hl 0 rfl) ?_
  refine get_X11_5 hx hb hts in_X11_canHem_X11 hown hK hz hW lk_X11_canHem_0 dX11_canHem_1 ?_
  refine lv_bipush (v := 14) hx hb dX11_canHem_4 (by decide) ?_
  obtain ⟨g_1, hf⟩ := of_gd hf
  refine ld_M3 hx hb hK hz hW g_1 dX11_canHem_6 ?_
  refine lv_topi (fun v_2 ev_2 => ?_)
  have hf := of_lt ev_2 hf
  refine lv_if_le (tgt := 23) hx hb dX11_canHem_7 (by decide) (fun c_3 => ?_) (fun c_3 => ?_)
  · have hf := of_t c_3 hf
    refine lv_iconst (v := 0) hx hb dX11_canHem_23 (by decide) ?_
    exact hret _ _ _ hf rfl dX11_canHem_24
  · have hf := of_f c_3 hf
    refine lv_aload_n hx hb dX11_canHem_10 rfl (lv_at hl 0 rfl) ?_
    refine lv_bipush (v := 14) hx hb dX11_canHem_11 (by decide) ?_
    obtain ⟨r_4, hq_5, hf⟩ := of_bd hf
    refine m_goRi (va_runV (As := [.int 14]) (rest := []) ⟨hx, hb, hml, hown, hts⟩ (c_X11_lengthOf l hz 14 w hq_5) (cwV 1 hts gX11_canHem_X11_lengthOf rfl rfl rfl (by decide +kernel) ⟨Nat.le_of_ble_eq_true rfl, Nat.le_of_ble_eq_true rfl⟩) (pre_X11 hK hz hW _) rfl rfl hl.1 rfl (lv_room (Nat.le_of_ble_eq_true rfl)) dX11_canHem_13 ⟨Nat.le_refl _, Nat.le_refl _⟩) ?_
    have J_7 : ∀ (v_6 : Int32) (ls : Array Slot), v_6 = (if r_4 ≤ 0 then 0 else 1) → lv_has ls 1 [] → W p l e (rm 1 23) s m args below meth c s.heap [] 0 0 Q (F0 m 24 ls [.int v_6]) := by
      intro v_6 ls ev_6 hl
      have hf := of_lt ev_6 hf
      obtain ⟨g_8, hf⟩ := of_gd hf
      exact hret _ _ _ hf (bz_n g_8) dX11_canHem_24
    refine lv_if_le (tgt := 23) hx hb dX11_canHem_16 (by decide) (fun c_9 => ?_) (fun c_9 => ?_)
    · refine lv_iconst (v := 0) hx hb dX11_canHem_23 (by decide) ?_
      exact J_7 _ _ (by rw [if_pos c_9]) (lv_sub hl [] rfl)
    · refine lv_iconst (v := 1) hx hb dX11_canHem_19 (by decide) ?_
      refine lv_goto (tgt := 24) hx hb dX11_canHem_20 (by decide) ?_
      exact J_7 _ _ (by rw [if_neg c_9]) (lv_sub hl [] rfl)
theorem in_X11_rounds_X11 : ∀ w ∈ wsX110, w ∈ wsX11_rounds := by decide +kernel
theorem lk_X11_rounds_0 : Cond.fieldLink RX11 25 "CamStitchModel" "side" "[I" ∈ wsX11_rounds := by decide +kernel
set_option maxHeartbeats 4000000 in
set_option maxRecDepth 100000 in
theorem c_X11_rounds (l : Launch) {z : LZ} (hz : IM z) (x1 : Int32) (w : Mem) {r : Int32} (hf : f_X11_rounds x1 w = some r) : Met l yX11_rounds wsX11_rounds (rm 1 23) (PZ z w [.ref (z.2.1 0), .int x1]) (QR (some (.int r))) 0 0 (fun _ => False) := by
  refine mk_Ri (cc := cX11_rounds) (maxL := 5) (by decide +kernel) rfl (Nat.le_of_ble_eq_true rfl) ?_
  intro p e s m args below meth c hx hb hml hts hown hK hW Q hret ls hl
  have hl : lv_has ls 5 [(0, .ref (z.2.1 0)), (1, .int x1)] := hl
  unfold f_X11_rounds at hf
  refine lv_aload_n hx hb dX11_rounds_0 rfl (lv_at hl 0 rfl) ?_
  refine lv_bipush (v := 14) hx hb dX11_rounds_1 (by decide) ?_
  obtain ⟨r_1, hq_2, hf⟩ := of_bd hf
  refine m_goRi (va_runV (As := [.int 14]) (rest := []) ⟨hx, hb, hml, hown, hts⟩ (c_X11_lengthOf l hz 14 w hq_2) (cwV 1 hts gX11_rounds_X11_lengthOf rfl rfl rfl (by decide +kernel) ⟨Nat.le_of_ble_eq_true rfl, Nat.le_of_ble_eq_true rfl⟩) (pre_X11 hK hz hW _) rfl rfl hl.1 rfl (lv_room (Nat.le_of_ble_eq_true rfl)) dX11_rounds_3 ⟨Nat.le_refl _, Nat.le_refl _⟩) ?_
  refine lv_istore_n (lv' := [(2, .int r_1), (0, .ref (z.2.1 0)), (1, .int x1)]) hx hb dX11_rounds_6 rfl hl (by decide) rfl (fun ls hl => ?_)
  refine lv_iconst (v := 1) hx hb dX11_rounds_7 (by decide) ?_
  refine lv_istore_n (lv' := [(3, .int 1), (2, .int r_1), (0, .ref (z.2.1 0)), (1, .int x1)]) hx hb dX11_rounds_8 rfl hl (by decide) rfl (fun ls hl => ?_)
  refine lv_iconst (v := 2) hx hb dX11_rounds_9 (by decide) ?_
  refine lv_istore (lv' := [(4, .int 2), (3, .int 1), (2, .int r_1), (0, .ref (z.2.1 0)), (1, .int x1)]) hx hb dX11_rounds_10 hl (by decide) rfl (fun ls hl => ?_)
  have L_5 : ∀ (n : Nat) (x3_3 : Int32) (x4_4 : Int32) (exL_5 : Int32) (ls : Array Slot), f_X11_rounds_L12 w x1 r_1 n x3_3 x4_4 = some exL_5 → lv_has ls 5 [(0, .ref (z.2.1 0)), (1, .int x1), (2, .int r_1), (3, .int x3_3), (4, .int x4_4)] → (∀ (ls : Array Slot), lv_has ls 5 [(3, .int exL_5)] → W p l e (rm 1 23) s m args below meth c s.heap [] 0 0 Q (F0 m 66 ls [])) → W p l e (rm 1 23) s m args below meth c s.heap [] 0 0 Q (F0 m 12 ls []) := by
    intro n
    induction n with
    | zero =>
      intro x3_3 x4_4 exL_5 ls hf
      have hf : (none : Option (Int32)) = some exL_5 := hf
      cases hf
    | succ n ihL_5 =>
      intro x3_3 x4_4 exL_5 ls hf hl hEL_5
      rw [f_X11_rounds_L12_s] at hf
      refine lv_iload hx hb dX11_rounds_12 (lv_at hl 4 rfl) ?_
      refine lv_aload_n hx hb dX11_rounds_14 rfl (lv_at hl 0 rfl) ?_
      refine get_X11_9 hx hb hts in_X11_rounds_X11 hown hK hz hW lk_X11_rounds_0 dX11_rounds_15 ?_
      refine lv_iload_n hx hb dX11_rounds_18 rfl (lv_at hl 1 rfl) ?_
      obtain ⟨g_6, hf⟩ := of_gd hf
      refine ld_M6 hx hb hK hz hW g_6 dX11_rounds_19 ?_
      refine lv_icmp_gt (tgt := 66) hx hb dX11_rounds_20 (by decide) (fun c_7 => ?_) (fun c_7 => ?_)
      · have hf := of_t c_7 hf
        have hf := Option.some.inj hf
        subst hf
        exact hEL_5 _ (lv_sub hl [3] rfl)
      · have hf := of_f c_7 hf
        refine lv_aload_n hx hb dX11_rounds_23 rfl (lv_at hl 0 rfl) ?_
        refine get_X11_9 hx hb hts in_X11_rounds_X11 hown hK hz hW lk_X11_rounds_0 dX11_rounds_24 ?_
        refine lv_iload_n hx hb dX11_rounds_27 rfl (lv_at hl 1 rfl) ?_
        refine ld_M6 hx hb hK hz hW g_6 dX11_rounds_28 ?_
        refine lv_iload hx hb dX11_rounds_29 (lv_at hl 4 rfl) ?_
        refine lv_iload_n hx hb dX11_rounds_31 rfl (lv_at hl 2 rfl) ?_
        refine lv_imul hx hb dX11_rounds_32 ?_
        refine lv_isub hx hb dX11_rounds_33 ?_
        refine lv_topi (fun v_8 ev_8 => ?_)
        have hf := of_lt ev_8 hf
        obtain ⟨r_9, hq_10, hf⟩ := of_bd hf
        refine m_goRi (va_runS (As := [.int v_8]) (rest := []) ⟨hx, hb, hml, hown, hts⟩ (c_X11_away l hz v_8 w hq_10) (va_cwS 1 hts gX11_rounds_X11_away rfl rfl rfl (by decide +kernel) ⟨Nat.le_of_ble_eq_true rfl, Nat.le_of_ble_eq_true rfl⟩) (m_preS hK hW _) rfl rfl hl.1 rfl (lv_room (Nat.le_of_ble_eq_true rfl)) dX11_rounds_34 ⟨Nat.le_refl _, Nat.le_refl _⟩) ?_
        refine lv_aload_n hx hb dX11_rounds_37 rfl (lv_at hl 0 rfl) ?_
        refine get_X11_9 hx hb hts in_X11_rounds_X11 hown hK hz hW lk_X11_rounds_0 dX11_rounds_38 ?_
        refine lv_iload_n hx hb dX11_rounds_41 rfl (lv_at hl 1 rfl) ?_
        refine ld_M6 hx hb hK hz hW g_6 dX11_rounds_42 ?_
        refine lv_iload_n hx hb dX11_rounds_43 rfl (lv_at hl 3 rfl) ?_
        refine lv_iload_n hx hb dX11_rounds_44 rfl (lv_at hl 2 rfl) ?_
        refine lv_imul hx hb dX11_rounds_45 ?_
        refine lv_isub hx hb dX11_rounds_46 ?_
        refine lv_topi (fun v_11 ev_11 => ?_)
        have hf := of_lt ev_11 hf
        obtain ⟨r_12, hq_13, hf⟩ := of_bd hf
        refine m_goRi (va_runS (As := [.int v_11]) (rest := [.int r_9]) ⟨hx, hb, hml, hown, hts⟩ (c_X11_away l hz v_11 w hq_13) (va_cwS 1 hts gX11_rounds_X11_away rfl rfl rfl (by decide +kernel) ⟨Nat.le_of_ble_eq_true rfl, Nat.le_of_ble_eq_true rfl⟩) (m_preS hK hW _) rfl rfl hl.1 rfl (lv_room (Nat.le_of_ble_eq_true rfl)) dX11_rounds_47 ⟨Nat.le_refl _, Nat.le_refl _⟩) ?_
        have J_15 : ∀ (v_14 : Int32) (ls : Array Slot), v_14 = (if r_12 ≤ r_9 then x3_3 else x4_4) → lv_has ls 5 [(0, .ref (z.2.1 0)), (1, .int x1), (2, .int r_1), (4, .int x4_4)] → W p l e (rm 1 23) s m args below meth c s.heap [] 0 0 Q (F0 m 59 ls [.int v_14]) := by
          intro v_14 ls ev_14 hl
          have hf := of_lt ev_14 hf
          refine lv_istore_n (lv' := [(3, .int v_14), (0, .ref (z.2.1 0)), (1, .int x1), (2, .int r_1), (4, .int x4_4)]) hx hb dX11_rounds_59 rfl hl (by decide) rfl (fun ls hl => ?_)
          obtain ⟨x4_16, ex4_16⟩ : ∃ y : Int32, y = x4_4 + 1 := ⟨_, rfl⟩
          have hf := of_lt ex4_16 hf
          refine lv_iinc (v := x4_16) (lv' := [(4, .int x4_16), (3, .int v_14), (0, .ref (z.2.1 0)), (1, .int x1), (2, .int r_1)]) hx hb dX11_rounds_60 hl (k := 4) rfl (by rw [ex4_16]; rfl) (by decide) rfl (fun ls hl => ?_)
          refine lv_goto (tgt := 12) hx hb dX11_rounds_63 (by decide) ?_
          exact ihL_5 _ _ _ _ hf (lv_sub hl [2, 3, 4, 1, 0] rfl) hEL_5
        refine lv_icmp_ge (tgt := 58) hx hb dX11_rounds_50 (by decide) (fun c_17 => ?_) (fun c_17 => ?_)
        · refine lv_iload_n hx hb dX11_rounds_58 rfl (lv_at hl 3 rfl) ?_
          exact J_15 _ _ (by rw [if_pos c_17]) (lv_sub hl [0, 1, 2, 4] rfl)
        · refine lv_iload hx hb dX11_rounds_53 (lv_at hl 4 rfl) ?_
          refine lv_goto (tgt := 59) hx hb dX11_rounds_55 (by decide) ?_
          exact J_15 _ _ (by rw [if_neg c_17]) (lv_sub hl [0, 1, 2, 4] rfl)
  obtain ⟨ex_19, hq_18, hf⟩ := of_bd hf
  obtain ⟨x3_20, ex3_20⟩ : ∃ y, y = ex_19 := ⟨_, rfl⟩
  rw [← ex3_20] at hf
  rw [← ex3_20] at hq_18
  refine L_5 FU _ _ _ _ hq_18 (lv_sub hl [3, 4, 2, 1, 0] rfl) (fun ls hl => ?_)
  have hl : lv_has ls 5 [(3, .int x3_20)] := hl
  refine lv_iload_n hx hb dX11_rounds_66 rfl (lv_at hl 0 rfl) ?_
  exact hret _ _ _ hf dX11_rounds_67
theorem in_X11_restOf_X11 : ∀ w ∈ wsX110, w ∈ wsX11_restOf := by decide +kernel
theorem lk_X11_restOf_0 : Cond.fieldLink RX11 25 "CamStitchModel" "side" "[I" ∈ wsX11_restOf := by decide +kernel
set_option maxHeartbeats 4000000 in
set_option maxRecDepth 100000 in
theorem c_X11_restOf (l : Launch) {z : LZ} (hz : IM z) (x1 : Int32) (w : Mem) {r : Int32} (hf : f_X11_restOf x1 w = some r) : Met l yX11_restOf wsX11_restOf (rm 2 47) (PZ z w [.ref (z.2.1 0), .int x1]) (QR (some (.int r))) 0 0 (fun _ => False) := by
  refine mk_Ri (cc := cX11_restOf) (maxL := 2) (by decide +kernel) rfl (Nat.le_of_ble_eq_true rfl) ?_
  intro p e s m args below meth c hx hb hml hts hown hK hW Q hret ls hl
  have hl : lv_has ls 2 [(0, .ref (z.2.1 0)), (1, .int x1)] := hl
  unfold f_X11_restOf at hf
  refine lv_aload_n hx hb dX11_restOf_0 rfl (lv_at hl 0 rfl) ?_
  refine get_X11_9 hx hb hts in_X11_restOf_X11 hown hK hz hW lk_X11_restOf_0 dX11_restOf_1 ?_
  refine lv_iload_n hx hb dX11_restOf_4 rfl (lv_at hl 1 rfl) ?_
  obtain ⟨g_1, hf⟩ := of_gd hf
  refine ld_M6 hx hb hK hz hW g_1 dX11_restOf_5 ?_
  refine lv_aload_n hx hb dX11_restOf_6 rfl (lv_at hl 0 rfl) ?_
  refine lv_iload_n hx hb dX11_restOf_7 rfl (lv_at hl 1 rfl) ?_
  obtain ⟨r_2, hq_3, hf⟩ := of_bd hf
  refine m_goRi (va_runV (As := [.int x1]) (rest := [.int (w.1 6 x1.toNatClampNeg)]) ⟨hx, hb, hml, hown, hts⟩ (c_X11_rounds l hz x1 w hq_3) (cwV 1 hts gX11_restOf_X11_rounds rfl rfl rfl (by decide +kernel) ⟨Nat.le_of_ble_eq_true rfl, Nat.le_of_ble_eq_true rfl⟩) (pre_X11 hK hz hW _) rfl rfl hl.1 rfl (lv_room (Nat.le_of_ble_eq_true rfl)) dX11_restOf_8 ⟨Nat.le_refl _, Nat.le_refl _⟩) ?_
  refine lv_aload_n hx hb dX11_restOf_11 rfl (lv_at hl 0 rfl) ?_
  refine lv_bipush (v := 14) hx hb dX11_restOf_12 (by decide) ?_
  obtain ⟨r_4, hq_5, hf⟩ := of_bd hf
  refine m_goRi (va_runV (As := [.int 14]) (rest := [.int r_2, .int (w.1 6 x1.toNatClampNeg)]) ⟨hx, hb, hml, hown, hts⟩ (c_X11_lengthOf l hz 14 w hq_5) (cwV 1 hts gX11_restOf_X11_lengthOf rfl rfl rfl (by decide +kernel) ⟨Nat.le_of_ble_eq_true rfl, Nat.le_of_ble_eq_true rfl⟩) (pre_X11 hK hz hW _) rfl rfl hl.1 rfl (lv_room (Nat.le_of_ble_eq_true rfl)) dX11_restOf_14 ⟨Nat.le_refl _, Nat.le_refl _⟩) ?_
  refine lv_imul hx hb dX11_restOf_17 ?_
  refine lv_isub hx hb dX11_restOf_18 ?_
  refine lv_topi (fun v_6 ev_6 => ?_)
  have hf := of_lt ev_6 hf
  exact hret _ _ _ hf dX11_restOf_19
set_option maxHeartbeats 4000000 in
set_option maxRecDepth 100000 in
theorem c_X11_more (l : Launch) {z : LZ} (hz : IM z) (x1 : Int32) (x2 : Int32) (x3 : Int32) (w : Mem) {r : Int32} (hf : f_X11_more x1 x2 x3 = some r) : Met l yX11_more wsX11_more (rm 1 22) (PZ z w [.ref (z.2.1 0), .int x1, .int x2, .int x3]) (QR (some (.int r))) 0 0 (fun _ => False) := by
  refine mk_Ri (cc := cX11_more) (maxL := 4) (by decide +kernel) rfl (Nat.le_of_ble_eq_true rfl) ?_
  intro p e s m args below meth c hx hb hml hts hown hK hW Q hret ls hl
  have hl : lv_has ls 4 [(0, .ref (z.2.1 0)), (1, .int x1), (2, .int x2), (3, .int x3)] := hl
  unfold f_X11_more at hf
  refine lv_iload_n hx hb dX11_more_0 rfl (lv_at hl 1 rfl) ?_
  refine lv_iload_n hx hb dX11_more_1 rfl (lv_at hl 2 rfl) ?_
  refine lv_iconst (v := 1) hx hb dX11_more_2 (by decide) ?_
  refine lv_iadd hx hb dX11_more_3 ?_
  refine lv_imul hx hb dX11_more_4 ?_
  refine lv_iload_n hx hb dX11_more_5 rfl (lv_at hl 3 rfl) ?_
  obtain ⟨r_1, hq_2, hf⟩ := of_bd hf
  refine m_goRi (va_runS (As := [.int (x1 * (x2 + 1)), .int x3]) (rest := []) ⟨hx, hb, hml, hown, hts⟩ (c_X11_floor l hz (x1 * (x2 + 1)) x3 w hq_2) (va_cwS 2 hts gX11_more_X11_floor rfl rfl rfl (by decide +kernel) ⟨Nat.le_of_ble_eq_true rfl, Nat.le_of_ble_eq_true rfl⟩) (m_preS hK hW _) rfl rfl hl.1 rfl (lv_room (Nat.le_of_ble_eq_true rfl)) dX11_more_6 ⟨Nat.le_refl _, Nat.le_refl _⟩) ?_
  refine lv_iload_n hx hb dX11_more_9 rfl (lv_at hl 1 rfl) ?_
  refine lv_iload_n hx hb dX11_more_10 rfl (lv_at hl 2 rfl) ?_
  refine lv_imul hx hb dX11_more_11 ?_
  refine lv_iload_n hx hb dX11_more_12 rfl (lv_at hl 3 rfl) ?_
  obtain ⟨r_3, hq_4, hf⟩ := of_bd hf
  refine m_goRi (va_runS (As := [.int (x1 * x2), .int x3]) (rest := [.int r_1]) ⟨hx, hb, hml, hown, hts⟩ (c_X11_floor l hz (x1 * x2) x3 w hq_4) (va_cwS 2 hts gX11_more_X11_floor rfl rfl rfl (by decide +kernel) ⟨Nat.le_of_ble_eq_true rfl, Nat.le_of_ble_eq_true rfl⟩) (m_preS hK hW _) rfl rfl hl.1 rfl (lv_room (Nat.le_of_ble_eq_true rfl)) dX11_more_13 ⟨Nat.le_refl _, Nat.le_refl _⟩) ?_
  refine lv_isub hx hb dX11_more_16 ?_
  exact hret _ _ _ hf dX11_more_17
theorem in_X11_looksAt_X11 : ∀ w ∈ wsX110, w ∈ wsX11_looksAt := by decide +kernel
theorem lk_X11_looksAt_0 : Cond.fieldLink RX11 16 "CamStitchModel" "many" "[I" ∈ wsX11_looksAt := by decide +kernel
theorem lk_X11_looksAt_1 : Cond.fieldLink RX11 22 "CamStitchModel" "feed" "[I" ∈ wsX11_looksAt := by decide +kernel
set_option maxHeartbeats 4000000 in
set_option maxRecDepth 100000 in
theorem c_X11_looksAt (l : Launch) {z : LZ} (hz : IM z) (x1 : Int32) (x2 : Int32) (w : Mem) {r : Int32} (hf : f_X11_looksAt x1 x2 w = some r) : Met l yX11_looksAt wsX11_looksAt (rm 3 68) (PZ z w [.ref (z.2.1 0), .int x1, .int x2]) (QR (some (.int r))) 0 0 (fun _ => False) := by
  refine mk_Ri (cc := cX11_looksAt) (maxL := 9) (by decide +kernel) rfl (Nat.le_of_ble_eq_true rfl) ?_
  intro p e s m args below meth c hx hb hml hts hown hK hW Q hret ls hl
  have hl : lv_has ls 9 [(0, .ref (z.2.1 0)), (1, .int x1), (2, .int x2)] := hl
  unfold f_X11_looksAt at hf
  refine lv_aload_n hx hb dX11_looksAt_0 rfl (lv_at hl 0 rfl) ?_
  refine lv_iload_n hx hb dX11_looksAt_1 rfl (lv_at hl 1 rfl) ?_
  obtain ⟨r_1, hq_2, hf⟩ := of_bd hf
  refine m_goRi (va_runV (As := [.int x1]) (rest := []) ⟨hx, hb, hml, hown, hts⟩ (c_X11_rounds l hz x1 w hq_2) (cwV 1 hts gX11_looksAt_X11_rounds rfl rfl rfl (by decide +kernel) ⟨Nat.le_of_ble_eq_true rfl, Nat.le_of_ble_eq_true rfl⟩) (pre_X11 hK hz hW _) rfl rfl hl.1 rfl (lv_room (Nat.le_of_ble_eq_true rfl)) dX11_looksAt_2 ⟨Nat.le_refl _, Nat.le_refl _⟩) ?_
  refine lv_aload_n hx hb dX11_looksAt_5 rfl (lv_at hl 0 rfl) ?_
  refine get_X11_5 hx hb hts in_X11_looksAt_X11 hown hK hz hW lk_X11_looksAt_0 dX11_looksAt_6 ?_
  refine lv_bipush (v := 14) hx hb dX11_looksAt_9 (by decide) ?_
  obtain ⟨g_3, hf⟩ := of_gd hf
  refine ld_M3 hx hb hK hz hW g_3 dX11_looksAt_11 ?_
  refine lv_topi (fun v_4 ev_4 => ?_)
  have hf := of_lt ev_4 hf
  refine lv_imul hx hb dX11_looksAt_12 ?_
  refine lv_topi (fun v_5 ev_5 => ?_)
  have hf := of_lt ev_5 hf
  refine lv_istore_n (lv' := [(3, .int v_5), (0, .ref (z.2.1 0)), (1, .int x1), (2, .int x2)]) hx hb dX11_looksAt_13 rfl hl (by decide) rfl (fun ls hl => ?_)
  refine lv_aload_n hx hb dX11_looksAt_14 rfl (lv_at hl 1 rfl) ?_
  refine lv_iload_n hx hb dX11_looksAt_15 rfl (lv_at hl 2 rfl) ?_
  obtain ⟨r_6, hq_7, hf⟩ := of_bd hf
  refine m_goRi (va_runV (As := [.int x1]) (rest := []) ⟨hx, hb, hml, hown, hts⟩ (c_X11_restOf l hz x1 w hq_7) (cwV 1 hts gX11_looksAt_X11_restOf rfl rfl rfl (by decide +kernel) ⟨Nat.le_of_ble_eq_true rfl, Nat.le_of_ble_eq_true rfl⟩) (pre_X11 hK hz hW _) rfl rfl hl.1 rfl (lv_room (Nat.le_of_ble_eq_true rfl)) dX11_looksAt_16 ⟨Nat.le_refl _, Nat.le_refl _⟩) ?_
  refine lv_istore (lv' := [(4, .int r_6), (3, .int v_5), (0, .ref (z.2.1 0)), (1, .int x1), (2, .int x2)]) hx hb dX11_looksAt_19 hl (by decide) rfl (fun ls hl => ?_)
  refine lv_iconst (v := 1) hx hb dX11_looksAt_21 (by decide) ?_
  refine lv_istore (lv' := [(5, .int 1), (4, .int r_6), (3, .int v_5), (0, .ref (z.2.1 0)), (1, .int x1), (2, .int x2)]) hx hb dX11_looksAt_22 hl (by decide) rfl (fun ls hl => ?_)
  refine lv_iconst (v := 0) hx hb dX11_looksAt_24 (by decide) ?_
  refine lv_istore (lv' := [(6, .int 0), (5, .int 1), (4, .int r_6), (3, .int v_5), (0, .ref (z.2.1 0)), (1, .int x1), (2, .int x2)]) hx hb dX11_looksAt_25 hl (by decide) rfl (fun ls hl => ?_)
  refine lv_iconst (v := 0) hx hb dX11_looksAt_27 (by decide) ?_
  refine lv_istore (lv' := [(7, .int 0), (6, .int 0), (5, .int 1), (4, .int r_6), (3, .int v_5), (0, .ref (z.2.1 0)), (1, .int x1), (2, .int x2)]) hx hb dX11_looksAt_28 hl (by decide) rfl (fun ls hl => ?_)
  have L_11 : ∀ (n : Nat) (x5_8 : Int32) (x6_9 : Int32) (x7_10 : Int32) (exL_11 : Int32 × Int32) (ls : Array Slot), f_X11_looksAt_L30 w v_5 r_6 n x5_8 x6_9 x7_10 = some exL_11 → lv_has ls 9 [(0, .ref (z.2.1 0)), (2, .int x2), (3, .int v_5), (4, .int r_6), (5, .int x5_8), (6, .int x6_9), (7, .int x7_10)] → (∀ (ls : Array Slot), lv_has ls 9 [(2, .int x2), (5, .int exL_11.1), (6, .int exL_11.2)] → W p l e (rm 3 68) s m args below meth c s.heap [] 0 0 Q (F0 m 119 ls [])) → W p l e (rm 3 68) s m args below meth c s.heap [] 0 0 Q (F0 m 30 ls []) := by
    intro n
    induction n with
    | zero =>
      intro x5_8 x6_9 x7_10 exL_11 ls hf
      have hf : (none : Option (Int32 × Int32)) = some exL_11 := hf
      cases hf
    | succ n ihL_11 =>
      intro x5_8 x6_9 x7_10 exL_11 ls hf hl hEL_11
      rw [f_X11_looksAt_L30_s] at hf
      refine lv_iload hx hb dX11_looksAt_30 (lv_at hl 6 rfl) ?_
      refine lv_iload_n hx hb dX11_looksAt_32 rfl (lv_at hl 2 rfl) ?_
      refine lv_icmp_ge (tgt := 119) hx hb dX11_looksAt_33 (by decide) (fun c_12 => ?_) (fun c_12 => ?_)
      · have hf := of_t c_12 hf
        have hf := Option.some.inj hf
        subst hf
        exact hEL_11 _ (lv_sub hl [1, 4, 5] rfl)
      · have hf := of_f c_12 hf
        refine lv_aload_n hx hb dX11_looksAt_36 rfl (lv_at hl 0 rfl) ?_
        refine lv_iload hx hb dX11_looksAt_37 (lv_at hl 3 rfl) ?_
        refine lv_iload hx hb dX11_looksAt_39 (lv_at hl 6 rfl) ?_
        refine lv_iload_n hx hb dX11_looksAt_41 rfl (lv_at hl 2 rfl) ?_
        obtain ⟨r_13, hq_14, hf⟩ := of_bd hf
        refine m_goRi (va_runV (As := [.int r_6, .int x7_10, .int v_5]) (rest := []) ⟨hx, hb, hml, hown, hts⟩ (c_X11_more l hz r_6 x7_10 v_5 w hq_14) (cwV 3 hts gX11_looksAt_X11_more rfl rfl rfl (by decide +kernel) ⟨Nat.le_of_ble_eq_true rfl, Nat.le_of_ble_eq_true rfl⟩) (pre_X11 hK hz hW _) rfl rfl hl.1 rfl (lv_room (Nat.le_of_ble_eq_true rfl)) dX11_looksAt_42 ⟨Nat.le_refl _, Nat.le_refl _⟩) ?_
        refine lv_istore (lv' := [(8, .int r_13), (0, .ref (z.2.1 0)), (2, .int x2), (3, .int v_5), (4, .int r_6), (5, .int x5_8), (6, .int x6_9), (7, .int x7_10)]) hx hb dX11_looksAt_45 hl (by decide) rfl (fun ls hl => ?_)
        refine lv_iload hx hb dX11_looksAt_47 (lv_at hl 5 rfl) ?_
        obtain ⟨k_15, ek_15, hf⟩ := of_lz hf
        have Jk_15 : ∀ (t_16 : Int32) (ls : Array Slot), k_15 t_16 = some exL_11 → lv_has ls 9 [(0, .ref (z.2.1 0)), (2, .int x2), (3, .int v_5), (4, .int r_6), (6, .int x6_9), (7, .int x7_10), (8, .int r_13)] → W p l e (rm 3 68) s m args below meth c s.heap [] 0 0 Q (F0 m 89 ls [.int t_16]) := by
          intro t_16 ls hf hl
          have hf := of_j1 ek_15 hf
          refine lv_istore (lv' := [(5, .int t_16), (0, .ref (z.2.1 0)), (2, .int x2), (3, .int v_5), (4, .int r_6), (6, .int x6_9), (7, .int x7_10), (8, .int r_13)]) hx hb dX11_looksAt_89 hl (by decide) rfl (fun ls hl => ?_)
          refine lv_iload hx hb dX11_looksAt_91 (lv_at hl 7 rfl) ?_
          obtain ⟨r_17, hq_18, hf⟩ := of_bd hf
          refine m_goRi (va_runS (As := [.int r_13]) (rest := []) ⟨hx, hb, hml, hown, hts⟩ (c_X11_away l hz r_13 w hq_18) (va_cwS 1 hts gX11_looksAt_X11_away rfl rfl rfl (by decide +kernel) ⟨Nat.le_of_ble_eq_true rfl, Nat.le_of_ble_eq_true rfl⟩) (m_preS hK hW _) rfl rfl hl.1 rfl (lv_room (Nat.le_of_ble_eq_true rfl)) dX11_looksAt_93 ⟨Nat.le_refl _, Nat.le_refl _⟩) ?_
          refine lv_iload hx hb dX11_looksAt_96 (lv_at hl 5 rfl) ?_
          refine lv_icmp_le (tgt := 109) hx hb dX11_looksAt_98 (by decide) (fun c_19 => ?_) (fun c_19 => ?_)
          · have hf := of_t c_19 hf
            refine lv_iload hx hb dX11_looksAt_109 (lv_at hl 5 rfl) ?_
            refine lv_istore (lv' := [(6, .int x6_9), (5, .int t_16), (0, .ref (z.2.1 0)), (2, .int x2), (3, .int v_5), (4, .int r_6), (7, .int x7_10), (8, .int r_13)]) hx hb dX11_looksAt_111 hl (by decide) rfl (fun ls hl => ?_)
            obtain ⟨x7_20, ex7_20⟩ : ∃ y : Int32, y = x7_10 + 1 := ⟨_, rfl⟩
            have hf := of_lt ex7_20 hf
            refine lv_iinc (v := x7_20) (lv' := [(7, .int x7_20), (6, .int x6_9), (5, .int t_16), (0, .ref (z.2.1 0)), (2, .int x2), (3, .int v_5), (4, .int r_6), (8, .int r_13)]) hx hb dX11_looksAt_113 hl (k := 6) rfl (by rw [ex7_20]; rfl) (by decide) rfl (fun ls hl => ?_)
            refine lv_goto (tgt := 30) hx hb dX11_looksAt_116 (by decide) ?_
            exact ihL_11 _ _ _ _ _ hf (lv_sub hl [3, 4, 5, 6, 2, 1, 0] rfl) hEL_11
          · have hf := of_f c_19 hf
            refine lv_iload hx hb dX11_looksAt_101 (lv_at hl 7 rfl) ?_
            obtain ⟨r_21, hq_22, hf⟩ := of_bd hf
            refine m_goRi (va_runS (As := [.int r_13]) (rest := []) ⟨hx, hb, hml, hown, hts⟩ (c_X11_away l hz r_13 w hq_22) (va_cwS 1 hts gX11_looksAt_X11_away rfl rfl rfl (by decide +kernel) ⟨Nat.le_of_ble_eq_true rfl, Nat.le_of_ble_eq_true rfl⟩) (m_preS hK hW _) rfl rfl hl.1 rfl (lv_room (Nat.le_of_ble_eq_true rfl)) dX11_looksAt_103 ⟨Nat.le_refl _, Nat.le_refl _⟩) ?_
            refine lv_goto (tgt := 111) hx hb dX11_looksAt_106 (by decide) ?_
            refine lv_istore (lv' := [(6, .int r_21), (5, .int t_16), (0, .ref (z.2.1 0)), (2, .int x2), (3, .int v_5), (4, .int r_6), (7, .int x7_10), (8, .int r_13)]) hx hb dX11_looksAt_111 hl (by decide) rfl (fun ls hl => ?_)
            obtain ⟨x7_23, ex7_23⟩ : ∃ y : Int32, y = x7_10 + 1 := ⟨_, rfl⟩
            have hf := of_lt ex7_23 hf
            refine lv_iinc (v := x7_23) (lv' := [(7, .int x7_23), (6, .int r_21), (5, .int t_16), (0, .ref (z.2.1 0)), (2, .int x2), (3, .int v_5), (4, .int r_6), (8, .int r_13)]) hx hb dX11_looksAt_113 hl (k := 6) rfl (by rw [ex7_23]; rfl) (by decide) rfl (fun ls hl => ?_)
            refine lv_goto (tgt := 30) hx hb dX11_looksAt_116 (by decide) ?_
            exact ihL_11 _ _ _ _ _ hf (lv_sub hl [3, 4, 5, 6, 2, 1, 0] rfl) hEL_11
        refine lv_if_eq (tgt := 88) hx hb dX11_looksAt_49 (by decide) (fun c_24 => ?_) (fun c_24 => ?_)
        · have hf := of_t c_24 hf
          refine lv_iconst (v := 0) hx hb dX11_looksAt_88 (by decide) ?_
          exact Jk_15 _ _ hf (lv_sub hl [1, 2, 3, 4, 6, 7, 0] rfl)
        · have hf := of_f c_24 hf
          refine lv_aload_n hx hb dX11_looksAt_52 rfl (lv_at hl 1 rfl) ?_
          refine get_X11_7 hx hb hts in_X11_looksAt_X11 hown hK hz hW lk_X11_looksAt_1 dX11_looksAt_53 ?_
          refine lv_sipush (v := 672) hx hb dX11_looksAt_56 (by decide) ?_
          refine lv_iload hx hb dX11_looksAt_59 (lv_at hl 7 rfl) ?_
          refine lv_aload_n hx hb dX11_looksAt_61 rfl (lv_at hl 1 rfl) ?_
          refine get_X11_5 hx hb hts in_X11_looksAt_X11 hown hK hz hW lk_X11_looksAt_0 dX11_looksAt_62 ?_
          refine lv_bipush (v := 14) hx hb dX11_looksAt_65 (by decide) ?_
          refine ld_M3 hx hb hK hz hW g_3 dX11_looksAt_67 ?_
          refine lv_topi (fun v_25 ev_25 => ?_)
          have hf := of_lt ev_25 hf
          obtain ⟨g_26, hf⟩ := of_gd hf
          refine lv_irem hx hb dX11_looksAt_68 g_26 ?_
          refine lv_topi (fun v_27 ev_27 => ?_)
          have hf := of_lt (e := irm x7_10 v_25) ev_27 hf
          refine lv_iadd hx hb dX11_looksAt_69 ?_
          obtain ⟨g_28, hf⟩ := of_gd hf
          refine ld_M5 hx hb hK hz hW g_28 dX11_looksAt_70 ?_
          refine lv_topi (fun v_29 ev_29 => ?_)
          have hf := of_lt ev_29 hf
          refine lv_iload hx hb dX11_looksAt_71 (lv_at hl 0 rfl) ?_
          refine lv_iadd hx hb dX11_looksAt_73 ?_
          refine lv_bipush (v := (-12)) hx hb dX11_looksAt_74 (by decide) ?_
          refine lv_bipush (v := 12) hx hb dX11_looksAt_76 (by decide) ?_
          obtain ⟨r_30, hq_31, hf⟩ := of_bd hf
          refine m_goRi (va_runS (As := [.int (v_29 + r_13), .int (-12), .int 12]) (rest := []) ⟨hx, hb, hml, hown, hts⟩ (c_X11_in l hz (v_29 + r_13) (-12) 12 w hq_31) (va_cwS 3 hts gX11_looksAt_X11_in rfl rfl rfl (by decide +kernel) ⟨Nat.le_of_ble_eq_true rfl, Nat.le_of_ble_eq_true rfl⟩) (m_preS hK hW _) rfl rfl hl.1 rfl (lv_room (Nat.le_of_ble_eq_true rfl)) dX11_looksAt_78 ⟨Nat.le_refl _, Nat.le_refl _⟩) ?_
          refine lv_if_eq (tgt := 88) hx hb dX11_looksAt_81 (by decide) (fun c_32 => ?_) (fun c_32 => ?_)
          · have hf := of_t c_32 hf
            refine lv_iconst (v := 0) hx hb dX11_looksAt_88 (by decide) ?_
            exact Jk_15 _ _ hf (lv_sub hl [1, 2, 3, 4, 6, 7, 0] rfl)
          · have hf := of_f c_32 hf
            refine lv_iconst (v := 1) hx hb dX11_looksAt_84 (by decide) ?_
            refine lv_goto (tgt := 89) hx hb dX11_looksAt_85 (by decide) ?_
            exact Jk_15 _ _ hf (lv_sub hl [1, 2, 3, 4, 6, 7, 0] rfl)
  obtain ⟨ex_34, hq_33, hf⟩ := of_bd hf
  obtain ⟨x5_35, x6_36⟩ := ex_34
  have hf := of_tp2 hf
  refine L_11 FU _ _ _ _ _ hq_33 (lv_sub hl [5, 7, 4, 3, 2, 1, 0] rfl) (fun ls hl => ?_)
  have hl : lv_has ls 9 [(2, .int x2), (5, .int x5_35), (6, .int x6_36)] := hl
  refine lv_iload_n hx hb dX11_looksAt_119 rfl (lv_at hl 0 rfl) ?_
  refine lv_iconst (v := 4) hx hb dX11_looksAt_120 (by decide) ?_
  have J_38 : ∀ (v_37 : Int32) (ls : Array Slot), v_37 = (if x2 = 4 then x6_36 else (if x5_35 = 0 then 0 else 1)) → lv_has ls 9 [] → W p l e (rm 3 68) s m args below meth c s.heap [] 0 0 Q (F0 m 139 ls [.int v_37]) := by
    intro v_37 ls ev_37 hl
    have hf := of_lt ev_37 hf
    exact hret _ _ _ hf dX11_looksAt_139
  refine lv_icmp_ne (tgt := 129) hx hb dX11_looksAt_121 (by decide) (fun c_39 => ?_) (fun c_39 => ?_)
  · refine lv_iload hx hb dX11_looksAt_129 (lv_at hl 1 rfl) ?_
    refine lv_if_eq (tgt := 138) hx hb dX11_looksAt_131 (by decide) (fun c_40 => ?_) (fun c_40 => ?_)
    · refine lv_iconst (v := 0) hx hb dX11_looksAt_138 (by decide) ?_
      exact J_38 _ _ (by rw [if_neg c_39, if_pos c_40]) (lv_sub hl [] rfl)
    · refine lv_iconst (v := 1) hx hb dX11_looksAt_134 (by decide) ?_
      refine lv_goto (tgt := 139) hx hb dX11_looksAt_135 (by decide) ?_
      exact J_38 _ _ (by rw [if_neg c_39, if_neg c_40]) (lv_sub hl [] rfl)
  · refine lv_iload hx hb dX11_looksAt_124 (lv_at hl 2 rfl) ?_
    refine lv_goto (tgt := 139) hx hb dX11_looksAt_126 (by decide) ?_
    exact J_38 _ _ (by rw [if_pos c_39]) (lv_sub hl [] rfl)
theorem in_X11_hem_X11 : ∀ w ∈ wsX110, w ∈ wsX11_hem := by decide +kernel
theorem lk_X11_hem_0 : Cond.fieldLink RX11 112 "CamStitchModel" "sides" "I" ∈ wsX11_hem := by decide +kernel
theorem lk_X11_hem_1 : Cond.fieldLink RX11 103 "CamStitchModel" "thrown" "I" ∈ wsX11_hem := by decide +kernel
theorem lk_X11_hem_2 : Cond.fieldLink RX11 16 "CamStitchModel" "many" "[I" ∈ wsX11_hem := by decide +kernel
set_option maxHeartbeats 4000000 in
set_option maxRecDepth 100000 in
theorem c_X11_hem (l : Launch) {z : LZ} (hz : IM z) (x1 : Int32) (x2 : Int32) (w : Mem) {r : Int32} {w' : Mem} (hf : f_X11_hem x1 x2 w = some (r, w')) : Met l yX11_hem wsX11_hem (rm 4 96) (PZ z w [.ref (z.2.1 0), .int x1, .int x2]) (QW z (some (.int r)) w') 0 0 (az z) := by
  refine mk_Wi (cc := cX11_hem) (maxL := 3) (by decide +kernel) rfl (Nat.le_of_ble_eq_true rfl) ?_
  intro p e s m args below meth c hx hb hml hts hown hK hW Q hret ls hl
  have hl : lv_has ls 3 [(0, .ref (z.2.1 0)), (1, .int x1), (2, .int x2)] := hl
  unfold f_X11_hem at hf
  have START : ∀ (H : Heap) (locs : List Loc), hd z w H → va_S (az z) s.heap H locs → W p l e (rm 4 96) s m args below meth c H locs 0 0 Q (F0 m 0 ls []) := by
    intro H locs hW hS
    refine lv_aload_n hx hb dX11_hem_0 rfl (lv_at hl 0 rfl) ?_
    refine lv_iload_n hx hb dX11_hem_1 rfl (lv_at hl 2 rfl) ?_
    refine lv_iconst (v := 0) hx hb dX11_hem_2 (by decide) ?_
    refine lv_iconst (v := 4) hx hb dX11_hem_3 (by decide) ?_
    obtain ⟨r_1, hq_2, hf⟩ := of_bd hf
    refine m_goRi (va_runS (As := [.int x2, .int 0, .int 4]) (rest := [.ref (z.2.1 0)]) ⟨hx, hb, hml, hown, hts⟩ (c_X11_in l hz x2 0 4 w hq_2) (va_cwS 3 hts gX11_hem_X11_in rfl rfl rfl (by decide +kernel) ⟨Nat.le_of_ble_eq_true rfl, Nat.le_of_ble_eq_true rfl⟩) (m_preS hK hW _) rfl rfl hl.1 rfl (lv_room (Nat.le_of_ble_eq_true rfl)) dX11_hem_4 ⟨Nat.le_refl _, Nat.le_refl _⟩) ?_
    obtain ⟨k_3, ek_3, hf⟩ := of_lz hf
    have Jk_3 : ∀ (t_4 : Int32) (ls : Array Slot), k_3 t_4 = some (r, w') → lv_has ls 3 [(0, .ref (z.2.1 0)), (1, .int x1), (2, .int x2)] → W p l e (rm 4 96) s m args below meth c H locs 0 0 Q (F0 m 40 ls [.int t_4, .ref (z.2.1 0)]) := by
      intro t_4 ls hf hl
      have hf := of_j1 ek_3 hf
      refine put_X11_0 hx hb hts in_X11_hem_X11 hown hK hz hW hS lk_X11_hem_1 dX11_hem_40 (fun H locs hW hS => ?_)
      obtain ⟨w_5, ew_5⟩ : ∃ y : Mem, y = mS w 0 0 t_4 := ⟨_, rfl⟩
      have hW : hd z w_5 H := by rw [ew_5]; exact hW
      have hf := of_lt ew_5 hf
      refine lv_aload_n hx hb dX11_hem_43 rfl (lv_at hl 0 rfl) ?_
      refine get_X11_0 hx hb hts in_X11_hem_X11 hown hK hz hW lk_X11_hem_1 dX11_hem_44 ?_
      refine lv_if_eq (tgt := 52) hx hb dX11_hem_47 (by decide) (fun c_6 => ?_) (fun c_6 => ?_)
      · have hf := of_t c_6 hf
        refine lv_iload_n hx hb dX11_hem_52 rfl (lv_at hl 2 rfl) ?_
        by_cases c_7 : x2 = 0
        · have hf := of_t c_7 hf
          refine lv_tableIn (off := 31) (tgt := 84) hx hb dX11_hem_53 (by rw [c_7]; decide) (by rw [c_7]; decide) (by rw [c_7]; rfl) (by decide) ?_
          refine lv_aload_n hx hb dX11_hem_84 rfl (lv_at hl 0 rfl) ?_
          refine lv_iload_n hx hb dX11_hem_85 rfl (lv_at hl 1 rfl) ?_
          obtain ⟨r_8, hq_9, hf⟩ := of_bd hf
          refine m_goRi (va_runV (As := [.int x1]) (rest := []) ⟨hx, hb, hml, hown, hts⟩ (c_X11_rounds l hz x1 w_5 hq_9) (cwV 1 hts gX11_hem_X11_rounds rfl rfl rfl (by decide +kernel) ⟨Nat.le_of_ble_eq_true rfl, Nat.le_of_ble_eq_true rfl⟩) (pre_X11 hK hz hW _) rfl rfl hl.1 rfl (lv_room (Nat.le_of_ble_eq_true rfl)) dX11_hem_86 ⟨Nat.le_refl _, Nat.le_refl _⟩) ?_
          exact hret _ _ _ _ _ _ hf hW hS dX11_hem_89
        have hf := of_f c_7 hf
        by_cases c_10 : x2 = 1
        · have hf := of_t c_10 hf
          refine lv_tableIn (off := 37) (tgt := 90) hx hb dX11_hem_53 (by rw [c_10]; decide) (by rw [c_10]; decide) (by rw [c_10]; rfl) (by decide) ?_
          refine lv_aload_n hx hb dX11_hem_90 rfl (lv_at hl 0 rfl) ?_
          refine lv_iload_n hx hb dX11_hem_91 rfl (lv_at hl 1 rfl) ?_
          obtain ⟨r_11, hq_12, hf⟩ := of_bd hf
          refine m_goRi (va_runV (As := [.int x1]) (rest := []) ⟨hx, hb, hml, hown, hts⟩ (c_X11_restOf l hz x1 w_5 hq_12) (cwV 1 hts gX11_hem_X11_restOf rfl rfl rfl (by decide +kernel) ⟨Nat.le_of_ble_eq_true rfl, Nat.le_of_ble_eq_true rfl⟩) (pre_X11 hK hz hW _) rfl rfl hl.1 rfl (lv_room (Nat.le_of_ble_eq_true rfl)) dX11_hem_92 ⟨Nat.le_refl _, Nat.le_refl _⟩) ?_
          exact hret _ _ _ _ _ _ hf hW hS dX11_hem_95
        have hf := of_f c_10 hf
        by_cases c_13 : x2 = 2
        · have hf := of_t c_13 hf
          refine lv_tableIn (off := 57) (tgt := 110) hx hb dX11_hem_53 (by rw [c_13]; decide) (by rw [c_13]; decide) (by rw [c_13]; rfl) (by decide) ?_
          refine lv_aload_n hx hb dX11_hem_110 rfl (lv_at hl 0 rfl) ?_
          refine lv_iload_n hx hb dX11_hem_111 rfl (lv_at hl 1 rfl) ?_
          refine lv_iload_n hx hb dX11_hem_112 rfl (lv_at hl 2 rfl) ?_
          obtain ⟨r_14, hq_15, hf⟩ := of_bd hf
          refine m_goRi (va_runV (As := [.int x1, .int x2]) (rest := []) ⟨hx, hb, hml, hown, hts⟩ (c_X11_looksAt l hz x1 x2 w_5 hq_15) (cwV 2 hts gX11_hem_X11_looksAt rfl rfl rfl (by decide +kernel) ⟨Nat.le_of_ble_eq_true rfl, Nat.le_of_ble_eq_true rfl⟩) (pre_X11 hK hz hW _) rfl rfl hl.1 rfl (lv_room (Nat.le_of_ble_eq_true rfl)) dX11_hem_113 ⟨Nat.le_refl _, Nat.le_refl _⟩) ?_
          exact hret _ _ _ _ _ _ hf hW hS dX11_hem_116
        have hf := of_f c_13 hf
        by_cases c_16 : x2 = 3
        · have hf := of_t c_16 hf
          refine lv_tableIn (off := 43) (tgt := 96) hx hb dX11_hem_53 (by rw [c_16]; decide) (by rw [c_16]; decide) (by rw [c_16]; rfl) (by decide) ?_
          refine lv_aload_n hx hb dX11_hem_96 rfl (lv_at hl 0 rfl) ?_
          refine lv_iload_n hx hb dX11_hem_97 rfl (lv_at hl 1 rfl) ?_
          obtain ⟨r_17, hq_18, hf⟩ := of_bd hf
          refine m_goRi (va_runV (As := [.int x1]) (rest := []) ⟨hx, hb, hml, hown, hts⟩ (c_X11_rounds l hz x1 w_5 hq_18) (cwV 1 hts gX11_hem_X11_rounds rfl rfl rfl (by decide +kernel) ⟨Nat.le_of_ble_eq_true rfl, Nat.le_of_ble_eq_true rfl⟩) (pre_X11 hK hz hW _) rfl rfl hl.1 rfl (lv_room (Nat.le_of_ble_eq_true rfl)) dX11_hem_98 ⟨Nat.le_refl _, Nat.le_refl _⟩) ?_
          refine lv_aload_n hx hb dX11_hem_101 rfl (lv_at hl 0 rfl) ?_
          refine get_X11_5 hx hb hts in_X11_hem_X11 hown hK hz hW lk_X11_hem_2 dX11_hem_102 ?_
          refine lv_bipush (v := 14) hx hb dX11_hem_105 (by decide) ?_
          obtain ⟨g_19, hf⟩ := of_gd hf
          refine ld_M3 hx hb hK hz hW g_19 dX11_hem_107 ?_
          refine lv_topi (fun v_20 ev_20 => ?_)
          have hf := of_lt ev_20 hf
          refine lv_imul hx hb dX11_hem_108 ?_
          exact hret _ _ _ _ _ _ hf hW hS dX11_hem_109
        have hf := of_f c_16 hf
        refine lv_tableOut (tgt := 110) hx hb dX11_hem_53 (by have qc_7 := lv_neT c_7 (show (0 : Int32).toInt = 0 by decide); have qc_10 := lv_neT c_10 (show (1 : Int32).toInt = 1 by decide); have qc_13 := lv_neT c_13 (show (2 : Int32).toInt = 2 by decide); have qc_16 := lv_neT c_16 (show (3 : Int32).toInt = 3 by decide); omega) (by decide) ?_
        refine lv_aload_n hx hb dX11_hem_110 rfl (lv_at hl 0 rfl) ?_
        refine lv_iload_n hx hb dX11_hem_111 rfl (lv_at hl 1 rfl) ?_
        refine lv_iload_n hx hb dX11_hem_112 rfl (lv_at hl 2 rfl) ?_
        obtain ⟨r_21, hq_22, hf⟩ := of_bd hf
        refine m_goRi (va_runV (As := [.int x1, .int x2]) (rest := []) ⟨hx, hb, hml, hown, hts⟩ (c_X11_looksAt l hz x1 x2 w_5 hq_22) (cwV 2 hts gX11_hem_X11_looksAt rfl rfl rfl (by decide +kernel) ⟨Nat.le_of_ble_eq_true rfl, Nat.le_of_ble_eq_true rfl⟩) (pre_X11 hK hz hW _) rfl rfl hl.1 rfl (lv_room (Nat.le_of_ble_eq_true rfl)) dX11_hem_113 ⟨Nat.le_refl _, Nat.le_refl _⟩) ?_
        exact hret _ _ _ _ _ _ hf hW hS dX11_hem_116
      · have hf := of_f c_6 hf
        refine lv_iconst (v := 0) hx hb dX11_hem_50 (by decide) ?_
        exact hret _ _ _ _ _ _ hf hW hS dX11_hem_51
    refine lv_if_ne (tgt := 14) hx hb dX11_hem_7 (by decide) (fun c_23 => ?_) (fun c_23 => ?_)
    · have hf := of_f c_23 hf
      refine lv_iload_n hx hb dX11_hem_14 rfl (lv_at hl 1 rfl) ?_
      refine lv_iconst (v := 0) hx hb dX11_hem_15 (by decide) ?_
      refine lv_aload_n hx hb dX11_hem_16 rfl (lv_at hl 0 rfl) ?_
      refine get_X11_8 hx hb hts in_X11_hem_X11 hown hK hz hW lk_X11_hem_0 dX11_hem_17 ?_
      refine lv_iconst (v := 1) hx hb dX11_hem_20 (by decide) ?_
      refine lv_isub hx hb dX11_hem_21 ?_
      obtain ⟨r_24, hq_25, hf⟩ := of_bd hf
      refine m_goRi (va_runS (As := [.int x1, .int 0, .int ((w.1 0 8) - 1)]) (rest := [.ref (z.2.1 0)]) ⟨hx, hb, hml, hown, hts⟩ (c_X11_in l hz x1 0 ((w.1 0 8) - 1) w hq_25) (va_cwS 3 hts gX11_hem_X11_in rfl rfl rfl (by decide +kernel) ⟨Nat.le_of_ble_eq_true rfl, Nat.le_of_ble_eq_true rfl⟩) (m_preS hK hW _) rfl rfl hl.1 rfl (lv_room (Nat.le_of_ble_eq_true rfl)) dX11_hem_22 ⟨Nat.le_refl _, Nat.le_refl _⟩) ?_
      refine lv_if_eq (tgt := 35) hx hb dX11_hem_25 (by decide) (fun c_26 => ?_) (fun c_26 => ?_)
      · have hf := of_t c_26 hf
        refine lv_iconst (v := 2) hx hb dX11_hem_35 (by decide) ?_
        refine lv_goto (tgt := 40) hx hb dX11_hem_36 (by decide) ?_
        exact Jk_3 _ _ hf (lv_sub hl [0, 1, 2] rfl)
      · have hf := of_f c_26 hf
        refine lv_aload_n hx hb dX11_hem_28 rfl (lv_at hl 0 rfl) ?_
        obtain ⟨r_27, hq_28, hf⟩ := of_bd hf
        refine m_goRi (va_runV (As := []) (rest := [.ref (z.2.1 0)]) ⟨hx, hb, hml, hown, hts⟩ (c_X11_canHem l hz w hq_28) (cwV 0 hts gX11_hem_X11_canHem rfl rfl rfl (by decide +kernel) ⟨Nat.le_of_ble_eq_true rfl, Nat.le_of_ble_eq_true rfl⟩) (pre_X11 hK hz hW _) rfl rfl hl.1 rfl (lv_room (Nat.le_of_ble_eq_true rfl)) dX11_hem_29 ⟨Nat.le_refl _, Nat.le_refl _⟩) ?_
        refine lv_if_ne (tgt := 39) hx hb dX11_hem_32 (by decide) (fun c_29 => ?_) (fun c_29 => ?_)
        · have hf := of_f c_29 hf
          refine lv_iconst (v := 0) hx hb dX11_hem_39 (by decide) ?_
          exact Jk_3 _ _ hf (lv_sub hl [0, 1, 2] rfl)
        · have hf := of_t c_29 hf
          refine lv_iconst (v := 2) hx hb dX11_hem_35 (by decide) ?_
          refine lv_goto (tgt := 40) hx hb dX11_hem_36 (by decide) ?_
          exact Jk_3 _ _ hf (lv_sub hl [0, 1, 2] rfl)
    · have hf := of_t c_23 hf
      refine lv_iconst (v := 1) hx hb dX11_hem_10 (by decide) ?_
      refine lv_goto (tgt := 40) hx hb dX11_hem_11 (by decide) ?_
      exact Jk_3 _ _ hf (lv_sub hl [0, 1, 2] rfl)
  exact START _ _ hW va_S.rf
theorem in_X11_fedAt_X11 : ∀ w ∈ wsX110, w ∈ wsX11_fedAt := by decide +kernel
theorem lk_X11_fedAt_0 : Cond.fieldLink RX11 22 "CamStitchModel" "feed" "[I" ∈ wsX11_fedAt := by decide +kernel
theorem lk_X11_fedAt_1 : Cond.fieldLink RX11 16 "CamStitchModel" "many" "[I" ∈ wsX11_fedAt := by decide +kernel
set_option maxHeartbeats 4000000 in
set_option maxRecDepth 100000 in
theorem c_X11_fedAt (l : Launch) {z : LZ} (hz : IM z) (x1 : Int32) (x2 : Int32) (w : Mem) {r : Int32} (hf : f_X11_fedAt x1 x2 w = some r) : Met l yX11_fedAt wsX11_fedAt (rm 3 68) (PZ z w [.ref (z.2.1 0), .int x1, .int x2]) (QR (some (.int r))) 0 0 (fun _ => False) := by
  refine mk_Ri (cc := cX11_fedAt) (maxL := 3) (by decide +kernel) rfl (Nat.le_of_ble_eq_true rfl) ?_
  intro p e s m args below meth c hx hb hml hts hown hK hW Q hret ls hl
  have hl : lv_has ls 3 [(0, .ref (z.2.1 0)), (1, .int x1), (2, .int x2)] := hl
  unfold f_X11_fedAt at hf
  refine lv_aload_n hx hb dX11_fedAt_0 rfl (lv_at hl 0 rfl) ?_
  refine get_X11_7 hx hb hts in_X11_fedAt_X11 hown hK hz hW lk_X11_fedAt_0 dX11_fedAt_1 ?_
  refine lv_sipush (v := 672) hx hb dX11_fedAt_4 (by decide) ?_
  refine lv_iload_n hx hb dX11_fedAt_7 rfl (lv_at hl 2 rfl) ?_
  refine lv_aload_n hx hb dX11_fedAt_8 rfl (lv_at hl 0 rfl) ?_
  refine get_X11_5 hx hb hts in_X11_fedAt_X11 hown hK hz hW lk_X11_fedAt_1 dX11_fedAt_9 ?_
  refine lv_bipush (v := 14) hx hb dX11_fedAt_12 (by decide) ?_
  obtain ⟨g_1, hf⟩ := of_gd hf
  refine ld_M3 hx hb hK hz hW g_1 dX11_fedAt_14 ?_
  refine lv_topi (fun v_2 ev_2 => ?_)
  have hf := of_lt ev_2 hf
  obtain ⟨g_3, hf⟩ := of_gd hf
  refine lv_irem hx hb dX11_fedAt_15 g_3 ?_
  refine lv_topi (fun v_4 ev_4 => ?_)
  have hf := of_lt (e := irm x2 v_2) ev_4 hf
  refine lv_iadd hx hb dX11_fedAt_16 ?_
  obtain ⟨g_5, hf⟩ := of_gd hf
  refine ld_M5 hx hb hK hz hW g_5 dX11_fedAt_17 ?_
  refine lv_topi (fun v_6 ev_6 => ?_)
  have hf := of_lt ev_6 hf
  refine lv_aload_n hx hb dX11_fedAt_18 rfl (lv_at hl 0 rfl) ?_
  refine lv_aload_n hx hb dX11_fedAt_19 rfl (lv_at hl 0 rfl) ?_
  refine lv_iload_n hx hb dX11_fedAt_20 rfl (lv_at hl 1 rfl) ?_
  obtain ⟨r_7, hq_8, hf⟩ := of_bd hf
  refine m_goRi (va_runV (As := [.int x1]) (rest := [.ref (z.2.1 0), .int v_6]) ⟨hx, hb, hml, hown, hts⟩ (c_X11_restOf l hz x1 w hq_8) (cwV 1 hts gX11_fedAt_X11_restOf rfl rfl rfl (by decide +kernel) ⟨Nat.le_of_ble_eq_true rfl, Nat.le_of_ble_eq_true rfl⟩) (pre_X11 hK hz hW _) rfl rfl hl.1 rfl (lv_room (Nat.le_of_ble_eq_true rfl)) dX11_fedAt_21 ⟨Nat.le_refl _, Nat.le_refl _⟩) ?_
  refine lv_iload_n hx hb dX11_fedAt_24 rfl (lv_at hl 2 rfl) ?_
  refine lv_aload_n hx hb dX11_fedAt_25 rfl (lv_at hl 0 rfl) ?_
  refine lv_iload_n hx hb dX11_fedAt_26 rfl (lv_at hl 1 rfl) ?_
  obtain ⟨r_9, hq_10, hf⟩ := of_bd hf
  refine m_goRi (va_runV (As := [.int x1]) (rest := [.int x2, .int r_7, .ref (z.2.1 0), .int v_6]) ⟨hx, hb, hml, hown, hts⟩ (c_X11_rounds l hz x1 w hq_10) (cwV 1 hts gX11_fedAt_X11_rounds rfl rfl rfl (by decide +kernel) ⟨Nat.le_of_ble_eq_true rfl, Nat.le_of_ble_eq_true rfl⟩) (pre_X11 hK hz hW _) rfl rfl hl.1 rfl (lv_room (Nat.le_of_ble_eq_true rfl)) dX11_fedAt_27 ⟨Nat.le_refl _, Nat.le_refl _⟩) ?_
  refine lv_aload_n hx hb dX11_fedAt_30 rfl (lv_at hl 0 rfl) ?_
  refine get_X11_5 hx hb hts in_X11_fedAt_X11 hown hK hz hW lk_X11_fedAt_1 dX11_fedAt_31 ?_
  refine lv_bipush (v := 14) hx hb dX11_fedAt_34 (by decide) ?_
  refine ld_M3 hx hb hK hz hW g_1 dX11_fedAt_36 ?_
  refine lv_topi (fun v_11 ev_11 => ?_)
  have hf := of_lt ev_11 hf
  refine lv_imul hx hb dX11_fedAt_37 ?_
  obtain ⟨r_12, hq_13, hf⟩ := of_bd hf
  refine m_goRi (va_runV (As := [.int r_7, .int x2, .int (r_9 * v_11)]) (rest := [.int v_6]) ⟨hx, hb, hml, hown, hts⟩ (c_X11_more l hz r_7 x2 (r_9 * v_11) w hq_13) (cwV 3 hts gX11_fedAt_X11_more rfl rfl rfl (by decide +kernel) ⟨Nat.le_of_ble_eq_true rfl, Nat.le_of_ble_eq_true rfl⟩) (pre_X11 hK hz hW _) rfl rfl hl.1 rfl (lv_room (Nat.le_of_ble_eq_true rfl)) dX11_fedAt_38 ⟨Nat.le_refl _, Nat.le_refl _⟩) ?_
  refine lv_iadd hx hb dX11_fedAt_41 ?_
  exact hret _ _ _ hf dX11_fedAt_42
theorem in_X11_fed_X11 : ∀ w ∈ wsX110, w ∈ wsX11_fed := by decide +kernel
theorem lk_X11_fed_0 : Cond.fieldLink RX11 112 "CamStitchModel" "sides" "I" ∈ wsX11_fed := by decide +kernel
theorem lk_X11_fed_1 : Cond.fieldLink RX11 103 "CamStitchModel" "thrown" "I" ∈ wsX11_fed := by decide +kernel
theorem lk_X11_fed_2 : Cond.fieldLink RX11 16 "CamStitchModel" "many" "[I" ∈ wsX11_fed := by decide +kernel
set_option maxHeartbeats 4000000 in
set_option maxRecDepth 100000 in
theorem c_X11_fed (l : Launch) {z : LZ} (hz : IM z) (x1 : Int32) (x2 : Int32) (w : Mem) {r : Int32} {w' : Mem} (hf : f_X11_fed x1 x2 w = some (r, w')) : Met l yX11_fed wsX11_fed (rm 4 90) (PZ z w [.ref (z.2.1 0), .int x1, .int x2]) (QW z (some (.int r)) w') 0 0 (az z) := by
  refine mk_Wi (cc := cX11_fed) (maxL := 4) (by decide +kernel) rfl (Nat.le_of_ble_eq_true rfl) ?_
  intro p e s m args below meth c hx hb hml hts hown hK hW Q hret ls hl
  have hl : lv_has ls 4 [(0, .ref (z.2.1 0)), (1, .int x1), (2, .int x2)] := hl
  unfold f_X11_fed at hf
  have START : ∀ (H : Heap) (locs : List Loc), hd z w H → va_S (az z) s.heap H locs → W p l e (rm 4 90) s m args below meth c H locs 0 0 Q (F0 m 0 ls []) := by
    intro H locs hW hS
    refine lv_iload_n hx hb dX11_fed_0 rfl (lv_at hl 1 rfl) ?_
    refine lv_iconst (v := 0) hx hb dX11_fed_1 (by decide) ?_
    refine lv_aload_n hx hb dX11_fed_2 rfl (lv_at hl 0 rfl) ?_
    refine get_X11_8 hx hb hts in_X11_fed_X11 hown hK hz hW lk_X11_fed_0 dX11_fed_3 ?_
    refine lv_iconst (v := 1) hx hb dX11_fed_6 (by decide) ?_
    refine lv_isub hx hb dX11_fed_7 ?_
    obtain ⟨r_1, hq_2, hf⟩ := of_bd hf
    refine m_goRi (va_runS (As := [.int x1, .int 0, .int ((w.1 0 8) - 1)]) (rest := []) ⟨hx, hb, hml, hown, hts⟩ (c_X11_in l hz x1 0 ((w.1 0 8) - 1) w hq_2) (va_cwS 3 hts gX11_fed_X11_in rfl rfl rfl (by decide +kernel) ⟨Nat.le_of_ble_eq_true rfl, Nat.le_of_ble_eq_true rfl⟩) (m_preS hK hW _) rfl rfl hl.1 rfl (lv_room (Nat.le_of_ble_eq_true rfl)) dX11_fed_8 ⟨Nat.le_refl _, Nat.le_refl _⟩) ?_
    obtain ⟨k_3, ek_3, hf⟩ := of_lz hf
    have Jk_3 : ∀ (t_4 : Int32) (ls : Array Slot), k_3 t_4 = some (r, w') → lv_has ls 4 [(0, .ref (z.2.1 0)), (1, .int x1), (2, .int x2)] → W p l e (rm 4 90) s m args below meth c H locs 0 0 Q (F0 m 49 ls [.int t_4]) := by
      intro t_4 ls hf hl
      have hf := of_j1 ek_3 hf
      refine lv_istore_n (lv' := [(3, .int t_4), (0, .ref (z.2.1 0)), (1, .int x1), (2, .int x2)]) hx hb dX11_fed_49 rfl hl (by decide) rfl (fun ls hl => ?_)
      refine lv_aload_n hx hb dX11_fed_50 rfl (lv_at hl 1 rfl) ?_
      refine lv_iload_n hx hb dX11_fed_51 rfl (lv_at hl 0 rfl) ?_
      have J_6 : ∀ (v_5 : Int32) (ls : Array Slot), v_5 = (if t_4 = 0 then 1 else 0) → lv_has ls 4 [(0, .ref (z.2.1 0)), (1, .int x1), (2, .int x2), (3, .int t_4)] → W p l e (rm 4 90) s m args below meth c H locs 0 0 Q (F0 m 60 ls [.int v_5, .ref (z.2.1 0)]) := by
        intro v_5 ls ev_5 hl
        have hf := of_lt ev_5 hf
        refine put_X11_0 hx hb hts in_X11_fed_X11 hown hK hz hW hS lk_X11_fed_1 dX11_fed_60 (fun H locs hW hS => ?_)
        obtain ⟨w_7, ew_7⟩ : ∃ y : Mem, y = mS w 0 0 v_5 := ⟨_, rfl⟩
        have hW : hd z w_7 H := by rw [ew_7]; exact hW
        have hf := of_lt ew_7 hf
        refine lv_iload_n hx hb dX11_fed_63 rfl (lv_at hl 3 rfl) ?_
        refine lv_if_eq (tgt := 76) hx hb dX11_fed_64 (by decide) (fun c_8 => ?_) (fun c_8 => ?_)
        · have hf := of_t c_8 hf
          refine lv_iconst (v := 0) hx hb dX11_fed_76 (by decide) ?_
          exact hret _ _ _ _ _ _ hf hW hS dX11_fed_77
        · have hf := of_f c_8 hf
          refine lv_aload_n hx hb dX11_fed_67 rfl (lv_at hl 0 rfl) ?_
          refine lv_iload_n hx hb dX11_fed_68 rfl (lv_at hl 1 rfl) ?_
          refine lv_iload_n hx hb dX11_fed_69 rfl (lv_at hl 2 rfl) ?_
          obtain ⟨r_9, hq_10, hf⟩ := of_bd hf
          refine m_goRi (va_runV (As := [.int x1, .int x2]) (rest := []) ⟨hx, hb, hml, hown, hts⟩ (c_X11_fedAt l hz x1 x2 w_7 hq_10) (cwV 2 hts gX11_fed_X11_fedAt rfl rfl rfl (by decide +kernel) ⟨Nat.le_of_ble_eq_true rfl, Nat.le_of_ble_eq_true rfl⟩) (pre_X11 hK hz hW _) rfl rfl hl.1 rfl (lv_room (Nat.le_of_ble_eq_true rfl)) dX11_fed_70 ⟨Nat.le_refl _, Nat.le_refl _⟩) ?_
          refine lv_goto (tgt := 77) hx hb dX11_fed_73 (by decide) ?_
          exact hret _ _ _ _ _ _ hf hW hS dX11_fed_77
      refine lv_if_eq (tgt := 59) hx hb dX11_fed_52 (by decide) (fun c_11 => ?_) (fun c_11 => ?_)
      · refine lv_iconst (v := 1) hx hb dX11_fed_59 (by decide) ?_
        exact J_6 _ _ (by rw [if_pos c_11]) (lv_sub hl [1, 2, 3, 0] rfl)
      · refine lv_iconst (v := 0) hx hb dX11_fed_55 (by decide) ?_
        refine lv_goto (tgt := 60) hx hb dX11_fed_56 (by decide) ?_
        exact J_6 _ _ (by rw [if_neg c_11]) (lv_sub hl [1, 2, 3, 0] rfl)
    refine lv_if_eq (tgt := 48) hx hb dX11_fed_11 (by decide) (fun c_12 => ?_) (fun c_12 => ?_)
    · have hf := of_t c_12 hf
      refine lv_iconst (v := 0) hx hb dX11_fed_48 (by decide) ?_
      exact Jk_3 _ _ hf (lv_sub hl [0, 1, 2] rfl)
    · have hf := of_f c_12 hf
      refine lv_aload_n hx hb dX11_fed_14 rfl (lv_at hl 0 rfl) ?_
      obtain ⟨r_13, hq_14, hf⟩ := of_bd hf
      refine m_goRi (va_runV (As := []) (rest := []) ⟨hx, hb, hml, hown, hts⟩ (c_X11_canHem l hz w hq_14) (cwV 0 hts gX11_fed_X11_canHem rfl rfl rfl (by decide +kernel) ⟨Nat.le_of_ble_eq_true rfl, Nat.le_of_ble_eq_true rfl⟩) (pre_X11 hK hz hW _) rfl rfl hl.1 rfl (lv_room (Nat.le_of_ble_eq_true rfl)) dX11_fed_15 ⟨Nat.le_refl _, Nat.le_refl _⟩) ?_
      refine lv_if_eq (tgt := 48) hx hb dX11_fed_18 (by decide) (fun c_15 => ?_) (fun c_15 => ?_)
      · have hf := of_t c_15 hf
        refine lv_iconst (v := 0) hx hb dX11_fed_48 (by decide) ?_
        exact Jk_3 _ _ hf (lv_sub hl [0, 1, 2] rfl)
      · have hf := of_f c_15 hf
        refine lv_iload_n hx hb dX11_fed_21 rfl (lv_at hl 2 rfl) ?_
        refine lv_iconst (v := 0) hx hb dX11_fed_22 (by decide) ?_
        refine lv_aload_n hx hb dX11_fed_23 rfl (lv_at hl 0 rfl) ?_
        refine lv_iload_n hx hb dX11_fed_24 rfl (lv_at hl 1 rfl) ?_
        obtain ⟨r_16, hq_17, hf⟩ := of_bd hf
        refine m_goRi (va_runV (As := [.int x1]) (rest := [.int 0, .int x2]) ⟨hx, hb, hml, hown, hts⟩ (c_X11_rounds l hz x1 w hq_17) (cwV 1 hts gX11_fed_X11_rounds rfl rfl rfl (by decide +kernel) ⟨Nat.le_of_ble_eq_true rfl, Nat.le_of_ble_eq_true rfl⟩) (pre_X11 hK hz hW _) rfl rfl hl.1 rfl (lv_room (Nat.le_of_ble_eq_true rfl)) dX11_fed_25 ⟨Nat.le_refl _, Nat.le_refl _⟩) ?_
        refine lv_aload_n hx hb dX11_fed_28 rfl (lv_at hl 0 rfl) ?_
        refine get_X11_5 hx hb hts in_X11_fed_X11 hown hK hz hW lk_X11_fed_2 dX11_fed_29 ?_
        refine lv_bipush (v := 14) hx hb dX11_fed_32 (by decide) ?_
        obtain ⟨g_18, hf⟩ := of_gd hf
        refine ld_M3 hx hb hK hz hW g_18 dX11_fed_34 ?_
        refine lv_topi (fun v_19 ev_19 => ?_)
        have hf := of_lt ev_19 hf
        refine lv_imul hx hb dX11_fed_35 ?_
        refine lv_iconst (v := 1) hx hb dX11_fed_36 (by decide) ?_
        refine lv_isub hx hb dX11_fed_37 ?_
        obtain ⟨r_20, hq_21, hf⟩ := of_bd hf
        refine m_goRi (va_runS (As := [.int x2, .int 0, .int ((r_16 * v_19) - 1)]) (rest := []) ⟨hx, hb, hml, hown, hts⟩ (c_X11_in l hz x2 0 ((r_16 * v_19) - 1) w hq_21) (va_cwS 3 hts gX11_fed_X11_in rfl rfl rfl (by decide +kernel) ⟨Nat.le_of_ble_eq_true rfl, Nat.le_of_ble_eq_true rfl⟩) (m_preS hK hW _) rfl rfl hl.1 rfl (lv_room (Nat.le_of_ble_eq_true rfl)) dX11_fed_38 ⟨Nat.le_refl _, Nat.le_refl _⟩) ?_
        refine lv_if_eq (tgt := 48) hx hb dX11_fed_41 (by decide) (fun c_22 => ?_) (fun c_22 => ?_)
        · have hf := of_t c_22 hf
          refine lv_iconst (v := 0) hx hb dX11_fed_48 (by decide) ?_
          exact Jk_3 _ _ hf (lv_sub hl [0, 1, 2] rfl)
        · have hf := of_f c_22 hf
          refine lv_iconst (v := 1) hx hb dX11_fed_44 (by decide) ?_
          refine lv_goto (tgt := 49) hx hb dX11_fed_45 (by decide) ?_
          exact Jk_3 _ _ hf (lv_sub hl [0, 1, 2] rfl)
  exact START _ _ hW va_S.rf
theorem in_X11_meets_X11 : ∀ w ∈ wsX110, w ∈ wsX11_meets := by decide +kernel
theorem lk_X11_meets_0 : Cond.fieldLink RX11 112 "CamStitchModel" "sides" "I" ∈ wsX11_meets := by decide +kernel
set_option maxHeartbeats 4000000 in
set_option maxRecDepth 100000 in
theorem c_X11_meets (l : Launch) {z : LZ} (hz : IM z)  (w : Mem) {r : Int32} (hf : f_X11_meets w = some r) : Met l yX11_meets wsX11_meets (rm 4 96) (PZ z w [.ref (z.2.1 0)]) (QR (some (.int r))) 0 0 (fun _ => False) := by
  refine mk_Ri (cc := cX11_meets) (maxL := 3) (by decide +kernel) rfl (Nat.le_of_ble_eq_true rfl) ?_
  intro p e s m args below meth c hx hb hml hts hown hK hW Q hret ls hl
  have hl : lv_has ls 3 [(0, .ref (z.2.1 0))] := hl
  unfold f_X11_meets at hf
  refine lv_aload_n hx hb dX11_meets_0 rfl (lv_at hl 0 rfl) ?_
  refine get_X11_8 hx hb hts in_X11_meets_X11 hown hK hz hW lk_X11_meets_0 dX11_meets_1 ?_
  refine lv_if_eq (tgt := 14) hx hb dX11_meets_4 (by decide) (fun c_1 => ?_) (fun c_1 => ?_)
  · have hf := of_t c_1 hf
    refine lv_bipush (v := (-3)) hx hb dX11_meets_14 (by decide) ?_
    exact hret _ _ _ hf dX11_meets_16
  · have hf := of_f c_1 hf
    refine lv_aload_n hx hb dX11_meets_7 rfl (lv_at hl 0 rfl) ?_
    obtain ⟨r_2, hq_3, hf⟩ := of_bd hf
    refine m_goRi (va_runV (As := []) (rest := []) ⟨hx, hb, hml, hown, hts⟩ (c_X11_canHem l hz w hq_3) (cwV 0 hts gX11_meets_X11_canHem rfl rfl rfl (by decide +kernel) ⟨Nat.le_of_ble_eq_true rfl, Nat.le_of_ble_eq_true rfl⟩) (pre_X11 hK hz hW _) rfl rfl hl.1 rfl (lv_room (Nat.le_of_ble_eq_true rfl)) dX11_meets_8 ⟨Nat.le_refl _, Nat.le_refl _⟩) ?_
    refine lv_if_ne (tgt := 17) hx hb dX11_meets_11 (by decide) (fun c_4 => ?_) (fun c_4 => ?_)
    · have hf := of_f c_4 hf
      refine lv_iconst (v := 1) hx hb dX11_meets_17 (by decide) ?_
      refine lv_istore_n (lv' := [(1, .int 1), (0, .ref (z.2.1 0))]) hx hb dX11_meets_18 rfl hl (by decide) rfl (fun ls hl => ?_)
      refine lv_iconst (v := 0) hx hb dX11_meets_19 (by decide) ?_
      refine lv_istore_n (lv' := [(2, .int 0), (1, .int 1), (0, .ref (z.2.1 0))]) hx hb dX11_meets_20 rfl hl (by decide) rfl (fun ls hl => ?_)
      have L_7 : ∀ (n : Nat) (x1_5 : Int32) (x2_6 : Int32) (exL_7 : Int32) (ls : Array Slot), f_X11_meets_L21 w n x1_5 x2_6 = some exL_7 → lv_has ls 3 [(0, .ref (z.2.1 0)), (1, .int x1_5), (2, .int x2_6)] → (∀ (ls : Array Slot), lv_has ls 3 [(1, .int exL_7)] → W p l e (rm 4 96) s m args below meth c s.heap [] 0 0 Q (F0 m 50 ls [])) → W p l e (rm 4 96) s m args below meth c s.heap [] 0 0 Q (F0 m 21 ls []) := by
        intro n
        induction n with
        | zero =>
          intro x1_5 x2_6 exL_7 ls hf
          have hf : (none : Option (Int32)) = some exL_7 := hf
          cases hf
        | succ n ihL_7 =>
          intro x1_5 x2_6 exL_7 ls hf hl hEL_7
          rw [f_X11_meets_L21_s] at hf
          refine lv_iload_n hx hb dX11_meets_21 rfl (lv_at hl 2 rfl) ?_
          refine lv_aload_n hx hb dX11_meets_22 rfl (lv_at hl 0 rfl) ?_
          refine get_X11_8 hx hb hts in_X11_meets_X11 hown hK hz hW lk_X11_meets_0 dX11_meets_23 ?_
          refine lv_icmp_ge (tgt := 50) hx hb dX11_meets_26 (by decide) (fun c_8 => ?_) (fun c_8 => ?_)
          · have hf := of_t c_8 hf
            have hf := Option.some.inj hf
            subst hf
            exact hEL_7 _ (lv_sub hl [1] rfl)
          · have hf := of_f c_8 hf
            refine lv_aload_n hx hb dX11_meets_29 rfl (lv_at hl 0 rfl) ?_
            refine lv_iload_n hx hb dX11_meets_30 rfl (lv_at hl 2 rfl) ?_
            refine lv_iconst (v := 2) hx hb dX11_meets_31 (by decide) ?_
            obtain ⟨r_9, hq_10, hf⟩ := of_bd hf
            refine m_goRi (va_runV (As := [.int x2_6, .int 2]) (rest := []) ⟨hx, hb, hml, hown, hts⟩ (c_X11_looksAt l hz x2_6 2 w hq_10) (cwV 2 hts gX11_meets_X11_looksAt rfl rfl rfl (by decide +kernel) ⟨Nat.le_of_ble_eq_true rfl, Nat.le_of_ble_eq_true rfl⟩) (pre_X11 hK hz hW _) rfl rfl hl.1 rfl (lv_room (Nat.le_of_ble_eq_true rfl)) dX11_meets_32 ⟨Nat.le_refl _, Nat.le_refl _⟩) ?_
            have J_12 : ∀ (v_11 : Int32) (ls : Array Slot), v_11 = (if r_9 = 0 then 0 else x1_5) → lv_has ls 3 [(0, .ref (z.2.1 0)), (2, .int x2_6)] → W p l e (rm 4 96) s m args below meth c s.heap [] 0 0 Q (F0 m 43 ls [.int v_11]) := by
              intro v_11 ls ev_11 hl
              have hf := of_lt ev_11 hf
              refine lv_istore_n (lv' := [(1, .int v_11), (0, .ref (z.2.1 0)), (2, .int x2_6)]) hx hb dX11_meets_43 rfl hl (by decide) rfl (fun ls hl => ?_)
              obtain ⟨x2_13, ex2_13⟩ : ∃ y : Int32, y = x2_6 + 1 := ⟨_, rfl⟩
              have hf := of_lt ex2_13 hf
              refine lv_iinc (v := x2_13) (lv' := [(2, .int x2_13), (1, .int v_11), (0, .ref (z.2.1 0))]) hx hb dX11_meets_44 hl (k := 2) rfl (by rw [ex2_13]; rfl) (by decide) rfl (fun ls hl => ?_)
              refine lv_goto (tgt := 21) hx hb dX11_meets_47 (by decide) ?_
              exact ihL_7 _ _ _ _ hf (lv_sub hl [2, 1, 0] rfl) hEL_7
            refine lv_if_ne (tgt := 42) hx hb dX11_meets_35 (by decide) (fun c_14 => ?_) (fun c_14 => ?_)
            · refine lv_iload_n hx hb dX11_meets_42 rfl (lv_at hl 1 rfl) ?_
              exact J_12 _ _ (by rw [if_neg c_14]) (lv_sub hl [0, 2] rfl)
            · refine lv_iconst (v := 0) hx hb dX11_meets_38 (by decide) ?_
              refine lv_goto (tgt := 43) hx hb dX11_meets_39 (by decide) ?_
              exact J_12 _ _ (by rw [if_pos c_14]) (lv_sub hl [0, 2] rfl)
      obtain ⟨ex_16, hq_15, hf⟩ := of_bd hf
      obtain ⟨x1_17, ex1_17⟩ : ∃ y, y = ex_16 := ⟨_, rfl⟩
      rw [← ex1_17] at hf
      rw [← ex1_17] at hq_15
      refine L_7 FU _ _ _ _ hq_15 (lv_sub hl [2, 1, 0] rfl) (fun ls hl => ?_)
      have hl : lv_has ls 3 [(1, .int x1_17)] := hl
      refine lv_iload_n hx hb dX11_meets_50 rfl (lv_at hl 0 rfl) ?_
      exact hret _ _ _ hf dX11_meets_51
    · have hf := of_t c_4 hf
      refine lv_bipush (v := (-3)) hx hb dX11_meets_14 (by decide) ?_
      exact hret _ _ _ hf dX11_meets_16
theorem in_X11_clears_X11 : ∀ w ∈ wsX110, w ∈ wsX11_clears := by decide +kernel
theorem lk_X11_clears_0 : Cond.fieldLink RX11 66 "CamStitchModel" "sort" "[I" ∈ wsX11_clears := by decide +kernel
theorem lk_X11_clears_1 : Cond.fieldLink RX11 69 "CamStitchModel" "size" "[I" ∈ wsX11_clears := by decide +kernel
theorem lk_X11_clears_2 : Cond.fieldLink RX11 72 "CamStitchModel" "cells" "[J" ∈ wsX11_clears := by decide +kernel
set_option maxHeartbeats 4000000 in
set_option maxRecDepth 100000 in
theorem c_X11_clears (l : Launch) {z : LZ} (hz : IM z) (x1 : Int32) (x2 : Int32) (x3 : Int32) (w : Mem) {w' : Mem} (hf : f_X11_clears x1 x2 x3 w = some w') : Met l yX11_clears wsX11_clears (rm 0 0) (PZ z w [.ref (z.2.1 0), .int x1, .int x2, .int x3]) (QW z none w') 0 0 (az z) := by
  refine mk_Wv (cc := cX11_clears) (maxL := 5) (by decide +kernel) rfl (Nat.le_of_ble_eq_true rfl) ?_
  intro p e s m args below meth c hx hb hml hts hown hK hW Q hret ls hl
  have hl : lv_has ls 5 [(0, .ref (z.2.1 0)), (1, .int x1), (2, .int x2), (3, .int x3)] := hl
  unfold f_X11_clears at hf
  have START : ∀ (H : Heap) (locs : List Loc), hd z w H → va_S (az z) s.heap H locs → W p l e (rm 0 0) s m args below meth c H locs 0 0 Q (F0 m 0 ls []) := by
    intro H locs hW hS
    refine lv_aload_n hx hb dX11_clears_0 rfl (lv_at hl 0 rfl) ?_
    refine get_X11_26 hx hb hts in_X11_clears_X11 hown hK hz hW lk_X11_clears_0 dX11_clears_1 ?_
    refine lv_iload_n hx hb dX11_clears_4 rfl (lv_at hl 1 rfl) ?_
    refine lv_iload_n hx hb dX11_clears_5 rfl (lv_at hl 2 rfl) ?_
    obtain ⟨g_1, hf⟩ := of_gd hf
    refine st_M15 hx hb hK hz hW hS g_1 dX11_clears_6 (fun H locs hW hS => ?_)
    obtain ⟨w_2, ew_2⟩ : ∃ y : Mem, y = mS w 15 x1.toNatClampNeg x2 := ⟨_, rfl⟩
    have hW : hd z w_2 H := by rw [ew_2]; exact hW
    have hf := of_lt ew_2 hf
    refine lv_aload_n hx hb dX11_clears_7 rfl (lv_at hl 0 rfl) ?_
    refine get_X11_27 hx hb hts in_X11_clears_X11 hown hK hz hW lk_X11_clears_1 dX11_clears_8 ?_
    refine lv_iload_n hx hb dX11_clears_11 rfl (lv_at hl 1 rfl) ?_
    refine lv_iload_n hx hb dX11_clears_12 rfl (lv_at hl 3 rfl) ?_
    refine st_M16 hx hb hK hz hW hS g_1 dX11_clears_13 (fun H locs hW hS => ?_)
    obtain ⟨w_3, ew_3⟩ : ∃ y : Mem, y = mS w_2 16 x1.toNatClampNeg x3 := ⟨_, rfl⟩
    have hW : hd z w_3 H := by rw [ew_3]; exact hW
    have hf := of_lt ew_3 hf
    refine lv_iconst (v := 0) hx hb dX11_clears_14 (by decide) ?_
    refine lv_istore (lv' := [(4, .int 0), (0, .ref (z.2.1 0)), (1, .int x1), (2, .int x2), (3, .int x3)]) hx hb dX11_clears_15 hl (by decide) rfl (fun ls hl => ?_)
    have L_6 : ∀ (n : Nat) (x4_4 : Int32) (w_5 : Mem) (exL_6 : Mem) (H : Heap) (locs : List Loc) (ls : Array Slot), f_X11_clears_L17 x1 n x4_4 w_5 = some exL_6 → hd z w_5 H → va_S (az z) s.heap H locs → lv_has ls 5 [(0, .ref (z.2.1 0)), (1, .int x1), (4, .int x4_4)] → (∀ (H : Heap) (locs : List Loc) (ls : Array Slot), hd z (exL_6) H → va_S (az z) s.heap H locs → lv_has ls 5 [] → W p l e (rm 0 0) s m args below meth c H locs 0 0 Q (F0 m 45 ls [])) → W p l e (rm 0 0) s m args below meth c H locs 0 0 Q (F0 m 17 ls []) := by
      intro n
      induction n with
      | zero =>
        intro x4_4 w_5 exL_6 H locs ls hf
        have hf : (none : Option (Mem)) = some exL_6 := hf
        cases hf
      | succ n ihL_6 =>
        intro x4_4 w_5 exL_6 H locs ls hf hW hS hl hEL_6
        rw [f_X11_clears_L17_s] at hf
        refine lv_iload hx hb dX11_clears_17 (lv_at hl 2 rfl) ?_
        refine lv_sipush (v := 400) hx hb dX11_clears_19 (by decide) ?_
        refine lv_icmp_ge (tgt := 45) hx hb dX11_clears_22 (by decide) (fun c_7 => ?_) (fun c_7 => ?_)
        · have hf := of_t c_7 hf
          have hf := Option.some.inj hf
          subst hf
          exact hEL_6 _ _ _ hW hS (lv_sub hl [] rfl)
        · have hf := of_f c_7 hf
          refine lv_aload_n hx hb dX11_clears_25 rfl (lv_at hl 0 rfl) ?_
          refine get_X11_28 hx hb hts in_X11_clears_X11 hown hK hz hW lk_X11_clears_2 dX11_clears_26 ?_
          refine lv_sipush (v := 400) hx hb dX11_clears_29 (by decide) ?_
          refine lv_iload_n hx hb dX11_clears_32 rfl (lv_at hl 1 rfl) ?_
          refine lv_imul hx hb dX11_clears_33 ?_
          refine lv_iload hx hb dX11_clears_34 (lv_at hl 2 rfl) ?_
          refine lv_iadd hx hb dX11_clears_36 ?_
          refine lv_lconst (v := 0) hx hb dX11_clears_37 (by decide) ?_
          obtain ⟨g_8, hf⟩ := of_gd hf
          refine st_M17 hx hb hK hz hW hS g_8 dX11_clears_38 (fun H locs hW hS => ?_)
          obtain ⟨w_9, ew_9⟩ : ∃ y : Mem, y = mL w_5 17 (((400 * x1) + x4_4).toNatClampNeg) 0 := ⟨_, rfl⟩
          have hW : hd z w_9 H := by rw [ew_9]; exact hW
          have hf := of_lt ew_9 hf
          obtain ⟨x4_10, ex4_10⟩ : ∃ y : Int32, y = x4_4 + 1 := ⟨_, rfl⟩
          have hf := of_lt ex4_10 hf
          refine lv_iinc (v := x4_10) (lv' := [(4, .int x4_10), (0, .ref (z.2.1 0)), (1, .int x1)]) hx hb dX11_clears_39 hl (k := 2) rfl (by rw [ex4_10]; rfl) (by decide) rfl (fun ls hl => ?_)
          refine lv_goto (tgt := 17) hx hb dX11_clears_42 (by decide) ?_
          exact ihL_6 _ _ _ _ _ _ hf hW hS (lv_sub hl [1, 2, 0] rfl) hEL_6
    obtain ⟨ex_12, hq_11, hf⟩ := of_bd hf
    obtain ⟨w_13, ew_13⟩ : ∃ y, y = ex_12 := ⟨_, rfl⟩
    rw [← ew_13] at hf
    rw [← ew_13] at hq_11
    refine L_6 FU _ _ _ _ _ _ hq_11 hW hS (lv_sub hl [1, 2, 0] rfl) (fun H locs ls hW hS hl => ?_)
    have hW : hd z w_13 H := hW
    have hl : lv_has ls 5 [] := hl
    exact hret _ _ _ _ _ hf hW hS dX11_clears_45
  exact START _ _ hW va_S.rf
theorem in_X11_feeds_X11 : ∀ w ∈ wsX110, w ∈ wsX11_feeds := by decide +kernel
theorem lk_X11_feeds_0 : Cond.fieldLink RX11 112 "CamStitchModel" "sides" "I" ∈ wsX11_feeds := by decide +kernel
theorem lk_X11_feeds_1 : Cond.fieldLink RX11 16 "CamStitchModel" "many" "[I" ∈ wsX11_feeds := by decide +kernel
theorem lk_X11_feeds_2 : Cond.fieldLink RX11 72 "CamStitchModel" "cells" "[J" ∈ wsX11_feeds := by decide +kernel
set_option maxHeartbeats 4000000 in
set_option maxRecDepth 100000 in
theorem c_X11_feeds (l : Launch) {z : LZ} (hz : IM z) (x1 : Int32) (x2 : Int32) (w : Mem) {r : Int32} {w' : Mem} (hf : f_X11_feeds x1 x2 w = some (r, w')) : Met l yX11_feeds wsX11_feeds (rm 4 90) (PZ z w [.ref (z.2.1 0), .int x1, .int x2]) (QW z (some (.int r)) w') 0 0 (az z) := by
  refine mk_Wi (cc := cX11_feeds) (maxL := 5) (by decide +kernel) rfl (Nat.le_of_ble_eq_true rfl) ?_
  intro p e s m args below meth c hx hb hml hts hown hK hW Q hret ls hl
  have hl : lv_has ls 5 [(0, .ref (z.2.1 0)), (1, .int x1), (2, .int x2)] := hl
  unfold f_X11_feeds at hf
  have START : ∀ (H : Heap) (locs : List Loc), hd z w H → va_S (az z) s.heap H locs → W p l e (rm 4 90) s m args below meth c H locs 0 0 Q (F0 m 0 ls []) := by
    intro H locs hW hS
    refine lv_iload_n hx hb dX11_feeds_0 rfl (lv_at hl 1 rfl) ?_
    obtain ⟨r_1, hq_2, hf⟩ := of_bd hf
    refine m_goRi (va_runS (As := [.int x1]) (rest := []) ⟨hx, hb, hml, hown, hts⟩ (c_X11_isTape l hz x1 w hq_2) (va_cwS 1 hts gX11_feeds_X11_isTape rfl rfl rfl (by decide +kernel) ⟨Nat.le_of_ble_eq_true rfl, Nat.le_of_ble_eq_true rfl⟩) (m_preS hK hW _) rfl rfl hl.1 rfl (lv_room (Nat.le_of_ble_eq_true rfl)) dX11_feeds_1 ⟨Nat.le_refl _, Nat.le_refl _⟩) ?_
    refine lv_if_ne (tgt := 9) hx hb dX11_feeds_4 (by decide) (fun c_3 => ?_) (fun c_3 => ?_)
    · have hf := of_f c_3 hf
      refine lv_iload_n hx hb dX11_feeds_9 rfl (lv_at hl 2 rfl) ?_
      refine lv_iconst (v := 0) hx hb dX11_feeds_10 (by decide) ?_
      refine lv_aload_n hx hb dX11_feeds_11 rfl (lv_at hl 0 rfl) ?_
      refine get_X11_8 hx hb hts in_X11_feeds_X11 hown hK hz hW lk_X11_feeds_0 dX11_feeds_12 ?_
      refine lv_iconst (v := 1) hx hb dX11_feeds_15 (by decide) ?_
      refine lv_isub hx hb dX11_feeds_16 ?_
      obtain ⟨r_4, hq_5, hf⟩ := of_bd hf
      refine m_goRi (va_runS (As := [.int x2, .int 0, .int ((w.1 0 8) - 1)]) (rest := []) ⟨hx, hb, hml, hown, hts⟩ (c_X11_in l hz x2 0 ((w.1 0 8) - 1) w hq_5) (va_cwS 3 hts gX11_feeds_X11_in rfl rfl rfl (by decide +kernel) ⟨Nat.le_of_ble_eq_true rfl, Nat.le_of_ble_eq_true rfl⟩) (m_preS hK hW _) rfl rfl hl.1 rfl (lv_room (Nat.le_of_ble_eq_true rfl)) dX11_feeds_17 ⟨Nat.le_refl _, Nat.le_refl _⟩) ?_
      refine lv_if_eq (tgt := 30) hx hb dX11_feeds_20 (by decide) (fun c_6 => ?_) (fun c_6 => ?_)
      · have hf := of_t c_6 hf
        refine lv_bipush (v := (-3)) hx hb dX11_feeds_30 (by decide) ?_
        exact hret _ _ _ _ _ _ hf hW hS dX11_feeds_32
      · have hf := of_f c_6 hf
        refine lv_aload_n hx hb dX11_feeds_23 rfl (lv_at hl 0 rfl) ?_
        obtain ⟨r_7, hq_8, hf⟩ := of_bd hf
        refine m_goRi (va_runV (As := []) (rest := []) ⟨hx, hb, hml, hown, hts⟩ (c_X11_canHem l hz w hq_8) (cwV 0 hts gX11_feeds_X11_canHem rfl rfl rfl (by decide +kernel) ⟨Nat.le_of_ble_eq_true rfl, Nat.le_of_ble_eq_true rfl⟩) (pre_X11 hK hz hW _) rfl rfl hl.1 rfl (lv_room (Nat.le_of_ble_eq_true rfl)) dX11_feeds_24 ⟨Nat.le_refl _, Nat.le_refl _⟩) ?_
        refine lv_if_ne (tgt := 33) hx hb dX11_feeds_27 (by decide) (fun c_9 => ?_) (fun c_9 => ?_)
        · have hf := of_f c_9 hf
          refine lv_aload_n hx hb dX11_feeds_33 rfl (lv_at hl 0 rfl) ?_
          refine lv_iload_n hx hb dX11_feeds_34 rfl (lv_at hl 2 rfl) ?_
          obtain ⟨r_10, hq_11, hf⟩ := of_bd hf
          refine m_goRi (va_runV (As := [.int x2]) (rest := []) ⟨hx, hb, hml, hown, hts⟩ (c_X11_rounds l hz x2 w hq_11) (cwV 1 hts gX11_feeds_X11_rounds rfl rfl rfl (by decide +kernel) ⟨Nat.le_of_ble_eq_true rfl, Nat.le_of_ble_eq_true rfl⟩) (pre_X11 hK hz hW _) rfl rfl hl.1 rfl (lv_room (Nat.le_of_ble_eq_true rfl)) dX11_feeds_35 ⟨Nat.le_refl _, Nat.le_refl _⟩) ?_
          refine lv_aload_n hx hb dX11_feeds_38 rfl (lv_at hl 0 rfl) ?_
          refine get_X11_5 hx hb hts in_X11_feeds_X11 hown hK hz hW lk_X11_feeds_1 dX11_feeds_39 ?_
          refine lv_bipush (v := 14) hx hb dX11_feeds_42 (by decide) ?_
          obtain ⟨g_12, hf⟩ := of_gd hf
          refine ld_M3 hx hb hK hz hW g_12 dX11_feeds_44 ?_
          refine lv_topi (fun v_13 ev_13 => ?_)
          have hf := of_lt ev_13 hf
          refine lv_imul hx hb dX11_feeds_45 ?_
          refine lv_topi (fun v_14 ev_14 => ?_)
          have hf := of_lt ev_14 hf
          refine lv_istore_n (lv' := [(3, .int v_14), (0, .ref (z.2.1 0)), (1, .int x1), (2, .int x2)]) hx hb dX11_feeds_46 rfl hl (by decide) rfl (fun ls hl => ?_)
          refine lv_iload_n hx hb dX11_feeds_47 rfl (lv_at hl 0 rfl) ?_
          refine lv_sipush (v := 400) hx hb dX11_feeds_48 (by decide) ?_
          refine lv_icmp_le (tgt := 57) hx hb dX11_feeds_51 (by decide) (fun c_15 => ?_) (fun c_15 => ?_)
          · have hf := of_t c_15 hf
            refine lv_aload_n hx hb dX11_feeds_57 rfl (lv_at hl 1 rfl) ?_
            refine lv_iload_n hx hb dX11_feeds_58 rfl (lv_at hl 2 rfl) ?_
            refine lv_iconst (v := 2) hx hb dX11_feeds_59 (by decide) ?_
            refine lv_iload_n hx hb dX11_feeds_60 rfl (lv_at hl 0 rfl) ?_
            obtain ⟨w_18, hq_17, hf⟩ := of_bd hf
            refine m_goWv (va_runV (As := [.int x1, .int 2, .int v_14]) (rest := []) ⟨hx, hb, hml, hown, hts⟩ (c_X11_clears l hz x1 2 v_14 w hq_17) (cwV 3 hts gX11_feeds_X11_clears rfl rfl rfl (by decide +kernel) ⟨Nat.le_of_ble_eq_true rfl, Nat.le_of_ble_eq_true rfl⟩) (pre_X11 hK hz hW _) rfl rfl hl.1 rfl (lv_room (Nat.le_of_ble_eq_true rfl)) dX11_feeds_61 ⟨Nat.le_refl _, Nat.le_refl _⟩) hS (fun H locs hW hS => ?_)
            refine lv_iconst (v := 0) hx hb dX11_feeds_64 (by decide) ?_
            refine lv_istore (lv' := [(4, .int 0), (3, .int v_14), (0, .ref (z.2.1 0)), (1, .int x1), (2, .int x2)]) hx hb dX11_feeds_65 hl (by decide) rfl (fun ls hl => ?_)
            have L_21 : ∀ (n : Nat) (x4_19 : Int32) (w_20 : Mem) (exL_21 : Mem) (H : Heap) (locs : List Loc) (ls : Array Slot), f_X11_feeds_L67 x1 x2 v_14 n x4_19 w_20 = some exL_21 → hd z w_20 H → va_S (az z) s.heap H locs → lv_has ls 5 [(0, .ref (z.2.1 0)), (1, .int x1), (2, .int x2), (3, .int v_14), (4, .int x4_19)] → (∀ (H : Heap) (locs : List Loc) (ls : Array Slot), hd z (exL_21) H → va_S (az z) s.heap H locs → lv_has ls 5 [(3, .int v_14)] → W p l e (rm 4 90) s m args below meth c H locs 0 0 Q (F0 m 100 ls [])) → W p l e (rm 4 90) s m args below meth c H locs 0 0 Q (F0 m 67 ls []) := by
              intro n
              induction n with
              | zero =>
                intro x4_19 w_20 exL_21 H locs ls hf
                have hf : (none : Option (Mem)) = some exL_21 := hf
                cases hf
              | succ n ihL_21 =>
                intro x4_19 w_20 exL_21 H locs ls hf hW hS hl hEL_21
                rw [f_X11_feeds_L67_s] at hf
                refine lv_iload hx hb dX11_feeds_67 (lv_at hl 4 rfl) ?_
                refine lv_iload_n hx hb dX11_feeds_69 rfl (lv_at hl 3 rfl) ?_
                refine lv_icmp_ge (tgt := 100) hx hb dX11_feeds_70 (by decide) (fun c_22 => ?_) (fun c_22 => ?_)
                · have hf := of_t c_22 hf
                  have hf := Option.some.inj hf
                  subst hf
                  exact hEL_21 _ _ _ hW hS (lv_sub hl [3] rfl)
                · have hf := of_f c_22 hf
                  refine lv_aload_n hx hb dX11_feeds_73 rfl (lv_at hl 0 rfl) ?_
                  refine get_X11_28 hx hb hts in_X11_feeds_X11 hown hK hz hW lk_X11_feeds_2 dX11_feeds_74 ?_
                  refine lv_sipush (v := 400) hx hb dX11_feeds_77 (by decide) ?_
                  refine lv_iload_n hx hb dX11_feeds_80 rfl (lv_at hl 1 rfl) ?_
                  refine lv_imul hx hb dX11_feeds_81 ?_
                  refine lv_iload hx hb dX11_feeds_82 (lv_at hl 4 rfl) ?_
                  refine lv_iadd hx hb dX11_feeds_84 ?_
                  refine lv_aload_n hx hb dX11_feeds_85 rfl (lv_at hl 0 rfl) ?_
                  refine lv_iload_n hx hb dX11_feeds_86 rfl (lv_at hl 2 rfl) ?_
                  refine lv_iload hx hb dX11_feeds_87 (lv_at hl 4 rfl) ?_
                  obtain ⟨r_23, hq_24, hf⟩ := of_bd hf
                  refine m_goRi (va_runV (As := [.int x2, .int x4_19]) (rest := [.int ((400 * x1) + x4_19), .ref (z.2.1 17)]) ⟨hx, hb, hml, hown, hts⟩ (c_X11_fedAt l hz x2 x4_19 w_20 hq_24) (cwV 2 hts gX11_feeds_X11_fedAt rfl rfl rfl (by decide +kernel) ⟨Nat.le_of_ble_eq_true rfl, Nat.le_of_ble_eq_true rfl⟩) (pre_X11 hK hz hW _) rfl rfl hl.1 rfl (lv_room (Nat.le_of_ble_eq_true rfl)) dX11_feeds_89 ⟨Nat.le_refl _, Nat.le_refl _⟩) ?_
                  refine lv_i2l hx hb dX11_feeds_92 rfl ?_
                  obtain ⟨g_25, hf⟩ := of_gd hf
                  refine st_M17 hx hb hK hz hW hS g_25 dX11_feeds_93 (fun H locs hW hS => ?_)
                  obtain ⟨w_26, ew_26⟩ : ∃ y : Mem, y = mL w_20 17 (((400 * x1) + x4_19).toNatClampNeg) r_23.toInt64 := ⟨_, rfl⟩
                  have hW : hd z w_26 H := by rw [ew_26]; exact hW
                  have hf := of_lt ew_26 hf
                  obtain ⟨x4_27, ex4_27⟩ : ∃ y : Int32, y = x4_19 + 1 := ⟨_, rfl⟩
                  have hf := of_lt ex4_27 hf
                  refine lv_iinc (v := x4_27) (lv' := [(4, .int x4_27), (0, .ref (z.2.1 0)), (1, .int x1), (2, .int x2), (3, .int v_14)]) hx hb dX11_feeds_94 hl (k := 4) rfl (by rw [ex4_27]; rfl) (by decide) rfl (fun ls hl => ?_)
                  refine lv_goto (tgt := 67) hx hb dX11_feeds_97 (by decide) ?_
                  exact ihL_21 _ _ _ _ _ _ hf hW hS (lv_sub hl [1, 2, 3, 4, 0] rfl) hEL_21
            obtain ⟨ex_29, hq_28, hf⟩ := of_bd hf
            obtain ⟨w_30, ew_30⟩ : ∃ y, y = ex_29 := ⟨_, rfl⟩
            rw [← ew_30] at hf
            rw [← ew_30] at hq_28
            refine L_21 FU _ _ _ _ _ _ hq_28 hW hS (lv_sub hl [2, 3, 4, 1, 0] rfl) (fun H locs ls hW hS hl => ?_)
            have hW : hd z w_30 H := hW
            have hl : lv_has ls 5 [(3, .int v_14)] := hl
            refine lv_iload_n hx hb dX11_feeds_100 rfl (lv_at hl 0 rfl) ?_
            exact hret _ _ _ _ _ _ hf hW hS dX11_feeds_101
          · have hf := of_f c_15 hf
            refine lv_bipush (v := (-2)) hx hb dX11_feeds_54 (by decide) ?_
            exact hret _ _ _ _ _ _ hf hW hS dX11_feeds_56
        · have hf := of_t c_9 hf
          refine lv_bipush (v := (-3)) hx hb dX11_feeds_30 (by decide) ?_
          exact hret _ _ _ _ _ _ hf hW hS dX11_feeds_32
    · have hf := of_t c_3 hf
      refine lv_iconst (v := (-1)) hx hb dX11_feeds_7 (by decide) ?_
      exact hret _ _ _ _ _ _ hf hW hS dX11_feeds_8
  exact START _ _ hW va_S.rf
theorem in_X11_judge_X11 : ∀ w ∈ wsX110, w ∈ wsX11_judge := by decide +kernel
theorem lk_X11_judge_0 : Cond.fieldLink RX11 112 "CamStitchModel" "sides" "I" ∈ wsX11_judge := by decide +kernel
theorem lk_X11_judge_1 : Cond.fieldLink RX11 66 "CamStitchModel" "sort" "[I" ∈ wsX11_judge := by decide +kernel
theorem lk_X11_judge_2 : Cond.fieldLink RX11 16 "CamStitchModel" "many" "[I" ∈ wsX11_judge := by decide +kernel
theorem lk_X11_judge_3 : Cond.fieldLink RX11 69 "CamStitchModel" "size" "[I" ∈ wsX11_judge := by decide +kernel
theorem lk_X11_judge_4 : Cond.fieldLink RX11 72 "CamStitchModel" "cells" "[J" ∈ wsX11_judge := by decide +kernel
theorem lk_X11_judge_5 : Cond.fieldLink RX11 22 "CamStitchModel" "feed" "[I" ∈ wsX11_judge := by decide +kernel
theorem lk_X11_judge_6 : Cond.fieldLink RX11 25 "CamStitchModel" "side" "[I" ∈ wsX11_judge := by decide +kernel
set_option maxHeartbeats 4000000 in
set_option maxRecDepth 100000 in
theorem c_X11_judge (l : Launch) {z : LZ} (hz : IM z) (x1 : Int32) (x2 : Int32) (w : Mem) {r : Int32} {w' : Mem} (hf : f_X11_judge x1 x2 w = some (r, w')) : Met l yX11_judge wsX11_judge (rm 4 96) (PZ z w [.ref (z.2.1 0), .int x1, .int x2]) (QW z (some (.int r)) w') 0 0 (az z) := by
  refine mk_Wi (cc := cX11_judge) (maxL := 8) (by decide +kernel) rfl (Nat.le_of_ble_eq_true rfl) ?_
  intro p e s m args below meth c hx hb hml hts hown hK hW Q hret ls hl
  have hl : lv_has ls 8 [(0, .ref (z.2.1 0)), (1, .int x1), (2, .int x2)] := hl
  unfold f_X11_judge at hf
  have START : ∀ (H : Heap) (locs : List Loc), hd z w H → va_S (az z) s.heap H locs → W p l e (rm 4 96) s m args below meth c H locs 0 0 Q (F0 m 0 ls []) := by
    intro H locs hW hS
    refine lv_iload_n hx hb dX11_judge_0 rfl (lv_at hl 1 rfl) ?_
    obtain ⟨r_1, hq_2, hf⟩ := of_bd hf
    refine m_goRi (va_runS (As := [.int x1]) (rest := []) ⟨hx, hb, hml, hown, hts⟩ (c_X11_isTape l hz x1 w hq_2) (va_cwS 1 hts gX11_judge_X11_isTape rfl rfl rfl (by decide +kernel) ⟨Nat.le_of_ble_eq_true rfl, Nat.le_of_ble_eq_true rfl⟩) (m_preS hK hW _) rfl rfl hl.1 rfl (lv_room (Nat.le_of_ble_eq_true rfl)) dX11_judge_1 ⟨Nat.le_refl _, Nat.le_refl _⟩) ?_
    refine lv_if_ne (tgt := 9) hx hb dX11_judge_4 (by decide) (fun c_3 => ?_) (fun c_3 => ?_)
    · have hf := of_f c_3 hf
      refine lv_iload_n hx hb dX11_judge_9 rfl (lv_at hl 2 rfl) ?_
      refine lv_iconst (v := 0) hx hb dX11_judge_10 (by decide) ?_
      refine lv_aload_n hx hb dX11_judge_11 rfl (lv_at hl 0 rfl) ?_
      refine get_X11_8 hx hb hts in_X11_judge_X11 hown hK hz hW lk_X11_judge_0 dX11_judge_12 ?_
      refine lv_iconst (v := 1) hx hb dX11_judge_15 (by decide) ?_
      refine lv_isub hx hb dX11_judge_16 ?_
      obtain ⟨r_4, hq_5, hf⟩ := of_bd hf
      refine m_goRi (va_runS (As := [.int x2, .int 0, .int ((w.1 0 8) - 1)]) (rest := []) ⟨hx, hb, hml, hown, hts⟩ (c_X11_in l hz x2 0 ((w.1 0 8) - 1) w hq_5) (va_cwS 3 hts gX11_judge_X11_in rfl rfl rfl (by decide +kernel) ⟨Nat.le_of_ble_eq_true rfl, Nat.le_of_ble_eq_true rfl⟩) (m_preS hK hW _) rfl rfl hl.1 rfl (lv_room (Nat.le_of_ble_eq_true rfl)) dX11_judge_17 ⟨Nat.le_refl _, Nat.le_refl _⟩) ?_
      refine lv_if_eq (tgt := 30) hx hb dX11_judge_20 (by decide) (fun c_6 => ?_) (fun c_6 => ?_)
      · have hf := of_t c_6 hf
        refine lv_bipush (v := (-3)) hx hb dX11_judge_30 (by decide) ?_
        exact hret _ _ _ _ _ _ hf hW hS dX11_judge_32
      · have hf := of_f c_6 hf
        refine lv_aload_n hx hb dX11_judge_23 rfl (lv_at hl 0 rfl) ?_
        obtain ⟨r_7, hq_8, hf⟩ := of_bd hf
        refine m_goRi (va_runV (As := []) (rest := []) ⟨hx, hb, hml, hown, hts⟩ (c_X11_canHem l hz w hq_8) (cwV 0 hts gX11_judge_X11_canHem rfl rfl rfl (by decide +kernel) ⟨Nat.le_of_ble_eq_true rfl, Nat.le_of_ble_eq_true rfl⟩) (pre_X11 hK hz hW _) rfl rfl hl.1 rfl (lv_room (Nat.le_of_ble_eq_true rfl)) dX11_judge_24 ⟨Nat.le_refl _, Nat.le_refl _⟩) ?_
        refine lv_if_ne (tgt := 33) hx hb dX11_judge_27 (by decide) (fun c_9 => ?_) (fun c_9 => ?_)
        · have hf := of_f c_9 hf
          refine lv_aload_n hx hb dX11_judge_33 rfl (lv_at hl 0 rfl) ?_
          refine get_X11_26 hx hb hts in_X11_judge_X11 hown hK hz hW lk_X11_judge_1 dX11_judge_34 ?_
          refine lv_iload_n hx hb dX11_judge_37 rfl (lv_at hl 1 rfl) ?_
          obtain ⟨g_10, hf⟩ := of_gd hf
          refine ld_M15 hx hb hK hz hW g_10 dX11_judge_38 ?_
          refine lv_if_ne (tgt := 49) hx hb dX11_judge_39 (by decide) (fun c_11 => ?_) (fun c_11 => ?_)
          · have hf := of_f c_11 hf
            refine lv_aload_n hx hb dX11_judge_49 rfl (lv_at hl 0 rfl) ?_
            refine get_X11_26 hx hb hts in_X11_judge_X11 hown hK hz hW lk_X11_judge_1 dX11_judge_50 ?_
            refine lv_iload_n hx hb dX11_judge_53 rfl (lv_at hl 1 rfl) ?_
            refine ld_M15 hx hb hK hz hW g_10 dX11_judge_54 ?_
            refine lv_iconst (v := 2) hx hb dX11_judge_55 (by decide) ?_
            refine lv_icmp_eq (tgt := 66) hx hb dX11_judge_56 (by decide) (fun c_12 => ?_) (fun c_12 => ?_)
            · have hf := of_t c_12 hf
              refine lv_aload_n hx hb dX11_judge_66 rfl (lv_at hl 0 rfl) ?_
              refine lv_iload_n hx hb dX11_judge_67 rfl (lv_at hl 2 rfl) ?_
              obtain ⟨r_13, hq_14, hf⟩ := of_bd hf
              refine m_goRi (va_runV (As := [.int x2]) (rest := []) ⟨hx, hb, hml, hown, hts⟩ (c_X11_rounds l hz x2 w hq_14) (cwV 1 hts gX11_judge_X11_rounds rfl rfl rfl (by decide +kernel) ⟨Nat.le_of_ble_eq_true rfl, Nat.le_of_ble_eq_true rfl⟩) (pre_X11 hK hz hW _) rfl rfl hl.1 rfl (lv_room (Nat.le_of_ble_eq_true rfl)) dX11_judge_68 ⟨Nat.le_refl _, Nat.le_refl _⟩) ?_
              refine lv_aload_n hx hb dX11_judge_71 rfl (lv_at hl 0 rfl) ?_
              refine get_X11_5 hx hb hts in_X11_judge_X11 hown hK hz hW lk_X11_judge_2 dX11_judge_72 ?_
              refine lv_bipush (v := 14) hx hb dX11_judge_75 (by decide) ?_
              obtain ⟨g_15, hf⟩ := of_gd hf
              refine ld_M3 hx hb hK hz hW g_15 dX11_judge_77 ?_
              refine lv_topi (fun v_16 ev_16 => ?_)
              have hf := of_lt ev_16 hf
              refine lv_imul hx hb dX11_judge_78 ?_
              refine lv_topi (fun v_17 ev_17 => ?_)
              have hf := of_lt ev_17 hf
              refine lv_istore_n (lv' := [(3, .int v_17), (0, .ref (z.2.1 0)), (1, .int x1), (2, .int x2)]) hx hb dX11_judge_79 rfl hl (by decide) rfl (fun ls hl => ?_)
              refine lv_aload_n hx hb dX11_judge_80 rfl (lv_at hl 1 rfl) ?_
              refine lv_iload_n hx hb dX11_judge_81 rfl (lv_at hl 3 rfl) ?_
              refine lv_iconst (v := 4) hx hb dX11_judge_82 (by decide) ?_
              obtain ⟨r_18, hq_19, hf⟩ := of_bd hf
              refine m_goRi (va_runV (As := [.int x2, .int 4]) (rest := []) ⟨hx, hb, hml, hown, hts⟩ (c_X11_looksAt l hz x2 4 w hq_19) (cwV 2 hts gX11_judge_X11_looksAt rfl rfl rfl (by decide +kernel) ⟨Nat.le_of_ble_eq_true rfl, Nat.le_of_ble_eq_true rfl⟩) (pre_X11 hK hz hW _) rfl rfl hl.1 rfl (lv_room (Nat.le_of_ble_eq_true rfl)) dX11_judge_83 ⟨Nat.le_refl _, Nat.le_refl _⟩) ?_
              refine lv_istore (lv' := [(4, .int r_18), (3, .int v_17), (0, .ref (z.2.1 0)), (1, .int x1), (2, .int x2)]) hx hb dX11_judge_86 hl (by decide) rfl (fun ls hl => ?_)
              refine lv_iconst (v := 0) hx hb dX11_judge_88 (by decide) ?_
              refine lv_istore (lv' := [(5, .int 0), (4, .int r_18), (3, .int v_17), (0, .ref (z.2.1 0)), (1, .int x1), (2, .int x2)]) hx hb dX11_judge_89 hl (by decide) rfl (fun ls hl => ?_)
              refine lv_iconst (v := 0) hx hb dX11_judge_91 (by decide) ?_
              refine lv_istore (lv' := [(6, .int 0), (5, .int 0), (4, .int r_18), (3, .int v_17), (0, .ref (z.2.1 0)), (1, .int x1), (2, .int x2)]) hx hb dX11_judge_92 hl (by decide) rfl (fun ls hl => ?_)
              have L_22 : ∀ (n : Nat) (x5_20 : Int32) (x6_21 : Int32) (exL_22 : Sum (Int32 × Mem) (Int32)) (ls : Array Slot), f_X11_judge_L94 w x1 v_17 r_18 n x5_20 x6_21 = some exL_22 → lv_has ls 8 [(0, .ref (z.2.1 0)), (1, .int x1), (2, .int x2), (3, .int v_17), (4, .int r_18), (5, .int x5_20), (6, .int x6_21)] → (∀ ret, exL_22 = .inl ret → some (ret) = some (r, w')) → (∀ x, exL_22 = .inr x → ∀ (ls : Array Slot), lv_has ls 8 [(0, .ref (z.2.1 0)), (2, .int x2), (3, .int v_17), (5, .int x)] → W p l e (rm 4 96) s m args below meth c H locs 0 0 Q (F0 m 192 ls [])) → W p l e (rm 4 96) s m args below meth c H locs 0 0 Q (F0 m 94 ls []) := by
                intro n
                induction n with
                | zero =>
                  intro x5_20 x6_21 exL_22 ls hf
                  have hf : (none : Option (Sum (Int32 × Mem) (Int32))) = some exL_22 := hf
                  cases hf
                | succ n ihL_22 =>
                  intro x5_20 x6_21 exL_22 ls hf hl hRL_22 hEL_22
                  rw [f_X11_judge_L94_s] at hf
                  refine lv_iload hx hb dX11_judge_94 (lv_at hl 6 rfl) ?_
                  refine lv_iload_n hx hb dX11_judge_96 rfl (lv_at hl 3 rfl) ?_
                  refine lv_icmp_ge (tgt := 192) hx hb dX11_judge_97 (by decide) (fun c_23 => ?_) (fun c_23 => ?_)
                  · have hf := of_t c_23 hf
                    exact hEL_22 _ (Option.some.inj hf).symm _ (lv_sub hl [0, 2, 3, 5] rfl)
                  · have hf := of_f c_23 hf
                    refine lv_iload hx hb dX11_judge_100 (lv_at hl 6 rfl) ?_
                    refine lv_aload_n hx hb dX11_judge_102 rfl (lv_at hl 0 rfl) ?_
                    refine get_X11_27 hx hb hts in_X11_judge_X11 hown hK hz hW lk_X11_judge_3 dX11_judge_103 ?_
                    refine lv_iload_n hx hb dX11_judge_106 rfl (lv_at hl 1 rfl) ?_
                    refine ld_M16 hx hb hK hz hW g_10 dX11_judge_107 ?_
                    refine lv_icmp_lt (tgt := 118) hx hb dX11_judge_108 (by decide) (fun c_24 => ?_) (fun c_24 => ?_)
                    · have hf := of_t c_24 hf
                      refine lv_aload_n hx hb dX11_judge_118 rfl (lv_at hl 0 rfl) ?_
                      refine get_X11_28 hx hb hts in_X11_judge_X11 hown hK hz hW lk_X11_judge_4 dX11_judge_119 ?_
                      refine lv_sipush (v := 400) hx hb dX11_judge_122 (by decide) ?_
                      refine lv_iload_n hx hb dX11_judge_125 rfl (lv_at hl 1 rfl) ?_
                      refine lv_imul hx hb dX11_judge_126 ?_
                      refine lv_iload hx hb dX11_judge_127 (lv_at hl 6 rfl) ?_
                      refine lv_iadd hx hb dX11_judge_129 ?_
                      obtain ⟨g_25, hf⟩ := of_gd hf
                      refine ld_M17 hx hb hK hz hW g_25 dX11_judge_130 ?_
                      refine lv_topl (fun v_26 ev_26 => ?_)
                      have hf := of_lt ev_26 hf
                      refine lv_l2i hx hb dX11_judge_131 rfl ?_
                      refine lv_topi (fun v_27 ev_27 => ?_)
                      have hf := of_lt ev_27 hf
                      refine lv_istore (lv' := [(7, .int v_27), (0, .ref (z.2.1 0)), (1, .int x1), (2, .int x2), (3, .int v_17), (4, .int r_18), (5, .int x5_20), (6, .int x6_21)]) hx hb dX11_judge_132 hl (by decide) rfl (fun ls hl => ?_)
                      refine lv_iload hx hb dX11_judge_134 (lv_at hl 0 rfl) ?_
                      refine lv_bipush (v := (-12)) hx hb dX11_judge_136 (by decide) ?_
                      refine lv_bipush (v := 12) hx hb dX11_judge_138 (by decide) ?_
                      obtain ⟨r_28, hq_29, hf⟩ := of_bd hf
                      refine m_goRi (va_runS (As := [.int v_27, .int (-12), .int 12]) (rest := []) ⟨hx, hb, hml, hown, hts⟩ (c_X11_in l hz v_27 (-12) 12 w hq_29) (va_cwS 3 hts gX11_judge_X11_in rfl rfl rfl (by decide +kernel) ⟨Nat.le_of_ble_eq_true rfl, Nat.le_of_ble_eq_true rfl⟩) (m_preS hK hW _) rfl rfl hl.1 rfl (lv_room (Nat.le_of_ble_eq_true rfl)) dX11_judge_140 ⟨Nat.le_refl _, Nat.le_refl _⟩) ?_
                      refine lv_if_eq (tgt := 176) hx hb dX11_judge_143 (by decide) (fun c_30 => ?_) (fun c_30 => ?_)
                      · have hf := of_t c_30 hf
                        refine lv_iload hx hb dX11_judge_176 (lv_at hl 7 rfl) ?_
                        exact hret _ _ _ _ _ _ (hRL_22 _ (Option.some.inj hf).symm) hW hS dX11_judge_178
                      · have hf := of_f c_30 hf
                        refine lv_iload hx hb dX11_judge_146 (lv_at hl 0 rfl) ?_
                        refine lv_aload_n hx hb dX11_judge_148 rfl (lv_at hl 1 rfl) ?_
                        refine get_X11_7 hx hb hts in_X11_judge_X11 hown hK hz hW lk_X11_judge_5 dX11_judge_149 ?_
                        refine lv_sipush (v := 672) hx hb dX11_judge_152 (by decide) ?_
                        refine lv_iload hx hb dX11_judge_155 (lv_at hl 7 rfl) ?_
                        refine lv_aload_n hx hb dX11_judge_157 rfl (lv_at hl 1 rfl) ?_
                        refine get_X11_5 hx hb hts in_X11_judge_X11 hown hK hz hW lk_X11_judge_2 dX11_judge_158 ?_
                        refine lv_bipush (v := 14) hx hb dX11_judge_161 (by decide) ?_
                        refine ld_M3 hx hb hK hz hW g_15 dX11_judge_163 ?_
                        refine lv_topi (fun v_31 ev_31 => ?_)
                        have hf := of_lt ev_31 hf
                        obtain ⟨g_32, hf⟩ := of_gd hf
                        refine lv_irem hx hb dX11_judge_164 g_32 ?_
                        refine lv_topi (fun v_33 ev_33 => ?_)
                        have hf := of_lt (e := irm x6_21 v_31) ev_33 hf
                        refine lv_iadd hx hb dX11_judge_165 ?_
                        obtain ⟨g_34, hf⟩ := of_gd hf
                        refine ld_M5 hx hb hK hz hW g_34 dX11_judge_166 ?_
                        refine lv_topi (fun v_35 ev_35 => ?_)
                        have hf := of_lt ev_35 hf
                        refine lv_isub hx hb dX11_judge_167 ?_
                        obtain ⟨r_36, hq_37, hf⟩ := of_bd hf
                        refine m_goRi (va_runS (As := [.int (v_27 - v_35)]) (rest := []) ⟨hx, hb, hml, hown, hts⟩ (c_X11_away l hz (v_27 - v_35) w hq_37) (va_cwS 1 hts gX11_judge_X11_away rfl rfl rfl (by decide +kernel) ⟨Nat.le_of_ble_eq_true rfl, Nat.le_of_ble_eq_true rfl⟩) (m_preS hK hW _) rfl rfl hl.1 rfl (lv_room (Nat.le_of_ble_eq_true rfl)) dX11_judge_168 ⟨Nat.le_refl _, Nat.le_refl _⟩) ?_
                        refine lv_iload hx hb dX11_judge_171 (lv_at hl 5 rfl) ?_
                        refine lv_icmp_le (tgt := 179) hx hb dX11_judge_173 (by decide) (fun c_38 => ?_) (fun c_38 => ?_)
                        · have hf := of_t c_38 hf
                          refine lv_iload hx hb dX11_judge_179 (lv_at hl 6 rfl) ?_
                          refine lv_iload hx hb dX11_judge_181 (lv_at hl 0 rfl) ?_
                          refine lv_iadd hx hb dX11_judge_183 ?_
                          refine lv_topi (fun v_39 ev_39 => ?_)
                          have hf := of_lt ev_39 hf
                          refine lv_istore (lv' := [(5, .int v_39), (7, .int v_27), (0, .ref (z.2.1 0)), (1, .int x1), (2, .int x2), (3, .int v_17), (4, .int r_18), (6, .int x6_21)]) hx hb dX11_judge_184 hl (by decide) rfl (fun ls hl => ?_)
                          obtain ⟨x6_40, ex6_40⟩ : ∃ y : Int32, y = x6_21 + 1 := ⟨_, rfl⟩
                          have hf := of_lt ex6_40 hf
                          refine lv_iinc (v := x6_40) (lv' := [(6, .int x6_40), (5, .int v_39), (7, .int v_27), (0, .ref (z.2.1 0)), (1, .int x1), (2, .int x2), (3, .int v_17), (4, .int r_18)]) hx hb dX11_judge_186 hl (k := 7) rfl (by rw [ex6_40]; rfl) (by decide) rfl (fun ls hl => ?_)
                          refine lv_goto (tgt := 94) hx hb dX11_judge_189 (by decide) ?_
                          exact ihL_22 _ _ _ _ hf (lv_sub hl [3, 4, 5, 6, 7, 1, 0] rfl) hRL_22 hEL_22
                        · have hf := of_f c_38 hf
                          refine lv_iload hx hb dX11_judge_176 (lv_at hl 7 rfl) ?_
                          exact hret _ _ _ _ _ _ (hRL_22 _ (Option.some.inj hf).symm) hW hS dX11_judge_178
                    · have hf := of_f c_24 hf
                      refine lv_aload_n hx hb dX11_judge_111 rfl (lv_at hl 0 rfl) ?_
                      refine lv_bipush (v := (-13)) hx hb dX11_judge_112 (by decide) ?_
                      obtain ⟨r_41, w_43, hq_42, hf⟩ := of_b2 hf
                      refine m_goWi (va_runV (As := [.int (-13)]) (rest := []) ⟨hx, hb, hml, hown, hts⟩ (c_X11_refuse l hz (-13) w hq_42) (cwV 1 hts gX11_judge_X11_refuse rfl rfl rfl (by decide +kernel) ⟨Nat.le_of_ble_eq_true rfl, Nat.le_of_ble_eq_true rfl⟩) (pre_X11 hK hz hW _) rfl rfl hl.1 rfl (lv_room (Nat.le_of_ble_eq_true rfl)) dX11_judge_114 ⟨Nat.le_refl _, Nat.le_refl _⟩) hS (fun H locs hW hS => ?_)
                      exact hret _ _ _ _ _ _ (hRL_22 _ (Option.some.inj hf).symm) hW hS dX11_judge_117
              obtain ⟨ex_45, hq_44, hf⟩ := of_bd hf
              refine L_22 FU _ _ _ _ hq_44 (lv_sub hl [4, 5, 6, 3, 2, 1, 0] rfl) (fun ret he => by subst he; exact hf) (fun x he ls hl => ?_)
              subst he
              obtain ⟨x5_46, ex5_46⟩ : ∃ y, y = x := ⟨_, rfl⟩
              subst ex5_46
              have hf := of_sr hf
              have hl : lv_has ls 8 [(0, .ref (z.2.1 0)), (2, .int x2), (3, .int v_17), (5, .int x5_46)] := hl
              refine lv_iload hx hb dX11_judge_192 (lv_at hl 3 rfl) ?_
              refine lv_aload_n hx hb dX11_judge_194 rfl (lv_at hl 0 rfl) ?_
              refine get_X11_9 hx hb hts in_X11_judge_X11 hown hK hz hW lk_X11_judge_6 dX11_judge_195 ?_
              refine lv_iload_n hx hb dX11_judge_198 rfl (lv_at hl 1 rfl) ?_
              obtain ⟨g_47, hf⟩ := of_gd hf
              refine ld_M6 hx hb hK hz hW g_47 dX11_judge_199 ?_
              have J_49 : ∀ (v_48 : Int32) (ls : Array Slot), v_48 = (if x5_46 = (w.1 6 x2.toNatClampNeg) then 9999 else v_17) → lv_has ls 8 [] → W p l e (rm 4 96) s m args below meth c H locs 0 0 Q (F0 m 210 ls [.int v_48]) := by
                intro v_48 ls ev_48 hl
                have hf := of_lt ev_48 hf
                exact hret _ _ _ _ _ _ hf hW hS dX11_judge_210
              refine lv_icmp_ne (tgt := 209) hx hb dX11_judge_200 (by decide) (fun c_50 => ?_) (fun c_50 => ?_)
              · refine lv_iload_n hx hb dX11_judge_209 rfl (lv_at hl 2 rfl) ?_
                exact J_49 _ _ (by rw [if_neg c_50]) (lv_sub hl [] rfl)
              · refine lv_sipush (v := 9999) hx hb dX11_judge_203 (by decide) ?_
                refine lv_goto (tgt := 210) hx hb dX11_judge_206 (by decide) ?_
                exact J_49 _ _ (by rw [if_pos c_50]) (lv_sub hl [] rfl)
            · have hf := of_f c_12 hf
              refine lv_aload_n hx hb dX11_judge_59 rfl (lv_at hl 0 rfl) ?_
              refine lv_bipush (v := (-12)) hx hb dX11_judge_60 (by decide) ?_
              obtain ⟨r_51, w_53, hq_52, hf⟩ := of_b2 hf
              refine m_goWi (va_runV (As := [.int (-12)]) (rest := []) ⟨hx, hb, hml, hown, hts⟩ (c_X11_refuse l hz (-12) w hq_52) (cwV 1 hts gX11_judge_X11_refuse rfl rfl rfl (by decide +kernel) ⟨Nat.le_of_ble_eq_true rfl, Nat.le_of_ble_eq_true rfl⟩) (pre_X11 hK hz hW _) rfl rfl hl.1 rfl (lv_room (Nat.le_of_ble_eq_true rfl)) dX11_judge_62 ⟨Nat.le_refl _, Nat.le_refl _⟩) hS (fun H locs hW hS => ?_)
              exact hret _ _ _ _ _ _ hf hW hS dX11_judge_65
          · have hf := of_t c_11 hf
            refine lv_aload_n hx hb dX11_judge_42 rfl (lv_at hl 0 rfl) ?_
            refine lv_bipush (v := (-11)) hx hb dX11_judge_43 (by decide) ?_
            obtain ⟨r_54, w_56, hq_55, hf⟩ := of_b2 hf
            refine m_goWi (va_runV (As := [.int (-11)]) (rest := []) ⟨hx, hb, hml, hown, hts⟩ (c_X11_refuse l hz (-11) w hq_55) (cwV 1 hts gX11_judge_X11_refuse rfl rfl rfl (by decide +kernel) ⟨Nat.le_of_ble_eq_true rfl, Nat.le_of_ble_eq_true rfl⟩) (pre_X11 hK hz hW _) rfl rfl hl.1 rfl (lv_room (Nat.le_of_ble_eq_true rfl)) dX11_judge_45 ⟨Nat.le_refl _, Nat.le_refl _⟩) hS (fun H locs hW hS => ?_)
            exact hret _ _ _ _ _ _ hf hW hS dX11_judge_48
        · have hf := of_t c_9 hf
          refine lv_bipush (v := (-3)) hx hb dX11_judge_30 (by decide) ?_
          exact hret _ _ _ _ _ _ hf hW hS dX11_judge_32
    · have hf := of_t c_3 hf
      refine lv_iconst (v := (-1)) hx hb dX11_judge_7 (by decide) ?_
      exact hret _ _ _ _ _ _ hf hW hS dX11_judge_8
  exact START _ _ hW va_S.rf
theorem in_X11_lockOf_X11 : ∀ w ∈ wsX110, w ∈ wsX11_lockOf := by decide +kernel
theorem lk_X11_lockOf_0 : Cond.fieldLink RX11 28 "CamStitchModel" "thick" "[I" ∈ wsX11_lockOf := by decide +kernel
set_option maxHeartbeats 4000000 in
set_option maxRecDepth 100000 in
theorem c_X11_lockOf (l : Launch) {z : LZ} (hz : IM z) (x1 : Int32) (x2 : Int32) (w : Mem) {r : Int32} (hf : f_X11_lockOf x1 x2 w = some r) : Met l yX11_lockOf wsX11_lockOf (rm 0 0) (PZ z w [.ref (z.2.1 0), .int x1, .int x2]) (QR (some (.int r))) 0 0 (fun _ => False) := by
  refine mk_Ri (cc := cX11_lockOf) (maxL := 3) (by decide +kernel) rfl (Nat.le_of_ble_eq_true rfl) ?_
  intro p e s m args below meth c hx hb hml hts hown hK hW Q hret ls hl
  have hl : lv_has ls 3 [(0, .ref (z.2.1 0)), (1, .int x1), (2, .int x2)] := hl
  unfold f_X11_lockOf at hf
  refine lv_aload_n hx hb dX11_lockOf_0 rfl (lv_at hl 0 rfl) ?_
  refine get_X11_10 hx hb hts in_X11_lockOf_X11 hown hK hz hW lk_X11_lockOf_0 dX11_lockOf_1 ?_
  refine lv_iconst (v := 0) hx hb dX11_lockOf_4 (by decide) ?_
  obtain ⟨g_1, hf⟩ := of_gd hf
  refine ld_M7 hx hb hK hz hW g_1 dX11_lockOf_5 ?_
  refine lv_topi (fun v_2 ev_2 => ?_)
  have hf := of_lt ev_2 hf
  refine lv_aload_n hx hb dX11_lockOf_6 rfl (lv_at hl 0 rfl) ?_
  refine get_X11_10 hx hb hts in_X11_lockOf_X11 hown hK hz hW lk_X11_lockOf_0 dX11_lockOf_7 ?_
  refine lv_iconst (v := 1) hx hb dX11_lockOf_10 (by decide) ?_
  obtain ⟨g_3, hf⟩ := of_gd hf
  refine ld_M7 hx hb hK hz hW g_3 dX11_lockOf_11 ?_
  refine lv_topi (fun v_4 ev_4 => ?_)
  have hf := of_lt ev_4 hf
  refine lv_iadd hx hb dX11_lockOf_12 ?_
  refine lv_iload_n hx hb dX11_lockOf_13 rfl (lv_at hl 2 rfl) ?_
  refine lv_imul hx hb dX11_lockOf_14 ?_
  refine lv_iload_n hx hb dX11_lockOf_15 rfl (lv_at hl 1 rfl) ?_
  refine lv_iload_n hx hb dX11_lockOf_16 rfl (lv_at hl 2 rfl) ?_
  refine lv_iadd hx hb dX11_lockOf_17 ?_
  obtain ⟨g_5, hf⟩ := of_gd hf
  refine lv_idiv hx hb dX11_lockOf_18 g_5 ?_
  refine lv_topi (fun v_6 ev_6 => ?_)
  have hf := of_lt ev_6 hf
  exact hret _ _ _ hf dX11_lockOf_19
theorem in_X11_liesIn_X11 : ∀ w ∈ wsX110, w ∈ wsX11_liesIn := by decide +kernel
theorem lk_X11_liesIn_0 : Cond.fieldLink RX11 28 "CamStitchModel" "thick" "[I" ∈ wsX11_liesIn := by decide +kernel
set_option maxHeartbeats 4000000 in
set_option maxRecDepth 100000 in
theorem c_X11_liesIn (l : Launch) {z : LZ} (hz : IM z) (x1 : Int32) (w : Mem) {r : Int32} (hf : f_X11_liesIn x1 w = some r) : Met l yX11_liesIn wsX11_liesIn (rm 0 0) (PZ z w [.ref (z.2.1 0), .int x1]) (QR (some (.int r))) 0 0 (fun _ => False) := by
  refine mk_Ri (cc := cX11_liesIn) (maxL := 3) (by decide +kernel) rfl (Nat.le_of_ble_eq_true rfl) ?_
  intro p e s m args below meth c hx hb hml hts hown hK hW Q hret ls hl
  have hl : lv_has ls 3 [(0, .ref (z.2.1 0)), (1, .int x1)] := hl
  unfold f_X11_liesIn at hf
  refine lv_aload_n hx hb dX11_liesIn_0 rfl (lv_at hl 0 rfl) ?_
  refine get_X11_10 hx hb hts in_X11_liesIn_X11 hown hK hz hW lk_X11_liesIn_0 dX11_liesIn_1 ?_
  refine lv_iconst (v := 0) hx hb dX11_liesIn_4 (by decide) ?_
  obtain ⟨g_1, hf⟩ := of_gd hf
  refine ld_M7 hx hb hK hz hW g_1 dX11_liesIn_5 ?_
  refine lv_topi (fun v_2 ev_2 => ?_)
  have hf := of_lt ev_2 hf
  refine lv_aload_n hx hb dX11_liesIn_6 rfl (lv_at hl 0 rfl) ?_
  refine get_X11_10 hx hb hts in_X11_liesIn_X11 hown hK hz hW lk_X11_liesIn_0 dX11_liesIn_7 ?_
  refine lv_iconst (v := 1) hx hb dX11_liesIn_10 (by decide) ?_
  obtain ⟨g_3, hf⟩ := of_gd hf
  refine ld_M7 hx hb hK hz hW g_3 dX11_liesIn_11 ?_
  refine lv_topi (fun v_4 ev_4 => ?_)
  have hf := of_lt ev_4 hf
  refine lv_iadd hx hb dX11_liesIn_12 ?_
  refine lv_topi (fun v_5 ev_5 => ?_)
  have hf := of_lt ev_5 hf
  refine lv_istore_n (lv' := [(2, .int v_5), (0, .ref (z.2.1 0)), (1, .int x1)]) hx hb dX11_liesIn_13 rfl hl (by decide) rfl (fun ls hl => ?_)
  refine lv_iload_n hx hb dX11_liesIn_14 rfl (lv_at hl 2 rfl) ?_
  have J_7 : ∀ (v_6 : Int32) (ls : Array Slot), v_6 = (if x1 ≤ 0 then (if x1 ≤ (w.1 7 (0 : Int32).toNatClampNeg) then (if x1 = 0 then 2 else (if x1 = v_5 then 3 else 4)) else (if v_5 ≤ x1 then (if x1 = 0 then 2 else (if x1 = v_5 then 3 else 4)) else 1)) else (if (w.1 7 (0 : Int32).toNatClampNeg) ≤ x1 then (if x1 ≤ (w.1 7 (0 : Int32).toNatClampNeg) then (if x1 = 0 then 2 else (if x1 = v_5 then 3 else 4)) else (if v_5 ≤ x1 then (if x1 = 0 then 2 else (if x1 = v_5 then 3 else 4)) else 1)) else 0)) → lv_has ls 3 [] → W p l e (rm 0 0) s m args below meth c s.heap [] 0 0 Q (F0 m 69 ls [.int v_6]) := by
    intro v_6 ls ev_6 hl
    have hf := of_lt ev_6 hf
    exact hret _ _ _ hf dX11_liesIn_69
  refine lv_if_le (tgt := 32) hx hb dX11_liesIn_15 (by decide) (fun c_8 => ?_) (fun c_8 => ?_)
  · refine lv_iload_n hx hb dX11_liesIn_32 rfl (lv_at hl 2 rfl) ?_
    refine lv_aload_n hx hb dX11_liesIn_33 rfl (lv_at hl 1 rfl) ?_
    refine get_X11_10 hx hb hts in_X11_liesIn_X11 hown hK hz hW lk_X11_liesIn_0 dX11_liesIn_34 ?_
    refine lv_iconst (v := 0) hx hb dX11_liesIn_37 (by decide) ?_
    refine ld_M7 hx hb hK hz hW g_1 dX11_liesIn_38 ?_
    refine lv_icmp_le (tgt := 51) hx hb dX11_liesIn_39 (by decide) (fun c_9 => ?_) (fun c_9 => ?_)
    · refine lv_iload_n hx hb dX11_liesIn_51 rfl (lv_at hl 2 rfl) ?_
      refine lv_if_ne (tgt := 59) hx hb dX11_liesIn_52 (by decide) (fun c_10 => ?_) (fun c_10 => ?_)
      · refine lv_iload_n hx hb dX11_liesIn_59 rfl (lv_at hl 2 rfl) ?_
        refine lv_iload_n hx hb dX11_liesIn_60 rfl (lv_at hl 0 rfl) ?_
        refine lv_icmp_ne (tgt := 68) hx hb dX11_liesIn_61 (by decide) (fun c_11 => ?_) (fun c_11 => ?_)
        · refine lv_iconst (v := 4) hx hb dX11_liesIn_68 (by decide) ?_
          exact J_7 _ _ (by rw [if_pos c_8, if_pos c_9, if_neg c_10, if_neg c_11]) (lv_sub hl [] rfl)
        · refine lv_iconst (v := 3) hx hb dX11_liesIn_64 (by decide) ?_
          refine lv_goto (tgt := 69) hx hb dX11_liesIn_65 (by decide) ?_
          exact J_7 _ _ (by rw [if_pos c_8, if_pos c_9, if_neg c_10, if_pos c_11]) (lv_sub hl [] rfl)
      · refine lv_iconst (v := 2) hx hb dX11_liesIn_55 (by decide) ?_
        refine lv_goto (tgt := 69) hx hb dX11_liesIn_56 (by decide) ?_
        exact J_7 _ _ (by rw [if_pos c_8, if_pos c_9, if_pos c_10]) (lv_sub hl [] rfl)
    · refine lv_iload_n hx hb dX11_liesIn_42 rfl (lv_at hl 2 rfl) ?_
      refine lv_iload_n hx hb dX11_liesIn_43 rfl (lv_at hl 0 rfl) ?_
      refine lv_icmp_ge (tgt := 51) hx hb dX11_liesIn_44 (by decide) (fun c_12 => ?_) (fun c_12 => ?_)
      · refine lv_iload_n hx hb dX11_liesIn_51 rfl (lv_at hl 2 rfl) ?_
        refine lv_if_ne (tgt := 59) hx hb dX11_liesIn_52 (by decide) (fun c_13 => ?_) (fun c_13 => ?_)
        · refine lv_iload_n hx hb dX11_liesIn_59 rfl (lv_at hl 2 rfl) ?_
          refine lv_iload_n hx hb dX11_liesIn_60 rfl (lv_at hl 0 rfl) ?_
          refine lv_icmp_ne (tgt := 68) hx hb dX11_liesIn_61 (by decide) (fun c_14 => ?_) (fun c_14 => ?_)
          · refine lv_iconst (v := 4) hx hb dX11_liesIn_68 (by decide) ?_
            exact J_7 _ _ (by rw [if_pos c_8, if_neg c_9, if_pos c_12, if_neg c_13, if_neg c_14]) (lv_sub hl [] rfl)
          · refine lv_iconst (v := 3) hx hb dX11_liesIn_64 (by decide) ?_
            refine lv_goto (tgt := 69) hx hb dX11_liesIn_65 (by decide) ?_
            exact J_7 _ _ (by rw [if_pos c_8, if_neg c_9, if_pos c_12, if_neg c_13, if_pos c_14]) (lv_sub hl [] rfl)
        · refine lv_iconst (v := 2) hx hb dX11_liesIn_55 (by decide) ?_
          refine lv_goto (tgt := 69) hx hb dX11_liesIn_56 (by decide) ?_
          exact J_7 _ _ (by rw [if_pos c_8, if_neg c_9, if_pos c_12, if_pos c_13]) (lv_sub hl [] rfl)
      · refine lv_iconst (v := 1) hx hb dX11_liesIn_47 (by decide) ?_
        refine lv_goto (tgt := 69) hx hb dX11_liesIn_48 (by decide) ?_
        exact J_7 _ _ (by rw [if_pos c_8, if_neg c_9, if_neg c_12]) (lv_sub hl [] rfl)
  · refine lv_iload_n hx hb dX11_liesIn_18 rfl (lv_at hl 2 rfl) ?_
    refine lv_aload_n hx hb dX11_liesIn_19 rfl (lv_at hl 1 rfl) ?_
    refine get_X11_10 hx hb hts in_X11_liesIn_X11 hown hK hz hW lk_X11_liesIn_0 dX11_liesIn_20 ?_
    refine lv_iconst (v := 0) hx hb dX11_liesIn_23 (by decide) ?_
    refine ld_M7 hx hb hK hz hW g_1 dX11_liesIn_24 ?_
    refine lv_icmp_ge (tgt := 32) hx hb dX11_liesIn_25 (by decide) (fun c_15 => ?_) (fun c_15 => ?_)
    · refine lv_iload_n hx hb dX11_liesIn_32 rfl (lv_at hl 2 rfl) ?_
      refine lv_aload_n hx hb dX11_liesIn_33 rfl (lv_at hl 1 rfl) ?_
      refine get_X11_10 hx hb hts in_X11_liesIn_X11 hown hK hz hW lk_X11_liesIn_0 dX11_liesIn_34 ?_
      refine lv_iconst (v := 0) hx hb dX11_liesIn_37 (by decide) ?_
      refine ld_M7 hx hb hK hz hW g_1 dX11_liesIn_38 ?_
      refine lv_icmp_le (tgt := 51) hx hb dX11_liesIn_39 (by decide) (fun c_16 => ?_) (fun c_16 => ?_)
      · refine lv_iload_n hx hb dX11_liesIn_51 rfl (lv_at hl 2 rfl) ?_
        refine lv_if_ne (tgt := 59) hx hb dX11_liesIn_52 (by decide) (fun c_17 => ?_) (fun c_17 => ?_)
        · refine lv_iload_n hx hb dX11_liesIn_59 rfl (lv_at hl 2 rfl) ?_
          refine lv_iload_n hx hb dX11_liesIn_60 rfl (lv_at hl 0 rfl) ?_
          refine lv_icmp_ne (tgt := 68) hx hb dX11_liesIn_61 (by decide) (fun c_18 => ?_) (fun c_18 => ?_)
          · refine lv_iconst (v := 4) hx hb dX11_liesIn_68 (by decide) ?_
            exact J_7 _ _ (by rw [if_neg c_8, if_pos c_15, if_pos c_16, if_neg c_17, if_neg c_18]) (lv_sub hl [] rfl)
          · refine lv_iconst (v := 3) hx hb dX11_liesIn_64 (by decide) ?_
            refine lv_goto (tgt := 69) hx hb dX11_liesIn_65 (by decide) ?_
            exact J_7 _ _ (by rw [if_neg c_8, if_pos c_15, if_pos c_16, if_neg c_17, if_pos c_18]) (lv_sub hl [] rfl)
        · refine lv_iconst (v := 2) hx hb dX11_liesIn_55 (by decide) ?_
          refine lv_goto (tgt := 69) hx hb dX11_liesIn_56 (by decide) ?_
          exact J_7 _ _ (by rw [if_neg c_8, if_pos c_15, if_pos c_16, if_pos c_17]) (lv_sub hl [] rfl)
      · refine lv_iload_n hx hb dX11_liesIn_42 rfl (lv_at hl 2 rfl) ?_
        refine lv_iload_n hx hb dX11_liesIn_43 rfl (lv_at hl 0 rfl) ?_
        refine lv_icmp_ge (tgt := 51) hx hb dX11_liesIn_44 (by decide) (fun c_19 => ?_) (fun c_19 => ?_)
        · refine lv_iload_n hx hb dX11_liesIn_51 rfl (lv_at hl 2 rfl) ?_
          refine lv_if_ne (tgt := 59) hx hb dX11_liesIn_52 (by decide) (fun c_20 => ?_) (fun c_20 => ?_)
          · refine lv_iload_n hx hb dX11_liesIn_59 rfl (lv_at hl 2 rfl) ?_
            refine lv_iload_n hx hb dX11_liesIn_60 rfl (lv_at hl 0 rfl) ?_
            refine lv_icmp_ne (tgt := 68) hx hb dX11_liesIn_61 (by decide) (fun c_21 => ?_) (fun c_21 => ?_)
            · refine lv_iconst (v := 4) hx hb dX11_liesIn_68 (by decide) ?_
              exact J_7 _ _ (by rw [if_neg c_8, if_pos c_15, if_neg c_16, if_pos c_19, if_neg c_20, if_neg c_21]) (lv_sub hl [] rfl)
            · refine lv_iconst (v := 3) hx hb dX11_liesIn_64 (by decide) ?_
              refine lv_goto (tgt := 69) hx hb dX11_liesIn_65 (by decide) ?_
              exact J_7 _ _ (by rw [if_neg c_8, if_pos c_15, if_neg c_16, if_pos c_19, if_neg c_20, if_pos c_21]) (lv_sub hl [] rfl)
          · refine lv_iconst (v := 2) hx hb dX11_liesIn_55 (by decide) ?_
            refine lv_goto (tgt := 69) hx hb dX11_liesIn_56 (by decide) ?_
            exact J_7 _ _ (by rw [if_neg c_8, if_pos c_15, if_neg c_16, if_pos c_19, if_pos c_20]) (lv_sub hl [] rfl)
        · refine lv_iconst (v := 1) hx hb dX11_liesIn_47 (by decide) ?_
          refine lv_goto (tgt := 69) hx hb dX11_liesIn_48 (by decide) ?_
          exact J_7 _ _ (by rw [if_neg c_8, if_pos c_15, if_neg c_16, if_neg c_19]) (lv_sub hl [] rfl)
    · refine lv_iconst (v := 0) hx hb dX11_liesIn_28 (by decide) ?_
      refine lv_goto (tgt := 69) hx hb dX11_liesIn_29 (by decide) ?_
      exact J_7 _ _ (by rw [if_neg c_8, if_neg c_15]) (lv_sub hl [] rfl)
theorem in_X11_cloth_X11 : ∀ w ∈ wsX110, w ∈ wsX11_cloth := by decide +kernel
theorem lk_X11_cloth_0 : Cond.fieldLink RX11 28 "CamStitchModel" "thick" "[I" ∈ wsX11_cloth := by decide +kernel
set_option maxHeartbeats 4000000 in
set_option maxRecDepth 100000 in
theorem c_X11_cloth (l : Launch) {z : LZ} (hz : IM z) (x1 : Int32) (x2 : Int32) (w : Mem) {r : Int32} {w' : Mem} (hf : f_X11_cloth x1 x2 w = some (r, w')) : Met l yX11_cloth wsX11_cloth (rm 1 22) (PZ z w [.ref (z.2.1 0), .int x1, .int x2]) (QW z (some (.int r)) w') 0 0 (az z) := by
  refine mk_Wi (cc := cX11_cloth) (maxL := 4) (by decide +kernel) rfl (Nat.le_of_ble_eq_true rfl) ?_
  intro p e s m args below meth c hx hb hml hts hown hK hW Q hret ls hl
  have hl : lv_has ls 4 [(0, .ref (z.2.1 0)), (1, .int x1), (2, .int x2)] := hl
  unfold f_X11_cloth at hf
  have START : ∀ (H : Heap) (locs : List Loc), hd z w H → va_S (az z) s.heap H locs → W p l e (rm 1 22) s m args below meth c H locs 0 0 Q (F0 m 0 ls []) := by
    intro H locs hW hS
    refine lv_iload_n hx hb dX11_cloth_0 rfl (lv_at hl 1 rfl) ?_
    refine lv_iconst (v := 0) hx hb dX11_cloth_1 (by decide) ?_
    refine lv_iconst (v := 1) hx hb dX11_cloth_2 (by decide) ?_
    obtain ⟨r_1, hq_2, hf⟩ := of_bd hf
    refine m_goRi (va_runS (As := [.int x1, .int 0, .int 1]) (rest := []) ⟨hx, hb, hml, hown, hts⟩ (c_X11_in l hz x1 0 1 w hq_2) (va_cwS 3 hts gX11_cloth_X11_in rfl rfl rfl (by decide +kernel) ⟨Nat.le_of_ble_eq_true rfl, Nat.le_of_ble_eq_true rfl⟩) (m_preS hK hW _) rfl rfl hl.1 rfl (lv_room (Nat.le_of_ble_eq_true rfl)) dX11_cloth_3 ⟨Nat.le_refl _, Nat.le_refl _⟩) ?_
    refine lv_if_eq (tgt := 19) hx hb dX11_cloth_6 (by decide) (fun c_3 => ?_) (fun c_3 => ?_)
    · have hf := of_t c_3 hf
      refine lv_iconst (v := (-1)) hx hb dX11_cloth_19 (by decide) ?_
      exact hret _ _ _ _ _ _ hf hW hS dX11_cloth_20
    · have hf := of_f c_3 hf
      refine lv_iload_n hx hb dX11_cloth_9 rfl (lv_at hl 2 rfl) ?_
      refine lv_iconst (v := 0) hx hb dX11_cloth_10 (by decide) ?_
      refine lv_bipush (v := 60) hx hb dX11_cloth_11 (by decide) ?_
      obtain ⟨r_4, hq_5, hf⟩ := of_bd hf
      refine m_goRi (va_runS (As := [.int x2, .int 0, .int 60]) (rest := []) ⟨hx, hb, hml, hown, hts⟩ (c_X11_in l hz x2 0 60 w hq_5) (va_cwS 3 hts gX11_cloth_X11_in rfl rfl rfl (by decide +kernel) ⟨Nat.le_of_ble_eq_true rfl, Nat.le_of_ble_eq_true rfl⟩) (m_preS hK hW _) rfl rfl hl.1 rfl (lv_room (Nat.le_of_ble_eq_true rfl)) dX11_cloth_13 ⟨Nat.le_refl _, Nat.le_refl _⟩) ?_
      refine lv_if_ne (tgt := 21) hx hb dX11_cloth_16 (by decide) (fun c_6 => ?_) (fun c_6 => ?_)
      · have hf := of_f c_6 hf
        refine lv_aload_n hx hb dX11_cloth_21 rfl (lv_at hl 0 rfl) ?_
        refine get_X11_10 hx hb hts in_X11_cloth_X11 hown hK hz hW lk_X11_cloth_0 dX11_cloth_22 ?_
        refine lv_iload_n hx hb dX11_cloth_25 rfl (lv_at hl 1 rfl) ?_
        obtain ⟨g_7, hf⟩ := of_gd hf
        refine ld_M7 hx hb hK hz hW g_7 dX11_cloth_26 ?_
        refine lv_topi (fun v_8 ev_8 => ?_)
        have hf := of_lt ev_8 hf
        refine lv_istore_n (lv' := [(3, .int v_8), (0, .ref (z.2.1 0)), (1, .int x1), (2, .int x2)]) hx hb dX11_cloth_27 rfl hl (by decide) rfl (fun ls hl => ?_)
        refine lv_aload_n hx hb dX11_cloth_28 rfl (lv_at hl 1 rfl) ?_
        refine get_X11_10 hx hb hts in_X11_cloth_X11 hown hK hz hW lk_X11_cloth_0 dX11_cloth_29 ?_
        refine lv_iload_n hx hb dX11_cloth_32 rfl (lv_at hl 2 rfl) ?_
        refine lv_iload_n hx hb dX11_cloth_33 rfl (lv_at hl 3 rfl) ?_
        refine st_M7 hx hb hK hz hW hS g_7 dX11_cloth_34 (fun H locs hW hS => ?_)
        obtain ⟨w_9, ew_9⟩ : ∃ y : Mem, y = mS w 7 x1.toNatClampNeg x2 := ⟨_, rfl⟩
        have hW : hd z w_9 H := by rw [ew_9]; exact hW
        have hf := of_lt ew_9 hf
        refine lv_iload_n hx hb dX11_cloth_35 rfl (lv_at hl 0 rfl) ?_
        exact hret _ _ _ _ _ _ hf hW hS dX11_cloth_36
      · have hf := of_t c_6 hf
        refine lv_iconst (v := (-1)) hx hb dX11_cloth_19 (by decide) ?_
        exact hret _ _ _ _ _ _ hf hW hS dX11_cloth_20
  exact START _ _ hW va_S.rf
theorem in_X11_tensions_X11 : ∀ w ∈ wsX110, w ∈ wsX11_tensions := by decide +kernel
theorem lk_X11_tensions_0 : Cond.fieldLink RX11 31 "CamStitchModel" "upper" "I" ∈ wsX11_tensions := by decide +kernel
theorem lk_X11_tensions_1 : Cond.fieldLink RX11 35 "CamStitchModel" "lower" "I" ∈ wsX11_tensions := by decide +kernel
set_option maxHeartbeats 4000000 in
set_option maxRecDepth 100000 in
theorem c_X11_tensions (l : Launch) {z : LZ} (hz : IM z) (x1 : Int32) (x2 : Int32) (w : Mem) {r : Int32} {w' : Mem} (hf : f_X11_tensions x1 x2 w = some (r, w')) : Met l yX11_tensions wsX11_tensions (rm 1 22) (PZ z w [.ref (z.2.1 0), .int x1, .int x2]) (QW z (some (.int r)) w') 0 0 (az z) := by
  refine mk_Wi (cc := cX11_tensions) (maxL := 3) (by decide +kernel) rfl (Nat.le_of_ble_eq_true rfl) ?_
  intro p e s m args below meth c hx hb hml hts hown hK hW Q hret ls hl
  have hl : lv_has ls 3 [(0, .ref (z.2.1 0)), (1, .int x1), (2, .int x2)] := hl
  unfold f_X11_tensions at hf
  have START : ∀ (H : Heap) (locs : List Loc), hd z w H → va_S (az z) s.heap H locs → W p l e (rm 1 22) s m args below meth c H locs 0 0 Q (F0 m 0 ls []) := by
    intro H locs hW hS
    refine lv_iload_n hx hb dX11_tensions_0 rfl (lv_at hl 1 rfl) ?_
    refine lv_iconst (v := 1) hx hb dX11_tensions_1 (by decide) ?_
    refine lv_bipush (v := 99) hx hb dX11_tensions_2 (by decide) ?_
    obtain ⟨r_1, hq_2, hf⟩ := of_bd hf
    refine m_goRi (va_runS (As := [.int x1, .int 1, .int 99]) (rest := []) ⟨hx, hb, hml, hown, hts⟩ (c_X11_in l hz x1 1 99 w hq_2) (va_cwS 3 hts gX11_tensions_X11_in rfl rfl rfl (by decide +kernel) ⟨Nat.le_of_ble_eq_true rfl, Nat.le_of_ble_eq_true rfl⟩) (m_preS hK hW _) rfl rfl hl.1 rfl (lv_room (Nat.le_of_ble_eq_true rfl)) dX11_tensions_4 ⟨Nat.le_refl _, Nat.le_refl _⟩) ?_
    refine lv_if_eq (tgt := 20) hx hb dX11_tensions_7 (by decide) (fun c_3 => ?_) (fun c_3 => ?_)
    · have hf := of_t c_3 hf
      refine lv_iconst (v := (-1)) hx hb dX11_tensions_20 (by decide) ?_
      exact hret _ _ _ _ _ _ hf hW hS dX11_tensions_21
    · have hf := of_f c_3 hf
      refine lv_iload_n hx hb dX11_tensions_10 rfl (lv_at hl 2 rfl) ?_
      refine lv_iconst (v := 1) hx hb dX11_tensions_11 (by decide) ?_
      refine lv_bipush (v := 99) hx hb dX11_tensions_12 (by decide) ?_
      obtain ⟨r_4, hq_5, hf⟩ := of_bd hf
      refine m_goRi (va_runS (As := [.int x2, .int 1, .int 99]) (rest := []) ⟨hx, hb, hml, hown, hts⟩ (c_X11_in l hz x2 1 99 w hq_5) (va_cwS 3 hts gX11_tensions_X11_in rfl rfl rfl (by decide +kernel) ⟨Nat.le_of_ble_eq_true rfl, Nat.le_of_ble_eq_true rfl⟩) (m_preS hK hW _) rfl rfl hl.1 rfl (lv_room (Nat.le_of_ble_eq_true rfl)) dX11_tensions_14 ⟨Nat.le_refl _, Nat.le_refl _⟩) ?_
      refine lv_if_ne (tgt := 22) hx hb dX11_tensions_17 (by decide) (fun c_6 => ?_) (fun c_6 => ?_)
      · have hf := of_f c_6 hf
        refine lv_aload_n hx hb dX11_tensions_22 rfl (lv_at hl 0 rfl) ?_
        refine lv_iload_n hx hb dX11_tensions_23 rfl (lv_at hl 1 rfl) ?_
        refine put_X11_11 hx hb hts in_X11_tensions_X11 hown hK hz hW hS lk_X11_tensions_0 dX11_tensions_24 (fun H locs hW hS => ?_)
        obtain ⟨w_7, ew_7⟩ : ∃ y : Mem, y = mS w 0 11 x1 := ⟨_, rfl⟩
        have hW : hd z w_7 H := by rw [ew_7]; exact hW
        have hf := of_lt ew_7 hf
        refine lv_aload_n hx hb dX11_tensions_27 rfl (lv_at hl 0 rfl) ?_
        refine lv_iload_n hx hb dX11_tensions_28 rfl (lv_at hl 2 rfl) ?_
        refine put_X11_12 hx hb hts in_X11_tensions_X11 hown hK hz hW hS lk_X11_tensions_1 dX11_tensions_29 (fun H locs hW hS => ?_)
        obtain ⟨w_8, ew_8⟩ : ∃ y : Mem, y = mS w_7 0 12 x2 := ⟨_, rfl⟩
        have hW : hd z w_8 H := by rw [ew_8]; exact hW
        have hf := of_lt ew_8 hf
        refine lv_aload_n hx hb dX11_tensions_32 rfl (lv_at hl 0 rfl) ?_
        refine lv_iload_n hx hb dX11_tensions_33 rfl (lv_at hl 1 rfl) ?_
        refine lv_iload_n hx hb dX11_tensions_34 rfl (lv_at hl 2 rfl) ?_
        obtain ⟨r_9, hq_10, hf⟩ := of_bd hf
        refine m_goRi (va_runV (As := [.int x1, .int x2]) (rest := []) ⟨hx, hb, hml, hown, hts⟩ (c_X11_lockOf l hz x1 x2 w_8 hq_10) (cwV 2 hts gX11_tensions_X11_lockOf rfl rfl rfl (by decide +kernel) ⟨Nat.le_of_ble_eq_true rfl, Nat.le_of_ble_eq_true rfl⟩) (pre_X11 hK hz hW _) rfl rfl hl.1 rfl (lv_room (Nat.le_of_ble_eq_true rfl)) dX11_tensions_35 ⟨Nat.le_refl _, Nat.le_refl _⟩) ?_
        exact hret _ _ _ _ _ _ hf hW hS dX11_tensions_38
      · have hf := of_t c_6 hf
        refine lv_iconst (v := (-1)) hx hb dX11_tensions_20 (by decide) ?_
        exact hret _ _ _ _ _ _ hf hW hS dX11_tensions_21
  exact START _ _ hW va_S.rf
theorem in_X11_lock_X11 : ∀ w ∈ wsX110, w ∈ wsX11_lock := by decide +kernel
theorem lk_X11_lock_0 : Cond.fieldLink RX11 31 "CamStitchModel" "upper" "I" ∈ wsX11_lock := by decide +kernel
theorem lk_X11_lock_1 : Cond.fieldLink RX11 35 "CamStitchModel" "lower" "I" ∈ wsX11_lock := by decide +kernel
set_option maxHeartbeats 4000000 in
set_option maxRecDepth 100000 in
theorem c_X11_lock (l : Launch) {z : LZ} (hz : IM z)  (w : Mem) {r : Int32} (hf : f_X11_lock w = some r) : Met l yX11_lock wsX11_lock (rm 1 22) (PZ z w [.ref (z.2.1 0)]) (QR (some (.int r))) 0 0 (fun _ => False) := by
  refine mk_Ri (cc := cX11_lock) (maxL := 1) (by decide +kernel) rfl (Nat.le_of_ble_eq_true rfl) ?_
  intro p e s m args below meth c hx hb hml hts hown hK hW Q hret ls hl
  have hl : lv_has ls 1 [(0, .ref (z.2.1 0))] := hl
  unfold f_X11_lock at hf
  refine lv_aload_n hx hb dX11_lock_0 rfl (lv_at hl 0 rfl) ?_
  refine lv_aload_n hx hb dX11_lock_1 rfl (lv_at hl 0 rfl) ?_
  refine lv_aload_n hx hb dX11_lock_2 rfl (lv_at hl 0 rfl) ?_
  refine get_X11_11 hx hb hts in_X11_lock_X11 hown hK hz hW lk_X11_lock_0 dX11_lock_3 ?_
  refine lv_aload_n hx hb dX11_lock_6 rfl (lv_at hl 0 rfl) ?_
  refine get_X11_12 hx hb hts in_X11_lock_X11 hown hK hz hW lk_X11_lock_1 dX11_lock_7 ?_
  obtain ⟨r_1, hq_2, hf⟩ := of_bd hf
  refine m_goRi (va_runV (As := [.int (w.1 0 11), .int (w.1 0 12)]) (rest := [.ref (z.2.1 0)]) ⟨hx, hb, hml, hown, hts⟩ (c_X11_lockOf l hz (w.1 0 11) (w.1 0 12) w hq_2) (cwV 2 hts gX11_lock_X11_lockOf rfl rfl rfl (by decide +kernel) ⟨Nat.le_of_ble_eq_true rfl, Nat.le_of_ble_eq_true rfl⟩) (pre_X11 hK hz hW _) rfl rfl hl.1 rfl (lv_room (Nat.le_of_ble_eq_true rfl)) dX11_lock_10 ⟨Nat.le_refl _, Nat.le_refl _⟩) ?_
  obtain ⟨r_3, hq_4, hf⟩ := of_bd hf
  refine m_goRi (va_runV (As := [.int r_1]) (rest := []) ⟨hx, hb, hml, hown, hts⟩ (c_X11_liesIn l hz r_1 w hq_4) (cwV 1 hts gX11_lock_X11_liesIn rfl rfl rfl (by decide +kernel) ⟨Nat.le_of_ble_eq_true rfl, Nat.le_of_ble_eq_true rfl⟩) (pre_X11 hK hz hW _) rfl rfl hl.1 rfl (lv_room (Nat.le_of_ble_eq_true rfl)) dX11_lock_13 ⟨Nat.le_refl _, Nat.le_refl _⟩) ?_
  exact hret _ _ _ hf dX11_lock_16
set_option maxHeartbeats 4000000 in
set_option maxRecDepth 100000 in
theorem c_X11_tune (l : Launch) {z : LZ} (hz : IM z) (x1 : Int32) (w : Mem) {r : Int32} (hf : f_X11_tune x1 w = some r) : Met l yX11_tune wsX11_tune (rm 1 22) (PZ z w [.ref (z.2.1 0), .int x1]) (QR (some (.int r))) 0 0 (fun _ => False) := by
  refine mk_Ri (cc := cX11_tune) (maxL := 4) (by decide +kernel) rfl (Nat.le_of_ble_eq_true rfl) ?_
  intro p e s m args below meth c hx hb hml hts hown hK hW Q hret ls hl
  have hl : lv_has ls 4 [(0, .ref (z.2.1 0)), (1, .int x1)] := hl
  unfold f_X11_tune at hf
  refine lv_iload_n hx hb dX11_tune_0 rfl (lv_at hl 1 rfl) ?_
  refine lv_iconst (v := 0) hx hb dX11_tune_1 (by decide) ?_
  refine lv_iconst (v := 1) hx hb dX11_tune_2 (by decide) ?_
  obtain ⟨r_1, hq_2, hf⟩ := of_bd hf
  refine m_goRi (va_runS (As := [.int x1, .int 0, .int 1]) (rest := []) ⟨hx, hb, hml, hown, hts⟩ (c_X11_in l hz x1 0 1 w hq_2) (va_cwS 3 hts gX11_tune_X11_in rfl rfl rfl (by decide +kernel) ⟨Nat.le_of_ble_eq_true rfl, Nat.le_of_ble_eq_true rfl⟩) (m_preS hK hW _) rfl rfl hl.1 rfl (lv_room (Nat.le_of_ble_eq_true rfl)) dX11_tune_3 ⟨Nat.le_refl _, Nat.le_refl _⟩) ?_
  refine lv_if_ne (tgt := 11) hx hb dX11_tune_6 (by decide) (fun c_3 => ?_) (fun c_3 => ?_)
  · have hf := of_f c_3 hf
    refine lv_iconst (v := 2) hx hb dX11_tune_11 (by decide) ?_
    refine lv_istore_n (lv' := [(2, .int 2), (0, .ref (z.2.1 0)), (1, .int x1)]) hx hb dX11_tune_12 rfl hl (by decide) rfl (fun ls hl => ?_)
    have L_5 : ∀ (n : Nat) (x2_4 : Int32) (exL_5 : Sum (Int32) (Unit)) (ls : Array Slot), f_X11_tune_L13 w x1 n x2_4 = some exL_5 → lv_has ls 4 [(0, .ref (z.2.1 0)), (1, .int x1), (2, .int x2_4)] → (∀ ret, exL_5 = .inl ret → some (ret) = some r) → (∀ x, exL_5 = .inr x → ∀ (ls : Array Slot), lv_has ls 4 [] → W p l e (rm 1 22) s m args below meth c s.heap [] 0 0 Q (F0 m 78 ls [])) → W p l e (rm 1 22) s m args below meth c s.heap [] 0 0 Q (F0 m 13 ls []) := by
      intro n
      induction n with
      | zero =>
        intro x2_4 exL_5 ls hf
        have hf : (none : Option (Sum (Int32) (Unit))) = some exL_5 := hf
        cases hf
      | succ n ihL_5 =>
        intro x2_4 exL_5 ls hf hl hRL_5 hEL_5
        rw [f_X11_tune_L13_s] at hf
        refine lv_iload_n hx hb dX11_tune_13 rfl (lv_at hl 2 rfl) ?_
        refine lv_sipush (v := 198) hx hb dX11_tune_14 (by decide) ?_
        refine lv_icmp_gt (tgt := 78) hx hb dX11_tune_17 (by decide) (fun c_6 => ?_) (fun c_6 => ?_)
        · have hf := of_t c_6 hf
          exact hEL_5 _ (Option.some.inj hf).symm _ (lv_sub hl [] rfl)
        · have hf := of_f c_6 hf
          refine lv_iconst (v := 1) hx hb dX11_tune_20 (by decide) ?_
          refine lv_istore_n (lv' := [(3, .int 1), (0, .ref (z.2.1 0)), (1, .int x1), (2, .int x2_4)]) hx hb dX11_tune_21 rfl hl (by decide) rfl (fun ls hl => ?_)
          have L_8 : ∀ (n : Nat) (x3_7 : Int32) (exL_8 : Sum (Int32) (Unit)) (ls : Array Slot), f_X11_tune_L22 w x1 x2_4 n x3_7 = some exL_8 → lv_has ls 4 [(0, .ref (z.2.1 0)), (1, .int x1), (2, .int x2_4), (3, .int x3_7)] → (∀ ret, exL_8 = .inl ret → some (.inl ret) = some exL_5) → (∀ x, exL_8 = .inr x → ∀ (ls : Array Slot), lv_has ls 4 [(0, .ref (z.2.1 0)), (1, .int x1), (2, .int x2_4)] → W p l e (rm 1 22) s m args below meth c s.heap [] 0 0 Q (F0 m 72 ls [])) → W p l e (rm 1 22) s m args below meth c s.heap [] 0 0 Q (F0 m 22 ls []) := by
            intro n
            induction n with
            | zero =>
              intro x3_7 exL_8 ls hf
              have hf : (none : Option (Sum (Int32) (Unit))) = some exL_8 := hf
              cases hf
            | succ n ihL_8 =>
              intro x3_7 exL_8 ls hf hl hRL_8 hEL_8
              rw [f_X11_tune_L22_s] at hf
              refine lv_iload_n hx hb dX11_tune_22 rfl (lv_at hl 3 rfl) ?_
              refine lv_iload_n hx hb dX11_tune_23 rfl (lv_at hl 2 rfl) ?_
              refine lv_icmp_ge (tgt := 72) hx hb dX11_tune_24 (by decide) (fun c_9 => ?_) (fun c_9 => ?_)
              · have hf := of_t c_9 hf
                exact hEL_8 _ (Option.some.inj hf).symm _ (lv_sub hl [0, 1, 2] rfl)
              · have hf := of_f c_9 hf
                refine lv_iload_n hx hb dX11_tune_27 rfl (lv_at hl 3 rfl) ?_
                refine lv_bipush (v := 99) hx hb dX11_tune_28 (by decide) ?_
                refine lv_icmp_gt (tgt := 72) hx hb dX11_tune_30 (by decide) (fun c_10 => ?_) (fun c_10 => ?_)
                · have hf := of_t c_10 hf
                  exact hEL_8 _ (Option.some.inj hf).symm _ (lv_sub hl [0, 1, 2] rfl)
                · have hf := of_f c_10 hf
                  refine lv_iload_n hx hb dX11_tune_33 rfl (lv_at hl 2 rfl) ?_
                  refine lv_iload_n hx hb dX11_tune_34 rfl (lv_at hl 3 rfl) ?_
                  refine lv_isub hx hb dX11_tune_35 ?_
                  refine lv_bipush (v := 99) hx hb dX11_tune_36 (by decide) ?_
                  refine lv_icmp_gt (tgt := 66) hx hb dX11_tune_38 (by decide) (fun c_11 => ?_) (fun c_11 => ?_)
                  · have hf := of_t c_11 hf
                    obtain ⟨x3_12, ex3_12⟩ : ∃ y : Int32, y = x3_7 + 1 := ⟨_, rfl⟩
                    have hf := of_lt ex3_12 hf
                    refine lv_iinc (v := x3_12) (lv' := [(3, .int x3_12), (0, .ref (z.2.1 0)), (1, .int x1), (2, .int x2_4)]) hx hb dX11_tune_66 hl (k := 3) rfl (by rw [ex3_12]; rfl) (by decide) rfl (fun ls hl => ?_)
                    refine lv_goto (tgt := 22) hx hb dX11_tune_69 (by decide) ?_
                    exact ihL_8 _ _ _ hf (lv_sub hl [1, 2, 3, 0] rfl) hRL_8 hEL_8
                  · have hf := of_f c_11 hf
                    refine lv_aload_n hx hb dX11_tune_41 rfl (lv_at hl 0 rfl) ?_
                    refine lv_aload_n hx hb dX11_tune_42 rfl (lv_at hl 0 rfl) ?_
                    refine lv_iload_n hx hb dX11_tune_43 rfl (lv_at hl 3 rfl) ?_
                    refine lv_iload_n hx hb dX11_tune_44 rfl (lv_at hl 2 rfl) ?_
                    refine lv_iload_n hx hb dX11_tune_45 rfl (lv_at hl 3 rfl) ?_
                    refine lv_isub hx hb dX11_tune_46 ?_
                    obtain ⟨r_13, hq_14, hf⟩ := of_bd hf
                    refine m_goRi (va_runV (As := [.int x3_7, .int (x2_4 - x3_7)]) (rest := [.ref (z.2.1 0)]) ⟨hx, hb, hml, hown, hts⟩ (c_X11_lockOf l hz x3_7 (x2_4 - x3_7) w hq_14) (cwV 2 hts gX11_tune_X11_lockOf rfl rfl rfl (by decide +kernel) ⟨Nat.le_of_ble_eq_true rfl, Nat.le_of_ble_eq_true rfl⟩) (pre_X11 hK hz hW _) rfl rfl hl.1 rfl (lv_room (Nat.le_of_ble_eq_true rfl)) dX11_tune_47 ⟨Nat.le_refl _, Nat.le_refl _⟩) ?_
                    obtain ⟨r_15, hq_16, hf⟩ := of_bd hf
                    refine m_goRi (va_runV (As := [.int r_13]) (rest := []) ⟨hx, hb, hml, hown, hts⟩ (c_X11_liesIn l hz r_13 w hq_16) (cwV 1 hts gX11_tune_X11_liesIn rfl rfl rfl (by decide +kernel) ⟨Nat.le_of_ble_eq_true rfl, Nat.le_of_ble_eq_true rfl⟩) (pre_X11 hK hz hW _) rfl rfl hl.1 rfl (lv_room (Nat.le_of_ble_eq_true rfl)) dX11_tune_50 ⟨Nat.le_refl _, Nat.le_refl _⟩) ?_
                    refine lv_iload_n hx hb dX11_tune_53 rfl (lv_at hl 1 rfl) ?_
                    refine lv_icmp_ne (tgt := 66) hx hb dX11_tune_54 (by decide) (fun c_17 => ?_) (fun c_17 => ?_)
                    · have hf := of_f c_17 hf
                      obtain ⟨x3_18, ex3_18⟩ : ∃ y : Int32, y = x3_7 + 1 := ⟨_, rfl⟩
                      have hf := of_lt ex3_18 hf
                      refine lv_iinc (v := x3_18) (lv' := [(3, .int x3_18), (0, .ref (z.2.1 0)), (1, .int x1), (2, .int x2_4)]) hx hb dX11_tune_66 hl (k := 3) rfl (by rw [ex3_18]; rfl) (by decide) rfl (fun ls hl => ?_)
                      refine lv_goto (tgt := 22) hx hb dX11_tune_69 (by decide) ?_
                      exact ihL_8 _ _ _ hf (lv_sub hl [1, 2, 3, 0] rfl) hRL_8 hEL_8
                    · have hf := of_t c_17 hf
                      refine lv_bipush (v := 100) hx hb dX11_tune_57 (by decide) ?_
                      refine lv_iload_n hx hb dX11_tune_59 rfl (lv_at hl 3 rfl) ?_
                      refine lv_imul hx hb dX11_tune_60 ?_
                      refine lv_iload_n hx hb dX11_tune_61 rfl (lv_at hl 2 rfl) ?_
                      refine lv_iadd hx hb dX11_tune_62 ?_
                      refine lv_iload_n hx hb dX11_tune_63 rfl (lv_at hl 3 rfl) ?_
                      refine lv_isub hx hb dX11_tune_64 ?_
                      refine lv_topi (fun v_19 ev_19 => ?_)
                      have hf := of_lt ev_19 hf
                      exact hret _ _ _ (hRL_5 _ (Option.some.inj (hRL_8 _ (Option.some.inj hf).symm)).symm) dX11_tune_65
          obtain ⟨ex_21, hq_20, hf⟩ := of_bd hf
          refine L_8 FU _ _ _ hq_20 (lv_sub hl [1, 2, 3, 0] rfl) (fun ret he => by subst he; exact hf) (fun x he ls hl => ?_)
          subst he
          have hf := of_sr hf
          have hl : lv_has ls 4 [(0, .ref (z.2.1 0)), (1, .int x1), (2, .int x2_4)] := hl
          obtain ⟨x2_22, ex2_22⟩ : ∃ y : Int32, y = x2_4 + 1 := ⟨_, rfl⟩
          have hf := of_lt ex2_22 hf
          refine lv_iinc (v := x2_22) (lv' := [(2, .int x2_22), (0, .ref (z.2.1 0)), (1, .int x1)]) hx hb dX11_tune_72 hl (k := 2) rfl (by rw [ex2_22]; rfl) (by decide) rfl (fun ls hl => ?_)
          refine lv_goto (tgt := 13) hx hb dX11_tune_75 (by decide) ?_
          exact ihL_5 _ _ _ hf (lv_sub hl [1, 2, 0] rfl) hRL_5 hEL_5
    obtain ⟨ex_24, hq_23, hf⟩ := of_bd hf
    refine L_5 FU _ _ _ hq_23 (lv_sub hl [1, 2, 0] rfl) (fun ret he => by subst he; exact hf) (fun x he ls hl => ?_)
    subst he
    have hf := of_sr hf
    have hl : lv_has ls 4 [] := hl
    refine lv_bipush (v := (-4)) hx hb dX11_tune_78 (by decide) ?_
    exact hret _ _ _ hf dX11_tune_80
  · have hf := of_t c_3 hf
    refine lv_iconst (v := (-1)) hx hb dX11_tune_9 (by decide) ?_
    exact hret _ _ _ hf dX11_tune_10
theorem in_X11_wind_X11 : ∀ w ∈ wsX110, w ∈ wsX11_wind := by decide +kernel
theorem lk_X11_wind_0 : Cond.constant RX11 254 1000000 ∈ wsX11_wind := by decide +kernel
theorem lk_X11_wind_1 : Cond.fieldLink RX11 39 "CamStitchModel" "spool" "I" ∈ wsX11_wind := by decide +kernel
theorem lk_X11_wind_2 : Cond.fieldLink RX11 42 "CamStitchModel" "bobbin" "I" ∈ wsX11_wind := by decide +kernel
set_option maxHeartbeats 4000000 in
set_option maxRecDepth 100000 in
theorem c_X11_wind (l : Launch) {z : LZ} (hz : IM z) (x1 : Int32) (x2 : Int32) (w : Mem) {r : Int32} {w' : Mem} (hf : f_X11_wind x1 x2 w = some (r, w')) : Met l yX11_wind wsX11_wind (rm 1 22) (PZ z w [.ref (z.2.1 0), .int x1, .int x2]) (QW z (some (.int r)) w') 0 0 (az z) := by
  refine mk_Wi (cc := cX11_wind) (maxL := 3) (by decide +kernel) rfl (Nat.le_of_ble_eq_true rfl) ?_
  intro p e s m args below meth c hx hb hml hts hown hK hW Q hret ls hl
  have hl : lv_has ls 3 [(0, .ref (z.2.1 0)), (1, .int x1), (2, .int x2)] := hl
  unfold f_X11_wind at hf
  have START : ∀ (H : Heap) (locs : List Loc), hd z w H → va_S (az z) s.heap H locs → W p l e (rm 1 22) s m args below meth c H locs 0 0 Q (F0 m 0 ls []) := by
    intro H locs hW hS
    refine lv_iload_n hx hb dX11_wind_0 rfl (lv_at hl 1 rfl) ?_
    refine lv_iconst (v := 0) hx hb dX11_wind_1 (by decide) ?_
    refine lv_ldc (v := 1000000) hx hb hown (hts _ lk_X11_wind_0) dX11_wind_2 ?_
    obtain ⟨r_1, hq_2, hf⟩ := of_bd hf
    refine m_goRi (va_runS (As := [.int x1, .int 0, .int 1000000]) (rest := []) ⟨hx, hb, hml, hown, hts⟩ (c_X11_in l hz x1 0 1000000 w hq_2) (va_cwS 3 hts gX11_wind_X11_in rfl rfl rfl (by decide +kernel) ⟨Nat.le_of_ble_eq_true rfl, Nat.le_of_ble_eq_true rfl⟩) (m_preS hK hW _) rfl rfl hl.1 rfl (lv_room (Nat.le_of_ble_eq_true rfl)) dX11_wind_4 ⟨Nat.le_refl _, Nat.le_refl _⟩) ?_
    refine lv_if_eq (tgt := 20) hx hb dX11_wind_7 (by decide) (fun c_3 => ?_) (fun c_3 => ?_)
    · have hf := of_t c_3 hf
      refine lv_iconst (v := (-1)) hx hb dX11_wind_20 (by decide) ?_
      exact hret _ _ _ _ _ _ hf hW hS dX11_wind_21
    · have hf := of_f c_3 hf
      refine lv_iload_n hx hb dX11_wind_10 rfl (lv_at hl 2 rfl) ?_
      refine lv_iconst (v := 0) hx hb dX11_wind_11 (by decide) ?_
      refine lv_ldc (v := 1000000) hx hb hown (hts _ lk_X11_wind_0) dX11_wind_12 ?_
      obtain ⟨r_4, hq_5, hf⟩ := of_bd hf
      refine m_goRi (va_runS (As := [.int x2, .int 0, .int 1000000]) (rest := []) ⟨hx, hb, hml, hown, hts⟩ (c_X11_in l hz x2 0 1000000 w hq_5) (va_cwS 3 hts gX11_wind_X11_in rfl rfl rfl (by decide +kernel) ⟨Nat.le_of_ble_eq_true rfl, Nat.le_of_ble_eq_true rfl⟩) (m_preS hK hW _) rfl rfl hl.1 rfl (lv_room (Nat.le_of_ble_eq_true rfl)) dX11_wind_14 ⟨Nat.le_refl _, Nat.le_refl _⟩) ?_
      refine lv_if_ne (tgt := 22) hx hb dX11_wind_17 (by decide) (fun c_6 => ?_) (fun c_6 => ?_)
      · have hf := of_f c_6 hf
        refine lv_aload_n hx hb dX11_wind_22 rfl (lv_at hl 0 rfl) ?_
        refine lv_iload_n hx hb dX11_wind_23 rfl (lv_at hl 1 rfl) ?_
        refine put_X11_13 hx hb hts in_X11_wind_X11 hown hK hz hW hS lk_X11_wind_1 dX11_wind_24 (fun H locs hW hS => ?_)
        obtain ⟨w_7, ew_7⟩ : ∃ y : Mem, y = mS w 0 13 x1 := ⟨_, rfl⟩
        have hW : hd z w_7 H := by rw [ew_7]; exact hW
        have hf := of_lt ew_7 hf
        refine lv_aload_n hx hb dX11_wind_27 rfl (lv_at hl 0 rfl) ?_
        refine lv_iload_n hx hb dX11_wind_28 rfl (lv_at hl 2 rfl) ?_
        refine put_X11_14 hx hb hts in_X11_wind_X11 hown hK hz hW hS lk_X11_wind_2 dX11_wind_29 (fun H locs hW hS => ?_)
        obtain ⟨w_8, ew_8⟩ : ∃ y : Mem, y = mS w_7 0 14 x2 := ⟨_, rfl⟩
        have hW : hd z w_8 H := by rw [ew_8]; exact hW
        have hf := of_lt ew_8 hf
        refine lv_iconst (v := 0) hx hb dX11_wind_32 (by decide) ?_
        exact hret _ _ _ _ _ _ hf hW hS dX11_wind_33
      · have hf := of_t c_6 hf
        refine lv_iconst (v := (-1)) hx hb dX11_wind_20 (by decide) ?_
        exact hret _ _ _ _ _ _ hf hW hS dX11_wind_21
  exact START _ _ hW va_S.rf
theorem in_X11_thread_X11 : ∀ w ∈ wsX110, w ∈ wsX11_thread := by decide +kernel
theorem lk_X11_thread_0 : Cond.fieldLink RX11 42 "CamStitchModel" "bobbin" "I" ∈ wsX11_thread := by decide +kernel
theorem lk_X11_thread_1 : Cond.fieldLink RX11 39 "CamStitchModel" "spool" "I" ∈ wsX11_thread := by decide +kernel
set_option maxHeartbeats 4000000 in
set_option maxRecDepth 100000 in
theorem c_X11_thread (l : Launch) {z : LZ} (hz : IM z) (x1 : Int32) (w : Mem) {r : Int32} (hf : f_X11_thread x1 w = some r) : Met l yX11_thread wsX11_thread (rm 0 0) (PZ z w [.ref (z.2.1 0), .int x1]) (QR (some (.int r))) 0 0 (fun _ => False) := by
  refine mk_Ri (cc := cX11_thread) (maxL := 2) (by decide +kernel) rfl (Nat.le_of_ble_eq_true rfl) ?_
  intro p e s m args below meth c hx hb hml hts hown hK hW Q hret ls hl
  have hl : lv_has ls 2 [(0, .ref (z.2.1 0)), (1, .int x1)] := hl
  unfold f_X11_thread at hf
  refine lv_iload_n hx hb dX11_thread_0 rfl (lv_at hl 1 rfl) ?_
  have J_2 : ∀ (v_1 : Int32) (ls : Array Slot), v_1 = (if x1 = 0 then (w.1 0 13) else (if x1 = 1 then (w.1 0 14) else (-1))) → lv_has ls 2 [] → W p l e (rm 0 0) s m args below meth c s.heap [] 0 0 Q (F0 m 24 ls [.int v_1]) := by
    intro v_1 ls ev_1 hl
    have hf := of_lt ev_1 hf
    exact hret _ _ _ hf dX11_thread_24
  refine lv_if_ne (tgt := 11) hx hb dX11_thread_1 (by decide) (fun c_3 => ?_) (fun c_3 => ?_)
  · refine lv_iload_n hx hb dX11_thread_11 rfl (lv_at hl 1 rfl) ?_
    refine lv_iconst (v := 1) hx hb dX11_thread_12 (by decide) ?_
    refine lv_icmp_ne (tgt := 23) hx hb dX11_thread_13 (by decide) (fun c_4 => ?_) (fun c_4 => ?_)
    · refine lv_iconst (v := (-1)) hx hb dX11_thread_23 (by decide) ?_
      exact J_2 _ _ (by rw [if_neg c_3, if_neg c_4]) (lv_sub hl [] rfl)
    · refine lv_aload_n hx hb dX11_thread_16 rfl (lv_at hl 0 rfl) ?_
      refine get_X11_14 hx hb hts in_X11_thread_X11 hown hK hz hW lk_X11_thread_0 dX11_thread_17 ?_
      refine lv_goto (tgt := 24) hx hb dX11_thread_20 (by decide) ?_
      exact J_2 _ _ (by rw [if_neg c_3, if_pos c_4]) (lv_sub hl [] rfl)
  · refine lv_aload_n hx hb dX11_thread_4 rfl (lv_at hl 0 rfl) ?_
    refine get_X11_13 hx hb hts in_X11_thread_X11 hown hK hz hW lk_X11_thread_1 dX11_thread_5 ?_
    refine lv_goto (tgt := 24) hx hb dX11_thread_8 (by decide) ?_
    exact J_2 _ _ (by rw [if_pos c_3]) (lv_sub hl [] rfl)
theorem in_X11_step_X11 : ∀ w ∈ wsX110, w ∈ wsX11_step := by decide +kernel
theorem lk_X11_step_0 : Cond.fieldLink RX11 115 "CamStitchModel" "steps" "I" ∈ wsX11_step := by decide +kernel
theorem lk_X11_step_1 : Cond.fieldLink RX11 45 "CamStitchModel" "stepKind" "[I" ∈ wsX11_step := by decide +kernel
theorem lk_X11_step_2 : Cond.fieldLink RX11 48 "CamStitchModel" "stepN" "[I" ∈ wsX11_step := by decide +kernel
set_option maxHeartbeats 4000000 in
set_option maxRecDepth 100000 in
theorem c_X11_step (l : Launch) {z : LZ} (hz : IM z) (x1 : Int32) (x2 : Int32) (w : Mem) {r : Int32} {w' : Mem} (hf : f_X11_step x1 x2 w = some (r, w')) : Met l yX11_step wsX11_step (rm 1 22) (PZ z w [.ref (z.2.1 0), .int x1, .int x2]) (QW z (some (.int r)) w') 0 0 (az z) := by
  refine mk_Wi (cc := cX11_step) (maxL := 4) (by decide +kernel) rfl (Nat.le_of_ble_eq_true rfl) ?_
  intro p e s m args below meth c hx hb hml hts hown hK hW Q hret ls hl
  have hl : lv_has ls 4 [(0, .ref (z.2.1 0)), (1, .int x1), (2, .int x2)] := hl
  unfold f_X11_step at hf
  have START : ∀ (H : Heap) (locs : List Loc), hd z w H → va_S (az z) s.heap H locs → W p l e (rm 1 22) s m args below meth c H locs 0 0 Q (F0 m 0 ls []) := by
    intro H locs hW hS
    refine lv_iload_n hx hb dX11_step_0 rfl (lv_at hl 1 rfl) ?_
    obtain ⟨k_1, ek_1, hf⟩ := of_lz hf
    have Jk_1 : ∀ (t_2 : Int32) (ls : Array Slot), k_1 t_2 = some (r, w') → lv_has ls 4 [(0, .ref (z.2.1 0)), (1, .int x1), (2, .int x2)] → W p l e (rm 1 22) s m args below meth c H locs 0 0 Q (F0 m 58 ls [.int t_2]) := by
      intro t_2 ls hf hl
      have hf := of_j1 ek_1 hf
      refine lv_istore_n (lv' := [(3, .int t_2), (0, .ref (z.2.1 0)), (1, .int x1), (2, .int x2)]) hx hb dX11_step_58 rfl hl (by decide) rfl (fun ls hl => ?_)
      refine lv_iload_n hx hb dX11_step_59 rfl (lv_at hl 0 rfl) ?_
      refine lv_if_ne (tgt := 65) hx hb dX11_step_60 (by decide) (fun c_3 => ?_) (fun c_3 => ?_)
      · have hf := of_f c_3 hf
        refine lv_aload_n hx hb dX11_step_65 rfl (lv_at hl 1 rfl) ?_
        refine get_X11_15 hx hb hts in_X11_step_X11 hown hK hz hW lk_X11_step_0 dX11_step_66 ?_
        refine lv_bipush (v := 20) hx hb dX11_step_69 (by decide) ?_
        refine lv_icmp_ne (tgt := 77) hx hb dX11_step_71 (by decide) (fun c_4 => ?_) (fun c_4 => ?_)
        · have hf := of_f c_4 hf
          refine lv_aload_n hx hb dX11_step_77 rfl (lv_at hl 1 rfl) ?_
          refine get_X11_16 hx hb hts in_X11_step_X11 hown hK hz hW lk_X11_step_1 dX11_step_78 ?_
          refine lv_aload_n hx hb dX11_step_81 rfl (lv_at hl 1 rfl) ?_
          refine get_X11_15 hx hb hts in_X11_step_X11 hown hK hz hW lk_X11_step_0 dX11_step_82 ?_
          refine lv_iload_n hx hb dX11_step_85 rfl (lv_at hl 2 rfl) ?_
          obtain ⟨g_5, hf⟩ := of_gd hf
          refine st_M8 hx hb hK hz hW hS g_5 dX11_step_86 (fun H locs hW hS => ?_)
          obtain ⟨w_6, ew_6⟩ : ∃ y : Mem, y = mS w 8 ((w.1 0 15).toNatClampNeg) x1 := ⟨_, rfl⟩
          have hW : hd z w_6 H := by rw [ew_6]; exact hW
          have hf := of_lt ew_6 hf
          refine lv_aload_n hx hb dX11_step_87 rfl (lv_at hl 1 rfl) ?_
          refine get_X11_17 hx hb hts in_X11_step_X11 hown hK hz hW lk_X11_step_2 dX11_step_88 ?_
          refine lv_aload_n hx hb dX11_step_91 rfl (lv_at hl 1 rfl) ?_
          refine get_X11_15 hx hb hts in_X11_step_X11 hown hK hz hW lk_X11_step_0 dX11_step_92 ?_
          refine lv_iload_n hx hb dX11_step_95 rfl (lv_at hl 3 rfl) ?_
          obtain ⟨g_7, hf⟩ := of_gd hf
          refine st_M9 hx hb hK hz hW hS g_7 dX11_step_96 (fun H locs hW hS => ?_)
          obtain ⟨w_8, ew_8⟩ : ∃ y : Mem, y = mS w_6 9 ((w_6.1 0 15).toNatClampNeg) x2 := ⟨_, rfl⟩
          have hW : hd z w_8 H := by rw [ew_8]; exact hW
          have hf := of_lt ew_8 hf
          refine lv_aload_n hx hb dX11_step_97 rfl (lv_at hl 1 rfl) ?_
          refine lv_dup hx hb dX11_step_98 rfl ?_
          refine get_X11_15 hx hb hts in_X11_step_X11 hown hK hz hW lk_X11_step_0 dX11_step_99 ?_
          refine lv_iconst (v := 1) hx hb dX11_step_102 (by decide) ?_
          refine lv_iadd hx hb dX11_step_103 ?_
          refine put_X11_15 hx hb hts in_X11_step_X11 hown hK hz hW hS lk_X11_step_0 dX11_step_104 (fun H locs hW hS => ?_)
          obtain ⟨w_9, ew_9⟩ : ∃ y : Mem, y = mS w_8 0 15 ((w_8.1 0 15) + 1) := ⟨_, rfl⟩
          have hW : hd z w_9 H := by rw [ew_9]; exact hW
          have hf := of_lt ew_9 hf
          refine lv_aload_n hx hb dX11_step_107 rfl (lv_at hl 1 rfl) ?_
          refine get_X11_15 hx hb hts in_X11_step_X11 hown hK hz hW lk_X11_step_0 dX11_step_108 ?_
          exact hret _ _ _ _ _ _ hf hW hS dX11_step_111
        · have hf := of_t c_4 hf
          refine lv_bipush (v := (-2)) hx hb dX11_step_74 (by decide) ?_
          exact hret _ _ _ _ _ _ hf hW hS dX11_step_76
      · have hf := of_t c_3 hf
        refine lv_iconst (v := (-1)) hx hb dX11_step_63 (by decide) ?_
        exact hret _ _ _ _ _ _ hf hW hS dX11_step_64
    refine lv_if_ne (tgt := 14) hx hb dX11_step_1 (by decide) (fun c_10 => ?_) (fun c_10 => ?_)
    · have hf := of_f c_10 hf
      refine lv_iload_n hx hb dX11_step_14 rfl (lv_at hl 1 rfl) ?_
      refine lv_iconst (v := 1) hx hb dX11_step_15 (by decide) ?_
      refine lv_icmp_ne (tgt := 30) hx hb dX11_step_16 (by decide) (fun c_11 => ?_) (fun c_11 => ?_)
      · have hf := of_f c_11 hf
        refine lv_iload_n hx hb dX11_step_30 rfl (lv_at hl 1 rfl) ?_
        refine lv_iconst (v := 2) hx hb dX11_step_31 (by decide) ?_
        refine lv_icmp_ne (tgt := 44) hx hb dX11_step_32 (by decide) (fun c_12 => ?_) (fun c_12 => ?_)
        · have hf := of_f c_12 hf
          refine lv_iload_n hx hb dX11_step_44 rfl (lv_at hl 1 rfl) ?_
          refine lv_iconst (v := 3) hx hb dX11_step_45 (by decide) ?_
          refine lv_icmp_ne (tgt := 57) hx hb dX11_step_46 (by decide) (fun c_13 => ?_) (fun c_13 => ?_)
          · have hf := of_f c_13 hf
            refine lv_iconst (v := 0) hx hb dX11_step_57 (by decide) ?_
            exact Jk_1 _ _ hf (lv_sub hl [0, 1, 2] rfl)
          · have hf := of_t c_13 hf
            refine lv_iload_n hx hb dX11_step_49 rfl (lv_at hl 2 rfl) ?_
            refine lv_if_ne (tgt := 57) hx hb dX11_step_50 (by decide) (fun c_14 => ?_) (fun c_14 => ?_)
            · have hf := of_f c_14 hf
              refine lv_iconst (v := 0) hx hb dX11_step_57 (by decide) ?_
              exact Jk_1 _ _ hf (lv_sub hl [0, 1, 2] rfl)
            · have hf := of_t c_14 hf
              refine lv_iconst (v := 1) hx hb dX11_step_53 (by decide) ?_
              refine lv_goto (tgt := 58) hx hb dX11_step_54 (by decide) ?_
              exact Jk_1 _ _ hf (lv_sub hl [0, 1, 2] rfl)
        · have hf := of_t c_12 hf
          refine lv_iload_n hx hb dX11_step_35 rfl (lv_at hl 2 rfl) ?_
          refine lv_iconst (v := 1) hx hb dX11_step_36 (by decide) ?_
          refine lv_iconst (v := 3) hx hb dX11_step_37 (by decide) ?_
          obtain ⟨r_15, hq_16, hf⟩ := of_bd hf
          refine m_goRi (va_runS (As := [.int x2, .int 1, .int 3]) (rest := []) ⟨hx, hb, hml, hown, hts⟩ (c_X11_in l hz x2 1 3 w hq_16) (va_cwS 3 hts gX11_step_X11_in rfl rfl rfl (by decide +kernel) ⟨Nat.le_of_ble_eq_true rfl, Nat.le_of_ble_eq_true rfl⟩) (m_preS hK hW _) rfl rfl hl.1 rfl (lv_room (Nat.le_of_ble_eq_true rfl)) dX11_step_38 ⟨Nat.le_refl _, Nat.le_refl _⟩) ?_
          refine lv_goto (tgt := 58) hx hb dX11_step_41 (by decide) ?_
          exact Jk_1 _ _ hf (lv_sub hl [0, 1, 2] rfl)
      · have hf := of_t c_11 hf
        refine lv_iload_n hx hb dX11_step_19 rfl (lv_at hl 2 rfl) ?_
        refine lv_iconst (v := 1) hx hb dX11_step_20 (by decide) ?_
        refine lv_sipush (v := 200) hx hb dX11_step_21 (by decide) ?_
        obtain ⟨r_17, hq_18, hf⟩ := of_bd hf
        refine m_goRi (va_runS (As := [.int x2, .int 1, .int 200]) (rest := []) ⟨hx, hb, hml, hown, hts⟩ (c_X11_in l hz x2 1 200 w hq_18) (va_cwS 3 hts gX11_step_X11_in rfl rfl rfl (by decide +kernel) ⟨Nat.le_of_ble_eq_true rfl, Nat.le_of_ble_eq_true rfl⟩) (m_preS hK hW _) rfl rfl hl.1 rfl (lv_room (Nat.le_of_ble_eq_true rfl)) dX11_step_24 ⟨Nat.le_refl _, Nat.le_refl _⟩) ?_
        refine lv_goto (tgt := 58) hx hb dX11_step_27 (by decide) ?_
        exact Jk_1 _ _ hf (lv_sub hl [0, 1, 2] rfl)
    · have hf := of_t c_10 hf
      refine lv_iload_n hx hb dX11_step_4 rfl (lv_at hl 2 rfl) ?_
      refine lv_iconst (v := 0) hx hb dX11_step_5 (by decide) ?_
      refine lv_bipush (v := 7) hx hb dX11_step_6 (by decide) ?_
      obtain ⟨r_19, hq_20, hf⟩ := of_bd hf
      refine m_goRi (va_runS (As := [.int x2, .int 0, .int 7]) (rest := []) ⟨hx, hb, hml, hown, hts⟩ (c_X11_in l hz x2 0 7 w hq_20) (va_cwS 3 hts gX11_step_X11_in rfl rfl rfl (by decide +kernel) ⟨Nat.le_of_ble_eq_true rfl, Nat.le_of_ble_eq_true rfl⟩) (m_preS hK hW _) rfl rfl hl.1 rfl (lv_room (Nat.le_of_ble_eq_true rfl)) dX11_step_8 ⟨Nat.le_refl _, Nat.le_refl _⟩) ?_
      refine lv_goto (tgt := 58) hx hb dX11_step_11 (by decide) ?_
      exact Jk_1 _ _ hf (lv_sub hl [0, 1, 2] rfl)
  exact START _ _ hW va_S.rf
theorem in_X11_stepless_X11 : ∀ w ∈ wsX110, w ∈ wsX11_stepless := by decide +kernel
theorem lk_X11_stepless_0 : Cond.fieldLink RX11 115 "CamStitchModel" "steps" "I" ∈ wsX11_stepless := by decide +kernel
set_option maxHeartbeats 4000000 in
set_option maxRecDepth 100000 in
theorem c_X11_stepless (l : Launch) {z : LZ} (hz : IM z)  (w : Mem) {r : Int32} {w' : Mem} (hf : f_X11_stepless w = some (r, w')) : Met l yX11_stepless wsX11_stepless (rm 0 0) (PZ z w [.ref (z.2.1 0)]) (QW z (some (.int r)) w') 0 0 (az z) := by
  refine mk_Wi (cc := cX11_stepless) (maxL := 2) (by decide +kernel) rfl (Nat.le_of_ble_eq_true rfl) ?_
  intro p e s m args below meth c hx hb hml hts hown hK hW Q hret ls hl
  have hl : lv_has ls 2 [(0, .ref (z.2.1 0))] := hl
  unfold f_X11_stepless at hf
  have START : ∀ (H : Heap) (locs : List Loc), hd z w H → va_S (az z) s.heap H locs → W p l e (rm 0 0) s m args below meth c H locs 0 0 Q (F0 m 0 ls []) := by
    intro H locs hW hS
    refine lv_aload_n hx hb dX11_stepless_0 rfl (lv_at hl 0 rfl) ?_
    refine get_X11_15 hx hb hts in_X11_stepless_X11 hown hK hz hW lk_X11_stepless_0 dX11_stepless_1 ?_
    refine lv_topi (fun v_1 ev_1 => ?_)
    have hf := of_lt ev_1 hf
    refine lv_istore_n (lv' := [(1, .int v_1), (0, .ref (z.2.1 0))]) hx hb dX11_stepless_4 rfl hl (by decide) rfl (fun ls hl => ?_)
    refine lv_aload_n hx hb dX11_stepless_5 rfl (lv_at hl 1 rfl) ?_
    refine lv_iconst (v := 0) hx hb dX11_stepless_6 (by decide) ?_
    refine put_X11_15 hx hb hts in_X11_stepless_X11 hown hK hz hW hS lk_X11_stepless_0 dX11_stepless_7 (fun H locs hW hS => ?_)
    obtain ⟨w_2, ew_2⟩ : ∃ y : Mem, y = mS w 0 15 0 := ⟨_, rfl⟩
    have hW : hd z w_2 H := by rw [ew_2]; exact hW
    have hf := of_lt ew_2 hf
    refine lv_iload_n hx hb dX11_stepless_10 rfl (lv_at hl 0 rfl) ?_
    exact hret _ _ _ _ _ _ hf hW hS dX11_stepless_11
  exact START _ _ hW va_S.rf
