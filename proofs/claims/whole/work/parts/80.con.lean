/-! ===== contracts (by program: wip/gen/gen.py): X0_reset X0_bothThicks X0_depth X0_whereLies X0_leastTensions X1_forget X1_become X5_nextX X5_nextY X1_roundedUp X1_parts J9_floorDiv_7cf53 X1_addWay X1_becomesMadeFrom X1_becomeTurned X1_needle X1_sumOfFeeds X1_steepness X1_greatestOf X1_leastOf X1_firstMissed X2_speedOf X2_swingOf X2_timingOf X2_bentOf X2_wornOf X2_skips X2_clothOf X2_pullsAbove X2_pullsBelow X2_breaks X2_pullsWith X2_outcomeOf X2_causesOf ===== -/
theorem in_X0_reset_X0 : ∀ w ∈ wsX00, w ∈ wsX0_reset := by decide +kernel
theorem lk_X0_reset_0 : Cond.fieldLink RX0 9 "CamStitch$Bench" "thicks" "[I" ∈ wsX0_reset := by decide +kernel
theorem lk_X0_reset_1 : Cond.fieldLink RX0 18 "CamStitch$Bench" "upper" "I" ∈ wsX0_reset := by decide +kernel
theorem lk_X0_reset_2 : Cond.fieldLink RX0 22 "CamStitch$Bench" "lower" "I" ∈ wsX0_reset := by decide +kernel
theorem lk_X0_reset_3 : Cond.constant RX0 25 100000 ∈ wsX0_reset := by decide +kernel
theorem lk_X0_reset_4 : Cond.fieldLink RX0 26 "CamStitch$Bench" "spool" "I" ∈ wsX0_reset := by decide +kernel
theorem lk_X0_reset_5 : Cond.fieldLink RX0 29 "CamStitch$Bench" "bobbin" "I" ∈ wsX0_reset := by decide +kernel
set_option maxHeartbeats 4000000 in
set_option maxRecDepth 100000 in
theorem c_X0_reset (l : Launch) {z : LZ} (hz : IC z)  (w : Mem) {w' : Mem} (hf : f_X0_reset w = some w') : Met l yX0_reset wsX0_reset (rm 0 0) (PZ z w [.ref (z.2.1 74)]) (QW z none w') 0 0 (az z) := by
  refine mk_Wv (cc := cX0_reset) (maxL := 1) (by decide +kernel) rfl (Nat.le_of_ble_eq_true rfl) ?_
  intro p e s m args below meth c hx hb hml hts hown hK hW Q hret ls hl
  have hl : lv_has ls 1 [(0, .ref (z.2.1 74))] := hl
  unfold f_X0_reset at hf
  have START : ∀ (H : Heap) (locs : List Loc), hd z w H → va_S (az z) s.heap H locs → W p l e (rm 0 0) s m args below meth c H locs 0 0 Q (F0 m 0 ls []) := by
    intro H locs hW hS
    refine lv_aload_n hx hb dX0_reset_0 rfl (lv_at hl 0 rfl) ?_
    refine get_X0_0 hx hb hts in_X0_reset_X0 hown hK hz hW lk_X0_reset_0 dX0_reset_1 ?_
    refine lv_iconst (v := 0) hx hb dX0_reset_4 (by decide) ?_
    refine lv_iconst (v := 4) hx hb dX0_reset_5 (by decide) ?_
    obtain ⟨g_1, hf⟩ := of_gd hf
    refine st_A75 hx hb hK hz hW hS g_1 dX0_reset_6 (fun H locs hW hS => ?_)
    obtain ⟨w_2, ew_2⟩ : ∃ y : Mem, y = mS w 75 ((0 : Int32).toNatClampNeg) 4 := ⟨_, rfl⟩
    have hW : hd z w_2 H := by rw [ew_2]; exact hW
    have hf := of_lt ew_2 hf
    refine lv_aload_n hx hb dX0_reset_7 rfl (lv_at hl 0 rfl) ?_
    refine get_X0_0 hx hb hts in_X0_reset_X0 hown hK hz hW lk_X0_reset_0 dX0_reset_8 ?_
    refine lv_iconst (v := 1) hx hb dX0_reset_11 (by decide) ?_
    refine lv_iconst (v := 0) hx hb dX0_reset_12 (by decide) ?_
    obtain ⟨g_3, hf⟩ := of_gd hf
    refine st_A75 hx hb hK hz hW hS g_3 dX0_reset_13 (fun H locs hW hS => ?_)
    obtain ⟨w_4, ew_4⟩ : ∃ y : Mem, y = mS w_2 75 ((1 : Int32).toNatClampNeg) 0 := ⟨_, rfl⟩
    have hW : hd z w_4 H := by rw [ew_4]; exact hW
    have hf := of_lt ew_4 hf
    refine lv_aload_n hx hb dX0_reset_14 rfl (lv_at hl 0 rfl) ?_
    refine lv_bipush (v := 20) hx hb dX0_reset_15 (by decide) ?_
    refine put_X0_1 hx hb hts in_X0_reset_X0 hown hK hz hW hS lk_X0_reset_1 dX0_reset_17 (fun H locs hW hS => ?_)
    obtain ⟨w_5, ew_5⟩ : ∃ y : Mem, y = mS w_4 74 1 20 := ⟨_, rfl⟩
    have hW : hd z w_5 H := by rw [ew_5]; exact hW
    have hf := of_lt ew_5 hf
    refine lv_aload_n hx hb dX0_reset_20 rfl (lv_at hl 0 rfl) ?_
    refine lv_bipush (v := 20) hx hb dX0_reset_21 (by decide) ?_
    refine put_X0_2 hx hb hts in_X0_reset_X0 hown hK hz hW hS lk_X0_reset_2 dX0_reset_23 (fun H locs hW hS => ?_)
    obtain ⟨w_6, ew_6⟩ : ∃ y : Mem, y = mS w_5 74 2 20 := ⟨_, rfl⟩
    have hW : hd z w_6 H := by rw [ew_6]; exact hW
    have hf := of_lt ew_6 hf
    refine lv_aload_n hx hb dX0_reset_26 rfl (lv_at hl 0 rfl) ?_
    refine lv_ldc (v := 100000) hx hb hown (hts _ lk_X0_reset_3) dX0_reset_27 ?_
    refine put_X0_3 hx hb hts in_X0_reset_X0 hown hK hz hW hS lk_X0_reset_4 dX0_reset_29 (fun H locs hW hS => ?_)
    obtain ⟨w_7, ew_7⟩ : ∃ y : Mem, y = mS w_6 74 3 100000 := ⟨_, rfl⟩
    have hW : hd z w_7 H := by rw [ew_7]; exact hW
    have hf := of_lt ew_7 hf
    refine lv_aload_n hx hb dX0_reset_32 rfl (lv_at hl 0 rfl) ?_
    refine lv_sipush (v := 5000) hx hb dX0_reset_33 (by decide) ?_
    refine put_X0_4 hx hb hts in_X0_reset_X0 hown hK hz hW hS lk_X0_reset_5 dX0_reset_36 (fun H locs hW hS => ?_)
    obtain ⟨w_8, ew_8⟩ : ∃ y : Mem, y = mS w_7 74 4 5000 := ⟨_, rfl⟩
    have hW : hd z w_8 H := by rw [ew_8]; exact hW
    have hf := of_lt ew_8 hf
    exact hret _ _ _ _ _ hf hW hS dX0_reset_39
  exact START _ _ hW va_S.rf
theorem in_X0_bothThicks_X0 : ∀ w ∈ wsX00, w ∈ wsX0_bothThicks := by decide +kernel
theorem lk_X0_bothThicks_0 : Cond.fieldLink RX0 9 "CamStitch$Bench" "thicks" "[I" ∈ wsX0_bothThicks := by decide +kernel
set_option maxHeartbeats 4000000 in
set_option maxRecDepth 100000 in
theorem c_X0_bothThicks (l : Launch) {z : LZ} (hz : IC z)  (w : Mem) {r : Int32} (hf : f_X0_bothThicks w = some r) : Met l yX0_bothThicks wsX0_bothThicks (rm 0 0) (PZ z w [.ref (z.2.1 74)]) (QR (some (.int r))) 0 0 (fun _ => False) := by
  refine mk_Ri (cc := cX0_bothThicks) (maxL := 1) (by decide +kernel) rfl (Nat.le_of_ble_eq_true rfl) ?_
  intro p e s m args below meth c hx hb hml hts hown hK hW Q hret ls hl
  have hl : lv_has ls 1 [(0, .ref (z.2.1 74))] := hl
  unfold f_X0_bothThicks at hf
  refine lv_aload_n hx hb dX0_bothThicks_0 rfl (lv_at hl 0 rfl) ?_
  refine get_X0_0 hx hb hts in_X0_bothThicks_X0 hown hK hz hW lk_X0_bothThicks_0 dX0_bothThicks_1 ?_
  refine lv_iconst (v := 0) hx hb dX0_bothThicks_4 (by decide) ?_
  obtain ⟨g_1, hf⟩ := of_gd hf
  refine ld_A75 hx hb hK hz hW g_1 dX0_bothThicks_5 ?_
  refine lv_topi (fun v_2 ev_2 => ?_)
  have hf := of_lt ev_2 hf
  refine lv_aload_n hx hb dX0_bothThicks_6 rfl (lv_at hl 0 rfl) ?_
  refine get_X0_0 hx hb hts in_X0_bothThicks_X0 hown hK hz hW lk_X0_bothThicks_0 dX0_bothThicks_7 ?_
  refine lv_iconst (v := 1) hx hb dX0_bothThicks_10 (by decide) ?_
  obtain ⟨g_3, hf⟩ := of_gd hf
  refine ld_A75 hx hb hK hz hW g_3 dX0_bothThicks_11 ?_
  refine lv_topi (fun v_4 ev_4 => ?_)
  have hf := of_lt ev_4 hf
  refine lv_iadd hx hb dX0_bothThicks_12 ?_
  exact hret _ _ _ hf dX0_bothThicks_13
set_option maxHeartbeats 4000000 in
set_option maxRecDepth 100000 in
theorem c_X0_depth (l : Launch) {z : LZ} (hz : IC z) (x1 : Int32) (x2 : Int32) (w : Mem) {r : Int32} (hf : f_X0_depth x1 x2 w = some r) : Met l yX0_depth wsX0_depth (rm 1 20) (PZ z w [.ref (z.2.1 74), .int x1, .int x2]) (QR (some (.int r))) 0 0 (fun _ => False) := by
  refine mk_Ri (cc := cX0_depth) (maxL := 3) (by decide +kernel) rfl (Nat.le_of_ble_eq_true rfl) ?_
  intro p e s m args below meth c hx hb hml hts hown hK hW Q hret ls hl
  have hl : lv_has ls 3 [(0, .ref (z.2.1 74)), (1, .int x1), (2, .int x2)] := hl
  unfold f_X0_depth at hf
  refine lv_iload_n hx hb dX0_depth_0 rfl (lv_at hl 1 rfl) ?_
  refine lv_iload_n hx hb dX0_depth_1 rfl (lv_at hl 2 rfl) ?_
  refine lv_iadd hx hb dX0_depth_2 ?_
  refine lv_iconst (v := 1) hx hb dX0_depth_3 (by decide) ?_
  refine lv_icmp_ge (tgt := 11) hx hb dX0_depth_4 (by decide) (fun c_1 => ?_) (fun c_1 => ?_)
  · have hf := of_t c_1 hf
    refine lv_aload_n hx hb dX0_depth_11 rfl (lv_at hl 0 rfl) ?_
    obtain ⟨r_2, hq_3, hf⟩ := of_bd hf
    refine m_goRi (va_runV (As := []) (rest := []) ⟨hx, hb, hml, hown, hts⟩ (c_X0_bothThicks l hz w hq_3) (cwV 0 hts gX0_depth_X0_bothThicks rfl rfl rfl (by decide +kernel) ⟨Nat.le_of_ble_eq_true rfl, Nat.le_of_ble_eq_true rfl⟩) (pre_X0 hK hz hW _) rfl rfl hl.1 rfl (lv_room (Nat.le_of_ble_eq_true rfl)) dX0_depth_12 ⟨Nat.le_refl _, Nat.le_refl _⟩) ?_
    refine lv_iload_n hx hb dX0_depth_15 rfl (lv_at hl 2 rfl) ?_
    refine lv_imul hx hb dX0_depth_16 ?_
    refine lv_iload_n hx hb dX0_depth_17 rfl (lv_at hl 1 rfl) ?_
    refine lv_iload_n hx hb dX0_depth_18 rfl (lv_at hl 2 rfl) ?_
    refine lv_iadd hx hb dX0_depth_19 ?_
    obtain ⟨g_4, hf⟩ := of_gd hf
    refine lv_idiv hx hb dX0_depth_20 g_4 ?_
    exact hret _ _ _ hf dX0_depth_21
  · have hf := of_f c_1 hf
    refine lv_iconst (v := 0) hx hb dX0_depth_7 (by decide) ?_
    refine lv_goto (tgt := 21) hx hb dX0_depth_8 (by decide) ?_
    exact hret _ _ _ hf dX0_depth_21
theorem in_X0_whereLies_X0 : ∀ w ∈ wsX00, w ∈ wsX0_whereLies := by decide +kernel
theorem lk_X0_whereLies_0 : Cond.fieldLink RX0 9 "CamStitch$Bench" "thicks" "[I" ∈ wsX0_whereLies := by decide +kernel
set_option maxHeartbeats 4000000 in
set_option maxRecDepth 100000 in
theorem c_X0_whereLies (l : Launch) {z : LZ} (hz : IC z) (x1 : Int32) (w : Mem) {r : Int32} (hf : f_X0_whereLies x1 w = some r) : Met l yX0_whereLies wsX0_whereLies (rm 1 20) (PZ z w [.ref (z.2.1 74), .int x1]) (QR (some (.int r))) 0 0 (fun _ => False) := by
  refine mk_Ri (cc := cX0_whereLies) (maxL := 2) (by decide +kernel) rfl (Nat.le_of_ble_eq_true rfl) ?_
  intro p e s m args below meth c hx hb hml hts hown hK hW Q hret ls hl
  have hl : lv_has ls 2 [(0, .ref (z.2.1 74)), (1, .int x1)] := hl
  unfold f_X0_whereLies at hf
  refine lv_iload_n hx hb dX0_whereLies_0 rfl (lv_at hl 1 rfl) ?_
  obtain ⟨k_1, ek_1, hf⟩ := of_lz hf
  have Jk_1 : ∀ (ls : Array Slot), k_1 () = some r → lv_has ls 2 [(0, .ref (z.2.1 74)), (1, .int x1)] → W p l e (rm 1 20) s m args below meth c s.heap [] 0 0 Q (F0 m 16 ls []) := by
    intro ls hf hl
    have hf := of_j1 ek_1 hf
    refine lv_iload_n hx hb dX0_whereLies_16 rfl (lv_at hl 1 rfl) ?_
    refine lv_aload_n hx hb dX0_whereLies_17 rfl (lv_at hl 0 rfl) ?_
    refine get_X0_0 hx hb hts in_X0_whereLies_X0 hown hK hz hW lk_X0_whereLies_0 dX0_whereLies_18 ?_
    refine lv_iconst (v := 0) hx hb dX0_whereLies_21 (by decide) ?_
    obtain ⟨g_2, hf⟩ := of_gd hf
    refine ld_A75 hx hb hK hz hW g_2 dX0_whereLies_22 ?_
    refine lv_topi (fun v_3 ev_3 => ?_)
    have hf := of_lt ev_3 hf
    refine lv_icmp_le (tgt := 36) hx hb dX0_whereLies_23 (by decide) (fun c_4 => ?_) (fun c_4 => ?_)
    · have hf := of_t c_4 hf
      refine lv_iload_n hx hb dX0_whereLies_36 rfl (lv_at hl 1 rfl) ?_
      refine lv_if_ne (tgt := 42) hx hb dX0_whereLies_37 (by decide) (fun c_5 => ?_) (fun c_5 => ?_)
      · have hf := of_f c_5 hf
        refine lv_iload_n hx hb dX0_whereLies_42 rfl (lv_at hl 1 rfl) ?_
        refine lv_aload_n hx hb dX0_whereLies_43 rfl (lv_at hl 0 rfl) ?_
        obtain ⟨r_6, hq_7, hf⟩ := of_bd hf
        refine m_goRi (va_runV (As := []) (rest := [.int x1]) ⟨hx, hb, hml, hown, hts⟩ (c_X0_bothThicks l hz w hq_7) (cwV 0 hts gX0_whereLies_X0_bothThicks rfl rfl rfl (by decide +kernel) ⟨Nat.le_of_ble_eq_true rfl, Nat.le_of_ble_eq_true rfl⟩) (pre_X0 hK hz hW _) rfl rfl hl.1 rfl (lv_room (Nat.le_of_ble_eq_true rfl)) dX0_whereLies_44 ⟨Nat.le_refl _, Nat.le_refl _⟩) ?_
        have J_9 : ∀ (v_8 : Int32) (ls : Array Slot), v_8 = (if x1 = r_6 then 3 else 4) → lv_has ls 2 [] → W p l e (rm 1 20) s m args below meth c s.heap [] 0 0 Q (F0 m 55 ls [.int v_8]) := by
          intro v_8 ls ev_8 hl
          have hf := of_lt ev_8 hf
          exact hret _ _ _ hf dX0_whereLies_55
        refine lv_icmp_ne (tgt := 54) hx hb dX0_whereLies_47 (by decide) (fun c_10 => ?_) (fun c_10 => ?_)
        · refine lv_iconst (v := 4) hx hb dX0_whereLies_54 (by decide) ?_
          exact J_9 _ _ (by rw [if_neg c_10]) (lv_sub hl [] rfl)
        · refine lv_iconst (v := 3) hx hb dX0_whereLies_50 (by decide) ?_
          refine lv_goto (tgt := 55) hx hb dX0_whereLies_51 (by decide) ?_
          exact J_9 _ _ (by rw [if_pos c_10]) (lv_sub hl [] rfl)
      · have hf := of_t c_5 hf
        refine lv_iconst (v := 2) hx hb dX0_whereLies_40 (by decide) ?_
        exact hret _ _ _ hf dX0_whereLies_41
    · have hf := of_f c_4 hf
      refine lv_iload_n hx hb dX0_whereLies_26 rfl (lv_at hl 1 rfl) ?_
      refine lv_aload_n hx hb dX0_whereLies_27 rfl (lv_at hl 0 rfl) ?_
      obtain ⟨r_11, hq_12, hf⟩ := of_bd hf
      refine m_goRi (va_runV (As := []) (rest := [.int x1]) ⟨hx, hb, hml, hown, hts⟩ (c_X0_bothThicks l hz w hq_12) (cwV 0 hts gX0_whereLies_X0_bothThicks rfl rfl rfl (by decide +kernel) ⟨Nat.le_of_ble_eq_true rfl, Nat.le_of_ble_eq_true rfl⟩) (pre_X0 hK hz hW _) rfl rfl hl.1 rfl (lv_room (Nat.le_of_ble_eq_true rfl)) dX0_whereLies_28 ⟨Nat.le_refl _, Nat.le_refl _⟩) ?_
      refine lv_icmp_ge (tgt := 36) hx hb dX0_whereLies_31 (by decide) (fun c_13 => ?_) (fun c_13 => ?_)
      · have hf := of_t c_13 hf
        refine lv_iload_n hx hb dX0_whereLies_36 rfl (lv_at hl 1 rfl) ?_
        refine lv_if_ne (tgt := 42) hx hb dX0_whereLies_37 (by decide) (fun c_14 => ?_) (fun c_14 => ?_)
        · have hf := of_f c_14 hf
          refine lv_iload_n hx hb dX0_whereLies_42 rfl (lv_at hl 1 rfl) ?_
          refine lv_aload_n hx hb dX0_whereLies_43 rfl (lv_at hl 0 rfl) ?_
          obtain ⟨r_15, hq_16, hf⟩ := of_bd hf
          refine m_goRi (va_runV (As := []) (rest := [.int x1]) ⟨hx, hb, hml, hown, hts⟩ (c_X0_bothThicks l hz w hq_16) (cwV 0 hts gX0_whereLies_X0_bothThicks rfl rfl rfl (by decide +kernel) ⟨Nat.le_of_ble_eq_true rfl, Nat.le_of_ble_eq_true rfl⟩) (pre_X0 hK hz hW _) rfl rfl hl.1 rfl (lv_room (Nat.le_of_ble_eq_true rfl)) dX0_whereLies_44 ⟨Nat.le_refl _, Nat.le_refl _⟩) ?_
          have J_18 : ∀ (v_17 : Int32) (ls : Array Slot), v_17 = (if x1 = r_15 then 3 else 4) → lv_has ls 2 [] → W p l e (rm 1 20) s m args below meth c s.heap [] 0 0 Q (F0 m 55 ls [.int v_17]) := by
            intro v_17 ls ev_17 hl
            have hf := of_lt ev_17 hf
            exact hret _ _ _ hf dX0_whereLies_55
          refine lv_icmp_ne (tgt := 54) hx hb dX0_whereLies_47 (by decide) (fun c_19 => ?_) (fun c_19 => ?_)
          · refine lv_iconst (v := 4) hx hb dX0_whereLies_54 (by decide) ?_
            exact J_18 _ _ (by rw [if_neg c_19]) (lv_sub hl [] rfl)
          · refine lv_iconst (v := 3) hx hb dX0_whereLies_50 (by decide) ?_
            refine lv_goto (tgt := 55) hx hb dX0_whereLies_51 (by decide) ?_
            exact J_18 _ _ (by rw [if_pos c_19]) (lv_sub hl [] rfl)
        · have hf := of_t c_14 hf
          refine lv_iconst (v := 2) hx hb dX0_whereLies_40 (by decide) ?_
          exact hret _ _ _ hf dX0_whereLies_41
      · have hf := of_f c_13 hf
        refine lv_iconst (v := 1) hx hb dX0_whereLies_34 (by decide) ?_
        exact hret _ _ _ hf dX0_whereLies_35
  refine lv_if_le (tgt := 16) hx hb dX0_whereLies_1 (by decide) (fun c_20 => ?_) (fun c_20 => ?_)
  · have hf := of_t c_20 hf
    exact Jk_1  _ hf (lv_sub hl [0, 1] rfl)
  · have hf := of_f c_20 hf
    refine lv_iload_n hx hb dX0_whereLies_4 rfl (lv_at hl 1 rfl) ?_
    refine lv_aload_n hx hb dX0_whereLies_5 rfl (lv_at hl 0 rfl) ?_
    refine get_X0_0 hx hb hts in_X0_whereLies_X0 hown hK hz hW lk_X0_whereLies_0 dX0_whereLies_6 ?_
    refine lv_iconst (v := 0) hx hb dX0_whereLies_9 (by decide) ?_
    obtain ⟨g_21, hf⟩ := of_gd hf
    refine ld_A75 hx hb hK hz hW g_21 dX0_whereLies_10 ?_
    refine lv_topi (fun v_22 ev_22 => ?_)
    have hf := of_lt ev_22 hf
    refine lv_icmp_ge (tgt := 16) hx hb dX0_whereLies_11 (by decide) (fun c_23 => ?_) (fun c_23 => ?_)
    · have hf := of_t c_23 hf
      exact Jk_1  _ hf (lv_sub hl [0, 1] rfl)
    · have hf := of_f c_23 hf
      refine lv_iconst (v := 0) hx hb dX0_whereLies_14 (by decide) ?_
      exact hret _ _ _ hf dX0_whereLies_15
theorem lk_X0_leastTensions_0 : Cond.methodLink RX0 36 Lib.Math.max.name ∈ wsX0_leastTensions := by decide +kernel
theorem lk_X0_leastTensions_1 : Cond.static Lib.Math.max.name ∈ wsX0_leastTensions := by decide +kernel
theorem lk_X0_leastTensions_2 : Cond.initialized "java/lang/Math" ∈ wsX0_leastTensions := by decide +kernel
theorem lk_X0_leastTensions_3 : Cond.code Lib.Math.max.name Lib.Math.max.code 2 (some .int) ∈ wsX0_leastTensions := by decide +kernel
set_option maxHeartbeats 4000000 in
set_option maxRecDepth 100000 in
theorem c_X0_leastTensions (l : Launch) {z : LZ} (hz : IC z) (x1 : Int32) (w : Mem) {r : Int32} (hf : f_X0_leastTensions x1 w = some r) : Met l yX0_leastTensions wsX0_leastTensions (rm 2 42) (PZ z w [.ref (z.2.1 74), .int x1]) (QR (some (.int r))) 0 0 (fun _ => False) := by
  refine mk_Ri (cc := cX0_leastTensions) (maxL := 4) (by decide +kernel) rfl (Nat.le_of_ble_eq_true rfl) ?_
  intro p e s m args below meth c hx hb hml hts hown hK hW Q hret ls hl
  have hl : lv_has ls 4 [(0, .ref (z.2.1 74)), (1, .int x1)] := hl
  unfold f_X0_leastTensions at hf
  refine lv_iconst (v := 2) hx hb dX0_leastTensions_0 (by decide) ?_
  refine lv_istore_n (lv' := [(2, .int 2), (0, .ref (z.2.1 74)), (1, .int x1)]) hx hb dX0_leastTensions_1 rfl hl (by decide) rfl (fun ls hl => ?_)
  have L_2 : ∀ (n : Nat) (x2_1 : Int32) (exL_2 : Sum (Int32) (Unit)) (ls : Array Slot), f_X0_leastTensions_L2 w x1 n x2_1 = some exL_2 → lv_has ls 4 [(0, .ref (z.2.1 74)), (1, .int x1), (2, .int x2_1)] → (∀ ret, exL_2 = .inl ret → some (ret) = some r) → (∀ x, exL_2 = .inr x → ∀ (ls : Array Slot), lv_has ls 4 [] → W p l e (rm 2 42) s m args below meth c s.heap [] 0 0 Q (F0 m 66 ls [])) → W p l e (rm 2 42) s m args below meth c s.heap [] 0 0 Q (F0 m 2 ls []) := by
    intro n
    induction n with
    | zero =>
      intro x2_1 exL_2 ls hf
      have hf : (none : Option (Sum (Int32) (Unit))) = some exL_2 := hf
      cases hf
    | succ n ihL_2 =>
      intro x2_1 exL_2 ls hf hl hRL_2 hEL_2
      rw [f_X0_leastTensions_L2_s] at hf
      refine lv_iload_n hx hb dX0_leastTensions_2 rfl (lv_at hl 2 rfl) ?_
      refine lv_sipush (v := 198) hx hb dX0_leastTensions_3 (by decide) ?_
      refine lv_icmp_gt (tgt := 66) hx hb dX0_leastTensions_6 (by decide) (fun c_3 => ?_) (fun c_3 => ?_)
      · have hf := of_t c_3 hf
        exact hEL_2 _ (Option.some.inj hf).symm _ (lv_sub hl [] rfl)
      · have hf := of_f c_3 hf
        refine lv_iconst (v := 1) hx hb dX0_leastTensions_9 (by decide) ?_
        refine lv_iload_n hx hb dX0_leastTensions_10 rfl (lv_at hl 2 rfl) ?_
        refine lv_bipush (v := 99) hx hb dX0_leastTensions_11 (by decide) ?_
        refine lv_isub hx hb dX0_leastTensions_13 ?_
        refine va_mmax hx hb (hml.trans hl.1.symm) hown (hts _ lk_X0_leastTensions_0) (hts _ lk_X0_leastTensions_1) (hts _ lk_X0_leastTensions_2) (hts _ lk_X0_leastTensions_3) (Nat.le_of_ble_eq_true rfl) (Nat.le_of_ble_eq_true rfl) (Nat.le_refl _) (Nat.le_refl _) dX0_leastTensions_14 ?_
        refine lv_topi (fun v_4 ev_4 => ?_)
        have hf := of_lt (e := imax 1 (x2_1 - 99)) ev_4 hf
        refine lv_istore_n (lv' := [(3, .int v_4), (0, .ref (z.2.1 74)), (1, .int x1), (2, .int x2_1)]) hx hb dX0_leastTensions_17 rfl hl (by decide) rfl (fun ls hl => ?_)
        have L_6 : ∀ (n : Nat) (x3_5 : Int32) (exL_6 : Sum (Int32) (Unit)) (ls : Array Slot), f_X0_leastTensions_L18 w x1 x2_1 n x3_5 = some exL_6 → lv_has ls 4 [(0, .ref (z.2.1 74)), (1, .int x1), (2, .int x2_1), (3, .int x3_5)] → (∀ ret, exL_6 = .inl ret → some (.inl ret) = some exL_2) → (∀ x, exL_6 = .inr x → ∀ (ls : Array Slot), lv_has ls 4 [(0, .ref (z.2.1 74)), (1, .int x1), (2, .int x2_1)] → W p l e (rm 2 42) s m args below meth c s.heap [] 0 0 Q (F0 m 60 ls [])) → W p l e (rm 2 42) s m args below meth c s.heap [] 0 0 Q (F0 m 18 ls []) := by
          intro n
          induction n with
          | zero =>
            intro x3_5 exL_6 ls hf
            have hf : (none : Option (Sum (Int32) (Unit))) = some exL_6 := hf
            cases hf
          | succ n ihL_6 =>
            intro x3_5 exL_6 ls hf hl hRL_6 hEL_6
            rw [f_X0_leastTensions_L18_s] at hf
            refine lv_iload_n hx hb dX0_leastTensions_18 rfl (lv_at hl 3 rfl) ?_
            refine lv_bipush (v := 99) hx hb dX0_leastTensions_19 (by decide) ?_
            refine lv_icmp_gt (tgt := 60) hx hb dX0_leastTensions_21 (by decide) (fun c_7 => ?_) (fun c_7 => ?_)
            · have hf := of_t c_7 hf
              exact hEL_6 _ (Option.some.inj hf).symm _ (lv_sub hl [0, 1, 2] rfl)
            · have hf := of_f c_7 hf
              refine lv_iload_n hx hb dX0_leastTensions_24 rfl (lv_at hl 3 rfl) ?_
              refine lv_iload_n hx hb dX0_leastTensions_25 rfl (lv_at hl 2 rfl) ?_
              refine lv_icmp_ge (tgt := 60) hx hb dX0_leastTensions_26 (by decide) (fun c_8 => ?_) (fun c_8 => ?_)
              · have hf := of_t c_8 hf
                exact hEL_6 _ (Option.some.inj hf).symm _ (lv_sub hl [0, 1, 2] rfl)
              · have hf := of_f c_8 hf
                refine lv_aload_n hx hb dX0_leastTensions_29 rfl (lv_at hl 0 rfl) ?_
                refine lv_aload_n hx hb dX0_leastTensions_30 rfl (lv_at hl 0 rfl) ?_
                refine lv_iload_n hx hb dX0_leastTensions_31 rfl (lv_at hl 3 rfl) ?_
                refine lv_iload_n hx hb dX0_leastTensions_32 rfl (lv_at hl 2 rfl) ?_
                refine lv_iload_n hx hb dX0_leastTensions_33 rfl (lv_at hl 3 rfl) ?_
                refine lv_isub hx hb dX0_leastTensions_34 ?_
                obtain ⟨r_9, hq_10, hf⟩ := of_bd hf
                refine m_goRi (va_runV (As := [.int x3_5, .int (x2_1 - x3_5)]) (rest := [.ref (z.2.1 74)]) ⟨hx, hb, hml, hown, hts⟩ (c_X0_depth l hz x3_5 (x2_1 - x3_5) w hq_10) (cwV 2 hts gX0_leastTensions_X0_depth rfl rfl rfl (by decide +kernel) ⟨Nat.le_of_ble_eq_true rfl, Nat.le_of_ble_eq_true rfl⟩) (pre_X0 hK hz hW _) rfl rfl hl.1 rfl (lv_room (Nat.le_of_ble_eq_true rfl)) dX0_leastTensions_35 ⟨Nat.le_refl _, Nat.le_refl _⟩) ?_
                obtain ⟨r_11, hq_12, hf⟩ := of_bd hf
                refine m_goRi (va_runV (As := [.int r_9]) (rest := []) ⟨hx, hb, hml, hown, hts⟩ (c_X0_whereLies l hz r_9 w hq_12) (cwV 1 hts gX0_leastTensions_X0_whereLies rfl rfl rfl (by decide +kernel) ⟨Nat.le_of_ble_eq_true rfl, Nat.le_of_ble_eq_true rfl⟩) (pre_X0 hK hz hW _) rfl rfl hl.1 rfl (lv_room (Nat.le_of_ble_eq_true rfl)) dX0_leastTensions_38 ⟨Nat.le_refl _, Nat.le_refl _⟩) ?_
                refine lv_iload_n hx hb dX0_leastTensions_41 rfl (lv_at hl 1 rfl) ?_
                refine lv_icmp_ne (tgt := 54) hx hb dX0_leastTensions_42 (by decide) (fun c_13 => ?_) (fun c_13 => ?_)
                · have hf := of_f c_13 hf
                  obtain ⟨x3_14, ex3_14⟩ : ∃ y : Int32, y = x3_5 + 1 := ⟨_, rfl⟩
                  have hf := of_lt ex3_14 hf
                  refine lv_iinc (v := x3_14) (lv' := [(3, .int x3_14), (0, .ref (z.2.1 74)), (1, .int x1), (2, .int x2_1)]) hx hb dX0_leastTensions_54 hl (k := 3) rfl (by rw [ex3_14]; rfl) (by decide) rfl (fun ls hl => ?_)
                  refine lv_goto (tgt := 18) hx hb dX0_leastTensions_57 (by decide) ?_
                  exact ihL_6 _ _ _ hf (lv_sub hl [1, 2, 3, 0] rfl) hRL_6 hEL_6
                · have hf := of_t c_13 hf
                  refine lv_bipush (v := 100) hx hb dX0_leastTensions_45 (by decide) ?_
                  refine lv_iload_n hx hb dX0_leastTensions_47 rfl (lv_at hl 3 rfl) ?_
                  refine lv_imul hx hb dX0_leastTensions_48 ?_
                  refine lv_iload_n hx hb dX0_leastTensions_49 rfl (lv_at hl 2 rfl) ?_
                  refine lv_iadd hx hb dX0_leastTensions_50 ?_
                  refine lv_iload_n hx hb dX0_leastTensions_51 rfl (lv_at hl 3 rfl) ?_
                  refine lv_isub hx hb dX0_leastTensions_52 ?_
                  refine lv_topi (fun v_15 ev_15 => ?_)
                  have hf := of_lt ev_15 hf
                  exact hret _ _ _ (hRL_2 _ (Option.some.inj (hRL_6 _ (Option.some.inj hf).symm)).symm) dX0_leastTensions_53
        obtain ⟨ex_17, hq_16, hf⟩ := of_bd hf
        refine L_6 FU _ _ _ hq_16 (lv_sub hl [1, 2, 3, 0] rfl) (fun ret he => by subst he; exact hf) (fun x he ls hl => ?_)
        subst he
        have hf := of_sr hf
        have hl : lv_has ls 4 [(0, .ref (z.2.1 74)), (1, .int x1), (2, .int x2_1)] := hl
        obtain ⟨x2_18, ex2_18⟩ : ∃ y : Int32, y = x2_1 + 1 := ⟨_, rfl⟩
        have hf := of_lt ex2_18 hf
        refine lv_iinc (v := x2_18) (lv' := [(2, .int x2_18), (0, .ref (z.2.1 74)), (1, .int x1)]) hx hb dX0_leastTensions_60 hl (k := 2) rfl (by rw [ex2_18]; rfl) (by decide) rfl (fun ls hl => ?_)
        refine lv_goto (tgt := 2) hx hb dX0_leastTensions_63 (by decide) ?_
        exact ihL_2 _ _ _ hf (lv_sub hl [1, 2, 0] rfl) hRL_2 hEL_2
  obtain ⟨ex_20, hq_19, hf⟩ := of_bd hf
  refine L_2 FU _ _ _ hq_19 (lv_sub hl [1, 2, 0] rfl) (fun ret he => by subst he; exact hf) (fun x he ls hl => ?_)
  subst he
  have hf := of_sr hf
  have hl : lv_has ls 4 [] := hl
  refine lv_bipush (v := (-4)) hx hb dX0_leastTensions_66 (by decide) ?_
  exact hret _ _ _ hf dX0_leastTensions_68
theorem in_X1_forget_X1 : ∀ w ∈ wsX10, w ∈ wsX1_forget := by decide +kernel
theorem lk_X1_forget_0 : Cond.fieldLink RX1 18 "CamStitch$Disc" "stitches" "I" ∈ wsX1_forget := by decide +kernel
set_option maxHeartbeats 4000000 in
set_option maxRecDepth 100000 in
theorem c_X1_forget (l : Launch) {z : LZ} (hz : IC z) (d0 : Nat) (hd0 : d0 < 16) (w : Mem) {w' : Mem} (hf : f_X1_forget d0 w = some w') : Met l yX1_forget wsX1_forget (rm 0 0) (PZ z w [.ref (z.2.1 (3*d0))]) (QW z none w') 0 0 (az z) := by
  refine mk_Wv (cc := cX1_forget) (maxL := 1) (by decide +kernel) rfl (Nat.le_of_ble_eq_true rfl) ?_
  intro p e s m args below meth c hx hb hml hts hown hK hW Q hret ls hl
  have hl : lv_has ls 1 [(0, .ref (z.2.1 (3*d0)))] := hl
  unfold f_X1_forget at hf
  have START : ∀ (H : Heap) (locs : List Loc), hd z w H → va_S (az z) s.heap H locs → W p l e (rm 0 0) s m args below meth c H locs 0 0 Q (F0 m 0 ls []) := by
    intro H locs hW hS
    refine lv_aload_n hx hb dX1_forget_0 rfl (lv_at hl 0 rfl) ?_
    refine lv_iconst (v := 0) hx hb dX1_forget_1 (by decide) ?_
    refine put_X1_2 hx hb hts in_X1_forget_X1 hown hK hz hW hS hd0 lk_X1_forget_0 dX1_forget_2 (fun H locs hW hS => ?_)
    obtain ⟨w_1, ew_1⟩ : ∃ y : Mem, y = mS w (3*d0) 2 0 := ⟨_, rfl⟩
    have hW : hd z w_1 H := by rw [ew_1]; exact hW
    have hf := of_lt ew_1 hf
    exact hret _ _ _ _ _ hf hW hS dX1_forget_5
  exact START _ _ hW va_S.rf
theorem in_X1_become_X1 : ∀ w ∈ wsX10, w ∈ wsX1_become := by decide +kernel
theorem lk_X1_become_0 : Cond.fieldLink RX1 9 "CamStitch$Disc" "swings" "[I" ∈ wsX1_become := by decide +kernel
theorem lk_X1_become_1 : Cond.methodLink RX1 22 arraycopyName ∈ wsX1_become := by decide +kernel
theorem lk_X1_become_2 : Cond.native arraycopyName ∈ wsX1_become := by decide +kernel
theorem lk_X1_become_3 : Cond.static arraycopyName ∈ wsX1_become := by decide +kernel
theorem lk_X1_become_4 : Cond.initialized "java/lang/System" ∈ wsX1_become := by decide +kernel
theorem lk_X1_become_5 : Cond.fieldLink RX1 15 "CamStitch$Disc" "feeds" "[I" ∈ wsX1_become := by decide +kernel
theorem lk_X1_become_6 : Cond.fieldLink RX1 18 "CamStitch$Disc" "stitches" "I" ∈ wsX1_become := by decide +kernel
set_option maxHeartbeats 4000000 in
set_option maxRecDepth 100000 in
theorem c_X1_become (l : Launch) {z : LZ} (hz : IC z) (d0 : Nat) (hd0 : d0 < 16) (d1 : Nat) (hd1 : d1 < 16) (w : Mem) {w' : Mem} (hf : f_X1_become d0 d1 w = some w') : Met l yX1_become wsX1_become (rm 1 60) (PZ z w [.ref (z.2.1 (3*d0)), .ref (z.2.1 (3*d1))]) (QW z none w') 0 0 (az z) := by
  refine mk_Wv (cc := cX1_become) (maxL := 2) (by decide +kernel) rfl (Nat.le_of_ble_eq_true rfl) ?_
  intro p e s m args below meth c hx hb hml hts hown hK hW Q hret ls hl
  have hl : lv_has ls 2 [(0, .ref (z.2.1 (3*d0))), (1, .ref (z.2.1 (3*d1)))] := hl
  unfold f_X1_become at hf
  have START : ∀ (H : Heap) (locs : List Loc), hd z w H → va_S (az z) s.heap H locs → W p l e (rm 1 60) s m args below meth c H locs 0 0 Q (F0 m 0 ls []) := by
    intro H locs hW hS
    refine lv_aload_n hx hb dX1_become_0 rfl (lv_at hl 1 rfl) ?_
    refine get_X1_0 hx hb hts in_X1_become_X1 hown hK hz hW hd1 lk_X1_become_0 dX1_become_1 ?_
    refine lv_iconst (v := 0) hx hb dX1_become_4 (by decide) ?_
    refine lv_aload_n hx hb dX1_become_5 rfl (lv_at hl 0 rfl) ?_
    refine get_X1_0 hx hb hts in_X1_become_X1 hown hK hz hW hd0 lk_X1_become_0 dX1_become_6 ?_
    refine lv_iconst (v := 0) hx hb dX1_become_9 (by decide) ?_
    refine lv_bipush (v := 48) hx hb dX1_become_10 (by decide) ?_
    obtain ⟨g_1, hf⟩ := of_gd hf
    refine cp_AI48 hx hb (hml.trans hl.1.symm) hown (hts _ lk_X1_become_1) (hts _ lk_X1_become_2) (hts _ lk_X1_become_3) (hts _ lk_X1_become_4) hK hz hW hS (p48_1 hd1) (p48_1 hd0) g_1 (Nat.le_of_ble_eq_true rfl) (Nat.le_of_ble_eq_true rfl) dX1_become_12 (fun H locs hW hS => ?_)
    obtain ⟨w_2, ew_2⟩ : ∃ y : Mem, y = mC w (3*d1+1) (3*d0+1) ((0 : Int32).toNatClampNeg) ((0 : Int32).toNatClampNeg) ((48 : Int32).toNatClampNeg) := ⟨_, rfl⟩
    have hW : hd z w_2 H := by rw [ew_2]; exact hW
    have hf := of_lt ew_2 hf
    refine lv_aload_n hx hb dX1_become_15 rfl (lv_at hl 1 rfl) ?_
    refine get_X1_1 hx hb hts in_X1_become_X1 hown hK hz hW hd1 lk_X1_become_5 dX1_become_16 ?_
    refine lv_iconst (v := 0) hx hb dX1_become_19 (by decide) ?_
    refine lv_aload_n hx hb dX1_become_20 rfl (lv_at hl 0 rfl) ?_
    refine get_X1_1 hx hb hts in_X1_become_X1 hown hK hz hW hd0 lk_X1_become_5 dX1_become_21 ?_
    refine lv_iconst (v := 0) hx hb dX1_become_24 (by decide) ?_
    refine lv_bipush (v := 48) hx hb dX1_become_25 (by decide) ?_
    refine cp_AI48 hx hb (hml.trans hl.1.symm) hown (hts _ lk_X1_become_1) (hts _ lk_X1_become_2) (hts _ lk_X1_become_3) (hts _ lk_X1_become_4) hK hz hW hS (p48_2 hd1) (p48_2 hd0) g_1 (Nat.le_of_ble_eq_true rfl) (Nat.le_of_ble_eq_true rfl) dX1_become_27 (fun H locs hW hS => ?_)
    obtain ⟨w_3, ew_3⟩ : ∃ y : Mem, y = mC w_2 (3*d1+2) (3*d0+2) ((0 : Int32).toNatClampNeg) ((0 : Int32).toNatClampNeg) ((48 : Int32).toNatClampNeg) := ⟨_, rfl⟩
    have hW : hd z w_3 H := by rw [ew_3]; exact hW
    have hf := of_lt ew_3 hf
    refine lv_aload_n hx hb dX1_become_30 rfl (lv_at hl 0 rfl) ?_
    refine lv_aload_n hx hb dX1_become_31 rfl (lv_at hl 1 rfl) ?_
    refine get_X1_2 hx hb hts in_X1_become_X1 hown hK hz hW hd1 lk_X1_become_6 dX1_become_32 ?_
    refine put_X1_2 hx hb hts in_X1_become_X1 hown hK hz hW hS hd0 lk_X1_become_6 dX1_become_35 (fun H locs hW hS => ?_)
    obtain ⟨w_4, ew_4⟩ : ∃ y : Mem, y = mS w_3 (3*d0) 2 (w_3.1 (3*d1) 2) := ⟨_, rfl⟩
    have hW : hd z w_4 H := by rw [ew_4]; exact hW
    have hf := of_lt ew_4 hf
    exact hret _ _ _ _ _ hf hW hS dX1_become_38
  exact START _ _ hW va_S.rf
theorem in_X5_nextX_X5 : ∀ w ∈ wsX50, w ∈ wsX5_nextX := by decide +kernel
theorem lk_X5_nextX_0 : Cond.fieldLink RX5 18 "CamStitch$Pattern" "points" "I" ∈ wsX5_nextX := by decide +kernel
theorem lk_X5_nextX_1 : Cond.fieldLink RX5 9 "CamStitch$Pattern" "xs" "[I" ∈ wsX5_nextX := by decide +kernel
set_option maxHeartbeats 4000000 in
set_option maxRecDepth 100000 in
theorem c_X5_nextX (l : Launch) {z : LZ} (hz : IC z) (d0 : Nat) (hd0 : d0 < 2) (x1 : Int32) (w : Mem) {r : Int32} (hf : f_X5_nextX d0 x1 w = some r) : Met l yX5_nextX wsX5_nextX (rm 0 0) (PZ z w [.ref (z.2.1 (60+3*d0)), .int x1]) (QR (some (.int r))) 0 0 (fun _ => False) := by
  refine mk_Ri (cc := cX5_nextX) (maxL := 2) (by decide +kernel) rfl (Nat.le_of_ble_eq_true rfl) ?_
  intro p e s m args below meth c hx hb hml hts hown hK hW Q hret ls hl
  have hl : lv_has ls 2 [(0, .ref (z.2.1 (60+3*d0))), (1, .int x1)] := hl
  unfold f_X5_nextX at hf
  refine lv_iload_n hx hb dX5_nextX_0 rfl (lv_at hl 1 rfl) ?_
  refine lv_iconst (v := 1) hx hb dX5_nextX_1 (by decide) ?_
  refine lv_iadd hx hb dX5_nextX_2 ?_
  refine lv_aload_n hx hb dX5_nextX_3 rfl (lv_at hl 0 rfl) ?_
  refine get_X5_2 hx hb hts in_X5_nextX_X5 hown hK hz hW hd0 lk_X5_nextX_0 dX5_nextX_4 ?_
  refine lv_icmp_ge (tgt := 21) hx hb dX5_nextX_7 (by decide) (fun c_1 => ?_) (fun c_1 => ?_)
  · have hf := of_t c_1 hf
    refine lv_aload_n hx hb dX5_nextX_21 rfl (lv_at hl 0 rfl) ?_
    refine get_X5_0 hx hb hts in_X5_nextX_X5 hown hK hz hW hd0 lk_X5_nextX_1 dX5_nextX_22 ?_
    refine lv_iconst (v := 0) hx hb dX5_nextX_25 (by decide) ?_
    obtain ⟨g_2, hf⟩ := of_gd hf
    refine ld_AI24p hx hb hK hz hW hd0 g_2 dX5_nextX_26 ?_
    refine lv_topi (fun v_3 ev_3 => ?_)
    have hf := of_lt ev_3 hf
    exact hret _ _ _ hf dX5_nextX_27
  · have hf := of_f c_1 hf
    refine lv_aload_n hx hb dX5_nextX_10 rfl (lv_at hl 0 rfl) ?_
    refine get_X5_0 hx hb hts in_X5_nextX_X5 hown hK hz hW hd0 lk_X5_nextX_1 dX5_nextX_11 ?_
    refine lv_iload_n hx hb dX5_nextX_14 rfl (lv_at hl 1 rfl) ?_
    refine lv_iconst (v := 1) hx hb dX5_nextX_15 (by decide) ?_
    refine lv_iadd hx hb dX5_nextX_16 ?_
    obtain ⟨g_4, hf⟩ := of_gd hf
    refine ld_AI24p hx hb hK hz hW hd0 g_4 dX5_nextX_17 ?_
    refine lv_topi (fun v_5 ev_5 => ?_)
    have hf := of_lt ev_5 hf
    refine lv_goto (tgt := 27) hx hb dX5_nextX_18 (by decide) ?_
    exact hret _ _ _ hf dX5_nextX_27
theorem in_X5_nextY_X5 : ∀ w ∈ wsX50, w ∈ wsX5_nextY := by decide +kernel
theorem lk_X5_nextY_0 : Cond.fieldLink RX5 18 "CamStitch$Pattern" "points" "I" ∈ wsX5_nextY := by decide +kernel
theorem lk_X5_nextY_1 : Cond.fieldLink RX5 15 "CamStitch$Pattern" "ys" "[I" ∈ wsX5_nextY := by decide +kernel
theorem lk_X5_nextY_2 : Cond.fieldLink RX5 22 "CamStitch$Pattern" "advance" "I" ∈ wsX5_nextY := by decide +kernel
set_option maxHeartbeats 4000000 in
set_option maxRecDepth 100000 in
theorem c_X5_nextY (l : Launch) {z : LZ} (hz : IC z) (d0 : Nat) (hd0 : d0 < 2) (x1 : Int32) (w : Mem) {r : Int32} (hf : f_X5_nextY d0 x1 w = some r) : Met l yX5_nextY wsX5_nextY (rm 0 0) (PZ z w [.ref (z.2.1 (60+3*d0)), .int x1]) (QR (some (.int r))) 0 0 (fun _ => False) := by
  refine mk_Ri (cc := cX5_nextY) (maxL := 2) (by decide +kernel) rfl (Nat.le_of_ble_eq_true rfl) ?_
  intro p e s m args below meth c hx hb hml hts hown hK hW Q hret ls hl
  have hl : lv_has ls 2 [(0, .ref (z.2.1 (60+3*d0))), (1, .int x1)] := hl
  unfold f_X5_nextY at hf
  refine lv_iload_n hx hb dX5_nextY_0 rfl (lv_at hl 1 rfl) ?_
  refine lv_iconst (v := 1) hx hb dX5_nextY_1 (by decide) ?_
  refine lv_iadd hx hb dX5_nextY_2 ?_
  refine lv_aload_n hx hb dX5_nextY_3 rfl (lv_at hl 0 rfl) ?_
  refine get_X5_2 hx hb hts in_X5_nextY_X5 hown hK hz hW hd0 lk_X5_nextY_0 dX5_nextY_4 ?_
  refine lv_icmp_ge (tgt := 21) hx hb dX5_nextY_7 (by decide) (fun c_1 => ?_) (fun c_1 => ?_)
  · have hf := of_t c_1 hf
    refine lv_aload_n hx hb dX5_nextY_21 rfl (lv_at hl 0 rfl) ?_
    refine get_X5_1 hx hb hts in_X5_nextY_X5 hown hK hz hW hd0 lk_X5_nextY_1 dX5_nextY_22 ?_
    refine lv_iconst (v := 0) hx hb dX5_nextY_25 (by decide) ?_
    obtain ⟨g_2, hf⟩ := of_gd hf
    refine ld_AI24q hx hb hK hz hW hd0 g_2 dX5_nextY_26 ?_
    refine lv_topi (fun v_3 ev_3 => ?_)
    have hf := of_lt ev_3 hf
    refine lv_aload_n hx hb dX5_nextY_27 rfl (lv_at hl 0 rfl) ?_
    refine get_X5_3 hx hb hts in_X5_nextY_X5 hown hK hz hW hd0 lk_X5_nextY_2 dX5_nextY_28 ?_
    refine lv_iadd hx hb dX5_nextY_31 ?_
    exact hret _ _ _ hf dX5_nextY_32
  · have hf := of_f c_1 hf
    refine lv_aload_n hx hb dX5_nextY_10 rfl (lv_at hl 0 rfl) ?_
    refine get_X5_1 hx hb hts in_X5_nextY_X5 hown hK hz hW hd0 lk_X5_nextY_1 dX5_nextY_11 ?_
    refine lv_iload_n hx hb dX5_nextY_14 rfl (lv_at hl 1 rfl) ?_
    refine lv_iconst (v := 1) hx hb dX5_nextY_15 (by decide) ?_
    refine lv_iadd hx hb dX5_nextY_16 ?_
    obtain ⟨g_4, hf⟩ := of_gd hf
    refine ld_AI24q hx hb hK hz hW hd0 g_4 dX5_nextY_17 ?_
    refine lv_topi (fun v_5 ev_5 => ?_)
    have hf := of_lt ev_5 hf
    refine lv_goto (tgt := 32) hx hb dX5_nextY_18 (by decide) ?_
    exact hret _ _ _ hf dX5_nextY_32
set_option maxHeartbeats 4000000 in
set_option maxRecDepth 100000 in
theorem c_X1_roundedUp (l : Launch) {z : LZ} (hz : IC z) (x0 : Int32) (x1 : Int32) (w : Mem) {r : Int32} (hf : f_X1_roundedUp x0 x1 = some r) : Met l yX1_roundedUp wsX1_roundedUp (rm 0 0) (PZ z w [.int x0, .int x1]) (QR (some (.int r))) 0 0 (fun _ => False) := by
  refine mk_Ri (cc := cX1_roundedUp) (maxL := 2) (by decide +kernel) rfl (Nat.le_of_ble_eq_true rfl) ?_
  intro p e s m args below meth c hx hb hml hts hown hK hW Q hret ls hl
  have hl : lv_has ls 2 [(0, .int x0), (1, .int x1)] := hl
  unfold f_X1_roundedUp at hf
  refine lv_iload_n hx hb dX1_roundedUp_0 rfl (lv_at hl 1 rfl) ?_
  refine lv_iconst (v := 1) hx hb dX1_roundedUp_1 (by decide) ?_
  refine lv_icmp_ge (tgt := 9) hx hb dX1_roundedUp_2 (by decide) (fun c_1 => ?_) (fun c_1 => ?_)
  · have hf := of_t c_1 hf
    refine lv_iload_n hx hb dX1_roundedUp_9 rfl (lv_at hl 0 rfl) ?_
    refine lv_iload_n hx hb dX1_roundedUp_10 rfl (lv_at hl 1 rfl) ?_
    refine lv_iadd hx hb dX1_roundedUp_11 ?_
    refine lv_iconst (v := 1) hx hb dX1_roundedUp_12 (by decide) ?_
    refine lv_isub hx hb dX1_roundedUp_13 ?_
    refine lv_iload_n hx hb dX1_roundedUp_14 rfl (lv_at hl 1 rfl) ?_
    obtain ⟨g_2, hf⟩ := of_gd hf
    refine lv_idiv hx hb dX1_roundedUp_15 g_2 ?_
    exact hret _ _ _ hf dX1_roundedUp_16
  · have hf := of_f c_1 hf
    refine lv_iconst (v := 0) hx hb dX1_roundedUp_5 (by decide) ?_
    refine lv_goto (tgt := 16) hx hb dX1_roundedUp_6 (by decide) ?_
    exact hret _ _ _ hf dX1_roundedUp_16
theorem in_X1_parts_X5 : ∀ w ∈ wsX50, w ∈ wsX1_parts := by decide +kernel
theorem lk_X1_parts_0 : Cond.fieldLink RX1 45 "CamStitch$Pattern" "xs" "[I" ∈ wsX1_parts := by decide +kernel
theorem lk_X1_parts_1 : Cond.methodLink RX1 48 Lib.Math.abs.name ∈ wsX1_parts := by decide +kernel
theorem lk_X1_parts_2 : Cond.static Lib.Math.abs.name ∈ wsX1_parts := by decide +kernel
theorem lk_X1_parts_3 : Cond.initialized "java/lang/Math" ∈ wsX1_parts := by decide +kernel
theorem lk_X1_parts_4 : Cond.code Lib.Math.abs.name Lib.Math.abs.code 1 (some .int) ∈ wsX1_parts := by decide +kernel
theorem lk_X1_parts_5 : Cond.fieldLink RX1 56 "CamStitch$Pattern" "ys" "[I" ∈ wsX1_parts := by decide +kernel
theorem lk_X1_parts_6 : Cond.methodLink RX1 63 Lib.Math.max.name ∈ wsX1_parts := by decide +kernel
theorem lk_X1_parts_7 : Cond.static Lib.Math.max.name ∈ wsX1_parts := by decide +kernel
theorem lk_X1_parts_8 : Cond.code Lib.Math.max.name Lib.Math.max.code 2 (some .int) ∈ wsX1_parts := by decide +kernel
set_option maxHeartbeats 4000000 in
set_option maxRecDepth 100000 in
theorem c_X1_parts (l : Launch) {z : LZ} (hz : IC z) (d0 : Nat) (hd0 : d0 < 2) (x1 : Int32) (x2 : Int32) (x3 : Int32) (w : Mem) {r : Int32} (hf : f_X1_parts d0 x1 x2 x3 w = some r) : Met l yX1_parts wsX1_parts (rm 1 21) (PZ z w [.ref (z.2.1 (60+3*d0)), .int x1, .int x2, .int x3]) (QR (some (.int r))) 0 0 (fun _ => False) := by
  refine mk_Ri (cc := cX1_parts) (maxL := 6) (by decide +kernel) rfl (Nat.le_of_ble_eq_true rfl) ?_
  intro p e s m args below meth c hx hb hml hts hown hK hW Q hret ls hl
  have hl : lv_has ls 6 [(0, .ref (z.2.1 (60+3*d0))), (1, .int x1), (2, .int x2), (3, .int x3)] := hl
  unfold f_X1_parts at hf
  refine lv_aload_n hx hb dX1_parts_0 rfl (lv_at hl 0 rfl) ?_
  refine lv_iload_n hx hb dX1_parts_1 rfl (lv_at hl 1 rfl) ?_
  obtain ⟨r_1, hq_2, hf⟩ := of_bd hf
  refine m_goRi (va_runV (As := [.int x1]) (rest := []) ⟨hx, hb, hml, hown, hts⟩ (c_X5_nextX l hz d0 hd0 x1 w hq_2) (cwV 1 hts gX1_parts_X5_nextX rfl rfl rfl (by decide +kernel) ⟨Nat.le_of_ble_eq_true rfl, Nat.le_of_ble_eq_true rfl⟩) (pre_X5 hK hz hW hd0 _) rfl rfl hl.1 rfl (lv_room (Nat.le_of_ble_eq_true rfl)) dX1_parts_2 ⟨Nat.le_refl _, Nat.le_refl _⟩) ?_
  refine lv_aload_n hx hb dX1_parts_5 rfl (lv_at hl 0 rfl) ?_
  refine get_X5_0 hx hb hts in_X1_parts_X5 hown hK hz hW hd0 lk_X1_parts_0 dX1_parts_6 ?_
  refine lv_iload_n hx hb dX1_parts_9 rfl (lv_at hl 1 rfl) ?_
  obtain ⟨g_3, hf⟩ := of_gd hf
  refine ld_AI24p hx hb hK hz hW hd0 g_3 dX1_parts_10 ?_
  refine lv_topi (fun v_4 ev_4 => ?_)
  have hf := of_lt ev_4 hf
  refine lv_isub hx hb dX1_parts_11 ?_
  refine va_mabs hx hb (hml.trans hl.1.symm) hown (hts _ lk_X1_parts_1) (hts _ lk_X1_parts_2) (hts _ lk_X1_parts_3) (hts _ lk_X1_parts_4) (Nat.le_of_ble_eq_true rfl) (Nat.le_of_ble_eq_true rfl) (Nat.le_refl _) (Nat.le_refl _) dX1_parts_12 ?_
  refine lv_topi (fun v_5 ev_5 => ?_)
  have hf := of_lt (e := iabs (r_1 - v_4)) ev_5 hf
  refine lv_istore (lv' := [(4, .int v_5), (0, .ref (z.2.1 (60+3*d0))), (1, .int x1), (2, .int x2), (3, .int x3)]) hx hb dX1_parts_15 hl (by decide) rfl (fun ls hl => ?_)
  refine lv_aload_n hx hb dX1_parts_17 rfl (lv_at hl 1 rfl) ?_
  refine lv_iload_n hx hb dX1_parts_18 rfl (lv_at hl 2 rfl) ?_
  obtain ⟨r_6, hq_7, hf⟩ := of_bd hf
  refine m_goRi (va_runV (As := [.int x1]) (rest := []) ⟨hx, hb, hml, hown, hts⟩ (c_X5_nextY l hz d0 hd0 x1 w hq_7) (cwV 1 hts gX1_parts_X5_nextY rfl rfl rfl (by decide +kernel) ⟨Nat.le_of_ble_eq_true rfl, Nat.le_of_ble_eq_true rfl⟩) (pre_X5 hK hz hW hd0 _) rfl rfl hl.1 rfl (lv_room (Nat.le_of_ble_eq_true rfl)) dX1_parts_19 ⟨Nat.le_refl _, Nat.le_refl _⟩) ?_
  refine lv_aload_n hx hb dX1_parts_22 rfl (lv_at hl 1 rfl) ?_
  refine get_X5_1 hx hb hts in_X1_parts_X5 hown hK hz hW hd0 lk_X1_parts_5 dX1_parts_23 ?_
  refine lv_iload_n hx hb dX1_parts_26 rfl (lv_at hl 2 rfl) ?_
  refine ld_AI24q hx hb hK hz hW hd0 g_3 dX1_parts_27 ?_
  refine lv_topi (fun v_8 ev_8 => ?_)
  have hf := of_lt ev_8 hf
  refine lv_isub hx hb dX1_parts_28 ?_
  refine va_mabs hx hb (hml.trans hl.1.symm) hown (hts _ lk_X1_parts_1) (hts _ lk_X1_parts_2) (hts _ lk_X1_parts_3) (hts _ lk_X1_parts_4) (Nat.le_of_ble_eq_true rfl) (Nat.le_of_ble_eq_true rfl) (Nat.le_refl _) (Nat.le_refl _) dX1_parts_29 ?_
  refine lv_topi (fun v_9 ev_9 => ?_)
  have hf := of_lt (e := iabs (r_6 - v_8)) ev_9 hf
  refine lv_istore (lv' := [(5, .int v_9), (4, .int v_5), (0, .ref (z.2.1 (60+3*d0))), (1, .int x1), (2, .int x2), (3, .int x3)]) hx hb dX1_parts_32 hl (by decide) rfl (fun ls hl => ?_)
  refine lv_iconst (v := 1) hx hb dX1_parts_34 (by decide) ?_
  refine lv_iload hx hb dX1_parts_35 (lv_at hl 1 rfl) ?_
  refine lv_iload_n hx hb dX1_parts_37 rfl (lv_at hl 4 rfl) ?_
  obtain ⟨r_10, hq_11, hf⟩ := of_bd hf
  refine m_goRi (va_runS (As := [.int v_5, .int x2]) (rest := [.int 1]) ⟨hx, hb, hml, hown, hts⟩ (c_X1_roundedUp l hz v_5 x2 w hq_11) (va_cwS 2 hts gX1_parts_X1_roundedUp rfl rfl rfl (by decide +kernel) ⟨Nat.le_of_ble_eq_true rfl, Nat.le_of_ble_eq_true rfl⟩) (m_preS hK hW _) rfl rfl hl.1 rfl (lv_room (Nat.le_of_ble_eq_true rfl)) dX1_parts_38 ⟨Nat.le_refl _, Nat.le_refl _⟩) ?_
  refine lv_iload hx hb dX1_parts_41 (lv_at hl 0 rfl) ?_
  refine lv_iload_n hx hb dX1_parts_43 rfl (lv_at hl 5 rfl) ?_
  obtain ⟨r_12, hq_13, hf⟩ := of_bd hf
  refine m_goRi (va_runS (As := [.int v_9, .int x3]) (rest := [.int r_10, .int 1]) ⟨hx, hb, hml, hown, hts⟩ (c_X1_roundedUp l hz v_9 x3 w hq_13) (va_cwS 2 hts gX1_parts_X1_roundedUp rfl rfl rfl (by decide +kernel) ⟨Nat.le_of_ble_eq_true rfl, Nat.le_of_ble_eq_true rfl⟩) (m_preS hK hW _) rfl rfl hl.1 rfl (lv_room (Nat.le_of_ble_eq_true rfl)) dX1_parts_44 ⟨Nat.le_refl _, Nat.le_refl _⟩) ?_
  refine va_mmax hx hb (hml.trans hl.1.symm) hown (hts _ lk_X1_parts_6) (hts _ lk_X1_parts_7) (hts _ lk_X1_parts_3) (hts _ lk_X1_parts_8) (Nat.le_of_ble_eq_true rfl) (Nat.le_of_ble_eq_true rfl) (Nat.le_refl _) (Nat.le_refl _) dX1_parts_47 ?_
  refine lv_topi (fun v_14 ev_14 => ?_)
  have hf := of_lt (e := imax r_10 r_12) ev_14 hf
  refine va_mmax hx hb (hml.trans hl.1.symm) hown (hts _ lk_X1_parts_6) (hts _ lk_X1_parts_7) (hts _ lk_X1_parts_3) (hts _ lk_X1_parts_8) (Nat.le_of_ble_eq_true rfl) (Nat.le_of_ble_eq_true rfl) (Nat.le_refl _) (Nat.le_refl _) dX1_parts_50 ?_
  refine lv_topi (fun v_15 ev_15 => ?_)
  have hf := of_lt (e := imax 1 v_14) ev_15 hf
  exact hret _ _ _ hf dX1_parts_53
set_option maxHeartbeats 4000000 in
set_option maxRecDepth 100000 in
theorem c_J9_floorDiv_7cf53 (l : Launch) {z : LZ} (x0 : Int32) (x1 : Int32) (w : Mem) {r : Int32} (hf : f_J9_floorDiv_7cf53 x0 x1 = some r) : Met l yJ9_floorDiv_7cf53 wsJ9_floorDiv_7cf53 (rm 0 0) (PZ z w [.int x0, .int x1]) (QR (some (.int r))) 0 0 (fun _ => False) := by
  refine mk_Ri (cc := cJ9_floorDiv_7cf53) (maxL := 3) (by decide +kernel) rfl (Nat.le_of_ble_eq_true rfl) ?_
  intro p e s m args below meth c hx hb hml hts hown hK hW Q hret ls hl
  have hl : lv_has ls 3 [(0, .int x0), (1, .int x1)] := hl
  unfold f_J9_floorDiv_7cf53 at hf
  refine lv_iload_n hx hb dJ9_floorDiv_7cf53_0 rfl (lv_at hl 0 rfl) ?_
  refine lv_iload_n hx hb dJ9_floorDiv_7cf53_1 rfl (lv_at hl 1 rfl) ?_
  obtain ⟨g_1, hf⟩ := of_gd hf
  refine lv_idiv hx hb dJ9_floorDiv_7cf53_2 g_1 ?_
  refine lv_topi (fun v_2 ev_2 => ?_)
  have hf := of_lt ev_2 hf
  refine lv_istore_n (lv' := [(2, .int v_2), (0, .int x0), (1, .int x1)]) hx hb dJ9_floorDiv_7cf53_3 rfl hl (by decide) rfl (fun ls hl => ?_)
  refine lv_iload_n hx hb dJ9_floorDiv_7cf53_4 rfl (lv_at hl 1 rfl) ?_
  refine lv_iload_n hx hb dJ9_floorDiv_7cf53_5 rfl (lv_at hl 2 rfl) ?_
  refine lv_ixor hx hb dJ9_floorDiv_7cf53_6 ?_
  refine lv_if_ge (tgt := 21) hx hb dJ9_floorDiv_7cf53_7 (by decide) (fun c_3 => ?_) (fun c_3 => ?_)
  · have hf := of_t c_3 hf
    refine lv_iload_n hx hb dJ9_floorDiv_7cf53_21 rfl (lv_at hl 0 rfl) ?_
    exact hret _ _ _ hf dJ9_floorDiv_7cf53_22
  · have hf := of_f c_3 hf
    refine lv_iload_n hx hb dJ9_floorDiv_7cf53_10 rfl (lv_at hl 0 rfl) ?_
    refine lv_iload_n hx hb dJ9_floorDiv_7cf53_11 rfl (lv_at hl 2 rfl) ?_
    refine lv_imul hx hb dJ9_floorDiv_7cf53_12 ?_
    refine lv_iload_n hx hb dJ9_floorDiv_7cf53_13 rfl (lv_at hl 1 rfl) ?_
    refine lv_icmp_eq (tgt := 21) hx hb dJ9_floorDiv_7cf53_14 (by decide) (fun c_4 => ?_) (fun c_4 => ?_)
    · have hf := of_t c_4 hf
      refine lv_iload_n hx hb dJ9_floorDiv_7cf53_21 rfl (lv_at hl 0 rfl) ?_
      exact hret _ _ _ hf dJ9_floorDiv_7cf53_22
    · have hf := of_f c_4 hf
      refine lv_iload_n hx hb dJ9_floorDiv_7cf53_17 rfl (lv_at hl 0 rfl) ?_
      refine lv_iconst (v := 1) hx hb dJ9_floorDiv_7cf53_18 (by decide) ?_
      refine lv_isub hx hb dJ9_floorDiv_7cf53_19 ?_
      exact hret _ _ _ hf dJ9_floorDiv_7cf53_20
theorem in_X1_addWay_X1 : ∀ w ∈ wsX10, w ∈ wsX1_addWay := by decide +kernel
theorem in_X1_addWay_X5 : ∀ w ∈ wsX50, w ∈ wsX1_addWay := by decide +kernel
theorem lk_X1_addWay_0 : Cond.fieldLink RX1 45 "CamStitch$Pattern" "xs" "[I" ∈ wsX1_addWay := by decide +kernel
theorem lk_X1_addWay_1 : Cond.fieldLink RX1 56 "CamStitch$Pattern" "ys" "[I" ∈ wsX1_addWay := by decide +kernel
theorem lk_X1_addWay_2 : Cond.fieldLink RX1 18 "CamStitch$Disc" "stitches" "I" ∈ wsX1_addWay := by decide +kernel
theorem lk_X1_addWay_3 : Cond.fieldLink RX1 9 "CamStitch$Disc" "swings" "[I" ∈ wsX1_addWay := by decide +kernel
theorem lk_X1_addWay_4 : Cond.fieldLink RX1 15 "CamStitch$Disc" "feeds" "[I" ∈ wsX1_addWay := by decide +kernel
set_option maxHeartbeats 4000000 in
set_option maxRecDepth 100000 in
theorem c_X1_addWay (l : Launch) {z : LZ} (hz : IC z) (d0 : Nat) (hd0 : d0 < 16) (d1 : Nat) (hd1 : d1 < 2) (x2 : Int32) (x3 : Int32) (w : Mem) {w' : Mem} (hf : f_X1_addWay d0 d1 x2 x3 w = some w') : Met l yX1_addWay wsX1_addWay (rm 1 22) (PZ z w [.ref (z.2.1 (3*d0)), .ref (z.2.1 (60+3*d1)), .int x2, .int x3]) (QW z none w') 0 0 (az z) := by
  refine mk_Wv (cc := cX1_addWay) (maxL := 9) (by decide +kernel) rfl (Nat.le_of_ble_eq_true rfl) ?_
  intro p e s m args below meth c hx hb hml hts hown hK hW Q hret ls hl
  have hl : lv_has ls 9 [(0, .ref (z.2.1 (3*d0))), (1, .ref (z.2.1 (60+3*d1))), (2, .int x2), (3, .int x3)] := hl
  unfold f_X1_addWay at hf
  have START : ∀ (H : Heap) (locs : List Loc), hd z w H → va_S (az z) s.heap H locs → W p l e (rm 1 22) s m args below meth c H locs 0 0 Q (F0 m 0 ls []) := by
    intro H locs hW hS
    refine lv_aload_n hx hb dX1_addWay_0 rfl (lv_at hl 1 rfl) ?_
    refine lv_iload_n hx hb dX1_addWay_1 rfl (lv_at hl 2 rfl) ?_
    obtain ⟨r_1, hq_2, hf⟩ := of_bd hf
    refine m_goRi (va_runV (As := [.int x2]) (rest := []) ⟨hx, hb, hml, hown, hts⟩ (c_X5_nextX l hz d1 hd1 x2 w hq_2) (cwV 1 hts gX1_addWay_X5_nextX rfl rfl rfl (by decide +kernel) ⟨Nat.le_of_ble_eq_true rfl, Nat.le_of_ble_eq_true rfl⟩) (pre_X5 hK hz hW hd1 _) rfl rfl hl.1 rfl (lv_room (Nat.le_of_ble_eq_true rfl)) dX1_addWay_2 ⟨Nat.le_refl _, Nat.le_refl _⟩) ?_
    refine lv_aload_n hx hb dX1_addWay_5 rfl (lv_at hl 1 rfl) ?_
    refine get_X5_0 hx hb hts in_X1_addWay_X5 hown hK hz hW hd1 lk_X1_addWay_0 dX1_addWay_6 ?_
    refine lv_iload_n hx hb dX1_addWay_9 rfl (lv_at hl 2 rfl) ?_
    obtain ⟨g_3, hf⟩ := of_gd hf
    refine ld_AI24p hx hb hK hz hW hd1 g_3 dX1_addWay_10 ?_
    refine lv_topi (fun v_4 ev_4 => ?_)
    have hf := of_lt ev_4 hf
    refine lv_isub hx hb dX1_addWay_11 ?_
    refine lv_topi (fun v_5 ev_5 => ?_)
    have hf := of_lt ev_5 hf
    refine lv_istore (lv' := [(4, .int v_5), (0, .ref (z.2.1 (3*d0))), (1, .ref (z.2.1 (60+3*d1))), (2, .int x2), (3, .int x3)]) hx hb dX1_addWay_12 hl (by decide) rfl (fun ls hl => ?_)
    refine lv_aload_n hx hb dX1_addWay_14 rfl (lv_at hl 2 rfl) ?_
    refine lv_iload_n hx hb dX1_addWay_15 rfl (lv_at hl 3 rfl) ?_
    obtain ⟨r_6, hq_7, hf⟩ := of_bd hf
    refine m_goRi (va_runV (As := [.int x2]) (rest := []) ⟨hx, hb, hml, hown, hts⟩ (c_X5_nextY l hz d1 hd1 x2 w hq_7) (cwV 1 hts gX1_addWay_X5_nextY rfl rfl rfl (by decide +kernel) ⟨Nat.le_of_ble_eq_true rfl, Nat.le_of_ble_eq_true rfl⟩) (pre_X5 hK hz hW hd1 _) rfl rfl hl.1 rfl (lv_room (Nat.le_of_ble_eq_true rfl)) dX1_addWay_16 ⟨Nat.le_refl _, Nat.le_refl _⟩) ?_
    refine lv_aload_n hx hb dX1_addWay_19 rfl (lv_at hl 2 rfl) ?_
    refine get_X5_1 hx hb hts in_X1_addWay_X5 hown hK hz hW hd1 lk_X1_addWay_1 dX1_addWay_20 ?_
    refine lv_iload_n hx hb dX1_addWay_23 rfl (lv_at hl 3 rfl) ?_
    refine ld_AI24q hx hb hK hz hW hd1 g_3 dX1_addWay_24 ?_
    refine lv_topi (fun v_8 ev_8 => ?_)
    have hf := of_lt ev_8 hf
    refine lv_isub hx hb dX1_addWay_25 ?_
    refine lv_topi (fun v_9 ev_9 => ?_)
    have hf := of_lt ev_9 hf
    refine lv_istore (lv' := [(5, .int v_9), (4, .int v_5), (0, .ref (z.2.1 (3*d0))), (1, .ref (z.2.1 (60+3*d1))), (2, .int x2), (3, .int x3)]) hx hb dX1_addWay_26 hl (by decide) rfl (fun ls hl => ?_)
    refine lv_iconst (v := 0) hx hb dX1_addWay_28 (by decide) ?_
    refine lv_istore (lv' := [(6, .int 0), (5, .int v_9), (4, .int v_5), (0, .ref (z.2.1 (3*d0))), (1, .ref (z.2.1 (60+3*d1))), (2, .int x2), (3, .int x3)]) hx hb dX1_addWay_29 hl (by decide) rfl (fun ls hl => ?_)
    refine lv_iconst (v := 1) hx hb dX1_addWay_31 (by decide) ?_
    refine lv_istore (lv' := [(7, .int 1), (6, .int 0), (5, .int v_9), (4, .int v_5), (0, .ref (z.2.1 (3*d0))), (1, .ref (z.2.1 (60+3*d1))), (2, .int x2), (3, .int x3)]) hx hb dX1_addWay_32 hl (by decide) rfl (fun ls hl => ?_)
    have L_13 : ∀ (n : Nat) (x6_10 : Int32) (x7_11 : Int32) (w_12 : Mem) (exL_13 : Mem) (H : Heap) (locs : List Loc) (ls : Array Slot), f_X1_addWay_L34 d0 d1 x2 x3 v_5 v_9 n x6_10 x7_11 w_12 = some exL_13 → hd z w_12 H → va_S (az z) s.heap H locs → lv_has ls 9 [(0, .ref (z.2.1 (3*d0))), (1, .ref (z.2.1 (60+3*d1))), (2, .int x2), (3, .int x3), (4, .int v_5), (5, .int v_9), (6, .int x6_10), (7, .int x7_11)] → (∀ (H : Heap) (locs : List Loc) (ls : Array Slot), hd z (exL_13) H → va_S (az z) s.heap H locs → lv_has ls 9 [] → W p l e (rm 1 22) s m args below meth c H locs 0 0 Q (F0 m 119 ls [])) → W p l e (rm 1 22) s m args below meth c H locs 0 0 Q (F0 m 34 ls []) := by
      intro n
      induction n with
      | zero =>
        intro x6_10 x7_11 w_12 exL_13 H locs ls hf
        have hf : (none : Option (Mem)) = some exL_13 := hf
        cases hf
      | succ n ihL_13 =>
        intro x6_10 x7_11 w_12 exL_13 H locs ls hf hW hS hl hEL_13
        rw [f_X1_addWay_L34_s] at hf
        refine lv_iload hx hb dX1_addWay_34 (lv_at hl 7 rfl) ?_
        refine lv_iload_n hx hb dX1_addWay_36 rfl (lv_at hl 3 rfl) ?_
        refine lv_icmp_gt (tgt := 119) hx hb dX1_addWay_37 (by decide) (fun c_14 => ?_) (fun c_14 => ?_)
        · have hf := of_t c_14 hf
          have hf := Option.some.inj hf
          subst hf
          exact hEL_13 _ _ _ hW hS (lv_sub hl [] rfl)
        · have hf := of_f c_14 hf
          refine lv_aload_n hx hb dX1_addWay_40 rfl (lv_at hl 0 rfl) ?_
          refine get_X1_2 hx hb hts in_X1_addWay_X1 hown hK hz hW hd0 lk_X1_addWay_2 dX1_addWay_41 ?_
          refine lv_bipush (v := 48) hx hb dX1_addWay_44 (by decide) ?_
          refine lv_icmp_ge (tgt := 119) hx hb dX1_addWay_46 (by decide) (fun c_15 => ?_) (fun c_15 => ?_)
          · have hf := of_t c_15 hf
            have hf := Option.some.inj hf
            subst hf
            exact hEL_13 _ _ _ hW hS (lv_sub hl [] rfl)
          · have hf := of_f c_15 hf
            refine lv_iload hx hb dX1_addWay_49 (lv_at hl 5 rfl) ?_
            refine lv_iload hx hb dX1_addWay_51 (lv_at hl 7 rfl) ?_
            refine lv_imul hx hb dX1_addWay_53 ?_
            refine lv_iload_n hx hb dX1_addWay_54 rfl (lv_at hl 3 rfl) ?_
            obtain ⟨r_16, hq_17, hf⟩ := of_bd hf
            refine m_goRi (va_runS (As := [.int (v_9 * x7_11), .int x3]) (rest := []) ⟨hx, hb, hml, hown, hts⟩ (c_J9_floorDiv_7cf53 l (z := z) (v_9 * x7_11) x3 w_12 hq_17) (va_cwS 2 hts gX1_addWay_J9_floorDiv_7cf53 rfl rfl rfl (by decide +kernel) ⟨Nat.le_of_ble_eq_true rfl, Nat.le_of_ble_eq_true rfl⟩) (m_preS hK hW _) rfl rfl hl.1 rfl (lv_room (Nat.le_of_ble_eq_true rfl)) dX1_addWay_55 ⟨Nat.le_refl _, Nat.le_refl _⟩) ?_
            refine lv_istore (lv' := [(8, .int r_16), (0, .ref (z.2.1 (3*d0))), (1, .ref (z.2.1 (60+3*d1))), (2, .int x2), (3, .int x3), (4, .int v_5), (5, .int v_9), (6, .int x6_10), (7, .int x7_11)]) hx hb dX1_addWay_58 hl (by decide) rfl (fun ls hl => ?_)
            refine lv_aload_n hx hb dX1_addWay_60 rfl (lv_at hl 1 rfl) ?_
            refine get_X1_0 hx hb hts in_X1_addWay_X1 hown hK hz hW hd0 lk_X1_addWay_3 dX1_addWay_61 ?_
            refine lv_aload_n hx hb dX1_addWay_64 rfl (lv_at hl 1 rfl) ?_
            refine get_X1_2 hx hb hts in_X1_addWay_X1 hown hK hz hW hd0 lk_X1_addWay_2 dX1_addWay_65 ?_
            refine lv_aload_n hx hb dX1_addWay_68 rfl (lv_at hl 2 rfl) ?_
            refine get_X5_0 hx hb hts in_X1_addWay_X5 hown hK hz hW hd1 lk_X1_addWay_0 dX1_addWay_69 ?_
            refine lv_iload_n hx hb dX1_addWay_72 rfl (lv_at hl 3 rfl) ?_
            refine ld_AI24p hx hb hK hz hW hd1 g_3 dX1_addWay_73 ?_
            refine lv_topi (fun v_18 ev_18 => ?_)
            have hf := of_lt ev_18 hf
            refine lv_iload hx hb dX1_addWay_74 (lv_at hl 5 rfl) ?_
            refine lv_iload hx hb dX1_addWay_76 (lv_at hl 8 rfl) ?_
            refine lv_imul hx hb dX1_addWay_78 ?_
            refine lv_iload_n hx hb dX1_addWay_79 rfl (lv_at hl 4 rfl) ?_
            obtain ⟨r_19, hq_20, hf⟩ := of_bd hf
            refine m_goRi (va_runS (As := [.int (v_5 * x7_11), .int x3]) (rest := [.int v_18, .int (w_12.1 (3*d0) 2), .ref (z.2.1 (3*d0+1))]) ⟨hx, hb, hml, hown, hts⟩ (c_J9_floorDiv_7cf53 l (z := z) (v_5 * x7_11) x3 w_12 hq_20) (va_cwS 2 hts gX1_addWay_J9_floorDiv_7cf53 rfl rfl rfl (by decide +kernel) ⟨Nat.le_of_ble_eq_true rfl, Nat.le_of_ble_eq_true rfl⟩) (m_preS hK hW _) rfl rfl hl.1 rfl (lv_room (Nat.le_of_ble_eq_true rfl)) dX1_addWay_80 ⟨Nat.le_refl _, Nat.le_refl _⟩) ?_
            refine lv_iadd hx hb dX1_addWay_83 ?_
            obtain ⟨g_21, hf⟩ := of_gd hf
            refine st_AI48 hx hb hK hz hW hS (p48_1 hd0) g_21 dX1_addWay_84 (fun H locs hW hS => ?_)
            obtain ⟨w_22, ew_22⟩ : ∃ y : Mem, y = mS w_12 (3*d0+1) ((w_12.1 (3*d0) 2).toNatClampNeg) (v_18 + r_19) := ⟨_, rfl⟩
            have hW : hd z w_22 H := by rw [ew_22]; exact hW
            have hf := of_lt ew_22 hf
            refine lv_aload_n hx hb dX1_addWay_85 rfl (lv_at hl 1 rfl) ?_
            refine get_X1_1 hx hb hts in_X1_addWay_X1 hown hK hz hW hd0 lk_X1_addWay_4 dX1_addWay_86 ?_
            refine lv_aload_n hx hb dX1_addWay_89 rfl (lv_at hl 1 rfl) ?_
            refine get_X1_2 hx hb hts in_X1_addWay_X1 hown hK hz hW hd0 lk_X1_addWay_2 dX1_addWay_90 ?_
            refine lv_iload hx hb dX1_addWay_93 (lv_at hl 0 rfl) ?_
            refine lv_iload hx hb dX1_addWay_95 (lv_at hl 7 rfl) ?_
            refine lv_isub hx hb dX1_addWay_97 ?_
            obtain ⟨g_23, hf⟩ := of_gd hf
            refine st_AI48 hx hb hK hz hW hS (p48_2 hd0) g_23 dX1_addWay_98 (fun H locs hW hS => ?_)
            obtain ⟨w_24, ew_24⟩ : ∃ y : Mem, y = mS w_22 (3*d0+2) ((w_22.1 (3*d0) 2).toNatClampNeg) (r_16 - x6_10) := ⟨_, rfl⟩
            have hW : hd z w_24 H := by rw [ew_24]; exact hW
            have hf := of_lt ew_24 hf
            refine lv_aload_n hx hb dX1_addWay_99 rfl (lv_at hl 1 rfl) ?_
            refine lv_dup hx hb dX1_addWay_100 rfl ?_
            refine get_X1_2 hx hb hts in_X1_addWay_X1 hown hK hz hW hd0 lk_X1_addWay_2 dX1_addWay_101 ?_
            refine lv_iconst (v := 1) hx hb dX1_addWay_104 (by decide) ?_
            refine lv_iadd hx hb dX1_addWay_105 ?_
            refine put_X1_2 hx hb hts in_X1_addWay_X1 hown hK hz hW hS hd0 lk_X1_addWay_2 dX1_addWay_106 (fun H locs hW hS => ?_)
            obtain ⟨w_25, ew_25⟩ : ∃ y : Mem, y = mS w_24 (3*d0) 2 ((w_24.1 (3*d0) 2) + 1) := ⟨_, rfl⟩
            have hW : hd z w_25 H := by rw [ew_25]; exact hW
            have hf := of_lt ew_25 hf
            refine lv_iload hx hb dX1_addWay_109 (lv_at hl 0 rfl) ?_
            refine lv_istore (lv' := [(6, .int r_16), (8, .int r_16), (0, .ref (z.2.1 (3*d0))), (1, .ref (z.2.1 (60+3*d1))), (2, .int x2), (3, .int x3), (4, .int v_5), (5, .int v_9), (7, .int x7_11)]) hx hb dX1_addWay_111 hl (by decide) rfl (fun ls hl => ?_)
            obtain ⟨x7_26, ex7_26⟩ : ∃ y : Int32, y = x7_11 + 1 := ⟨_, rfl⟩
            have hf := of_lt ex7_26 hf
            refine lv_iinc (v := x7_26) (lv' := [(7, .int x7_26), (6, .int r_16), (8, .int r_16), (0, .ref (z.2.1 (3*d0))), (1, .ref (z.2.1 (60+3*d1))), (2, .int x2), (3, .int x3), (4, .int v_5), (5, .int v_9)]) hx hb dX1_addWay_113 hl (k := 8) rfl (by rw [ex7_26]; rfl) (by decide) rfl (fun ls hl => ?_)
            refine lv_goto (tgt := 34) hx hb dX1_addWay_116 (by decide) ?_
            exact ihL_13 _ _ _ _ _ _ _ hf hW hS (lv_sub hl [3, 4, 5, 6, 7, 8, 1, 0] rfl) hEL_13
    obtain ⟨ex_28, hq_27, hf⟩ := of_bd hf
    obtain ⟨w_29, ew_29⟩ : ∃ y, y = ex_28 := ⟨_, rfl⟩
    rw [← ew_29] at hf
    rw [← ew_29] at hq_27
    refine L_13 FU _ _ _ _ _ _ _ hq_27 hW hS (lv_sub hl [4, 5, 6, 7, 3, 2, 1, 0] rfl) (fun H locs ls hW hS hl => ?_)
    have hW : hd z w_29 H := hW
    have hl : lv_has ls 9 [] := hl
    exact hret _ _ _ _ _ hf hW hS dX1_addWay_119
  exact START _ _ hW va_S.rf
theorem in_X1_becomesMadeFrom_X1 : ∀ w ∈ wsX10, w ∈ wsX1_becomesMadeFrom := by decide +kernel
theorem in_X1_becomesMadeFrom_X5 : ∀ w ∈ wsX50, w ∈ wsX1_becomesMadeFrom := by decide +kernel
theorem lk_X1_becomesMadeFrom_0 : Cond.fieldLink RX1 28 "CamStitch$Pattern" "points" "I" ∈ wsX1_becomesMadeFrom := by decide +kernel
theorem lk_X1_becomesMadeFrom_1 : Cond.fieldLink RX1 18 "CamStitch$Disc" "stitches" "I" ∈ wsX1_becomesMadeFrom := by decide +kernel
set_option maxHeartbeats 4000000 in
set_option maxRecDepth 100000 in
theorem c_X1_becomesMadeFrom (l : Launch) {z : LZ} (hz : IC z) (d0 : Nat) (hd0 : d0 < 16) (d1 : Nat) (hd1 : d1 < 2) (x2 : Int32) (x3 : Int32) (w : Mem) {r : Int32} {w' : Mem} (hf : f_X1_becomesMadeFrom d0 d1 x2 x3 w = some (r, w')) : Met l yX1_becomesMadeFrom wsX1_becomesMadeFrom (rm 2 50) (PZ z w [.ref (z.2.1 (3*d0)), .ref (z.2.1 (60+3*d1)), .int x2, .int x3]) (QW z (some (.int r)) w') 0 0 (az z) := by
  refine mk_Wz (cc := cX1_becomesMadeFrom) (maxL := 6) (by decide +kernel) rfl (Nat.le_of_ble_eq_true rfl) ?_
  intro p e s m args below meth c hx hb hml hts hown hK hW Q hret ls hl
  have hl : lv_has ls 6 [(0, .ref (z.2.1 (3*d0))), (1, .ref (z.2.1 (60+3*d1))), (2, .int x2), (3, .int x3)] := hl
  unfold f_X1_becomesMadeFrom at hf
  have START : ∀ (H : Heap) (locs : List Loc), hd z w H → va_S (az z) s.heap H locs → W p l e (rm 2 50) s m args below meth c H locs 0 0 Q (F0 m 0 ls []) := by
    intro H locs hW hS
    refine lv_iconst (v := 0) hx hb dX1_becomesMadeFrom_0 (by decide) ?_
    refine lv_istore (lv' := [(4, .int 0), (0, .ref (z.2.1 (3*d0))), (1, .ref (z.2.1 (60+3*d1))), (2, .int x2), (3, .int x3)]) hx hb dX1_becomesMadeFrom_1 hl (by decide) rfl (fun ls hl => ?_)
    refine lv_iconst (v := 0) hx hb dX1_becomesMadeFrom_3 (by decide) ?_
    refine lv_istore (lv' := [(5, .int 0), (4, .int 0), (0, .ref (z.2.1 (3*d0))), (1, .ref (z.2.1 (60+3*d1))), (2, .int x2), (3, .int x3)]) hx hb dX1_becomesMadeFrom_4 hl (by decide) rfl (fun ls hl => ?_)
    have L_3 : ∀ (n : Nat) (x4_1 : Int32) (x5_2 : Int32) (exL_3 : Int32) (ls : Array Slot), f_X1_becomesMadeFrom_L6 w d1 x2 x3 n x4_1 x5_2 = some exL_3 → lv_has ls 6 [(0, .ref (z.2.1 (3*d0))), (1, .ref (z.2.1 (60+3*d1))), (2, .int x2), (3, .int x3), (4, .int x4_1), (5, .int x5_2)] → (∀ (ls : Array Slot), lv_has ls 6 [(0, .ref (z.2.1 (3*d0))), (1, .ref (z.2.1 (60+3*d1))), (2, .int x2), (3, .int x3), (4, .int exL_3)] → W p l e (rm 2 50) s m args below meth c H locs 0 0 Q (F0 m 34 ls [])) → W p l e (rm 2 50) s m args below meth c H locs 0 0 Q (F0 m 6 ls []) := by
      intro n
      induction n with
      | zero =>
        intro x4_1 x5_2 exL_3 ls hf
        have hf : (none : Option (Int32)) = some exL_3 := hf
        cases hf
      | succ n ihL_3 =>
        intro x4_1 x5_2 exL_3 ls hf hl hEL_3
        rw [f_X1_becomesMadeFrom_L6_s] at hf
        refine lv_iload hx hb dX1_becomesMadeFrom_6 (lv_at hl 5 rfl) ?_
        refine lv_aload_n hx hb dX1_becomesMadeFrom_8 rfl (lv_at hl 1 rfl) ?_
        refine get_X5_2 hx hb hts in_X1_becomesMadeFrom_X5 hown hK hz hW hd1 lk_X1_becomesMadeFrom_0 dX1_becomesMadeFrom_9 ?_
        refine lv_icmp_ge (tgt := 34) hx hb dX1_becomesMadeFrom_12 (by decide) (fun c_4 => ?_) (fun c_4 => ?_)
        · have hf := of_t c_4 hf
          have hf := Option.some.inj hf
          subst hf
          exact hEL_3 _ (lv_sub hl [0, 1, 2, 3, 4] rfl)
        · have hf := of_f c_4 hf
          refine lv_iload hx hb dX1_becomesMadeFrom_15 (lv_at hl 4 rfl) ?_
          refine lv_aload_n hx hb dX1_becomesMadeFrom_17 rfl (lv_at hl 1 rfl) ?_
          refine lv_iload hx hb dX1_becomesMadeFrom_18 (lv_at hl 5 rfl) ?_
          refine lv_iload_n hx hb dX1_becomesMadeFrom_20 rfl (lv_at hl 2 rfl) ?_
          refine lv_iload_n hx hb dX1_becomesMadeFrom_21 rfl (lv_at hl 3 rfl) ?_
          obtain ⟨r_5, hq_6, hf⟩ := of_bd hf
          refine m_goRi (va_runS (As := [.ref (z.2.1 (60+3*d1)), .int x5_2, .int x2, .int x3]) (rest := [.int x4_1]) ⟨hx, hb, hml, hown, hts⟩ (c_X1_parts l hz d1 hd1 x5_2 x2 x3 w hq_6) (va_cwS 4 hts gX1_becomesMadeFrom_X1_parts rfl rfl rfl (by decide +kernel) ⟨Nat.le_of_ble_eq_true rfl, Nat.le_of_ble_eq_true rfl⟩) (m_preS hK hW _) rfl rfl hl.1 rfl (lv_room (Nat.le_of_ble_eq_true rfl)) dX1_becomesMadeFrom_22 ⟨Nat.le_refl _, Nat.le_refl _⟩) ?_
          refine lv_iadd hx hb dX1_becomesMadeFrom_25 ?_
          refine lv_topi (fun v_7 ev_7 => ?_)
          have hf := of_lt ev_7 hf
          refine lv_istore (lv' := [(4, .int v_7), (0, .ref (z.2.1 (3*d0))), (1, .ref (z.2.1 (60+3*d1))), (2, .int x2), (3, .int x3), (5, .int x5_2)]) hx hb dX1_becomesMadeFrom_26 hl (by decide) rfl (fun ls hl => ?_)
          obtain ⟨x5_8, ex5_8⟩ : ∃ y : Int32, y = x5_2 + 1 := ⟨_, rfl⟩
          have hf := of_lt ex5_8 hf
          refine lv_iinc (v := x5_8) (lv' := [(5, .int x5_8), (4, .int v_7), (0, .ref (z.2.1 (3*d0))), (1, .ref (z.2.1 (60+3*d1))), (2, .int x2), (3, .int x3)]) hx hb dX1_becomesMadeFrom_28 hl (k := 5) rfl (by rw [ex5_8]; rfl) (by decide) rfl (fun ls hl => ?_)
          refine lv_goto (tgt := 6) hx hb dX1_becomesMadeFrom_31 (by decide) ?_
          exact ihL_3 _ _ _ _ hf (lv_sub hl [2, 3, 4, 5, 1, 0] rfl) hEL_3
    obtain ⟨ex_10, hq_9, hf⟩ := of_bd hf
    obtain ⟨x4_11, ex4_11⟩ : ∃ y, y = ex_10 := ⟨_, rfl⟩
    rw [← ex4_11] at hf
    rw [← ex4_11] at hq_9
    refine L_3 FU _ _ _ _ hq_9 (lv_sub hl [2, 3, 4, 5, 1, 0] rfl) (fun ls hl => ?_)
    have hl : lv_has ls 6 [(0, .ref (z.2.1 (3*d0))), (1, .ref (z.2.1 (60+3*d1))), (2, .int x2), (3, .int x3), (4, .int x4_11)] := hl
    refine lv_iload hx hb dX1_becomesMadeFrom_34 (lv_at hl 4 rfl) ?_
    refine lv_bipush (v := 48) hx hb dX1_becomesMadeFrom_36 (by decide) ?_
    refine lv_icmp_le (tgt := 43) hx hb dX1_becomesMadeFrom_38 (by decide) (fun c_12 => ?_) (fun c_12 => ?_)
    · have hf := of_t c_12 hf
      refine lv_aload_n hx hb dX1_becomesMadeFrom_43 rfl (lv_at hl 0 rfl) ?_
      refine lv_iconst (v := 0) hx hb dX1_becomesMadeFrom_44 (by decide) ?_
      refine put_X1_2 hx hb hts in_X1_becomesMadeFrom_X1 hown hK hz hW hS hd0 lk_X1_becomesMadeFrom_1 dX1_becomesMadeFrom_45 (fun H locs hW hS => ?_)
      obtain ⟨w_13, ew_13⟩ : ∃ y : Mem, y = mS w (3*d0) 2 0 := ⟨_, rfl⟩
      have hW : hd z w_13 H := by rw [ew_13]; exact hW
      have hf := of_lt ew_13 hf
      refine lv_iconst (v := 0) hx hb dX1_becomesMadeFrom_48 (by decide) ?_
      refine lv_istore (lv' := [(5, .int 0), (0, .ref (z.2.1 (3*d0))), (1, .ref (z.2.1 (60+3*d1))), (2, .int x2), (3, .int x3), (4, .int x4_11)]) hx hb dX1_becomesMadeFrom_49 hl (by decide) rfl (fun ls hl => ?_)
      have L_16 : ∀ (n : Nat) (x5_14 : Int32) (w_15 : Mem) (exL_16 : Mem) (H : Heap) (locs : List Loc) (ls : Array Slot), f_X1_becomesMadeFrom_L51 d0 d1 x2 x3 n x5_14 w_15 = some exL_16 → hd z w_15 H → va_S (az z) s.heap H locs → lv_has ls 6 [(0, .ref (z.2.1 (3*d0))), (1, .ref (z.2.1 (60+3*d1))), (2, .int x2), (3, .int x3), (5, .int x5_14)] → (∀ (H : Heap) (locs : List Loc) (ls : Array Slot), hd z (exL_16) H → va_S (az z) s.heap H locs → lv_has ls 6 [] → W p l e (rm 2 50) s m args below meth c H locs 0 0 Q (F0 m 81 ls [])) → W p l e (rm 2 50) s m args below meth c H locs 0 0 Q (F0 m 51 ls []) := by
        intro n
        induction n with
        | zero =>
          intro x5_14 w_15 exL_16 H locs ls hf
          have hf : (none : Option (Mem)) = some exL_16 := hf
          cases hf
        | succ n ihL_16 =>
          intro x5_14 w_15 exL_16 H locs ls hf hW hS hl hEL_16
          rw [f_X1_becomesMadeFrom_L51_s] at hf
          refine lv_iload hx hb dX1_becomesMadeFrom_51 (lv_at hl 4 rfl) ?_
          refine lv_aload_n hx hb dX1_becomesMadeFrom_53 rfl (lv_at hl 1 rfl) ?_
          refine get_X5_2 hx hb hts in_X1_becomesMadeFrom_X5 hown hK hz hW hd1 lk_X1_becomesMadeFrom_0 dX1_becomesMadeFrom_54 ?_
          refine lv_icmp_ge (tgt := 81) hx hb dX1_becomesMadeFrom_57 (by decide) (fun c_17 => ?_) (fun c_17 => ?_)
          · have hf := of_t c_17 hf
            have hf := Option.some.inj hf
            subst hf
            exact hEL_16 _ _ _ hW hS (lv_sub hl [] rfl)
          · have hf := of_f c_17 hf
            refine lv_aload_n hx hb dX1_becomesMadeFrom_60 rfl (lv_at hl 0 rfl) ?_
            refine lv_aload_n hx hb dX1_becomesMadeFrom_61 rfl (lv_at hl 1 rfl) ?_
            refine lv_iload hx hb dX1_becomesMadeFrom_62 (lv_at hl 4 rfl) ?_
            refine lv_aload_n hx hb dX1_becomesMadeFrom_64 rfl (lv_at hl 1 rfl) ?_
            refine lv_iload hx hb dX1_becomesMadeFrom_65 (lv_at hl 4 rfl) ?_
            refine lv_iload_n hx hb dX1_becomesMadeFrom_67 rfl (lv_at hl 2 rfl) ?_
            refine lv_iload_n hx hb dX1_becomesMadeFrom_68 rfl (lv_at hl 3 rfl) ?_
            obtain ⟨r_18, hq_19, hf⟩ := of_bd hf
            refine m_goRi (va_runS (As := [.ref (z.2.1 (60+3*d1)), .int x5_14, .int x2, .int x3]) (rest := [.int x5_14, .ref (z.2.1 (60+3*d1)), .ref (z.2.1 (3*d0))]) ⟨hx, hb, hml, hown, hts⟩ (c_X1_parts l hz d1 hd1 x5_14 x2 x3 w_15 hq_19) (va_cwS 4 hts gX1_becomesMadeFrom_X1_parts rfl rfl rfl (by decide +kernel) ⟨Nat.le_of_ble_eq_true rfl, Nat.le_of_ble_eq_true rfl⟩) (m_preS hK hW _) rfl rfl hl.1 rfl (lv_room (Nat.le_of_ble_eq_true rfl)) dX1_becomesMadeFrom_69 ⟨Nat.le_refl _, Nat.le_refl _⟩) ?_
            obtain ⟨w_22, hq_21, hf⟩ := of_bd hf
            refine m_goWv (va_runV (As := [.ref (z.2.1 (60+3*d1)), .int x5_14, .int r_18]) (rest := []) ⟨hx, hb, hml, hown, hts⟩ (c_X1_addWay l hz d0 hd0 d1 hd1 x5_14 r_18 w_15 hq_21) (cwV 3 hts gX1_becomesMadeFrom_X1_addWay rfl rfl rfl (by decide +kernel) ⟨Nat.le_of_ble_eq_true rfl, Nat.le_of_ble_eq_true rfl⟩) (pre_X1 hK hz hW hd0 _) rfl rfl hl.1 rfl (lv_room (Nat.le_of_ble_eq_true rfl)) dX1_becomesMadeFrom_72 ⟨Nat.le_refl _, Nat.le_refl _⟩) hS (fun H locs hW hS => ?_)
            obtain ⟨x5_23, ex5_23⟩ : ∃ y : Int32, y = x5_14 + 1 := ⟨_, rfl⟩
            have hf := of_lt ex5_23 hf
            refine lv_iinc (v := x5_23) (lv' := [(5, .int x5_23), (0, .ref (z.2.1 (3*d0))), (1, .ref (z.2.1 (60+3*d1))), (2, .int x2), (3, .int x3)]) hx hb dX1_becomesMadeFrom_75 hl (k := 4) rfl (by rw [ex5_23]; rfl) (by decide) rfl (fun ls hl => ?_)
            refine lv_goto (tgt := 51) hx hb dX1_becomesMadeFrom_78 (by decide) ?_
            exact ihL_16 _ _ _ _ _ _ hf hW hS (lv_sub hl [1, 2, 3, 4, 0] rfl) hEL_16
      obtain ⟨ex_25, hq_24, hf⟩ := of_bd hf
      obtain ⟨w_26, ew_26⟩ : ∃ y, y = ex_25 := ⟨_, rfl⟩
      rw [← ew_26] at hf
      rw [← ew_26] at hq_24
      refine L_16 FU _ _ _ _ _ _ hq_24 hW hS (lv_sub hl [1, 2, 3, 4, 0] rfl) (fun H locs ls hW hS hl => ?_)
      have hW : hd z w_26 H := hW
      have hl : lv_has ls 6 [] := hl
      refine lv_iconst (v := 1) hx hb dX1_becomesMadeFrom_81 (by decide) ?_
      exact hret _ _ _ _ _ _ hf rfl hW hS dX1_becomesMadeFrom_82
    · have hf := of_f c_12 hf
      refine lv_iconst (v := 0) hx hb dX1_becomesMadeFrom_41 (by decide) ?_
      exact hret _ _ _ _ _ _ hf rfl hW hS dX1_becomesMadeFrom_42
  exact START _ _ hW va_S.rf
theorem in_X1_becomeTurned_X1 : ∀ w ∈ wsX10, w ∈ wsX1_becomeTurned := by decide +kernel
theorem lk_X1_becomeTurned_0 : Cond.fieldLink RX1 18 "CamStitch$Disc" "stitches" "I" ∈ wsX1_becomeTurned := by decide +kernel
theorem lk_X1_becomeTurned_1 : Cond.fieldLink RX1 9 "CamStitch$Disc" "swings" "[I" ∈ wsX1_becomeTurned := by decide +kernel
theorem lk_X1_becomeTurned_2 : Cond.fieldLink RX1 15 "CamStitch$Disc" "feeds" "[I" ∈ wsX1_becomeTurned := by decide +kernel
set_option maxHeartbeats 4000000 in
set_option maxRecDepth 100000 in
theorem c_X1_becomeTurned (l : Launch) {z : LZ} (hz : IC z) (d0 : Nat) (hd0 : d0 < 16) (d1 : Nat) (hd1 : d1 < 16) (x2 : Int32) (x3 : Int32) (w : Mem) {w' : Mem} (hf : f_X1_becomeTurned d0 d1 x2 x3 w = some w') : Met l yX1_becomeTurned wsX1_becomeTurned (rm 0 0) (PZ z w [.ref (z.2.1 (3*d0)), .ref (z.2.1 (3*d1)), .int x2, .int x3]) (QW z none w') 0 0 (az z) := by
  refine mk_Wv (cc := cX1_becomeTurned) (maxL := 6) (by decide +kernel) rfl (Nat.le_of_ble_eq_true rfl) ?_
  intro p e s m args below meth c hx hb hml hts hown hK hW Q hret ls hl
  have hl : lv_has ls 6 [(0, .ref (z.2.1 (3*d0))), (1, .ref (z.2.1 (3*d1))), (2, .int x2), (3, .int x3)] := hl
  unfold f_X1_becomeTurned at hf
  have START : ∀ (H : Heap) (locs : List Loc), hd z w H → va_S (az z) s.heap H locs → W p l e (rm 0 0) s m args below meth c H locs 0 0 Q (F0 m 0 ls []) := by
    intro H locs hW hS
    refine lv_iconst (v := 0) hx hb dX1_becomeTurned_0 (by decide) ?_
    refine lv_istore (lv' := [(4, .int 0), (0, .ref (z.2.1 (3*d0))), (1, .ref (z.2.1 (3*d1))), (2, .int x2), (3, .int x3)]) hx hb dX1_becomeTurned_1 hl (by decide) rfl (fun ls hl => ?_)
    have L_3 : ∀ (n : Nat) (x4_1 : Int32) (w_2 : Mem) (exL_3 : Mem) (H : Heap) (locs : List Loc) (ls : Array Slot), f_X1_becomeTurned_L3 d0 d1 x2 x3 n x4_1 w_2 = some exL_3 → hd z w_2 H → va_S (az z) s.heap H locs → lv_has ls 6 [(0, .ref (z.2.1 (3*d0))), (1, .ref (z.2.1 (3*d1))), (2, .int x2), (3, .int x3), (4, .int x4_1)] → (∀ (H : Heap) (locs : List Loc) (ls : Array Slot), hd z (exL_3) H → va_S (az z) s.heap H locs → lv_has ls 6 [] → W p l e (rm 0 0) s m args below meth c H locs 0 0 Q (F0 m 59 ls [])) → W p l e (rm 0 0) s m args below meth c H locs 0 0 Q (F0 m 3 ls []) := by
      intro n
      induction n with
      | zero =>
        intro x4_1 w_2 exL_3 H locs ls hf
        have hf : (none : Option (Mem)) = some exL_3 := hf
        cases hf
      | succ n ihL_3 =>
        intro x4_1 w_2 exL_3 H locs ls hf hW hS hl hEL_3
        rw [f_X1_becomeTurned_L3_s] at hf
        refine lv_iload hx hb dX1_becomeTurned_3 (lv_at hl 4 rfl) ?_
        refine lv_aload_n hx hb dX1_becomeTurned_5 rfl (lv_at hl 1 rfl) ?_
        refine get_X1_2 hx hb hts in_X1_becomeTurned_X1 hown hK hz hW hd1 lk_X1_becomeTurned_0 dX1_becomeTurned_6 ?_
        refine lv_icmp_ge (tgt := 59) hx hb dX1_becomeTurned_9 (by decide) (fun c_4 => ?_) (fun c_4 => ?_)
        · have hf := of_t c_4 hf
          have hf := Option.some.inj hf
          subst hf
          exact hEL_3 _ _ _ hW hS (lv_sub hl [] rfl)
        · have hf := of_f c_4 hf
          refine lv_iload_n hx hb dX1_becomeTurned_12 rfl (lv_at hl 2 rfl) ?_
          refine lv_iload hx hb dX1_becomeTurned_13 (lv_at hl 4 rfl) ?_
          refine lv_iadd hx hb dX1_becomeTurned_15 ?_
          refine lv_aload_n hx hb dX1_becomeTurned_16 rfl (lv_at hl 1 rfl) ?_
          refine get_X1_2 hx hb hts in_X1_becomeTurned_X1 hown hK hz hW hd1 lk_X1_becomeTurned_0 dX1_becomeTurned_17 ?_
          obtain ⟨g_5, hf⟩ := of_gd hf
          refine lv_irem hx hb dX1_becomeTurned_20 g_5 ?_
          refine lv_topi (fun v_6 ev_6 => ?_)
          have hf := of_lt (e := irm (x2 + x4_1) (w_2.1 (3*d1) 2)) ev_6 hf
          refine lv_istore (lv' := [(5, .int v_6), (0, .ref (z.2.1 (3*d0))), (1, .ref (z.2.1 (3*d1))), (2, .int x2), (3, .int x3), (4, .int x4_1)]) hx hb dX1_becomeTurned_21 hl (by decide) rfl (fun ls hl => ?_)
          refine lv_aload_n hx hb dX1_becomeTurned_23 rfl (lv_at hl 1 rfl) ?_
          refine get_X1_0 hx hb hts in_X1_becomeTurned_X1 hown hK hz hW hd0 lk_X1_becomeTurned_1 dX1_becomeTurned_24 ?_
          refine lv_iload hx hb dX1_becomeTurned_27 (lv_at hl 5 rfl) ?_
          refine lv_iload_n hx hb dX1_becomeTurned_29 rfl (lv_at hl 4 rfl) ?_
          refine lv_aload_n hx hb dX1_becomeTurned_30 rfl (lv_at hl 2 rfl) ?_
          refine get_X1_0 hx hb hts in_X1_becomeTurned_X1 hown hK hz hW hd1 lk_X1_becomeTurned_1 dX1_becomeTurned_31 ?_
          refine lv_iload hx hb dX1_becomeTurned_34 (lv_at hl 0 rfl) ?_
          obtain ⟨g_7, hf⟩ := of_gd hf
          refine ld_AI48 hx hb hK hz hW (p48_1 hd1) g_7 dX1_becomeTurned_36 ?_
          refine lv_topi (fun v_8 ev_8 => ?_)
          have hf := of_lt ev_8 hf
          refine lv_imul hx hb dX1_becomeTurned_37 ?_
          obtain ⟨g_9, hf⟩ := of_gd hf
          refine st_AI48 hx hb hK hz hW hS (p48_1 hd0) g_9 dX1_becomeTurned_38 (fun H locs hW hS => ?_)
          obtain ⟨w_10, ew_10⟩ : ∃ y : Mem, y = mS w_2 (3*d0+1) x4_1.toNatClampNeg (x3 * v_8) := ⟨_, rfl⟩
          have hW : hd z w_10 H := by rw [ew_10]; exact hW
          have hf := of_lt ew_10 hf
          refine lv_aload_n hx hb dX1_becomeTurned_39 rfl (lv_at hl 1 rfl) ?_
          refine get_X1_1 hx hb hts in_X1_becomeTurned_X1 hown hK hz hW hd0 lk_X1_becomeTurned_2 dX1_becomeTurned_40 ?_
          refine lv_iload hx hb dX1_becomeTurned_43 (lv_at hl 5 rfl) ?_
          refine lv_aload_n hx hb dX1_becomeTurned_45 rfl (lv_at hl 2 rfl) ?_
          refine get_X1_1 hx hb hts in_X1_becomeTurned_X1 hown hK hz hW hd1 lk_X1_becomeTurned_2 dX1_becomeTurned_46 ?_
          refine lv_iload hx hb dX1_becomeTurned_49 (lv_at hl 0 rfl) ?_
          refine ld_AI48 hx hb hK hz hW (p48_2 hd1) g_7 dX1_becomeTurned_51 ?_
          refine lv_topi (fun v_11 ev_11 => ?_)
          have hf := of_lt ev_11 hf
          refine st_AI48 hx hb hK hz hW hS (p48_2 hd0) g_9 dX1_becomeTurned_52 (fun H locs hW hS => ?_)
          obtain ⟨w_12, ew_12⟩ : ∃ y : Mem, y = mS w_10 (3*d0+2) x4_1.toNatClampNeg v_11 := ⟨_, rfl⟩
          have hW : hd z w_12 H := by rw [ew_12]; exact hW
          have hf := of_lt ew_12 hf
          obtain ⟨x4_13, ex4_13⟩ : ∃ y : Int32, y = x4_1 + 1 := ⟨_, rfl⟩
          have hf := of_lt ex4_13 hf
          refine lv_iinc (v := x4_13) (lv' := [(4, .int x4_13), (5, .int v_6), (0, .ref (z.2.1 (3*d0))), (1, .ref (z.2.1 (3*d1))), (2, .int x2), (3, .int x3)]) hx hb dX1_becomeTurned_53 hl (k := 5) rfl (by rw [ex4_13]; rfl) (by decide) rfl (fun ls hl => ?_)
          refine lv_goto (tgt := 3) hx hb dX1_becomeTurned_56 (by decide) ?_
          exact ihL_3 _ _ _ _ _ _ hf hW hS (lv_sub hl [2, 3, 4, 5, 0] rfl) hEL_3
    obtain ⟨ex_15, hq_14, hf⟩ := of_bd hf
    obtain ⟨w_16, ew_16⟩ : ∃ y, y = ex_15 := ⟨_, rfl⟩
    rw [← ew_16] at hf
    rw [← ew_16] at hq_14
    refine L_3 FU _ _ _ _ _ _ hq_14 hW hS (lv_sub hl [1, 2, 3, 4, 0] rfl) (fun H locs ls hW hS hl => ?_)
    have hW : hd z w_16 H := hW
    have hl : lv_has ls 6 [] := hl
    exact hret _ _ _ _ _ hf hW hS dX1_becomeTurned_59
  exact START _ _ hW va_S.rf
theorem in_X1_needle_X1 : ∀ w ∈ wsX10, w ∈ wsX1_needle := by decide +kernel
theorem lk_X1_needle_0 : Cond.fieldLink RX1 18 "CamStitch$Disc" "stitches" "I" ∈ wsX1_needle := by decide +kernel
theorem lk_X1_needle_1 : Cond.fieldLink RX1 9 "CamStitch$Disc" "swings" "[I" ∈ wsX1_needle := by decide +kernel
set_option maxHeartbeats 4000000 in
set_option maxRecDepth 100000 in
theorem c_X1_needle (l : Launch) {z : LZ} (hz : IC z) (d0 : Nat) (hd0 : d0 < 16) (w : Mem) {r : Int32} (hf : f_X1_needle d0 w = some r) : Met l yX1_needle wsX1_needle (rm 0 0) (PZ z w [.ref (z.2.1 (3*d0))]) (QR (some (.int r))) 0 0 (fun _ => False) := by
  refine mk_Ri (cc := cX1_needle) (maxL := 1) (by decide +kernel) rfl (Nat.le_of_ble_eq_true rfl) ?_
  intro p e s m args below meth c hx hb hml hts hown hK hW Q hret ls hl
  have hl : lv_has ls 1 [(0, .ref (z.2.1 (3*d0)))] := hl
  unfold f_X1_needle at hf
  refine lv_aload_n hx hb dX1_needle_0 rfl (lv_at hl 0 rfl) ?_
  refine get_X1_2 hx hb hts in_X1_needle_X1 hown hK hz hW hd0 lk_X1_needle_0 dX1_needle_1 ?_
  refine lv_if_le (tgt := 21) hx hb dX1_needle_4 (by decide) (fun c_1 => ?_) (fun c_1 => ?_)
  · have hf := of_t c_1 hf
    refine lv_iconst (v := 0) hx hb dX1_needle_21 (by decide) ?_
    exact hret _ _ _ hf dX1_needle_22
  · have hf := of_f c_1 hf
    refine lv_aload_n hx hb dX1_needle_7 rfl (lv_at hl 0 rfl) ?_
    refine get_X1_0 hx hb hts in_X1_needle_X1 hown hK hz hW hd0 lk_X1_needle_1 dX1_needle_8 ?_
    refine lv_aload_n hx hb dX1_needle_11 rfl (lv_at hl 0 rfl) ?_
    refine get_X1_2 hx hb hts in_X1_needle_X1 hown hK hz hW hd0 lk_X1_needle_0 dX1_needle_12 ?_
    refine lv_iconst (v := 1) hx hb dX1_needle_15 (by decide) ?_
    refine lv_isub hx hb dX1_needle_16 ?_
    obtain ⟨g_2, hf⟩ := of_gd hf
    refine ld_AI48 hx hb hK hz hW (p48_1 hd0) g_2 dX1_needle_17 ?_
    refine lv_topi (fun v_3 ev_3 => ?_)
    have hf := of_lt ev_3 hf
    refine lv_goto (tgt := 22) hx hb dX1_needle_18 (by decide) ?_
    exact hret _ _ _ hf dX1_needle_22
theorem in_X1_sumOfFeeds_X1 : ∀ w ∈ wsX10, w ∈ wsX1_sumOfFeeds := by decide +kernel
theorem lk_X1_sumOfFeeds_0 : Cond.fieldLink RX1 18 "CamStitch$Disc" "stitches" "I" ∈ wsX1_sumOfFeeds := by decide +kernel
theorem lk_X1_sumOfFeeds_1 : Cond.fieldLink RX1 15 "CamStitch$Disc" "feeds" "[I" ∈ wsX1_sumOfFeeds := by decide +kernel
set_option maxHeartbeats 4000000 in
set_option maxRecDepth 100000 in
theorem c_X1_sumOfFeeds (l : Launch) {z : LZ} (hz : IC z) (d0 : Nat) (hd0 : d0 < 16) (w : Mem) {r : Int32} (hf : f_X1_sumOfFeeds d0 w = some r) : Met l yX1_sumOfFeeds wsX1_sumOfFeeds (rm 0 0) (PZ z w [.ref (z.2.1 (3*d0))]) (QR (some (.int r))) 0 0 (fun _ => False) := by
  refine mk_Ri (cc := cX1_sumOfFeeds) (maxL := 3) (by decide +kernel) rfl (Nat.le_of_ble_eq_true rfl) ?_
  intro p e s m args below meth c hx hb hml hts hown hK hW Q hret ls hl
  have hl : lv_has ls 3 [(0, .ref (z.2.1 (3*d0)))] := hl
  unfold f_X1_sumOfFeeds at hf
  refine lv_iconst (v := 0) hx hb dX1_sumOfFeeds_0 (by decide) ?_
  refine lv_istore_n (lv' := [(1, .int 0), (0, .ref (z.2.1 (3*d0)))]) hx hb dX1_sumOfFeeds_1 rfl hl (by decide) rfl (fun ls hl => ?_)
  refine lv_iconst (v := 0) hx hb dX1_sumOfFeeds_2 (by decide) ?_
  refine lv_istore_n (lv' := [(2, .int 0), (1, .int 0), (0, .ref (z.2.1 (3*d0)))]) hx hb dX1_sumOfFeeds_3 rfl hl (by decide) rfl (fun ls hl => ?_)
  have L_3 : ∀ (n : Nat) (x1_1 : Int32) (x2_2 : Int32) (exL_3 : Int32) (ls : Array Slot), f_X1_sumOfFeeds_L4 w d0 n x1_1 x2_2 = some exL_3 → lv_has ls 3 [(0, .ref (z.2.1 (3*d0))), (1, .int x1_1), (2, .int x2_2)] → (∀ (ls : Array Slot), lv_has ls 3 [(1, .int exL_3)] → W p l e (rm 0 0) s m args below meth c s.heap [] 0 0 Q (F0 m 27 ls [])) → W p l e (rm 0 0) s m args below meth c s.heap [] 0 0 Q (F0 m 4 ls []) := by
    intro n
    induction n with
    | zero =>
      intro x1_1 x2_2 exL_3 ls hf
      have hf : (none : Option (Int32)) = some exL_3 := hf
      cases hf
    | succ n ihL_3 =>
      intro x1_1 x2_2 exL_3 ls hf hl hEL_3
      rw [f_X1_sumOfFeeds_L4_s] at hf
      refine lv_iload_n hx hb dX1_sumOfFeeds_4 rfl (lv_at hl 2 rfl) ?_
      refine lv_aload_n hx hb dX1_sumOfFeeds_5 rfl (lv_at hl 0 rfl) ?_
      refine get_X1_2 hx hb hts in_X1_sumOfFeeds_X1 hown hK hz hW hd0 lk_X1_sumOfFeeds_0 dX1_sumOfFeeds_6 ?_
      refine lv_icmp_ge (tgt := 27) hx hb dX1_sumOfFeeds_9 (by decide) (fun c_4 => ?_) (fun c_4 => ?_)
      · have hf := of_t c_4 hf
        have hf := Option.some.inj hf
        subst hf
        exact hEL_3 _ (lv_sub hl [1] rfl)
      · have hf := of_f c_4 hf
        refine lv_iload_n hx hb dX1_sumOfFeeds_12 rfl (lv_at hl 1 rfl) ?_
        refine lv_aload_n hx hb dX1_sumOfFeeds_13 rfl (lv_at hl 0 rfl) ?_
        refine get_X1_1 hx hb hts in_X1_sumOfFeeds_X1 hown hK hz hW hd0 lk_X1_sumOfFeeds_1 dX1_sumOfFeeds_14 ?_
        refine lv_iload_n hx hb dX1_sumOfFeeds_17 rfl (lv_at hl 2 rfl) ?_
        obtain ⟨g_5, hf⟩ := of_gd hf
        refine ld_AI48 hx hb hK hz hW (p48_2 hd0) g_5 dX1_sumOfFeeds_18 ?_
        refine lv_topi (fun v_6 ev_6 => ?_)
        have hf := of_lt ev_6 hf
        refine lv_iadd hx hb dX1_sumOfFeeds_19 ?_
        refine lv_topi (fun v_7 ev_7 => ?_)
        have hf := of_lt ev_7 hf
        refine lv_istore_n (lv' := [(1, .int v_7), (0, .ref (z.2.1 (3*d0))), (2, .int x2_2)]) hx hb dX1_sumOfFeeds_20 rfl hl (by decide) rfl (fun ls hl => ?_)
        obtain ⟨x2_8, ex2_8⟩ : ∃ y : Int32, y = x2_2 + 1 := ⟨_, rfl⟩
        have hf := of_lt ex2_8 hf
        refine lv_iinc (v := x2_8) (lv' := [(2, .int x2_8), (1, .int v_7), (0, .ref (z.2.1 (3*d0)))]) hx hb dX1_sumOfFeeds_21 hl (k := 2) rfl (by rw [ex2_8]; rfl) (by decide) rfl (fun ls hl => ?_)
        refine lv_goto (tgt := 4) hx hb dX1_sumOfFeeds_24 (by decide) ?_
        exact ihL_3 _ _ _ _ hf (lv_sub hl [2, 1, 0] rfl) hEL_3
  obtain ⟨ex_10, hq_9, hf⟩ := of_bd hf
  obtain ⟨x1_11, ex1_11⟩ : ∃ y, y = ex_10 := ⟨_, rfl⟩
  rw [← ex1_11] at hf
  rw [← ex1_11] at hq_9
  refine L_3 FU _ _ _ _ hq_9 (lv_sub hl [2, 1, 0] rfl) (fun ls hl => ?_)
  have hl : lv_has ls 3 [(1, .int x1_11)] := hl
  refine lv_iload_n hx hb dX1_sumOfFeeds_27 rfl (lv_at hl 0 rfl) ?_
  exact hret _ _ _ hf dX1_sumOfFeeds_28
theorem in_X1_steepness_X1 : ∀ w ∈ wsX10, w ∈ wsX1_steepness := by decide +kernel
theorem lk_X1_steepness_0 : Cond.fieldLink RX1 18 "CamStitch$Disc" "stitches" "I" ∈ wsX1_steepness := by decide +kernel
theorem lk_X1_steepness_1 : Cond.fieldLink RX1 9 "CamStitch$Disc" "swings" "[I" ∈ wsX1_steepness := by decide +kernel
theorem lk_X1_steepness_2 : Cond.methodLink RX1 48 Lib.Math.abs.name ∈ wsX1_steepness := by decide +kernel
theorem lk_X1_steepness_3 : Cond.static Lib.Math.abs.name ∈ wsX1_steepness := by decide +kernel
theorem lk_X1_steepness_4 : Cond.initialized "java/lang/Math" ∈ wsX1_steepness := by decide +kernel
theorem lk_X1_steepness_5 : Cond.code Lib.Math.abs.name Lib.Math.abs.code 1 (some .int) ∈ wsX1_steepness := by decide +kernel
theorem lk_X1_steepness_6 : Cond.methodLink RX1 63 Lib.Math.max.name ∈ wsX1_steepness := by decide +kernel
theorem lk_X1_steepness_7 : Cond.static Lib.Math.max.name ∈ wsX1_steepness := by decide +kernel
theorem lk_X1_steepness_8 : Cond.code Lib.Math.max.name Lib.Math.max.code 2 (some .int) ∈ wsX1_steepness := by decide +kernel
set_option maxHeartbeats 4000000 in
set_option maxRecDepth 100000 in
theorem c_X1_steepness (l : Launch) {z : LZ} (hz : IC z) (d0 : Nat) (hd0 : d0 < 16) (w : Mem) {r : Int32} (hf : f_X1_steepness d0 w = some r) : Met l yX1_steepness wsX1_steepness (rm 1 21) (PZ z w [.ref (z.2.1 (3*d0))]) (QR (some (.int r))) 0 0 (fun _ => False) := by
  refine mk_Ri (cc := cX1_steepness) (maxL := 4) (by decide +kernel) rfl (Nat.le_of_ble_eq_true rfl) ?_
  intro p e s m args below meth c hx hb hml hts hown hK hW Q hret ls hl
  have hl : lv_has ls 4 [(0, .ref (z.2.1 (3*d0)))] := hl
  unfold f_X1_steepness at hf
  refine lv_iconst (v := 0) hx hb dX1_steepness_0 (by decide) ?_
  refine lv_istore_n (lv' := [(1, .int 0), (0, .ref (z.2.1 (3*d0)))]) hx hb dX1_steepness_1 rfl hl (by decide) rfl (fun ls hl => ?_)
  refine lv_aload_n hx hb dX1_steepness_2 rfl (lv_at hl 1 rfl) ?_
  obtain ⟨r_1, hq_2, hf⟩ := of_bd hf
  refine m_goRi (va_runV (As := []) (rest := []) ⟨hx, hb, hml, hown, hts⟩ (c_X1_needle l hz d0 hd0 w hq_2) (cwV 0 hts gX1_steepness_X1_needle rfl rfl rfl (by decide +kernel) ⟨Nat.le_of_ble_eq_true rfl, Nat.le_of_ble_eq_true rfl⟩) (pre_X1 hK hz hW hd0 _) rfl rfl hl.1 rfl (lv_room (Nat.le_of_ble_eq_true rfl)) dX1_steepness_3 ⟨Nat.le_refl _, Nat.le_refl _⟩) ?_
  refine lv_istore_n (lv' := [(2, .int r_1), (1, .int 0), (0, .ref (z.2.1 (3*d0)))]) hx hb dX1_steepness_6 rfl hl (by decide) rfl (fun ls hl => ?_)
  refine lv_iconst (v := 0) hx hb dX1_steepness_7 (by decide) ?_
  refine lv_istore_n (lv' := [(3, .int 0), (2, .int r_1), (1, .int 0), (0, .ref (z.2.1 (3*d0)))]) hx hb dX1_steepness_8 rfl hl (by decide) rfl (fun ls hl => ?_)
  have L_6 : ∀ (n : Nat) (x1_3 : Int32) (x2_4 : Int32) (x3_5 : Int32) (exL_6 : Int32) (ls : Array Slot), f_X1_steepness_L9 w d0 n x1_3 x2_4 x3_5 = some exL_6 → lv_has ls 4 [(0, .ref (z.2.1 (3*d0))), (1, .int x1_3), (2, .int x2_4), (3, .int x3_5)] → (∀ (ls : Array Slot), lv_has ls 4 [(1, .int exL_6)] → W p l e (rm 1 21) s m args below meth c s.heap [] 0 0 Q (F0 m 46 ls [])) → W p l e (rm 1 21) s m args below meth c s.heap [] 0 0 Q (F0 m 9 ls []) := by
    intro n
    induction n with
    | zero =>
      intro x1_3 x2_4 x3_5 exL_6 ls hf
      have hf : (none : Option (Int32)) = some exL_6 := hf
      cases hf
    | succ n ihL_6 =>
      intro x1_3 x2_4 x3_5 exL_6 ls hf hl hEL_6
      rw [f_X1_steepness_L9_s] at hf
      refine lv_iload_n hx hb dX1_steepness_9 rfl (lv_at hl 3 rfl) ?_
      refine lv_aload_n hx hb dX1_steepness_10 rfl (lv_at hl 0 rfl) ?_
      refine get_X1_2 hx hb hts in_X1_steepness_X1 hown hK hz hW hd0 lk_X1_steepness_0 dX1_steepness_11 ?_
      refine lv_icmp_ge (tgt := 46) hx hb dX1_steepness_14 (by decide) (fun c_7 => ?_) (fun c_7 => ?_)
      · have hf := of_t c_7 hf
        have hf := Option.some.inj hf
        subst hf
        exact hEL_6 _ (lv_sub hl [1] rfl)
      · have hf := of_f c_7 hf
        refine lv_iload_n hx hb dX1_steepness_17 rfl (lv_at hl 1 rfl) ?_
        refine lv_aload_n hx hb dX1_steepness_18 rfl (lv_at hl 0 rfl) ?_
        refine get_X1_0 hx hb hts in_X1_steepness_X1 hown hK hz hW hd0 lk_X1_steepness_1 dX1_steepness_19 ?_
        refine lv_iload_n hx hb dX1_steepness_22 rfl (lv_at hl 3 rfl) ?_
        obtain ⟨g_8, hf⟩ := of_gd hf
        refine ld_AI48 hx hb hK hz hW (p48_1 hd0) g_8 dX1_steepness_23 ?_
        refine lv_topi (fun v_9 ev_9 => ?_)
        have hf := of_lt ev_9 hf
        refine lv_iload_n hx hb dX1_steepness_24 rfl (lv_at hl 2 rfl) ?_
        refine lv_isub hx hb dX1_steepness_25 ?_
        refine va_mabs hx hb (hml.trans hl.1.symm) hown (hts _ lk_X1_steepness_2) (hts _ lk_X1_steepness_3) (hts _ lk_X1_steepness_4) (hts _ lk_X1_steepness_5) (Nat.le_of_ble_eq_true rfl) (Nat.le_of_ble_eq_true rfl) (Nat.le_refl _) (Nat.le_refl _) dX1_steepness_26 ?_
        refine lv_topi (fun v_10 ev_10 => ?_)
        have hf := of_lt (e := iabs (v_9 - x2_4)) ev_10 hf
        refine va_mmax hx hb (hml.trans hl.1.symm) hown (hts _ lk_X1_steepness_6) (hts _ lk_X1_steepness_7) (hts _ lk_X1_steepness_4) (hts _ lk_X1_steepness_8) (Nat.le_of_ble_eq_true rfl) (Nat.le_of_ble_eq_true rfl) (Nat.le_refl _) (Nat.le_refl _) dX1_steepness_29 ?_
        refine lv_topi (fun v_11 ev_11 => ?_)
        have hf := of_lt (e := imax x1_3 v_10) ev_11 hf
        refine lv_istore_n (lv' := [(1, .int v_11), (0, .ref (z.2.1 (3*d0))), (2, .int x2_4), (3, .int x3_5)]) hx hb dX1_steepness_32 rfl hl (by decide) rfl (fun ls hl => ?_)
        refine lv_aload_n hx hb dX1_steepness_33 rfl (lv_at hl 1 rfl) ?_
        refine get_X1_0 hx hb hts in_X1_steepness_X1 hown hK hz hW hd0 lk_X1_steepness_1 dX1_steepness_34 ?_
        refine lv_iload_n hx hb dX1_steepness_37 rfl (lv_at hl 3 rfl) ?_
        refine ld_AI48 hx hb hK hz hW (p48_1 hd0) g_8 dX1_steepness_38 ?_
        refine lv_topi (fun v_12 ev_12 => ?_)
        have hf := of_lt ev_12 hf
        refine lv_istore_n (lv' := [(2, .int v_12), (1, .int v_11), (0, .ref (z.2.1 (3*d0))), (3, .int x3_5)]) hx hb dX1_steepness_39 rfl hl (by decide) rfl (fun ls hl => ?_)
        obtain ⟨x3_13, ex3_13⟩ : ∃ y : Int32, y = x3_5 + 1 := ⟨_, rfl⟩
        have hf := of_lt ex3_13 hf
        refine lv_iinc (v := x3_13) (lv' := [(3, .int x3_13), (2, .int v_12), (1, .int v_11), (0, .ref (z.2.1 (3*d0)))]) hx hb dX1_steepness_40 hl (k := 3) rfl (by rw [ex3_13]; rfl) (by decide) rfl (fun ls hl => ?_)
        refine lv_goto (tgt := 9) hx hb dX1_steepness_43 (by decide) ?_
        exact ihL_6 _ _ _ _ _ hf (lv_sub hl [3, 2, 1, 0] rfl) hEL_6
  obtain ⟨ex_15, hq_14, hf⟩ := of_bd hf
  obtain ⟨x1_16, ex1_16⟩ : ∃ y, y = ex_15 := ⟨_, rfl⟩
  rw [← ex1_16] at hf
  rw [← ex1_16] at hq_14
  refine L_6 FU _ _ _ _ _ hq_14 (lv_sub hl [3, 2, 1, 0] rfl) (fun ls hl => ?_)
  have hl : lv_has ls 4 [(1, .int x1_16)] := hl
  refine lv_iload_n hx hb dX1_steepness_46 rfl (lv_at hl 0 rfl) ?_
  exact hret _ _ _ hf dX1_steepness_47
theorem in_X1_greatestOf_X1 : ∀ w ∈ wsX10, w ∈ wsX1_greatestOf := by decide +kernel
theorem lk_X1_greatestOf_0 : Cond.fieldLink RX1 18 "CamStitch$Disc" "stitches" "I" ∈ wsX1_greatestOf := by decide +kernel
theorem lk_X1_greatestOf_1 : Cond.methodLink RX1 63 Lib.Math.max.name ∈ wsX1_greatestOf := by decide +kernel
theorem lk_X1_greatestOf_2 : Cond.static Lib.Math.max.name ∈ wsX1_greatestOf := by decide +kernel
theorem lk_X1_greatestOf_3 : Cond.initialized "java/lang/Math" ∈ wsX1_greatestOf := by decide +kernel
theorem lk_X1_greatestOf_4 : Cond.code Lib.Math.max.name Lib.Math.max.code 2 (some .int) ∈ wsX1_greatestOf := by decide +kernel
set_option maxHeartbeats 4000000 in
set_option maxRecDepth 100000 in
theorem c_X1_greatestOf (l : Launch) {z : LZ} (hz : IC z) (d0 : Nat) (hd0 : d0 < 16) (d1 : Nat) (hd1 : d1 < 48 ∧ ¬ d1 % 3 = 0) (w : Mem) {r : Int32} (hf : f_X1_greatestOf d0 d1 w = some r) : Met l yX1_greatestOf wsX1_greatestOf (rm 1 21) (PZ z w [.ref (z.2.1 (3*d0)), .ref (z.2.1 d1)]) (QR (some (.int r))) 0 0 (fun _ => False) := by
  refine mk_Ri (cc := cX1_greatestOf) (maxL := 4) (by decide +kernel) rfl (Nat.le_of_ble_eq_true rfl) ?_
  intro p e s m args below meth c hx hb hml hts hown hK hW Q hret ls hl
  have hl : lv_has ls 4 [(0, .ref (z.2.1 (3*d0))), (1, .ref (z.2.1 d1))] := hl
  unfold f_X1_greatestOf at hf
  refine lv_aload_n hx hb dX1_greatestOf_0 rfl (lv_at hl 1 rfl) ?_
  refine lv_iconst (v := 0) hx hb dX1_greatestOf_1 (by decide) ?_
  obtain ⟨g_1, hf⟩ := of_gd hf
  refine ld_AI48 hx hb hK hz hW hd1 g_1 dX1_greatestOf_2 ?_
  refine lv_topi (fun v_2 ev_2 => ?_)
  have hf := of_lt ev_2 hf
  refine lv_istore_n (lv' := [(2, .int v_2), (0, .ref (z.2.1 (3*d0))), (1, .ref (z.2.1 d1))]) hx hb dX1_greatestOf_3 rfl hl (by decide) rfl (fun ls hl => ?_)
  refine lv_iconst (v := 1) hx hb dX1_greatestOf_4 (by decide) ?_
  refine lv_istore_n (lv' := [(3, .int 1), (2, .int v_2), (0, .ref (z.2.1 (3*d0))), (1, .ref (z.2.1 d1))]) hx hb dX1_greatestOf_5 rfl hl (by decide) rfl (fun ls hl => ?_)
  have L_5 : ∀ (n : Nat) (x2_3 : Int32) (x3_4 : Int32) (exL_5 : Int32) (ls : Array Slot), f_X1_greatestOf_L6 w d0 d1 n x2_3 x3_4 = some exL_5 → lv_has ls 4 [(0, .ref (z.2.1 (3*d0))), (1, .ref (z.2.1 d1)), (2, .int x2_3), (3, .int x3_4)] → (∀ (ls : Array Slot), lv_has ls 4 [(2, .int exL_5)] → W p l e (rm 1 21) s m args below meth c s.heap [] 0 0 Q (F0 m 28 ls [])) → W p l e (rm 1 21) s m args below meth c s.heap [] 0 0 Q (F0 m 6 ls []) := by
    intro n
    induction n with
    | zero =>
      intro x2_3 x3_4 exL_5 ls hf
      have hf : (none : Option (Int32)) = some exL_5 := hf
      cases hf
    | succ n ihL_5 =>
      intro x2_3 x3_4 exL_5 ls hf hl hEL_5
      rw [f_X1_greatestOf_L6_s] at hf
      refine lv_iload_n hx hb dX1_greatestOf_6 rfl (lv_at hl 3 rfl) ?_
      refine lv_aload_n hx hb dX1_greatestOf_7 rfl (lv_at hl 0 rfl) ?_
      refine get_X1_2 hx hb hts in_X1_greatestOf_X1 hown hK hz hW hd0 lk_X1_greatestOf_0 dX1_greatestOf_8 ?_
      refine lv_icmp_ge (tgt := 28) hx hb dX1_greatestOf_11 (by decide) (fun c_6 => ?_) (fun c_6 => ?_)
      · have hf := of_t c_6 hf
        have hf := Option.some.inj hf
        subst hf
        exact hEL_5 _ (lv_sub hl [2] rfl)
      · have hf := of_f c_6 hf
        refine lv_iload_n hx hb dX1_greatestOf_14 rfl (lv_at hl 2 rfl) ?_
        refine lv_aload_n hx hb dX1_greatestOf_15 rfl (lv_at hl 1 rfl) ?_
        refine lv_iload_n hx hb dX1_greatestOf_16 rfl (lv_at hl 3 rfl) ?_
        obtain ⟨g_7, hf⟩ := of_gd hf
        refine ld_AI48 hx hb hK hz hW hd1 g_7 dX1_greatestOf_17 ?_
        refine lv_topi (fun v_8 ev_8 => ?_)
        have hf := of_lt ev_8 hf
        refine va_mmax hx hb (hml.trans hl.1.symm) hown (hts _ lk_X1_greatestOf_1) (hts _ lk_X1_greatestOf_2) (hts _ lk_X1_greatestOf_3) (hts _ lk_X1_greatestOf_4) (Nat.le_of_ble_eq_true rfl) (Nat.le_of_ble_eq_true rfl) (Nat.le_refl _) (Nat.le_refl _) dX1_greatestOf_18 ?_
        refine lv_topi (fun v_9 ev_9 => ?_)
        have hf := of_lt (e := imax x2_3 v_8) ev_9 hf
        refine lv_istore_n (lv' := [(2, .int v_9), (0, .ref (z.2.1 (3*d0))), (1, .ref (z.2.1 d1)), (3, .int x3_4)]) hx hb dX1_greatestOf_21 rfl hl (by decide) rfl (fun ls hl => ?_)
        obtain ⟨x3_10, ex3_10⟩ : ∃ y : Int32, y = x3_4 + 1 := ⟨_, rfl⟩
        have hf := of_lt ex3_10 hf
        refine lv_iinc (v := x3_10) (lv' := [(3, .int x3_10), (2, .int v_9), (0, .ref (z.2.1 (3*d0))), (1, .ref (z.2.1 d1))]) hx hb dX1_greatestOf_22 hl (k := 3) rfl (by rw [ex3_10]; rfl) (by decide) rfl (fun ls hl => ?_)
        refine lv_goto (tgt := 6) hx hb dX1_greatestOf_25 (by decide) ?_
        exact ihL_5 _ _ _ _ hf (lv_sub hl [2, 3, 1, 0] rfl) hEL_5
  obtain ⟨ex_12, hq_11, hf⟩ := of_bd hf
  obtain ⟨x2_13, ex2_13⟩ : ∃ y, y = ex_12 := ⟨_, rfl⟩
  rw [← ex2_13] at hf
  rw [← ex2_13] at hq_11
  refine L_5 FU _ _ _ _ hq_11 (lv_sub hl [2, 3, 1, 0] rfl) (fun ls hl => ?_)
  have hl : lv_has ls 4 [(2, .int x2_13)] := hl
  refine lv_iload_n hx hb dX1_greatestOf_28 rfl (lv_at hl 0 rfl) ?_
  exact hret _ _ _ hf dX1_greatestOf_29
theorem in_X1_leastOf_X1 : ∀ w ∈ wsX10, w ∈ wsX1_leastOf := by decide +kernel
theorem lk_X1_leastOf_0 : Cond.fieldLink RX1 18 "CamStitch$Disc" "stitches" "I" ∈ wsX1_leastOf := by decide +kernel
theorem lk_X1_leastOf_1 : Cond.methodLink RX1 73 Lib.Math.min.name ∈ wsX1_leastOf := by decide +kernel
theorem lk_X1_leastOf_2 : Cond.static Lib.Math.min.name ∈ wsX1_leastOf := by decide +kernel
theorem lk_X1_leastOf_3 : Cond.initialized "java/lang/Math" ∈ wsX1_leastOf := by decide +kernel
theorem lk_X1_leastOf_4 : Cond.code Lib.Math.min.name Lib.Math.min.code 2 (some .int) ∈ wsX1_leastOf := by decide +kernel
set_option maxHeartbeats 4000000 in
set_option maxRecDepth 100000 in
theorem c_X1_leastOf (l : Launch) {z : LZ} (hz : IC z) (d0 : Nat) (hd0 : d0 < 16) (d1 : Nat) (hd1 : d1 < 48 ∧ ¬ d1 % 3 = 0) (w : Mem) {r : Int32} (hf : f_X1_leastOf d0 d1 w = some r) : Met l yX1_leastOf wsX1_leastOf (rm 1 21) (PZ z w [.ref (z.2.1 (3*d0)), .ref (z.2.1 d1)]) (QR (some (.int r))) 0 0 (fun _ => False) := by
  refine mk_Ri (cc := cX1_leastOf) (maxL := 4) (by decide +kernel) rfl (Nat.le_of_ble_eq_true rfl) ?_
  intro p e s m args below meth c hx hb hml hts hown hK hW Q hret ls hl
  have hl : lv_has ls 4 [(0, .ref (z.2.1 (3*d0))), (1, .ref (z.2.1 d1))] := hl
  unfold f_X1_leastOf at hf
  refine lv_aload_n hx hb dX1_leastOf_0 rfl (lv_at hl 1 rfl) ?_
  refine lv_iconst (v := 0) hx hb dX1_leastOf_1 (by decide) ?_
  obtain ⟨g_1, hf⟩ := of_gd hf
  refine ld_AI48 hx hb hK hz hW hd1 g_1 dX1_leastOf_2 ?_
  refine lv_topi (fun v_2 ev_2 => ?_)
  have hf := of_lt ev_2 hf
  refine lv_istore_n (lv' := [(2, .int v_2), (0, .ref (z.2.1 (3*d0))), (1, .ref (z.2.1 d1))]) hx hb dX1_leastOf_3 rfl hl (by decide) rfl (fun ls hl => ?_)
  refine lv_iconst (v := 1) hx hb dX1_leastOf_4 (by decide) ?_
  refine lv_istore_n (lv' := [(3, .int 1), (2, .int v_2), (0, .ref (z.2.1 (3*d0))), (1, .ref (z.2.1 d1))]) hx hb dX1_leastOf_5 rfl hl (by decide) rfl (fun ls hl => ?_)
  have L_5 : ∀ (n : Nat) (x2_3 : Int32) (x3_4 : Int32) (exL_5 : Int32) (ls : Array Slot), f_X1_leastOf_L6 w d0 d1 n x2_3 x3_4 = some exL_5 → lv_has ls 4 [(0, .ref (z.2.1 (3*d0))), (1, .ref (z.2.1 d1)), (2, .int x2_3), (3, .int x3_4)] → (∀ (ls : Array Slot), lv_has ls 4 [(2, .int exL_5)] → W p l e (rm 1 21) s m args below meth c s.heap [] 0 0 Q (F0 m 28 ls [])) → W p l e (rm 1 21) s m args below meth c s.heap [] 0 0 Q (F0 m 6 ls []) := by
    intro n
    induction n with
    | zero =>
      intro x2_3 x3_4 exL_5 ls hf
      have hf : (none : Option (Int32)) = some exL_5 := hf
      cases hf
    | succ n ihL_5 =>
      intro x2_3 x3_4 exL_5 ls hf hl hEL_5
      rw [f_X1_leastOf_L6_s] at hf
      refine lv_iload_n hx hb dX1_leastOf_6 rfl (lv_at hl 3 rfl) ?_
      refine lv_aload_n hx hb dX1_leastOf_7 rfl (lv_at hl 0 rfl) ?_
      refine get_X1_2 hx hb hts in_X1_leastOf_X1 hown hK hz hW hd0 lk_X1_leastOf_0 dX1_leastOf_8 ?_
      refine lv_icmp_ge (tgt := 28) hx hb dX1_leastOf_11 (by decide) (fun c_6 => ?_) (fun c_6 => ?_)
      · have hf := of_t c_6 hf
        have hf := Option.some.inj hf
        subst hf
        exact hEL_5 _ (lv_sub hl [2] rfl)
      · have hf := of_f c_6 hf
        refine lv_iload_n hx hb dX1_leastOf_14 rfl (lv_at hl 2 rfl) ?_
        refine lv_aload_n hx hb dX1_leastOf_15 rfl (lv_at hl 1 rfl) ?_
        refine lv_iload_n hx hb dX1_leastOf_16 rfl (lv_at hl 3 rfl) ?_
        obtain ⟨g_7, hf⟩ := of_gd hf
        refine ld_AI48 hx hb hK hz hW hd1 g_7 dX1_leastOf_17 ?_
        refine lv_topi (fun v_8 ev_8 => ?_)
        have hf := of_lt ev_8 hf
        refine va_mmin hx hb (hml.trans hl.1.symm) hown (hts _ lk_X1_leastOf_1) (hts _ lk_X1_leastOf_2) (hts _ lk_X1_leastOf_3) (hts _ lk_X1_leastOf_4) (Nat.le_of_ble_eq_true rfl) (Nat.le_of_ble_eq_true rfl) (Nat.le_refl _) (Nat.le_refl _) dX1_leastOf_18 ?_
        refine lv_topi (fun v_9 ev_9 => ?_)
        have hf := of_lt (e := imin x2_3 v_8) ev_9 hf
        refine lv_istore_n (lv' := [(2, .int v_9), (0, .ref (z.2.1 (3*d0))), (1, .ref (z.2.1 d1)), (3, .int x3_4)]) hx hb dX1_leastOf_21 rfl hl (by decide) rfl (fun ls hl => ?_)
        obtain ⟨x3_10, ex3_10⟩ : ∃ y : Int32, y = x3_4 + 1 := ⟨_, rfl⟩
        have hf := of_lt ex3_10 hf
        refine lv_iinc (v := x3_10) (lv' := [(3, .int x3_10), (2, .int v_9), (0, .ref (z.2.1 (3*d0))), (1, .ref (z.2.1 d1))]) hx hb dX1_leastOf_22 hl (k := 3) rfl (by rw [ex3_10]; rfl) (by decide) rfl (fun ls hl => ?_)
        refine lv_goto (tgt := 6) hx hb dX1_leastOf_25 (by decide) ?_
        exact ihL_5 _ _ _ _ hf (lv_sub hl [2, 3, 1, 0] rfl) hEL_5
  obtain ⟨ex_12, hq_11, hf⟩ := of_bd hf
  obtain ⟨x2_13, ex2_13⟩ : ∃ y, y = ex_12 := ⟨_, rfl⟩
  rw [← ex2_13] at hf
  rw [← ex2_13] at hq_11
  refine L_5 FU _ _ _ _ hq_11 (lv_sub hl [2, 3, 1, 0] rfl) (fun ls hl => ?_)
  have hl : lv_has ls 4 [(2, .int x2_13)] := hl
  refine lv_iload_n hx hb dX1_leastOf_28 rfl (lv_at hl 0 rfl) ?_
  exact hret _ _ _ hf dX1_leastOf_29
theorem in_X1_firstMissed_X1 : ∀ w ∈ wsX10, w ∈ wsX1_firstMissed := by decide +kernel
theorem in_X1_firstMissed_X5 : ∀ w ∈ wsX50, w ∈ wsX1_firstMissed := by decide +kernel
theorem lk_X1_firstMissed_0 : Cond.fieldLink RX1 56 "CamStitch$Pattern" "ys" "[I" ∈ wsX1_firstMissed := by decide +kernel
theorem lk_X1_firstMissed_1 : Cond.fieldLink RX1 18 "CamStitch$Disc" "stitches" "I" ∈ wsX1_firstMissed := by decide +kernel
theorem lk_X1_firstMissed_2 : Cond.fieldLink RX1 15 "CamStitch$Disc" "feeds" "[I" ∈ wsX1_firstMissed := by decide +kernel
theorem lk_X1_firstMissed_3 : Cond.fieldLink RX1 28 "CamStitch$Pattern" "points" "I" ∈ wsX1_firstMissed := by decide +kernel
theorem lk_X1_firstMissed_4 : Cond.fieldLink RX1 9 "CamStitch$Disc" "swings" "[I" ∈ wsX1_firstMissed := by decide +kernel
theorem lk_X1_firstMissed_5 : Cond.fieldLink RX1 45 "CamStitch$Pattern" "xs" "[I" ∈ wsX1_firstMissed := by decide +kernel
theorem lk_X1_firstMissed_6 : Cond.fieldLink RX1 76 "CamStitch$Pattern" "advance" "I" ∈ wsX1_firstMissed := by decide +kernel
set_option maxHeartbeats 4000000 in
set_option maxRecDepth 100000 in
theorem c_X1_firstMissed (l : Launch) {z : LZ} (hz : IC z) (d0 : Nat) (hd0 : d0 < 16) (d1 : Nat) (hd1 : d1 < 2) (w : Mem) {r : Int32} (hf : f_X1_firstMissed d0 d1 w = some r) : Met l yX1_firstMissed wsX1_firstMissed (rm 1 20) (PZ z w [.ref (z.2.1 (3*d0)), .ref (z.2.1 (60+3*d1))]) (QR (some (.int r))) 0 0 (fun _ => False) := by
  refine mk_Ri (cc := cX1_firstMissed) (maxL := 6) (by decide +kernel) rfl (Nat.le_of_ble_eq_true rfl) ?_
  intro p e s m args below meth c hx hb hml hts hown hK hW Q hret ls hl
  have hl : lv_has ls 6 [(0, .ref (z.2.1 (3*d0))), (1, .ref (z.2.1 (60+3*d1)))] := hl
  unfold f_X1_firstMissed at hf
  refine lv_iconst (v := 1) hx hb dX1_firstMissed_0 (by decide) ?_
  refine lv_istore_n (lv' := [(2, .int 1), (0, .ref (z.2.1 (3*d0))), (1, .ref (z.2.1 (60+3*d1)))]) hx hb dX1_firstMissed_1 rfl hl (by decide) rfl (fun ls hl => ?_)
  refine lv_aload_n hx hb dX1_firstMissed_2 rfl (lv_at hl 2 rfl) ?_
  refine get_X5_1 hx hb hts in_X1_firstMissed_X5 hown hK hz hW hd1 lk_X1_firstMissed_0 dX1_firstMissed_3 ?_
  refine lv_iconst (v := 0) hx hb dX1_firstMissed_6 (by decide) ?_
  obtain ⟨g_1, hf⟩ := of_gd hf
  refine ld_AI24q hx hb hK hz hW hd1 g_1 dX1_firstMissed_7 ?_
  refine lv_topi (fun v_2 ev_2 => ?_)
  have hf := of_lt ev_2 hf
  refine lv_istore_n (lv' := [(3, .int v_2), (2, .int 1), (0, .ref (z.2.1 (3*d0))), (1, .ref (z.2.1 (60+3*d1)))]) hx hb dX1_firstMissed_8 rfl hl (by decide) rfl (fun ls hl => ?_)
  refine lv_iconst (v := 0) hx hb dX1_firstMissed_9 (by decide) ?_
  refine lv_istore (lv' := [(4, .int 0), (3, .int v_2), (2, .int 1), (0, .ref (z.2.1 (3*d0))), (1, .ref (z.2.1 (60+3*d1)))]) hx hb dX1_firstMissed_10 hl (by decide) rfl (fun ls hl => ?_)
  refine lv_iconst (v := 0) hx hb dX1_firstMissed_12 (by decide) ?_
  refine lv_istore (lv' := [(5, .int 0), (4, .int 0), (3, .int v_2), (2, .int 1), (0, .ref (z.2.1 (3*d0))), (1, .ref (z.2.1 (60+3*d1)))]) hx hb dX1_firstMissed_13 hl (by decide) rfl (fun ls hl => ?_)
  have L_7 : ∀ (n : Nat) (x2_3 : Int32) (x3_4 : Int32) (x4_5 : Int32) (x5_6 : Int32) (exL_7 : Int32 × Int32 × Int32) (ls : Array Slot), f_X1_firstMissed_L15 w d0 d1 n x2_3 x3_4 x4_5 x5_6 = some exL_7 → lv_has ls 6 [(0, .ref (z.2.1 (3*d0))), (1, .ref (z.2.1 (60+3*d1))), (2, .int x2_3), (3, .int x3_4), (4, .int x4_5), (5, .int x5_6)] → (∀ (ls : Array Slot), lv_has ls 6 [(0, .ref (z.2.1 (3*d0))), (1, .ref (z.2.1 (60+3*d1))), (2, .int exL_7.1), (3, .int exL_7.2.1), (4, .int exL_7.2.2)] → W p l e (rm 1 20) s m args below meth c s.heap [] 0 0 Q (F0 m 89 ls [])) → W p l e (rm 1 20) s m args below meth c s.heap [] 0 0 Q (F0 m 15 ls []) := by
    intro n
    induction n with
    | zero =>
      intro x2_3 x3_4 x4_5 x5_6 exL_7 ls hf
      have hf : (none : Option (Int32 × Int32 × Int32)) = some exL_7 := hf
      cases hf
    | succ n ihL_7 =>
      intro x2_3 x3_4 x4_5 x5_6 exL_7 ls hf hl hEL_7
      rw [f_X1_firstMissed_L15_s] at hf
      refine lv_iload hx hb dX1_firstMissed_15 (lv_at hl 5 rfl) ?_
      refine lv_aload_n hx hb dX1_firstMissed_17 rfl (lv_at hl 0 rfl) ?_
      refine get_X1_2 hx hb hts in_X1_firstMissed_X1 hown hK hz hW hd0 lk_X1_firstMissed_1 dX1_firstMissed_18 ?_
      refine lv_icmp_ge (tgt := 89) hx hb dX1_firstMissed_21 (by decide) (fun c_8 => ?_) (fun c_8 => ?_)
      · have hf := of_t c_8 hf
        have hf := Option.some.inj hf
        subst hf
        exact hEL_7 _ (lv_sub hl [0, 1, 2, 3, 4] rfl)
      · have hf := of_f c_8 hf
        refine lv_iload_n hx hb dX1_firstMissed_24 rfl (lv_at hl 3 rfl) ?_
        refine lv_aload_n hx hb dX1_firstMissed_25 rfl (lv_at hl 0 rfl) ?_
        refine get_X1_1 hx hb hts in_X1_firstMissed_X1 hown hK hz hW hd0 lk_X1_firstMissed_2 dX1_firstMissed_26 ?_
        refine lv_iload hx hb dX1_firstMissed_29 (lv_at hl 5 rfl) ?_
        obtain ⟨g_9, hf⟩ := of_gd hf
        refine ld_AI48 hx hb hK hz hW (p48_2 hd0) g_9 dX1_firstMissed_31 ?_
        refine lv_topi (fun v_10 ev_10 => ?_)
        have hf := of_lt ev_10 hf
        refine lv_iadd hx hb dX1_firstMissed_32 ?_
        refine lv_topi (fun v_11 ev_11 => ?_)
        have hf := of_lt ev_11 hf
        refine lv_istore_n (lv' := [(3, .int v_11), (0, .ref (z.2.1 (3*d0))), (1, .ref (z.2.1 (60+3*d1))), (2, .int x2_3), (4, .int x4_5), (5, .int x5_6)]) hx hb dX1_firstMissed_33 rfl hl (by decide) rfl (fun ls hl => ?_)
        refine lv_iload_n hx hb dX1_firstMissed_34 rfl (lv_at hl 3 rfl) ?_
        refine lv_aload_n hx hb dX1_firstMissed_35 rfl (lv_at hl 2 rfl) ?_
        refine get_X5_2 hx hb hts in_X1_firstMissed_X5 hown hK hz hW hd1 lk_X1_firstMissed_3 dX1_firstMissed_36 ?_
        refine lv_icmp_ge (tgt := 72) hx hb dX1_firstMissed_39 (by decide) (fun c_12 => ?_) (fun c_12 => ?_)
        · have hf := of_t c_12 hf
          refine lv_iconst (v := 0) hx hb dX1_firstMissed_72 (by decide) ?_
          refine lv_istore (lv' := [(4, .int 0), (3, .int v_11), (0, .ref (z.2.1 (3*d0))), (1, .ref (z.2.1 (60+3*d1))), (2, .int x2_3), (5, .int x5_6)]) hx hb dX1_firstMissed_73 hl (by decide) rfl (fun ls hl => ?_)
          refine lv_iload hx hb dX1_firstMissed_75 (lv_at hl 0 rfl) ?_
          refine lv_if_eq (tgt := 83) hx hb dX1_firstMissed_77 (by decide) (fun c_13 => ?_) (fun c_13 => ?_)
          · have hf := of_t c_13 hf
            obtain ⟨x5_14, ex5_14⟩ : ∃ y : Int32, y = x5_6 + 1 := ⟨_, rfl⟩
            have hf := of_lt ex5_14 hf
            refine lv_iinc (v := x5_14) (lv' := [(5, .int x5_14), (4, .int 0), (3, .int v_11), (0, .ref (z.2.1 (3*d0))), (1, .ref (z.2.1 (60+3*d1))), (2, .int x2_3)]) hx hb dX1_firstMissed_83 hl (k := 5) rfl (by rw [ex5_14]; rfl) (by decide) rfl (fun ls hl => ?_)
            refine lv_goto (tgt := 15) hx hb dX1_firstMissed_86 (by decide) ?_
            exact ihL_7 _ _ _ _ _ _ hf (lv_sub hl [3, 4, 5, 2, 1, 0] rfl) hEL_7
          · have hf := of_f c_13 hf
            obtain ⟨x2_15, ex2_15⟩ : ∃ y : Int32, y = x2_3 + 1 := ⟨_, rfl⟩
            have hf := of_lt ex2_15 hf
            refine lv_iinc (v := x2_15) (lv' := [(2, .int x2_15), (4, .int 0), (3, .int v_11), (0, .ref (z.2.1 (3*d0))), (1, .ref (z.2.1 (60+3*d1))), (5, .int x5_6)]) hx hb dX1_firstMissed_80 hl (k := 4) rfl (by rw [ex2_15]; rfl) (by decide) rfl (fun ls hl => ?_)
            obtain ⟨x5_16, ex5_16⟩ : ∃ y : Int32, y = x5_6 + 1 := ⟨_, rfl⟩
            have hf := of_lt ex5_16 hf
            refine lv_iinc (v := x5_16) (lv' := [(5, .int x5_16), (2, .int x2_15), (4, .int 0), (3, .int v_11), (0, .ref (z.2.1 (3*d0))), (1, .ref (z.2.1 (60+3*d1)))]) hx hb dX1_firstMissed_83 hl (k := 5) rfl (by rw [ex5_16]; rfl) (by decide) rfl (fun ls hl => ?_)
            refine lv_goto (tgt := 15) hx hb dX1_firstMissed_86 (by decide) ?_
            exact ihL_7 _ _ _ _ _ _ hf (lv_sub hl [4, 5, 1, 3, 2, 0] rfl) hEL_7
        · have hf := of_f c_12 hf
          refine lv_aload_n hx hb dX1_firstMissed_42 rfl (lv_at hl 1 rfl) ?_
          refine get_X1_0 hx hb hts in_X1_firstMissed_X1 hown hK hz hW hd0 lk_X1_firstMissed_4 dX1_firstMissed_43 ?_
          refine lv_iload hx hb dX1_firstMissed_46 (lv_at hl 5 rfl) ?_
          refine ld_AI48 hx hb hK hz hW (p48_1 hd0) g_9 dX1_firstMissed_48 ?_
          refine lv_topi (fun v_17 ev_17 => ?_)
          have hf := of_lt ev_17 hf
          refine lv_aload_n hx hb dX1_firstMissed_49 rfl (lv_at hl 2 rfl) ?_
          refine get_X5_0 hx hb hts in_X1_firstMissed_X5 hown hK hz hW hd1 lk_X1_firstMissed_5 dX1_firstMissed_50 ?_
          refine lv_iload_n hx hb dX1_firstMissed_53 rfl (lv_at hl 3 rfl) ?_
          obtain ⟨g_18, hf⟩ := of_gd hf
          refine ld_AI24p hx hb hK hz hW hd1 g_18 dX1_firstMissed_54 ?_
          refine lv_topi (fun v_19 ev_19 => ?_)
          have hf := of_lt ev_19 hf
          have J_21 : ∀ (v_20 : Int32) (ls : Array Slot), v_20 = (if v_17 = v_19 then (if v_11 = (w.1 (62+3*d1) x2_3.toNatClampNeg) then 1 else 0) else 0) → lv_has ls 6 [(0, .ref (z.2.1 (3*d0))), (1, .ref (z.2.1 (60+3*d1))), (2, .int x2_3), (3, .int v_11), (5, .int x5_6)] → W p l e (rm 1 20) s m args below meth c s.heap [] 0 0 Q (F0 m 73 ls [.int v_20]) := by
            intro v_20 ls ev_20 hl
            have hf := of_lt ev_20 hf
            refine lv_istore (lv' := [(4, .int v_20), (0, .ref (z.2.1 (3*d0))), (1, .ref (z.2.1 (60+3*d1))), (2, .int x2_3), (3, .int v_11), (5, .int x5_6)]) hx hb dX1_firstMissed_73 hl (by decide) rfl (fun ls hl => ?_)
            refine lv_iload hx hb dX1_firstMissed_75 (lv_at hl 0 rfl) ?_
            refine lv_if_eq (tgt := 83) hx hb dX1_firstMissed_77 (by decide) (fun c_22 => ?_) (fun c_22 => ?_)
            · have hf := of_t c_22 hf
              obtain ⟨x5_23, ex5_23⟩ : ∃ y : Int32, y = x5_6 + 1 := ⟨_, rfl⟩
              have hf := of_lt ex5_23 hf
              refine lv_iinc (v := x5_23) (lv' := [(5, .int x5_23), (4, .int v_20), (0, .ref (z.2.1 (3*d0))), (1, .ref (z.2.1 (60+3*d1))), (2, .int x2_3), (3, .int v_11)]) hx hb dX1_firstMissed_83 hl (k := 5) rfl (by rw [ex5_23]; rfl) (by decide) rfl (fun ls hl => ?_)
              refine lv_goto (tgt := 15) hx hb dX1_firstMissed_86 (by decide) ?_
              exact ihL_7 _ _ _ _ _ _ hf (lv_sub hl [2, 3, 4, 5, 1, 0] rfl) hEL_7
            · have hf := of_f c_22 hf
              obtain ⟨x2_24, ex2_24⟩ : ∃ y : Int32, y = x2_3 + 1 := ⟨_, rfl⟩
              have hf := of_lt ex2_24 hf
              refine lv_iinc (v := x2_24) (lv' := [(2, .int x2_24), (4, .int v_20), (0, .ref (z.2.1 (3*d0))), (1, .ref (z.2.1 (60+3*d1))), (3, .int v_11), (5, .int x5_6)]) hx hb dX1_firstMissed_80 hl (k := 3) rfl (by rw [ex2_24]; rfl) (by decide) rfl (fun ls hl => ?_)
              obtain ⟨x5_25, ex5_25⟩ : ∃ y : Int32, y = x5_6 + 1 := ⟨_, rfl⟩
              have hf := of_lt ex5_25 hf
              refine lv_iinc (v := x5_25) (lv' := [(5, .int x5_25), (2, .int x2_24), (4, .int v_20), (0, .ref (z.2.1 (3*d0))), (1, .ref (z.2.1 (60+3*d1))), (3, .int v_11)]) hx hb dX1_firstMissed_83 hl (k := 5) rfl (by rw [ex5_25]; rfl) (by decide) rfl (fun ls hl => ?_)
              refine lv_goto (tgt := 15) hx hb dX1_firstMissed_86 (by decide) ?_
              exact ihL_7 _ _ _ _ _ _ hf (lv_sub hl [3, 4, 1, 5, 2, 0] rfl) hEL_7
          refine lv_icmp_ne (tgt := 72) hx hb dX1_firstMissed_55 (by decide) (fun c_26 => ?_) (fun c_26 => ?_)
          · refine lv_iconst (v := 0) hx hb dX1_firstMissed_72 (by decide) ?_
            exact J_21 _ _ (by rw [if_neg c_26]) (lv_sub hl [1, 2, 3, 0, 5] rfl)
          · refine lv_iload_n hx hb dX1_firstMissed_58 rfl (lv_at hl 0 rfl) ?_
            refine lv_aload_n hx hb dX1_firstMissed_59 rfl (lv_at hl 2 rfl) ?_
            refine get_X5_1 hx hb hts in_X1_firstMissed_X5 hown hK hz hW hd1 lk_X1_firstMissed_0 dX1_firstMissed_60 ?_
            refine lv_iload_n hx hb dX1_firstMissed_63 rfl (lv_at hl 3 rfl) ?_
            refine ld_AI24q hx hb hK hz hW hd1 g_18 dX1_firstMissed_64 ?_
            refine lv_icmp_ne (tgt := 72) hx hb dX1_firstMissed_65 (by decide) (fun c_27 => ?_) (fun c_27 => ?_)
            · refine lv_iconst (v := 0) hx hb dX1_firstMissed_72 (by decide) ?_
              exact J_21 _ _ (by rw [if_pos c_26, if_neg c_27]) (lv_sub hl [1, 2, 3, 0, 5] rfl)
            · refine lv_iconst (v := 1) hx hb dX1_firstMissed_68 (by decide) ?_
              refine lv_goto (tgt := 73) hx hb dX1_firstMissed_69 (by decide) ?_
              exact J_21 _ _ (by rw [if_pos c_26, if_pos c_27]) (lv_sub hl [1, 2, 3, 0, 5] rfl)
  obtain ⟨ex_29, hq_28, hf⟩ := of_bd hf
  obtain ⟨x2_30, x3_31, x4_32⟩ := ex_29
  have hf := of_tp3 hf
  refine L_7 FU _ _ _ _ _ _ hq_28 (lv_sub hl [4, 5, 3, 2, 1, 0] rfl) (fun ls hl => ?_)
  have hl : lv_has ls 6 [(0, .ref (z.2.1 (3*d0))), (1, .ref (z.2.1 (60+3*d1))), (2, .int x2_30), (3, .int x3_31), (4, .int x4_32)] := hl
  refine lv_iload_n hx hb dX1_firstMissed_89 rfl (lv_at hl 2 rfl) ?_
  refine lv_aload_n hx hb dX1_firstMissed_90 rfl (lv_at hl 1 rfl) ?_
  refine get_X5_2 hx hb hts in_X1_firstMissed_X5 hown hK hz hW hd1 lk_X1_firstMissed_3 dX1_firstMissed_91 ?_
  refine lv_icmp_lt (tgt := 102) hx hb dX1_firstMissed_94 (by decide) (fun c_33 => ?_) (fun c_33 => ?_)
  · have hf := of_t c_33 hf
    refine lv_iload_n hx hb dX1_firstMissed_102 rfl (lv_at hl 2 rfl) ?_
    exact hret _ _ _ hf dX1_firstMissed_103
  · have hf := of_f c_33 hf
    refine lv_iload hx hb dX1_firstMissed_97 (lv_at hl 4 rfl) ?_
    refine lv_if_eq (tgt := 104) hx hb dX1_firstMissed_99 (by decide) (fun c_34 => ?_) (fun c_34 => ?_)
    · have hf := of_t c_34 hf
      refine lv_aload_n hx hb dX1_firstMissed_104 rfl (lv_at hl 0 rfl) ?_
      obtain ⟨r_35, hq_36, hf⟩ := of_bd hf
      refine m_goRi (va_runV (As := []) (rest := []) ⟨hx, hb, hml, hown, hts⟩ (c_X1_needle l hz d0 hd0 w hq_36) (cwV 0 hts gX1_firstMissed_X1_needle rfl rfl rfl (by decide +kernel) ⟨Nat.le_of_ble_eq_true rfl, Nat.le_of_ble_eq_true rfl⟩) (pre_X1 hK hz hW hd0 _) rfl rfl hl.1 rfl (lv_room (Nat.le_of_ble_eq_true rfl)) dX1_firstMissed_105 ⟨Nat.le_refl _, Nat.le_refl _⟩) ?_
      refine lv_aload_n hx hb dX1_firstMissed_108 rfl (lv_at hl 1 rfl) ?_
      refine get_X5_0 hx hb hts in_X1_firstMissed_X5 hown hK hz hW hd1 lk_X1_firstMissed_5 dX1_firstMissed_109 ?_
      refine lv_iconst (v := 0) hx hb dX1_firstMissed_112 (by decide) ?_
      refine ld_AI24p hx hb hK hz hW hd1 g_1 dX1_firstMissed_113 ?_
      refine lv_topi (fun v_37 ev_37 => ?_)
      have hf := of_lt ev_37 hf
      have J_39 : ∀ (v_38 : Int32) (ls : Array Slot), v_38 = (if r_35 = v_37 then (if x3_31 = ((w.1 (62+3*d1) (0 : Int32).toNatClampNeg) + (w.1 (60+3*d1) 3)) then 1 else 0) else 0) → lv_has ls 6 [(2, .int x2_30)] → W p l e (rm 1 20) s m args below meth c s.heap [] 0 0 Q (F0 m 137 ls [.int v_38]) := by
        intro v_38 ls ev_38 hl
        have hf := of_lt ev_38 hf
        refine lv_istore (lv' := [(5, .int v_38), (2, .int x2_30)]) hx hb dX1_firstMissed_137 hl (by decide) rfl (fun ls hl => ?_)
        refine lv_iload hx hb dX1_firstMissed_139 (lv_at hl 0 rfl) ?_
        have J_41 : ∀ (v_40 : Int32) (ls : Array Slot), v_40 = (if v_38 = 0 then x2_30 else (x2_30 + 1)) → lv_has ls 6 [] → W p l e (rm 1 20) s m args below meth c s.heap [] 0 0 Q (F0 m 151 ls [.int v_40]) := by
          intro v_40 ls ev_40 hl
          have hf := of_lt ev_40 hf
          exact hret _ _ _ hf dX1_firstMissed_151
        refine lv_if_eq (tgt := 150) hx hb dX1_firstMissed_141 (by decide) (fun c_42 => ?_) (fun c_42 => ?_)
        · refine lv_iload_n hx hb dX1_firstMissed_150 rfl (lv_at hl 1 rfl) ?_
          exact J_41 _ _ (by rw [if_pos c_42]) (lv_sub hl [] rfl)
        · refine lv_iload_n hx hb dX1_firstMissed_144 rfl (lv_at hl 1 rfl) ?_
          refine lv_iconst (v := 1) hx hb dX1_firstMissed_145 (by decide) ?_
          refine lv_iadd hx hb dX1_firstMissed_146 ?_
          refine lv_goto (tgt := 151) hx hb dX1_firstMissed_147 (by decide) ?_
          exact J_41 _ _ (by rw [if_neg c_42]) (lv_sub hl [] rfl)
      refine lv_icmp_ne (tgt := 136) hx hb dX1_firstMissed_114 (by decide) (fun c_43 => ?_) (fun c_43 => ?_)
      · refine lv_iconst (v := 0) hx hb dX1_firstMissed_136 (by decide) ?_
        exact J_39 _ _ (by rw [if_neg c_43]) (lv_sub hl [2] rfl)
      · refine lv_iload_n hx hb dX1_firstMissed_117 rfl (lv_at hl 3 rfl) ?_
        refine lv_aload_n hx hb dX1_firstMissed_118 rfl (lv_at hl 1 rfl) ?_
        refine get_X5_1 hx hb hts in_X1_firstMissed_X5 hown hK hz hW hd1 lk_X1_firstMissed_0 dX1_firstMissed_119 ?_
        refine lv_iconst (v := 0) hx hb dX1_firstMissed_122 (by decide) ?_
        refine ld_AI24q hx hb hK hz hW hd1 g_1 dX1_firstMissed_123 ?_
        refine lv_aload_n hx hb dX1_firstMissed_124 rfl (lv_at hl 1 rfl) ?_
        refine get_X5_3 hx hb hts in_X1_firstMissed_X5 hown hK hz hW hd1 lk_X1_firstMissed_6 dX1_firstMissed_125 ?_
        refine lv_iadd hx hb dX1_firstMissed_128 ?_
        refine lv_icmp_ne (tgt := 136) hx hb dX1_firstMissed_129 (by decide) (fun c_44 => ?_) (fun c_44 => ?_)
        · refine lv_iconst (v := 0) hx hb dX1_firstMissed_136 (by decide) ?_
          exact J_39 _ _ (by rw [if_pos c_43, if_neg c_44]) (lv_sub hl [2] rfl)
        · refine lv_iconst (v := 1) hx hb dX1_firstMissed_132 (by decide) ?_
          refine lv_goto (tgt := 137) hx hb dX1_firstMissed_133 (by decide) ?_
          exact J_39 _ _ (by rw [if_pos c_43, if_pos c_44]) (lv_sub hl [2] rfl)
    · have hf := of_f c_34 hf
      refine lv_iload_n hx hb dX1_firstMissed_102 rfl (lv_at hl 2 rfl) ?_
      exact hret _ _ _ hf dX1_firstMissed_103
set_option maxHeartbeats 4000000 in
set_option maxRecDepth 100000 in
theorem c_X2_speedOf (l : Launch) {z : LZ} (hz : IC z) (x0 : Int32) (w : Mem) {r : Int32} (hf : f_X2_speedOf x0 = some r) : Met l yX2_speedOf wsX2_speedOf (rm 0 0) (PZ z w [.int x0]) (QR (some (.int r))) 0 0 (fun _ => False) := by
  refine mk_Ri (cc := cX2_speedOf) (maxL := 1) (by decide +kernel) rfl (Nat.le_of_ble_eq_true rfl) ?_
  intro p e s m args below meth c hx hb hml hts hown hK hW Q hret ls hl
  have hl : lv_has ls 1 [(0, .int x0)] := hl
  unfold f_X2_speedOf at hf
  refine lv_iload_n hx hb dX2_speedOf_0 rfl (lv_at hl 0 rfl) ?_
  refine lv_bipush (v := 65) hx hb dX2_speedOf_1 (by decide) ?_
  refine lv_idiv hx hb dX2_speedOf_3 (by decide) ?_
  refine lv_iconst (v := 1) hx hb dX2_speedOf_4 (by decide) ?_
  refine lv_iadd hx hb dX2_speedOf_5 ?_
  exact hret _ _ _ hf dX2_speedOf_6
set_option maxHeartbeats 4000000 in
set_option maxRecDepth 100000 in
theorem c_X2_swingOf (l : Launch) {z : LZ} (hz : IC z) (x0 : Int32) (w : Mem) {r : Int32} (hf : f_X2_swingOf x0 = some r) : Met l yX2_swingOf wsX2_swingOf (rm 0 0) (PZ z w [.int x0]) (QR (some (.int r))) 0 0 (fun _ => False) := by
  refine mk_Ri (cc := cX2_swingOf) (maxL := 1) (by decide +kernel) rfl (Nat.le_of_ble_eq_true rfl) ?_
  intro p e s m args below meth c hx hb hml hts hown hK hW Q hret ls hl
  have hl : lv_has ls 1 [(0, .int x0)] := hl
  unfold f_X2_swingOf at hf
  refine lv_iload_n hx hb dX2_swingOf_0 rfl (lv_at hl 0 rfl) ?_
  refine lv_bipush (v := 13) hx hb dX2_swingOf_1 (by decide) ?_
  refine lv_irem hx hb dX2_swingOf_3 (by decide) ?_
  refine lv_topi (fun v_1 ev_1 => ?_)
  have hf := of_lt (e := irm x0 13) ev_1 hf
  refine lv_bipush (v := 6) hx hb dX2_swingOf_4 (by decide) ?_
  refine lv_isub hx hb dX2_swingOf_6 ?_
  exact hret _ _ _ hf dX2_swingOf_7
set_option maxHeartbeats 4000000 in
set_option maxRecDepth 100000 in
theorem c_X2_timingOf (l : Launch) {z : LZ} (hz : IC z) (x0 : Int32) (w : Mem) {r : Int32} (hf : f_X2_timingOf x0 = some r) : Met l yX2_timingOf wsX2_timingOf (rm 0 0) (PZ z w [.int x0]) (QR (some (.int r))) 0 0 (fun _ => False) := by
  refine mk_Ri (cc := cX2_timingOf) (maxL := 1) (by decide +kernel) rfl (Nat.le_of_ble_eq_true rfl) ?_
  intro p e s m args below meth c hx hb hml hts hown hK hW Q hret ls hl
  have hl : lv_has ls 1 [(0, .int x0)] := hl
  unfold f_X2_timingOf at hf
  refine lv_iload_n hx hb dX2_timingOf_0 rfl (lv_at hl 0 rfl) ?_
  refine lv_bipush (v := 28) hx hb dX2_timingOf_1 (by decide) ?_
  refine lv_idiv hx hb dX2_timingOf_3 (by decide) ?_
  refine lv_iconst (v := 4) hx hb dX2_timingOf_4 (by decide) ?_
  refine lv_isub hx hb dX2_timingOf_5 ?_
  exact hret _ _ _ hf dX2_timingOf_6
set_option maxHeartbeats 4000000 in
set_option maxRecDepth 100000 in
theorem c_X2_bentOf (l : Launch) {z : LZ} (hz : IC z) (x0 : Int32) (w : Mem) {r : Int32} (hf : f_X2_bentOf x0 = some r) : Met l yX2_bentOf wsX2_bentOf (rm 0 0) (PZ z w [.int x0]) (QR (some (.int r))) 0 0 (fun _ => False) := by
  refine mk_Ri (cc := cX2_bentOf) (maxL := 1) (by decide +kernel) rfl (Nat.le_of_ble_eq_true rfl) ?_
  intro p e s m args below meth c hx hb hml hts hown hK hW Q hret ls hl
  have hl : lv_has ls 1 [(0, .int x0)] := hl
  unfold f_X2_bentOf at hf
  refine lv_iload_n hx hb dX2_bentOf_0 rfl (lv_at hl 0 rfl) ?_
  refine lv_iconst (v := 4) hx hb dX2_bentOf_1 (by decide) ?_
  refine lv_idiv hx hb dX2_bentOf_2 (by decide) ?_
  refine lv_bipush (v := 7) hx hb dX2_bentOf_3 (by decide) ?_
  refine lv_irem hx hb dX2_bentOf_5 (by decide) ?_
  refine lv_topi (fun v_1 ev_1 => ?_)
  have hf := of_lt (e := irm (x0 / 4) 7) ev_1 hf
  refine lv_iconst (v := 3) hx hb dX2_bentOf_6 (by decide) ?_
  refine lv_isub hx hb dX2_bentOf_7 ?_
  exact hret _ _ _ hf dX2_bentOf_8
set_option maxHeartbeats 4000000 in
set_option maxRecDepth 100000 in
theorem c_X2_wornOf (l : Launch) {z : LZ} (hz : IC z) (x0 : Int32) (w : Mem) {r : Int32} (hf : f_X2_wornOf x0 = some r) : Met l yX2_wornOf wsX2_wornOf (rm 0 0) (PZ z w [.int x0]) (QR (some (.int r))) 0 0 (fun _ => False) := by
  refine mk_Ri (cc := cX2_wornOf) (maxL := 1) (by decide +kernel) rfl (Nat.le_of_ble_eq_true rfl) ?_
  intro p e s m args below meth c hx hb hml hts hown hK hW Q hret ls hl
  have hl : lv_has ls 1 [(0, .int x0)] := hl
  unfold f_X2_wornOf at hf
  refine lv_iload_n hx hb dX2_wornOf_0 rfl (lv_at hl 0 rfl) ?_
  refine lv_iconst (v := 4) hx hb dX2_wornOf_1 (by decide) ?_
  refine lv_irem hx hb dX2_wornOf_2 (by decide) ?_
  refine lv_topi (fun v_1 ev_1 => ?_)
  have hf := of_lt (e := irm x0 4) ev_1 hf
  exact hret _ _ _ hf dX2_wornOf_3
theorem lk_X2_skips_0 : Cond.methodLink RX2 35 Lib.Math.abs.name ∈ wsX2_skips := by decide +kernel
theorem lk_X2_skips_1 : Cond.static Lib.Math.abs.name ∈ wsX2_skips := by decide +kernel
theorem lk_X2_skips_2 : Cond.initialized "java/lang/Math" ∈ wsX2_skips := by decide +kernel
theorem lk_X2_skips_3 : Cond.code Lib.Math.abs.name Lib.Math.abs.code 1 (some .int) ∈ wsX2_skips := by decide +kernel
set_option maxHeartbeats 4000000 in
set_option maxRecDepth 100000 in
theorem c_X2_skips (l : Launch) {z : LZ} (hz : IC z) (x0 : Int32) (x1 : Int32) (x2 : Int32) (w : Mem) {r : Int32} (hf : f_X2_skips x0 x1 x2 = some r) : Met l yX2_skips wsX2_skips (rm 1 21) (PZ z w [.int x0, .int x1, .int x2]) (QR (some (.int r))) 0 0 (fun _ => False) := by
  refine mk_Rz (cc := cX2_skips) (maxL := 3) (by decide +kernel) rfl (Nat.le_of_ble_eq_true rfl) ?_
  intro p e s m args below meth c hx hb hml hts hown hK hW Q hret ls hl
  have hl : lv_has ls 3 [(0, .int x0), (1, .int x1), (2, .int x2)] := hl
  unfold f_X2_skips at hf
  refine lv_iconst (v := 2) hx hb dX2_skips_0 (by decide) ?_
  refine lv_iload_n hx hb dX2_skips_1 rfl (lv_at hl 0 rfl) ?_
  obtain ⟨r_1, hq_2, hf⟩ := of_bd hf
  refine m_goRi (va_runS (As := [.int x0]) (rest := [.int 2]) ⟨hx, hb, hml, hown, hts⟩ (c_X2_timingOf l hz x0 w hq_2) (va_cwS 1 hts gX2_skips_X2_timingOf rfl rfl rfl (by decide +kernel) ⟨Nat.le_of_ble_eq_true rfl, Nat.le_of_ble_eq_true rfl⟩) (m_preS hK hW _) rfl rfl hl.1 rfl (lv_room (Nat.le_of_ble_eq_true rfl)) dX2_skips_2 ⟨Nat.le_refl _, Nat.le_refl _⟩) ?_
  refine lv_imul hx hb dX2_skips_5 ?_
  refine lv_iload_n hx hb dX2_skips_6 rfl (lv_at hl 0 rfl) ?_
  obtain ⟨r_3, hq_4, hf⟩ := of_bd hf
  refine m_goRi (va_runS (As := [.int x0]) (rest := [.int (2 * r_1)]) ⟨hx, hb, hml, hown, hts⟩ (c_X2_bentOf l hz x0 w hq_4) (va_cwS 1 hts gX2_skips_X2_bentOf rfl rfl rfl (by decide +kernel) ⟨Nat.le_of_ble_eq_true rfl, Nat.le_of_ble_eq_true rfl⟩) (m_preS hK hW _) rfl rfl hl.1 rfl (lv_room (Nat.le_of_ble_eq_true rfl)) dX2_skips_7 ⟨Nat.le_refl _, Nat.le_refl _⟩) ?_
  refine lv_iload_n hx hb dX2_skips_10 rfl (lv_at hl 2 rfl) ?_
  refine lv_imul hx hb dX2_skips_11 ?_
  refine lv_iadd hx hb dX2_skips_12 ?_
  refine va_mabs hx hb (hml.trans hl.1.symm) hown (hts _ lk_X2_skips_0) (hts _ lk_X2_skips_1) (hts _ lk_X2_skips_2) (hts _ lk_X2_skips_3) (Nat.le_of_ble_eq_true rfl) (Nat.le_of_ble_eq_true rfl) (Nat.le_refl _) (Nat.le_refl _) dX2_skips_13 ?_
  refine lv_topi (fun v_5 ev_5 => ?_)
  have hf := of_lt (e := iabs ((2 * r_1) + (r_3 * x2))) ev_5 hf
  refine lv_bipush (v := 9) hx hb dX2_skips_16 (by decide) ?_
  refine lv_iload_n hx hb dX2_skips_18 rfl (lv_at hl 0 rfl) ?_
  obtain ⟨r_6, hq_7, hf⟩ := of_bd hf
  refine m_goRi (va_runS (As := [.int x0]) (rest := [.int 9, .int v_5]) ⟨hx, hb, hml, hown, hts⟩ (c_X2_wornOf l hz x0 w hq_7) (va_cwS 1 hts gX2_skips_X2_wornOf rfl rfl rfl (by decide +kernel) ⟨Nat.le_of_ble_eq_true rfl, Nat.le_of_ble_eq_true rfl⟩) (m_preS hK hW _) rfl rfl hl.1 rfl (lv_room (Nat.le_of_ble_eq_true rfl)) dX2_skips_19 ⟨Nat.le_refl _, Nat.le_refl _⟩) ?_
  refine lv_isub hx hb dX2_skips_22 ?_
  refine lv_iload_n hx hb dX2_skips_23 rfl (lv_at hl 1 rfl) ?_
  refine lv_isub hx hb dX2_skips_24 ?_
  have J_9 : ∀ (v_8 : Int32) (ls : Array Slot), v_8 = (if v_5 ≤ ((9 - r_6) - x1) then 0 else 1) → lv_has ls 3 [] → W p l e (rm 1 21) s m args below meth c s.heap [] 0 0 Q (F0 m 33 ls [.int v_8]) := by
    intro v_8 ls ev_8 hl
    have hf := of_lt ev_8 hf
    obtain ⟨g_10, hf⟩ := of_gd hf
    exact hret _ _ _ hf (bz_n g_10) dX2_skips_33
  refine lv_icmp_le (tgt := 32) hx hb dX2_skips_25 (by decide) (fun c_11 => ?_) (fun c_11 => ?_)
  · refine lv_iconst (v := 0) hx hb dX2_skips_32 (by decide) ?_
    exact J_9 _ _ (by rw [if_pos c_11]) (lv_sub hl [] rfl)
  · refine lv_iconst (v := 1) hx hb dX2_skips_28 (by decide) ?_
    refine lv_goto (tgt := 33) hx hb dX2_skips_29 (by decide) ?_
    exact J_9 _ _ (by rw [if_neg c_11]) (lv_sub hl [] rfl)
set_option maxHeartbeats 4000000 in
set_option maxRecDepth 100000 in
theorem c_X2_clothOf (l : Launch) {z : LZ} (hz : IC z) (x0 : Int32) (w : Mem) {r : Int32} (hf : f_X2_clothOf x0 = some r) : Met l yX2_clothOf wsX2_clothOf (rm 0 0) (PZ z w [.int x0]) (QR (some (.int r))) 0 0 (fun _ => False) := by
  refine mk_Ri (cc := cX2_clothOf) (maxL := 1) (by decide +kernel) rfl (Nat.le_of_ble_eq_true rfl) ?_
  intro p e s m args below meth c hx hb hml hts hown hK hW Q hret ls hl
  have hl : lv_has ls 1 [(0, .int x0)] := hl
  unfold f_X2_clothOf at hf
  refine lv_iload_n hx hb dX2_clothOf_0 rfl (lv_at hl 0 rfl) ?_
  refine lv_bipush (v := 13) hx hb dX2_clothOf_1 (by decide) ?_
  refine lv_idiv hx hb dX2_clothOf_3 (by decide) ?_
  refine lv_iconst (v := 5) hx hb dX2_clothOf_4 (by decide) ?_
  refine lv_irem hx hb dX2_clothOf_5 (by decide) ?_
  refine lv_topi (fun v_1 ev_1 => ?_)
  have hf := of_lt (e := irm (x0 / 13) 5) ev_1 hf
  refine lv_iconst (v := 1) hx hb dX2_clothOf_6 (by decide) ?_
  refine lv_iadd hx hb dX2_clothOf_7 ?_
  exact hret _ _ _ hf dX2_clothOf_8
set_option maxHeartbeats 4000000 in
set_option maxRecDepth 100000 in
theorem c_X2_pullsAbove (l : Launch) {z : LZ} (hz : IC z) (x0 : Int32) (w : Mem) {r : Int32} (hf : f_X2_pullsAbove x0 = some r) : Met l yX2_pullsAbove wsX2_pullsAbove (rm 0 0) (PZ z w [.int x0]) (QR (some (.int r))) 0 0 (fun _ => False) := by
  refine mk_Ri (cc := cX2_pullsAbove) (maxL := 3) (by decide +kernel) rfl (Nat.le_of_ble_eq_true rfl) ?_
  intro p e s m args below meth c hx hb hml hts hown hK hW Q hret ls hl
  have hl : lv_has ls 3 [(0, .int x0)] := hl
  unfold f_X2_pullsAbove at hf
  refine lv_iconst (v := 0) hx hb dX2_pullsAbove_0 (by decide) ?_
  refine lv_istore_n (lv' := [(1, .int 0), (0, .int x0)]) hx hb dX2_pullsAbove_1 rfl hl (by decide) rfl (fun ls hl => ?_)
  refine lv_iconst (v := 0) hx hb dX2_pullsAbove_2 (by decide) ?_
  refine lv_istore_n (lv' := [(2, .int 0), (1, .int 0), (0, .int x0)]) hx hb dX2_pullsAbove_3 rfl hl (by decide) rfl (fun ls hl => ?_)
  have L_3 : ∀ (n : Nat) (x1_1 : Int32) (x2_2 : Int32) (exL_3 : Int32) (ls : Array Slot), f_X2_pullsAbove_L4 x0 n x1_1 x2_2 = some exL_3 → lv_has ls 3 [(0, .int x0), (1, .int x1_1), (2, .int x2_2)] → (∀ (ls : Array Slot), lv_has ls 3 [(1, .int exL_3)] → W p l e (rm 0 0) s m args below meth c s.heap [] 0 0 Q (F0 m 35 ls [])) → W p l e (rm 0 0) s m args below meth c s.heap [] 0 0 Q (F0 m 4 ls []) := by
    intro n
    induction n with
    | zero =>
      intro x1_1 x2_2 exL_3 ls hf
      have hf : (none : Option (Int32)) = some exL_3 := hf
      cases hf
    | succ n ihL_3 =>
      intro x1_1 x2_2 exL_3 ls hf hl hEL_3
      rw [f_X2_pullsAbove_L4_s] at hf
      refine lv_iload_n hx hb dX2_pullsAbove_4 rfl (lv_at hl 2 rfl) ?_
      refine lv_bipush (v := 11) hx hb dX2_pullsAbove_5 (by decide) ?_
      refine lv_icmp_ge (tgt := 35) hx hb dX2_pullsAbove_7 (by decide) (fun c_4 => ?_) (fun c_4 => ?_)
      · have hf := of_t c_4 hf
        have hf := Option.some.inj hf
        subst hf
        exact hEL_3 _ (lv_sub hl [1] rfl)
      · have hf := of_f c_4 hf
        refine lv_bipush (v := 10) hx hb dX2_pullsAbove_10 (by decide) ?_
        refine lv_iload_n hx hb dX2_pullsAbove_12 rfl (lv_at hl 2 rfl) ?_
        refine lv_iconst (v := 5) hx hb dX2_pullsAbove_13 (by decide) ?_
        refine lv_isub hx hb dX2_pullsAbove_14 ?_
        refine lv_imul hx hb dX2_pullsAbove_15 ?_
        refine lv_bipush (v := 6) hx hb dX2_pullsAbove_16 (by decide) ?_
        refine lv_iload_n hx hb dX2_pullsAbove_18 rfl (lv_at hl 0 rfl) ?_
        refine lv_imul hx hb dX2_pullsAbove_19 ?_
        refine lv_icmp_le (tgt := 29) hx hb dX2_pullsAbove_20 (by decide) (fun c_5 => ?_) (fun c_5 => ?_)
        · have hf := of_t c_5 hf
          obtain ⟨x2_6, ex2_6⟩ : ∃ y : Int32, y = x2_2 + 1 := ⟨_, rfl⟩
          have hf := of_lt ex2_6 hf
          refine lv_iinc (v := x2_6) (lv' := [(2, .int x2_6), (0, .int x0), (1, .int x1_1)]) hx hb dX2_pullsAbove_29 hl (k := 2) rfl (by rw [ex2_6]; rfl) (by decide) rfl (fun ls hl => ?_)
          refine lv_goto (tgt := 4) hx hb dX2_pullsAbove_32 (by decide) ?_
          exact ihL_3 _ _ _ _ hf (lv_sub hl [1, 2, 0] rfl) hEL_3
        · have hf := of_f c_5 hf
          refine lv_iload_n hx hb dX2_pullsAbove_23 rfl (lv_at hl 1 rfl) ?_
          refine lv_iconst (v := 1) hx hb dX2_pullsAbove_24 (by decide) ?_
          refine lv_iload_n hx hb dX2_pullsAbove_25 rfl (lv_at hl 2 rfl) ?_
          refine lv_ishl hx hb dX2_pullsAbove_26 ?_
          refine lv_topi (fun v_7 ev_7 => ?_)
          have hf := of_lt ev_7 hf
          refine lv_ior hx hb dX2_pullsAbove_27 ?_
          refine lv_topi (fun v_8 ev_8 => ?_)
          have hf := of_lt ev_8 hf
          refine lv_istore_n (lv' := [(1, .int v_8), (0, .int x0), (2, .int x2_2)]) hx hb dX2_pullsAbove_28 rfl hl (by decide) rfl (fun ls hl => ?_)
          obtain ⟨x2_9, ex2_9⟩ : ∃ y : Int32, y = x2_2 + 1 := ⟨_, rfl⟩
          have hf := of_lt ex2_9 hf
          refine lv_iinc (v := x2_9) (lv' := [(2, .int x2_9), (1, .int v_8), (0, .int x0)]) hx hb dX2_pullsAbove_29 hl (k := 2) rfl (by rw [ex2_9]; rfl) (by decide) rfl (fun ls hl => ?_)
          refine lv_goto (tgt := 4) hx hb dX2_pullsAbove_32 (by decide) ?_
          exact ihL_3 _ _ _ _ hf (lv_sub hl [2, 1, 0] rfl) hEL_3
  obtain ⟨ex_11, hq_10, hf⟩ := of_bd hf
  obtain ⟨x1_12, ex1_12⟩ : ∃ y, y = ex_11 := ⟨_, rfl⟩
  rw [← ex1_12] at hf
  rw [← ex1_12] at hq_10
  refine L_3 FU _ _ _ _ hq_10 (lv_sub hl [2, 1, 0] rfl) (fun ls hl => ?_)
  have hl : lv_has ls 3 [(1, .int x1_12)] := hl
  refine lv_iload_n hx hb dX2_pullsAbove_35 rfl (lv_at hl 0 rfl) ?_
  exact hret _ _ _ hf dX2_pullsAbove_36
set_option maxHeartbeats 4000000 in
set_option maxRecDepth 100000 in
theorem c_X2_pullsBelow (l : Launch) {z : LZ} (hz : IC z) (x0 : Int32) (w : Mem) {r : Int32} (hf : f_X2_pullsBelow x0 = some r) : Met l yX2_pullsBelow wsX2_pullsBelow (rm 0 0) (PZ z w [.int x0]) (QR (some (.int r))) 0 0 (fun _ => False) := by
  refine mk_Ri (cc := cX2_pullsBelow) (maxL := 3) (by decide +kernel) rfl (Nat.le_of_ble_eq_true rfl) ?_
  intro p e s m args below meth c hx hb hml hts hown hK hW Q hret ls hl
  have hl : lv_has ls 3 [(0, .int x0)] := hl
  unfold f_X2_pullsBelow at hf
  refine lv_iconst (v := 0) hx hb dX2_pullsBelow_0 (by decide) ?_
  refine lv_istore_n (lv' := [(1, .int 0), (0, .int x0)]) hx hb dX2_pullsBelow_1 rfl hl (by decide) rfl (fun ls hl => ?_)
  refine lv_iconst (v := 0) hx hb dX2_pullsBelow_2 (by decide) ?_
  refine lv_istore_n (lv' := [(2, .int 0), (1, .int 0), (0, .int x0)]) hx hb dX2_pullsBelow_3 rfl hl (by decide) rfl (fun ls hl => ?_)
  have L_3 : ∀ (n : Nat) (x1_1 : Int32) (x2_2 : Int32) (exL_3 : Int32) (ls : Array Slot), f_X2_pullsBelow_L4 x0 n x1_1 x2_2 = some exL_3 → lv_has ls 3 [(0, .int x0), (1, .int x1_1), (2, .int x2_2)] → (∀ (ls : Array Slot), lv_has ls 3 [(1, .int exL_3)] → W p l e (rm 0 0) s m args below meth c s.heap [] 0 0 Q (F0 m 35 ls [])) → W p l e (rm 0 0) s m args below meth c s.heap [] 0 0 Q (F0 m 4 ls []) := by
    intro n
    induction n with
    | zero =>
      intro x1_1 x2_2 exL_3 ls hf
      have hf : (none : Option (Int32)) = some exL_3 := hf
      cases hf
    | succ n ihL_3 =>
      intro x1_1 x2_2 exL_3 ls hf hl hEL_3
      rw [f_X2_pullsBelow_L4_s] at hf
      refine lv_iload_n hx hb dX2_pullsBelow_4 rfl (lv_at hl 2 rfl) ?_
      refine lv_bipush (v := 11) hx hb dX2_pullsBelow_5 (by decide) ?_
      refine lv_icmp_ge (tgt := 35) hx hb dX2_pullsBelow_7 (by decide) (fun c_4 => ?_) (fun c_4 => ?_)
      · have hf := of_t c_4 hf
        have hf := Option.some.inj hf
        subst hf
        exact hEL_3 _ (lv_sub hl [1] rfl)
      · have hf := of_f c_4 hf
        refine lv_bipush (v := 10) hx hb dX2_pullsBelow_10 (by decide) ?_
        refine lv_iload_n hx hb dX2_pullsBelow_12 rfl (lv_at hl 2 rfl) ?_
        refine lv_iconst (v := 5) hx hb dX2_pullsBelow_13 (by decide) ?_
        refine lv_isub hx hb dX2_pullsBelow_14 ?_
        refine lv_imul hx hb dX2_pullsBelow_15 ?_
        refine lv_bipush (v := (-6)) hx hb dX2_pullsBelow_16 (by decide) ?_
        refine lv_iload_n hx hb dX2_pullsBelow_18 rfl (lv_at hl 0 rfl) ?_
        refine lv_imul hx hb dX2_pullsBelow_19 ?_
        refine lv_icmp_ge (tgt := 29) hx hb dX2_pullsBelow_20 (by decide) (fun c_5 => ?_) (fun c_5 => ?_)
        · have hf := of_t c_5 hf
          obtain ⟨x2_6, ex2_6⟩ : ∃ y : Int32, y = x2_2 + 1 := ⟨_, rfl⟩
          have hf := of_lt ex2_6 hf
          refine lv_iinc (v := x2_6) (lv' := [(2, .int x2_6), (0, .int x0), (1, .int x1_1)]) hx hb dX2_pullsBelow_29 hl (k := 2) rfl (by rw [ex2_6]; rfl) (by decide) rfl (fun ls hl => ?_)
          refine lv_goto (tgt := 4) hx hb dX2_pullsBelow_32 (by decide) ?_
          exact ihL_3 _ _ _ _ hf (lv_sub hl [1, 2, 0] rfl) hEL_3
        · have hf := of_f c_5 hf
          refine lv_iload_n hx hb dX2_pullsBelow_23 rfl (lv_at hl 1 rfl) ?_
          refine lv_iconst (v := 1) hx hb dX2_pullsBelow_24 (by decide) ?_
          refine lv_iload_n hx hb dX2_pullsBelow_25 rfl (lv_at hl 2 rfl) ?_
          refine lv_ishl hx hb dX2_pullsBelow_26 ?_
          refine lv_topi (fun v_7 ev_7 => ?_)
          have hf := of_lt ev_7 hf
          refine lv_ior hx hb dX2_pullsBelow_27 ?_
          refine lv_topi (fun v_8 ev_8 => ?_)
          have hf := of_lt ev_8 hf
          refine lv_istore_n (lv' := [(1, .int v_8), (0, .int x0), (2, .int x2_2)]) hx hb dX2_pullsBelow_28 rfl hl (by decide) rfl (fun ls hl => ?_)
          obtain ⟨x2_9, ex2_9⟩ : ∃ y : Int32, y = x2_2 + 1 := ⟨_, rfl⟩
          have hf := of_lt ex2_9 hf
          refine lv_iinc (v := x2_9) (lv' := [(2, .int x2_9), (1, .int v_8), (0, .int x0)]) hx hb dX2_pullsBelow_29 hl (k := 2) rfl (by rw [ex2_9]; rfl) (by decide) rfl (fun ls hl => ?_)
          refine lv_goto (tgt := 4) hx hb dX2_pullsBelow_32 (by decide) ?_
          exact ihL_3 _ _ _ _ hf (lv_sub hl [2, 1, 0] rfl) hEL_3
  obtain ⟨ex_11, hq_10, hf⟩ := of_bd hf
  obtain ⟨x1_12, ex1_12⟩ : ∃ y, y = ex_11 := ⟨_, rfl⟩
  rw [← ex1_12] at hf
  rw [← ex1_12] at hq_10
  refine L_3 FU _ _ _ _ hq_10 (lv_sub hl [2, 1, 0] rfl) (fun ls hl => ?_)
  have hl : lv_has ls 3 [(1, .int x1_12)] := hl
  refine lv_iload_n hx hb dX2_pullsBelow_35 rfl (lv_at hl 0 rfl) ?_
  exact hret _ _ _ hf dX2_pullsBelow_36
theorem lk_X2_breaks_0 : Cond.methodLink RX2 35 Lib.Math.abs.name ∈ wsX2_breaks := by decide +kernel
theorem lk_X2_breaks_1 : Cond.static Lib.Math.abs.name ∈ wsX2_breaks := by decide +kernel
theorem lk_X2_breaks_2 : Cond.initialized "java/lang/Math" ∈ wsX2_breaks := by decide +kernel
theorem lk_X2_breaks_3 : Cond.code Lib.Math.abs.name Lib.Math.abs.code 1 (some .int) ∈ wsX2_breaks := by decide +kernel
set_option maxHeartbeats 4000000 in
set_option maxRecDepth 100000 in
theorem c_X2_breaks (l : Launch) {z : LZ} (hz : IC z) (x0 : Int32) (x1 : Int32) (x2 : Int32) (w : Mem) {r : Int32} (hf : f_X2_breaks x0 x1 x2 = some r) : Met l yX2_breaks wsX2_breaks (rm 1 21) (PZ z w [.int x0, .int x1, .int x2]) (QR (some (.int r))) 0 0 (fun _ => False) := by
  refine mk_Rz (cc := cX2_breaks) (maxL := 3) (by decide +kernel) rfl (Nat.le_of_ble_eq_true rfl) ?_
  intro p e s m args below meth c hx hb hml hts hown hK hW Q hret ls hl
  have hl : lv_has ls 3 [(0, .int x0), (1, .int x1), (2, .int x2)] := hl
  unfold f_X2_breaks at hf
  refine lv_iload_n hx hb dX2_breaks_0 rfl (lv_at hl 0 rfl) ?_
  obtain ⟨r_1, hq_2, hf⟩ := of_bd hf
  refine m_goRi (va_runS (As := [.int x0]) (rest := []) ⟨hx, hb, hml, hown, hts⟩ (c_X2_bentOf l hz x0 w hq_2) (va_cwS 1 hts gX2_breaks_X2_bentOf rfl rfl rfl (by decide +kernel) ⟨Nat.le_of_ble_eq_true rfl, Nat.le_of_ble_eq_true rfl⟩) (m_preS hK hW _) rfl rfl hl.1 rfl (lv_room (Nat.le_of_ble_eq_true rfl)) dX2_breaks_1 ⟨Nat.le_refl _, Nat.le_refl _⟩) ?_
  refine va_mabs hx hb (hml.trans hl.1.symm) hown (hts _ lk_X2_breaks_0) (hts _ lk_X2_breaks_1) (hts _ lk_X2_breaks_2) (hts _ lk_X2_breaks_3) (Nat.le_of_ble_eq_true rfl) (Nat.le_of_ble_eq_true rfl) (Nat.le_refl _) (Nat.le_refl _) dX2_breaks_4 ?_
  refine lv_topi (fun v_3 ev_3 => ?_)
  have hf := of_lt (e := iabs r_1) ev_3 hf
  refine lv_iconst (v := 3) hx hb dX2_breaks_7 (by decide) ?_
  refine lv_icmp_ne (tgt := 28) hx hb dX2_breaks_8 (by decide) (fun c_4 => ?_) (fun c_4 => ?_)
  · have hf := of_f c_4 hf
    refine lv_iconst (v := 0) hx hb dX2_breaks_28 (by decide) ?_
    exact hret _ _ _ hf rfl dX2_breaks_29
  · have hf := of_t c_4 hf
    refine lv_iload_n hx hb dX2_breaks_11 rfl (lv_at hl 1 rfl) ?_
    refine lv_iconst (v := 4) hx hb dX2_breaks_12 (by decide) ?_
    refine lv_icmp_lt (tgt := 28) hx hb dX2_breaks_13 (by decide) (fun c_5 => ?_) (fun c_5 => ?_)
    · have hf := of_t c_5 hf
      refine lv_iconst (v := 0) hx hb dX2_breaks_28 (by decide) ?_
      exact hret _ _ _ hf rfl dX2_breaks_29
    · have hf := of_f c_5 hf
      refine lv_iload_n hx hb dX2_breaks_16 rfl (lv_at hl 2 rfl) ?_
      refine va_mabs hx hb (hml.trans hl.1.symm) hown (hts _ lk_X2_breaks_0) (hts _ lk_X2_breaks_1) (hts _ lk_X2_breaks_2) (hts _ lk_X2_breaks_3) (Nat.le_of_ble_eq_true rfl) (Nat.le_of_ble_eq_true rfl) (Nat.le_refl _) (Nat.le_refl _) dX2_breaks_17 ?_
      refine lv_topi (fun v_6 ev_6 => ?_)
      have hf := of_lt (e := iabs x2) ev_6 hf
      refine lv_iconst (v := 4) hx hb dX2_breaks_20 (by decide) ?_
      have J_8 : ∀ (v_7 : Int32) (ls : Array Slot), v_7 = (if v_6 < 4 then 0 else 1) → lv_has ls 3 [] → W p l e (rm 1 21) s m args below meth c s.heap [] 0 0 Q (F0 m 29 ls [.int v_7]) := by
        intro v_7 ls ev_7 hl
        have hf := of_lt ev_7 hf
        obtain ⟨g_9, hf⟩ := of_gd hf
        exact hret _ _ _ hf (bz_n g_9) dX2_breaks_29
      refine lv_icmp_lt (tgt := 28) hx hb dX2_breaks_21 (by decide) (fun c_10 => ?_) (fun c_10 => ?_)
      · refine lv_iconst (v := 0) hx hb dX2_breaks_28 (by decide) ?_
        exact J_8 _ _ (by rw [if_pos c_10]) (lv_sub hl [] rfl)
      · refine lv_iconst (v := 1) hx hb dX2_breaks_24 (by decide) ?_
        refine lv_goto (tgt := 29) hx hb dX2_breaks_25 (by decide) ?_
        exact J_8 _ _ (by rw [if_neg c_10]) (lv_sub hl [] rfl)
set_option maxHeartbeats 4000000 in
set_option maxRecDepth 100000 in
theorem c_X2_pullsWith (l : Launch) {z : LZ} (hz : IC z) (x0 : Int32) (x1 : Int32) (x2 : Int32) (w : Mem) {r : Int32} (hf : f_X2_pullsWith x0 x1 x2 = some r) : Met l yX2_pullsWith wsX2_pullsWith (rm 2 43) (PZ z w [.int x0, .int x1, .int x2]) (QR (some (.int r))) 0 0 (fun _ => False) := by
  refine mk_Ri (cc := cX2_pullsWith) (maxL := 7) (by decide +kernel) rfl (Nat.le_of_ble_eq_true rfl) ?_
  intro p e s m args below meth c hx hb hml hts hown hK hW Q hret ls hl
  have hl : lv_has ls 7 [(0, .int x0), (1, .int x1), (2, .int x2)] := hl
  unfold f_X2_pullsWith at hf
  refine lv_iload_n hx hb dX2_pullsWith_0 rfl (lv_at hl 1 rfl) ?_
  obtain ⟨r_1, hq_2, hf⟩ := of_bd hf
  refine m_goRi (va_runS (As := [.int x1]) (rest := []) ⟨hx, hb, hml, hown, hts⟩ (c_X2_speedOf l hz x1 w hq_2) (va_cwS 1 hts gX2_pullsWith_X2_speedOf rfl rfl rfl (by decide +kernel) ⟨Nat.le_of_ble_eq_true rfl, Nat.le_of_ble_eq_true rfl⟩) (m_preS hK hW _) rfl rfl hl.1 rfl (lv_room (Nat.le_of_ble_eq_true rfl)) dX2_pullsWith_1 ⟨Nat.le_refl _, Nat.le_refl _⟩) ?_
  refine lv_istore_n (lv' := [(3, .int r_1), (0, .int x0), (1, .int x1), (2, .int x2)]) hx hb dX2_pullsWith_4 rfl hl (by decide) rfl (fun ls hl => ?_)
  refine lv_iload_n hx hb dX2_pullsWith_5 rfl (lv_at hl 2 rfl) ?_
  obtain ⟨r_3, hq_4, hf⟩ := of_bd hf
  refine m_goRi (va_runS (As := [.int x1]) (rest := []) ⟨hx, hb, hml, hown, hts⟩ (c_X2_swingOf l hz x1 w hq_4) (va_cwS 1 hts gX2_pullsWith_X2_swingOf rfl rfl rfl (by decide +kernel) ⟨Nat.le_of_ble_eq_true rfl, Nat.le_of_ble_eq_true rfl⟩) (m_preS hK hW _) rfl rfl hl.1 rfl (lv_room (Nat.le_of_ble_eq_true rfl)) dX2_pullsWith_6 ⟨Nat.le_refl _, Nat.le_refl _⟩) ?_
  refine lv_istore (lv' := [(4, .int r_3), (3, .int r_1), (0, .int x0), (1, .int x1), (2, .int x2)]) hx hb dX2_pullsWith_9 hl (by decide) rfl (fun ls hl => ?_)
  refine lv_iload_n hx hb dX2_pullsWith_11 rfl (lv_at hl 2 rfl) ?_
  refine lv_iload_n hx hb dX2_pullsWith_12 rfl (lv_at hl 1 rfl) ?_
  refine lv_iload hx hb dX2_pullsWith_13 (lv_at hl 0 rfl) ?_
  obtain ⟨r_5, hq_6, hf⟩ := of_bd hf
  refine m_goRi (va_runS (As := [.int x0, .int r_1, .int r_3]) (rest := []) ⟨hx, hb, hml, hown, hts⟩ (c_X2_skips l hz x0 r_1 r_3 w hq_6) (va_cwS 3 hts gX2_pullsWith_X2_skips rfl rfl rfl (by decide +kernel) ⟨Nat.le_of_ble_eq_true rfl, Nat.le_of_ble_eq_true rfl⟩) (m_preS hK hW _) rfl rfl hl.1 rfl (lv_room (Nat.le_of_ble_eq_true rfl)) dX2_pullsWith_15 ⟨Nat.le_refl _, Nat.le_refl _⟩) ?_
  refine lv_if_eq (tgt := 34) hx hb dX2_pullsWith_18 (by decide) (fun c_7 => ?_) (fun c_7 => ?_)
  · have hf := of_t c_7 hf
    refine lv_iload_n hx hb dX2_pullsWith_34 rfl (lv_at hl 3 rfl) ?_
    obtain ⟨r_8, hq_9, hf⟩ := of_bd hf
    refine m_goRi (va_runS (As := [.int x1]) (rest := []) ⟨hx, hb, hml, hown, hts⟩ (c_X2_clothOf l hz x1 w hq_9) (va_cwS 1 hts gX2_pullsWith_X2_clothOf rfl rfl rfl (by decide +kernel) ⟨Nat.le_of_ble_eq_true rfl, Nat.le_of_ble_eq_true rfl⟩) (m_preS hK hW _) rfl rfl hl.1 rfl (lv_room (Nat.le_of_ble_eq_true rfl)) dX2_pullsWith_35 ⟨Nat.le_refl _, Nat.le_refl _⟩) ?_
    obtain ⟨r_10, hq_11, hf⟩ := of_bd hf
    refine m_goRi (va_runS (As := [.int r_8]) (rest := []) ⟨hx, hb, hml, hown, hts⟩ (c_X2_pullsAbove l hz r_8 w hq_11) (va_cwS 1 hts gX2_pullsWith_X2_pullsAbove rfl rfl rfl (by decide +kernel) ⟨Nat.le_of_ble_eq_true rfl, Nat.le_of_ble_eq_true rfl⟩) (m_preS hK hW _) rfl rfl hl.1 rfl (lv_room (Nat.le_of_ble_eq_true rfl)) dX2_pullsWith_38 ⟨Nat.le_refl _, Nat.le_refl _⟩) ?_
    refine lv_istore (lv' := [(5, .int r_10), (4, .int r_3), (3, .int r_1), (0, .int x0), (1, .int x1), (2, .int x2)]) hx hb dX2_pullsWith_41 hl (by decide) rfl (fun ls hl => ?_)
    refine lv_iload_n hx hb dX2_pullsWith_43 rfl (lv_at hl 4 rfl) ?_
    obtain ⟨r_12, hq_13, hf⟩ := of_bd hf
    refine m_goRi (va_runS (As := [.int x1]) (rest := []) ⟨hx, hb, hml, hown, hts⟩ (c_X2_clothOf l hz x1 w hq_13) (va_cwS 1 hts gX2_pullsWith_X2_clothOf rfl rfl rfl (by decide +kernel) ⟨Nat.le_of_ble_eq_true rfl, Nat.le_of_ble_eq_true rfl⟩) (m_preS hK hW _) rfl rfl hl.1 rfl (lv_room (Nat.le_of_ble_eq_true rfl)) dX2_pullsWith_44 ⟨Nat.le_refl _, Nat.le_refl _⟩) ?_
    obtain ⟨r_14, hq_15, hf⟩ := of_bd hf
    refine m_goRi (va_runS (As := [.int r_12]) (rest := []) ⟨hx, hb, hml, hown, hts⟩ (c_X2_pullsBelow l hz r_12 w hq_15) (va_cwS 1 hts gX2_pullsWith_X2_pullsBelow rfl rfl rfl (by decide +kernel) ⟨Nat.le_of_ble_eq_true rfl, Nat.le_of_ble_eq_true rfl⟩) (m_preS hK hW _) rfl rfl hl.1 rfl (lv_room (Nat.le_of_ble_eq_true rfl)) dX2_pullsWith_47 ⟨Nat.le_refl _, Nat.le_refl _⟩) ?_
    refine lv_istore (lv' := [(6, .int r_14), (5, .int r_10), (4, .int r_3), (3, .int r_1), (0, .int x0), (1, .int x1), (2, .int x2)]) hx hb dX2_pullsWith_50 hl (by decide) rfl (fun ls hl => ?_)
    refine lv_iload_n hx hb dX2_pullsWith_52 rfl (lv_at hl 6 rfl) ?_
    by_cases c_16 : x2 = 0
    · have hf := of_t c_16 hf
      refine lv_tableIn (off := 41) (tgt := 94) hx hb dX2_pullsWith_53 (by rw [c_16]; decide) (by rw [c_16]; decide) (by rw [c_16]; rfl) (by decide) ?_
      refine lv_iload_n hx hb dX2_pullsWith_94 rfl (lv_at hl 4 rfl) ?_
      refine lv_iload_n hx hb dX2_pullsWith_95 rfl (lv_at hl 3 rfl) ?_
      refine lv_iload hx hb dX2_pullsWith_96 (lv_at hl 2 rfl) ?_
      obtain ⟨r_17, hq_18, hf⟩ := of_bd hf
      refine m_goRi (va_runS (As := [.int x0, .int r_1, .int r_3]) (rest := []) ⟨hx, hb, hml, hown, hts⟩ (c_X2_breaks l hz x0 r_1 r_3 w hq_18) (va_cwS 3 hts gX2_pullsWith_X2_breaks rfl rfl rfl (by decide +kernel) ⟨Nat.le_of_ble_eq_true rfl, Nat.le_of_ble_eq_true rfl⟩) (m_preS hK hW _) rfl rfl hl.1 rfl (lv_room (Nat.le_of_ble_eq_true rfl)) dX2_pullsWith_98 ⟨Nat.le_refl _, Nat.le_refl _⟩) ?_
      refine lv_if_eq (tgt := 108) hx hb dX2_pullsWith_101 (by decide) (fun c_19 => ?_) (fun c_19 => ?_)
      · have hf := of_t c_19 hf
        refine lv_sipush (v := 2047) hx hb dX2_pullsWith_108 (by decide) ?_
        refine lv_iload hx hb dX2_pullsWith_111 (lv_at hl 1 rfl) ?_
        refine lv_iconst (v := (-1)) hx hb dX2_pullsWith_113 (by decide) ?_
        refine lv_ixor hx hb dX2_pullsWith_114 ?_
        refine lv_iand hx hb dX2_pullsWith_115 ?_
        refine lv_iload hx hb dX2_pullsWith_116 (lv_at hl 0 rfl) ?_
        refine lv_iconst (v := (-1)) hx hb dX2_pullsWith_118 (by decide) ?_
        refine lv_ixor hx hb dX2_pullsWith_119 ?_
        refine lv_iand hx hb dX2_pullsWith_120 ?_
        refine lv_topi (fun v_20 ev_20 => ?_)
        have hf := of_lt ev_20 hf
        exact hret _ _ _ hf dX2_pullsWith_121
      · have hf := of_f c_19 hf
        refine lv_iconst (v := 0) hx hb dX2_pullsWith_104 (by decide) ?_
        refine lv_goto (tgt := 121) hx hb dX2_pullsWith_105 (by decide) ?_
        exact hret _ _ _ hf dX2_pullsWith_121
    have hf := of_f c_16 hf
    by_cases c_21 : x2 = 1
    · have hf := of_t c_21 hf
      refine lv_tableIn (off := 97) (tgt := 150) hx hb dX2_pullsWith_53 (by rw [c_21]; decide) (by rw [c_21]; decide) (by rw [c_21]; rfl) (by decide) ?_
      refine lv_iconst (v := 0) hx hb dX2_pullsWith_150 (by decide) ?_
      exact hret _ _ _ hf dX2_pullsWith_151
    have hf := of_f c_21 hf
    by_cases c_22 : x2 = 2
    · have hf := of_t c_22 hf
      refine lv_tableIn (off := 38) (tgt := 91) hx hb dX2_pullsWith_53 (by rw [c_22]; decide) (by rw [c_22]; decide) (by rw [c_22]; rfl) (by decide) ?_
      refine lv_iload hx hb dX2_pullsWith_91 (lv_at hl 0 rfl) ?_
      exact hret _ _ _ hf dX2_pullsWith_93
    have hf := of_f c_22 hf
    by_cases c_23 : x2 = 3
    · have hf := of_t c_23 hf
      refine lv_tableIn (off := 35) (tgt := 88) hx hb dX2_pullsWith_53 (by rw [c_23]; decide) (by rw [c_23]; decide) (by rw [c_23]; rfl) (by decide) ?_
      refine lv_iload hx hb dX2_pullsWith_88 (lv_at hl 1 rfl) ?_
      exact hret _ _ _ hf dX2_pullsWith_90
    have hf := of_f c_23 hf
    by_cases c_24 : x2 = 4
    · have hf := of_t c_24 hf
      refine lv_tableIn (off := 69) (tgt := 122) hx hb dX2_pullsWith_53 (by rw [c_24]; decide) (by rw [c_24]; decide) (by rw [c_24]; rfl) (by decide) ?_
      refine lv_iload_n hx hb dX2_pullsWith_122 rfl (lv_at hl 4 rfl) ?_
      refine lv_iload_n hx hb dX2_pullsWith_123 rfl (lv_at hl 3 rfl) ?_
      refine lv_iload hx hb dX2_pullsWith_124 (lv_at hl 2 rfl) ?_
      obtain ⟨r_25, hq_26, hf⟩ := of_bd hf
      refine m_goRi (va_runS (As := [.int x0, .int r_1, .int r_3]) (rest := []) ⟨hx, hb, hml, hown, hts⟩ (c_X2_breaks l hz x0 r_1 r_3 w hq_26) (va_cwS 3 hts gX2_pullsWith_X2_breaks rfl rfl rfl (by decide +kernel) ⟨Nat.le_of_ble_eq_true rfl, Nat.le_of_ble_eq_true rfl⟩) (m_preS hK hW _) rfl rfl hl.1 rfl (lv_room (Nat.le_of_ble_eq_true rfl)) dX2_pullsWith_126 ⟨Nat.le_refl _, Nat.le_refl _⟩) ?_
      refine lv_if_eq (tgt := 148) hx hb dX2_pullsWith_129 (by decide) (fun c_27 => ?_) (fun c_27 => ?_)
      · have hf := of_t c_27 hf
        refine lv_iconst (v := 0) hx hb dX2_pullsWith_148 (by decide) ?_
        exact hret _ _ _ hf dX2_pullsWith_149
      · have hf := of_f c_27 hf
        refine lv_sipush (v := 2047) hx hb dX2_pullsWith_132 (by decide) ?_
        refine lv_iload hx hb dX2_pullsWith_135 (lv_at hl 1 rfl) ?_
        refine lv_iconst (v := (-1)) hx hb dX2_pullsWith_137 (by decide) ?_
        refine lv_ixor hx hb dX2_pullsWith_138 ?_
        refine lv_iand hx hb dX2_pullsWith_139 ?_
        refine lv_iload hx hb dX2_pullsWith_140 (lv_at hl 0 rfl) ?_
        refine lv_iconst (v := (-1)) hx hb dX2_pullsWith_142 (by decide) ?_
        refine lv_ixor hx hb dX2_pullsWith_143 ?_
        refine lv_iand hx hb dX2_pullsWith_144 ?_
        refine lv_topi (fun v_28 ev_28 => ?_)
        have hf := of_lt ev_28 hf
        refine lv_goto (tgt := 149) hx hb dX2_pullsWith_145 (by decide) ?_
        exact hret _ _ _ hf dX2_pullsWith_149
    have hf := of_f c_24 hf
    refine lv_tableOut (tgt := 150) hx hb dX2_pullsWith_53 (by have qc_16 := lv_neT c_16 (show (0 : Int32).toInt = 0 by decide); have qc_21 := lv_neT c_21 (show (1 : Int32).toInt = 1 by decide); have qc_22 := lv_neT c_22 (show (2 : Int32).toInt = 2 by decide); have qc_23 := lv_neT c_23 (show (3 : Int32).toInt = 3 by decide); have qc_24 := lv_neT c_24 (show (4 : Int32).toInt = 4 by decide); omega) (by decide) ?_
    refine lv_iconst (v := 0) hx hb dX2_pullsWith_150 (by decide) ?_
    exact hret _ _ _ hf dX2_pullsWith_151
  · have hf := of_f c_7 hf
    refine lv_iload_n hx hb dX2_pullsWith_21 rfl (lv_at hl 4 rfl) ?_
    refine lv_iconst (v := 1) hx hb dX2_pullsWith_22 (by decide) ?_
    have J_30 : ∀ (v_29 : Int32) (ls : Array Slot), v_29 = (if x2 = 1 then 2047 else 0) → lv_has ls 7 [] → W p l e (rm 2 43) s m args below meth c s.heap [] 0 0 Q (F0 m 33 ls [.int v_29]) := by
      intro v_29 ls ev_29 hl
      have hf := of_lt ev_29 hf
      exact hret _ _ _ hf dX2_pullsWith_33
    refine lv_icmp_ne (tgt := 32) hx hb dX2_pullsWith_23 (by decide) (fun c_31 => ?_) (fun c_31 => ?_)
    · refine lv_iconst (v := 0) hx hb dX2_pullsWith_32 (by decide) ?_
      exact J_30 _ _ (by rw [if_neg c_31]) (lv_sub hl [] rfl)
    · refine lv_sipush (v := 2047) hx hb dX2_pullsWith_26 (by decide) ?_
      refine lv_goto (tgt := 33) hx hb dX2_pullsWith_29 (by decide) ?_
      exact J_30 _ _ (by rw [if_pos c_31]) (lv_sub hl [] rfl)
set_option maxHeartbeats 4000000 in
set_option maxRecDepth 100000 in
theorem c_X2_outcomeOf (l : Launch) {z : LZ} (hz : IC z) (x0 : Int32) (x1 : Int32) (w : Mem) {r : Int32} (hf : f_X2_outcomeOf x0 x1 = some r) : Met l yX2_outcomeOf wsX2_outcomeOf (rm 3 69) (PZ z w [.int x0, .int x1]) (QR (some (.int r))) 0 0 (fun _ => False) := by
  refine mk_Ri (cc := cX2_outcomeOf) (maxL := 5) (by decide +kernel) rfl (Nat.le_of_ble_eq_true rfl) ?_
  intro p e s m args below meth c hx hb hml hts hown hK hW Q hret ls hl
  have hl : lv_has ls 5 [(0, .int x0), (1, .int x1)] := hl
  unfold f_X2_outcomeOf at hf
  refine lv_iload_n hx hb dX2_outcomeOf_0 rfl (lv_at hl 0 rfl) ?_
  refine lv_bipush (v := 11) hx hb dX2_outcomeOf_1 (by decide) ?_
  refine lv_idiv hx hb dX2_outcomeOf_3 (by decide) ?_
  refine lv_topi (fun v_1 ev_1 => ?_)
  have hf := of_lt ev_1 hf
  refine lv_istore_n (lv' := [(2, .int v_1), (0, .int x0), (1, .int x1)]) hx hb dX2_outcomeOf_4 rfl hl (by decide) rfl (fun ls hl => ?_)
  refine lv_iconst (v := 1) hx hb dX2_outcomeOf_5 (by decide) ?_
  refine lv_iload_n hx hb dX2_outcomeOf_6 rfl (lv_at hl 1 rfl) ?_
  refine lv_bipush (v := 11) hx hb dX2_outcomeOf_7 (by decide) ?_
  refine lv_irem hx hb dX2_outcomeOf_9 (by decide) ?_
  refine lv_topi (fun v_2 ev_2 => ?_)
  have hf := of_lt (e := irm x0 11) ev_2 hf
  refine lv_ishl hx hb dX2_outcomeOf_10 ?_
  refine lv_topi (fun v_3 ev_3 => ?_)
  have hf := of_lt ev_3 hf
  refine lv_istore_n (lv' := [(3, .int v_3), (2, .int v_1), (0, .int x0), (1, .int x1)]) hx hb dX2_outcomeOf_11 rfl hl (by decide) rfl (fun ls hl => ?_)
  refine lv_iconst (v := 0) hx hb dX2_outcomeOf_12 (by decide) ?_
  refine lv_istore (lv' := [(4, .int 0), (3, .int v_3), (2, .int v_1), (0, .int x0), (1, .int x1)]) hx hb dX2_outcomeOf_13 hl (by decide) rfl (fun ls hl => ?_)
  have L_5 : ∀ (n : Nat) (x4_4 : Int32) (exL_5 : Sum (Int32) (Unit)) (ls : Array Slot), f_X2_outcomeOf_L15 x1 v_1 v_3 n x4_4 = some exL_5 → lv_has ls 5 [(1, .int x1), (2, .int v_1), (3, .int v_3), (4, .int x4_4)] → (∀ ret, exL_5 = .inl ret → some (ret) = some r) → (∀ x, exL_5 = .inr x → ∀ (ls : Array Slot), lv_has ls 5 [] → W p l e (rm 3 69) s m args below meth c s.heap [] 0 0 Q (F0 m 42 ls [])) → W p l e (rm 3 69) s m args below meth c s.heap [] 0 0 Q (F0 m 15 ls []) := by
    intro n
    induction n with
    | zero =>
      intro x4_4 exL_5 ls hf
      have hf : (none : Option (Sum (Int32) (Unit))) = some exL_5 := hf
      cases hf
    | succ n ihL_5 =>
      intro x4_4 exL_5 ls hf hl hRL_5 hEL_5
      rw [f_X2_outcomeOf_L15_s] at hf
      refine lv_iload hx hb dX2_outcomeOf_15 (lv_at hl 3 rfl) ?_
      refine lv_iconst (v := 4) hx hb dX2_outcomeOf_17 (by decide) ?_
      refine lv_icmp_ge (tgt := 42) hx hb dX2_outcomeOf_18 (by decide) (fun c_6 => ?_) (fun c_6 => ?_)
      · have hf := of_t c_6 hf
        exact hEL_5 _ (Option.some.inj hf).symm _ (lv_sub hl [] rfl)
      · have hf := of_f c_6 hf
        refine lv_iload_n hx hb dX2_outcomeOf_21 rfl (lv_at hl 1 rfl) ?_
        refine lv_iload_n hx hb dX2_outcomeOf_22 rfl (lv_at hl 0 rfl) ?_
        refine lv_iload hx hb dX2_outcomeOf_23 (lv_at hl 3 rfl) ?_
        obtain ⟨r_7, hq_8, hf⟩ := of_bd hf
        refine m_goRi (va_runS (As := [.int v_1, .int x1, .int x4_4]) (rest := []) ⟨hx, hb, hml, hown, hts⟩ (c_X2_pullsWith l hz v_1 x1 x4_4 w hq_8) (va_cwS 3 hts gX2_outcomeOf_X2_pullsWith rfl rfl rfl (by decide +kernel) ⟨Nat.le_of_ble_eq_true rfl, Nat.le_of_ble_eq_true rfl⟩) (m_preS hK hW _) rfl rfl hl.1 rfl (lv_room (Nat.le_of_ble_eq_true rfl)) dX2_outcomeOf_25 ⟨Nat.le_refl _, Nat.le_refl _⟩) ?_
        refine lv_iload_n hx hb dX2_outcomeOf_28 rfl (lv_at hl 2 rfl) ?_
        refine lv_iand hx hb dX2_outcomeOf_29 ?_
        refine lv_if_eq (tgt := 36) hx hb dX2_outcomeOf_30 (by decide) (fun c_9 => ?_) (fun c_9 => ?_)
        · have hf := of_t c_9 hf
          obtain ⟨x4_10, ex4_10⟩ : ∃ y : Int32, y = x4_4 + 1 := ⟨_, rfl⟩
          have hf := of_lt ex4_10 hf
          refine lv_iinc (v := x4_10) (lv' := [(4, .int x4_10), (1, .int x1), (2, .int v_1), (3, .int v_3)]) hx hb dX2_outcomeOf_36 hl (k := 3) rfl (by rw [ex4_10]; rfl) (by decide) rfl (fun ls hl => ?_)
          refine lv_goto (tgt := 15) hx hb dX2_outcomeOf_39 (by decide) ?_
          exact ihL_5 _ _ _ hf (lv_sub hl [1, 2, 3, 0] rfl) hRL_5 hEL_5
        · have hf := of_f c_9 hf
          refine lv_iload hx hb dX2_outcomeOf_33 (lv_at hl 3 rfl) ?_
          exact hret _ _ _ (hRL_5 _ (Option.some.inj hf).symm) dX2_outcomeOf_35
  obtain ⟨ex_12, hq_11, hf⟩ := of_bd hf
  refine L_5 FU _ _ _ hq_11 (lv_sub hl [4, 2, 1, 0] rfl) (fun ret he => by subst he; exact hf) (fun x he ls hl => ?_)
  subst he
  have hf := of_sr hf
  have hl : lv_has ls 5 [] := hl
  refine lv_iconst (v := 4) hx hb dX2_outcomeOf_42 (by decide) ?_
  exact hret _ _ _ hf dX2_outcomeOf_43
set_option maxHeartbeats 4000000 in
set_option maxRecDepth 100000 in
theorem c_X2_causesOf (l : Launch) {z : LZ} (hz : IC z) (x0 : Int32) (w : Mem) {r : Int32} (hf : f_X2_causesOf x0 = some r) : Met l yX2_causesOf wsX2_causesOf (rm 1 20) (PZ z w [.int x0]) (QR (some (.int r))) 0 0 (fun _ => False) := by
  refine mk_Ri (cc := cX2_causesOf) (maxL := 2) (by decide +kernel) rfl (Nat.le_of_ble_eq_true rfl) ?_
  intro p e s m args below meth c hx hb hml hts hown hK hW Q hret ls hl
  have hl : lv_has ls 2 [(0, .int x0)] := hl
  unfold f_X2_causesOf at hf
  refine lv_iload_n hx hb dX2_causesOf_0 rfl (lv_at hl 0 rfl) ?_
  obtain ⟨r_1, hq_2, hf⟩ := of_bd hf
  refine m_goRi (va_runS (As := [.int x0]) (rest := []) ⟨hx, hb, hml, hown, hts⟩ (c_X2_timingOf l hz x0 w hq_2) (va_cwS 1 hts gX2_causesOf_X2_timingOf rfl rfl rfl (by decide +kernel) ⟨Nat.le_of_ble_eq_true rfl, Nat.le_of_ble_eq_true rfl⟩) (m_preS hK hW _) rfl rfl hl.1 rfl (lv_room (Nat.le_of_ble_eq_true rfl)) dX2_causesOf_1 ⟨Nat.le_refl _, Nat.le_refl _⟩) ?_
  have J_4 : ∀ (v_3 : Int32) (ls : Array Slot), v_3 = (if r_1 = 0 then 0 else 1) → lv_has ls 2 [(0, .int x0)] → W p l e (rm 1 20) s m args below meth c s.heap [] 0 0 Q (F0 m 12 ls [.int v_3]) := by
    intro v_3 ls ev_3 hl
    have hf := of_lt ev_3 hf
    refine lv_istore_n (lv' := [(1, .int v_3), (0, .int x0)]) hx hb dX2_causesOf_12 rfl hl (by decide) rfl (fun ls hl => ?_)
    refine lv_iload_n hx hb dX2_causesOf_13 rfl (lv_at hl 0 rfl) ?_
    refine lv_iload_n hx hb dX2_causesOf_14 rfl (lv_at hl 1 rfl) ?_
    obtain ⟨r_5, hq_6, hf⟩ := of_bd hf
    refine m_goRi (va_runS (As := [.int x0]) (rest := [.int v_3]) ⟨hx, hb, hml, hown, hts⟩ (c_X2_bentOf l hz x0 w hq_6) (va_cwS 1 hts gX2_causesOf_X2_bentOf rfl rfl rfl (by decide +kernel) ⟨Nat.le_of_ble_eq_true rfl, Nat.le_of_ble_eq_true rfl⟩) (m_preS hK hW _) rfl rfl hl.1 rfl (lv_room (Nat.le_of_ble_eq_true rfl)) dX2_causesOf_15 ⟨Nat.le_refl _, Nat.le_refl _⟩) ?_
    have J_8 : ∀ (v_7 : Int32) (ls : Array Slot), v_7 = (if r_5 = 0 then 0 else 1) → lv_has ls 2 [(0, .int x0)] → W p l e (rm 1 20) s m args below meth c s.heap [] 0 0 Q (F0 m 26 ls [.int v_7, .int v_3]) := by
      intro v_7 ls ev_7 hl
      have hf := of_lt ev_7 hf
      refine lv_iadd hx hb dX2_causesOf_26 ?_
      refine lv_topi (fun v_9 ev_9 => ?_)
      have hf := of_lt ev_9 hf
      refine lv_istore_n (lv' := [(1, .int v_9), (0, .int x0)]) hx hb dX2_causesOf_27 rfl hl (by decide) rfl (fun ls hl => ?_)
      refine lv_iload_n hx hb dX2_causesOf_28 rfl (lv_at hl 0 rfl) ?_
      refine lv_iload_n hx hb dX2_causesOf_29 rfl (lv_at hl 1 rfl) ?_
      obtain ⟨r_10, hq_11, hf⟩ := of_bd hf
      refine m_goRi (va_runS (As := [.int x0]) (rest := [.int v_9]) ⟨hx, hb, hml, hown, hts⟩ (c_X2_wornOf l hz x0 w hq_11) (va_cwS 1 hts gX2_causesOf_X2_wornOf rfl rfl rfl (by decide +kernel) ⟨Nat.le_of_ble_eq_true rfl, Nat.le_of_ble_eq_true rfl⟩) (m_preS hK hW _) rfl rfl hl.1 rfl (lv_room (Nat.le_of_ble_eq_true rfl)) dX2_causesOf_30 ⟨Nat.le_refl _, Nat.le_refl _⟩) ?_
      have J_13 : ∀ (v_12 : Int32) (ls : Array Slot), v_12 = (if r_10 = 0 then 0 else 1) → lv_has ls 2 [] → W p l e (rm 1 20) s m args below meth c s.heap [] 0 0 Q (F0 m 41 ls [.int v_12, .int v_9]) := by
        intro v_12 ls ev_12 hl
        have hf := of_lt ev_12 hf
        refine lv_iadd hx hb dX2_causesOf_41 ?_
        exact hret _ _ _ hf dX2_causesOf_42
      refine lv_if_eq (tgt := 40) hx hb dX2_causesOf_33 (by decide) (fun c_14 => ?_) (fun c_14 => ?_)
      · refine lv_iconst (v := 0) hx hb dX2_causesOf_40 (by decide) ?_
        exact J_13 _ _ (by rw [if_pos c_14]) (lv_sub hl [] rfl)
      · refine lv_iconst (v := 1) hx hb dX2_causesOf_36 (by decide) ?_
        refine lv_goto (tgt := 41) hx hb dX2_causesOf_37 (by decide) ?_
        exact J_13 _ _ (by rw [if_neg c_14]) (lv_sub hl [] rfl)
    refine lv_if_eq (tgt := 25) hx hb dX2_causesOf_18 (by decide) (fun c_15 => ?_) (fun c_15 => ?_)
    · refine lv_iconst (v := 0) hx hb dX2_causesOf_25 (by decide) ?_
      exact J_8 _ _ (by rw [if_pos c_15]) (lv_sub hl [1] rfl)
    · refine lv_iconst (v := 1) hx hb dX2_causesOf_21 (by decide) ?_
      refine lv_goto (tgt := 26) hx hb dX2_causesOf_22 (by decide) ?_
      exact J_8 _ _ (by rw [if_neg c_15]) (lv_sub hl [1] rfl)
  refine lv_if_eq (tgt := 11) hx hb dX2_causesOf_4 (by decide) (fun c_16 => ?_) (fun c_16 => ?_)
  · refine lv_iconst (v := 0) hx hb dX2_causesOf_11 (by decide) ?_
    exact J_4 _ _ (by rw [if_pos c_16]) (lv_sub hl [0] rfl)
  · refine lv_iconst (v := 1) hx hb dX2_causesOf_7 (by decide) ?_
    refine lv_goto (tgt := 12) hx hb dX2_causesOf_8 (by decide) ?_
    exact J_4 _ _ (by rw [if_neg c_16]) (lv_sub hl [0] rfl)
