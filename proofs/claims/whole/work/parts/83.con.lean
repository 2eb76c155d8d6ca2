/-! ===== contracts (by program: wip/gen/gen.py): X10_make X10_file X10_makes X10_lay X10_comesFrom X10_take X10_turn X10_side X10_sideless X10_meets X10_feeds X10_judge X10_cloth X10_tensions X10_lock X10_tune X10_wind X10_step X10_stepless X10_endsStep X10_sew X10_thread X10_againstRim X10_names X10_name X10_wear X10_isState X10_isTrial X10_outcome X10_note X10_noteless X10_isCauses X10_left X10_state X10_best ===== -/
theorem in_X10_make_X1 : ∀ w ∈ wsX10, w ∈ wsX10_make := by decide +kernel
theorem in_X10_make_X10 : ∀ w ∈ wsX100, w ∈ wsX10_make := by decide +kernel
theorem in_X10_make_X5 : ∀ w ∈ wsX50, w ∈ wsX10_make := by decide +kernel
theorem lk_X10_make_0 : Cond.fieldLink RX10 10 "CamStitch" "pattern" "LCamStitch$Pattern;" ∈ wsX10_make := by decide +kernel
theorem lk_X10_make_1 : Cond.fieldLink RX10 126 "CamStitch$Pattern" "points" "I" ∈ wsX10_make := by decide +kernel
theorem lk_X10_make_2 : Cond.fieldLink RX10 26 "CamStitch" "work" "LCamStitch$Disc;" ∈ wsX10_make := by decide +kernel
theorem lk_X10_make_3 : Cond.fieldLink RX10 157 "CamStitch$Disc" "stitches" "I" ∈ wsX10_make := by decide +kernel
set_option maxHeartbeats 4000000 in
set_option maxRecDepth 100000 in
theorem c_X10_make (l : Launch) {z : LZ} (hz : IC z) (x1 : Int32) (x2 : Int32) (w : Mem) {r : Int32} {w' : Mem} (hf : f_X10_make x1 x2 w = some (r, w')) : Met l yX10_make wsX10_make (rm 3 75) (PZ z w [.ref (z.2.1 66), .int x1, .int x2]) (QW z (some (.int r)) w') 0 0 (az z) := by
  refine mk_Wi (cc := cX10_make) (maxL := 3) (by decide +kernel) rfl (Nat.le_of_ble_eq_true rfl) ?_
  intro p e s m args below meth c hx hb hml hts hown hK hW Q hret ls hl
  have hl : lv_has ls 3 [(0, .ref (z.2.1 66)), (1, .int x1), (2, .int x2)] := hl
  unfold f_X10_make at hf
  have START : ∀ (H : Heap) (locs : List Loc), hd z w H → va_S (az z) s.heap H locs → W p l e (rm 3 75) s m args below meth c H locs 0 0 Q (F0 m 0 ls []) := by
    intro H locs hW hS
    refine lv_iload_n hx hb dX10_make_0 rfl (lv_at hl 1 rfl) ?_
    refine lv_iconst (v := 1) hx hb dX10_make_1 (by decide) ?_
    refine lv_icmp_lt (tgt := 22) hx hb dX10_make_2 (by decide) (fun c_1 => ?_) (fun c_1 => ?_)
    · have hf := of_t c_1 hf
      refine lv_iconst (v := (-1)) hx hb dX10_make_22 (by decide) ?_
      exact hret _ _ _ _ _ _ hf hW hS dX10_make_23
    · have hf := of_f c_1 hf
      refine lv_iload_n hx hb dX10_make_5 rfl (lv_at hl 1 rfl) ?_
      refine lv_bipush (v := 12) hx hb dX10_make_6 (by decide) ?_
      refine lv_icmp_gt (tgt := 22) hx hb dX10_make_8 (by decide) (fun c_2 => ?_) (fun c_2 => ?_)
      · have hf := of_t c_2 hf
        refine lv_iconst (v := (-1)) hx hb dX10_make_22 (by decide) ?_
        exact hret _ _ _ _ _ _ hf hW hS dX10_make_23
      · have hf := of_f c_2 hf
        refine lv_iload_n hx hb dX10_make_11 rfl (lv_at hl 2 rfl) ?_
        refine lv_iconst (v := 1) hx hb dX10_make_12 (by decide) ?_
        refine lv_icmp_lt (tgt := 22) hx hb dX10_make_13 (by decide) (fun c_3 => ?_) (fun c_3 => ?_)
        · have hf := of_t c_3 hf
          refine lv_iconst (v := (-1)) hx hb dX10_make_22 (by decide) ?_
          exact hret _ _ _ _ _ _ hf hW hS dX10_make_23
        · have hf := of_f c_3 hf
          refine lv_iload_n hx hb dX10_make_16 rfl (lv_at hl 2 rfl) ?_
          refine lv_bipush (v := 12) hx hb dX10_make_17 (by decide) ?_
          refine lv_icmp_le (tgt := 24) hx hb dX10_make_19 (by decide) (fun c_4 => ?_) (fun c_4 => ?_)
          · have hf := of_t c_4 hf
            refine lv_aload_n hx hb dX10_make_24 rfl (lv_at hl 0 rfl) ?_
            refine get_X10_0 hx hb hts in_X10_make_X10 hown hK hz hW lk_X10_make_0 dX10_make_25 ?_
            refine get_X5_2 hx hb hts in_X10_make_X5 hown hK hz hW (Nat.le_of_ble_eq_true rfl) lk_X10_make_1 dX10_make_28 ?_
            refine lv_if_ne (tgt := 37) hx hb dX10_make_31 (by decide) (fun c_5 => ?_) (fun c_5 => ?_)
            · have hf := of_f c_5 hf
              refine lv_aload_n hx hb dX10_make_37 rfl (lv_at hl 0 rfl) ?_
              refine get_X10_2 hx hb hts in_X10_make_X10 hown hK hz hW lk_X10_make_2 dX10_make_38 ?_
              refine lv_aload_n hx hb dX10_make_41 rfl (lv_at hl 0 rfl) ?_
              refine get_X10_0 hx hb hts in_X10_make_X10 hown hK hz hW lk_X10_make_0 dX10_make_42 ?_
              refine lv_iload_n hx hb dX10_make_45 rfl (lv_at hl 1 rfl) ?_
              refine lv_iload_n hx hb dX10_make_46 rfl (lv_at hl 2 rfl) ?_
              obtain ⟨r_6, w_8, hq_7, hf⟩ := of_b2 hf
              refine m_goWi (va_runV (As := [.ref (z.2.1 (60+3*0)), .int x1, .int x2]) (rest := []) ⟨hx, hb, hml, hown, hts⟩ (c_X1_becomesMadeFrom l hz 14 (Nat.le_of_ble_eq_true rfl) 0 (Nat.le_of_ble_eq_true rfl) x1 x2 w hq_7) (cwV 3 hts gX10_make_X1_becomesMadeFrom rfl rfl rfl (by decide +kernel) ⟨Nat.le_of_ble_eq_true rfl, Nat.le_of_ble_eq_true rfl⟩) (pre_X1 hK hz hW (Nat.le_of_ble_eq_true rfl) _) rfl rfl hl.1 rfl (lv_room (Nat.le_of_ble_eq_true rfl)) dX10_make_47 ⟨Nat.le_refl _, Nat.le_refl _⟩) hS (fun H locs hW hS => ?_)
              have J_10 : ∀ (v_9 : Int32) (ls : Array Slot), v_9 = (if r_6 = 0 then (-2) else (w_8.1 (3*14) 2)) → lv_has ls 3 [] → W p l e (rm 3 75) s m args below meth c H locs 0 0 Q (F0 m 65 ls [.int v_9]) := by
                intro v_9 ls ev_9 hl
                have hf := of_lt ev_9 hf
                exact hret _ _ _ _ _ _ hf hW hS dX10_make_65
              refine lv_if_eq (tgt := 63) hx hb dX10_make_50 (by decide) (fun c_11 => ?_) (fun c_11 => ?_)
              · refine lv_bipush (v := (-2)) hx hb dX10_make_63 (by decide) ?_
                exact J_10 _ _ (by rw [if_pos c_11]) (lv_sub hl [] rfl)
              · refine lv_aload_n hx hb dX10_make_53 rfl (lv_at hl 0 rfl) ?_
                refine get_X10_2 hx hb hts in_X10_make_X10 hown hK hz hW lk_X10_make_2 dX10_make_54 ?_
                refine get_X1_2 hx hb hts in_X10_make_X1 hown hK hz hW (Nat.le_of_ble_eq_true rfl) lk_X10_make_3 dX10_make_57 ?_
                refine lv_goto (tgt := 65) hx hb dX10_make_60 (by decide) ?_
                exact J_10 _ _ (by rw [if_neg c_11]) (lv_sub hl [] rfl)
            · have hf := of_t c_5 hf
              refine lv_bipush (v := (-3)) hx hb dX10_make_34 (by decide) ?_
              exact hret _ _ _ _ _ _ hf hW hS dX10_make_36
          · have hf := of_f c_4 hf
            refine lv_iconst (v := (-1)) hx hb dX10_make_22 (by decide) ?_
            exact hret _ _ _ _ _ _ hf hW hS dX10_make_23
  exact START _ _ hW va_S.rf
theorem in_X10_file_X1 : ∀ w ∈ wsX10, w ∈ wsX10_file := by decide +kernel
theorem in_X10_file_X10 : ∀ w ∈ wsX100, w ∈ wsX10_file := by decide +kernel
theorem lk_X10_file_0 : Cond.fieldLink RX10 26 "CamStitch" "work" "LCamStitch$Disc;" ∈ wsX10_file := by decide +kernel
theorem lk_X10_file_1 : Cond.fieldLink RX10 157 "CamStitch$Disc" "stitches" "I" ∈ wsX10_file := by decide +kernel
theorem lk_X10_file_2 : Cond.fieldLink RX10 169 "CamStitch$Disc" "swings" "[I" ∈ wsX10_file := by decide +kernel
theorem lk_X10_file_3 : Cond.fieldLink RX10 179 "CamStitch$Disc" "feeds" "[I" ∈ wsX10_file := by decide +kernel
set_option maxHeartbeats 4000000 in
set_option maxRecDepth 100000 in
theorem c_X10_file (l : Launch) {z : LZ} (hz : IC z) (x1 : Int32) (x2 : Int32) (x3 : Int32) (w : Mem) {r : Int32} {w' : Mem} (hf : f_X10_file x1 x2 x3 w = some (r, w')) : Met l yX10_file wsX10_file (rm 1 21) (PZ z w [.ref (z.2.1 66), .int x1, .int x2, .int x3]) (QW z (some (.int r)) w') 0 0 (az z) := by
  refine mk_Wi (cc := cX10_file) (maxL := 4) (by decide +kernel) rfl (Nat.le_of_ble_eq_true rfl) ?_
  intro p e s m args below meth c hx hb hml hts hown hK hW Q hret ls hl
  have hl : lv_has ls 4 [(0, .ref (z.2.1 66)), (1, .int x1), (2, .int x2), (3, .int x3)] := hl
  unfold f_X10_file at hf
  have START : ∀ (H : Heap) (locs : List Loc), hd z w H → va_S (az z) s.heap H locs → W p l e (rm 1 21) s m args below meth c H locs 0 0 Q (F0 m 0 ls []) := by
    intro H locs hW hS
    refine lv_iload_n hx hb dX10_file_0 rfl (lv_at hl 1 rfl) ?_
    refine lv_if_lt (tgt := 33) hx hb dX10_file_1 (by decide) (fun c_1 => ?_) (fun c_1 => ?_)
    · have hf := of_t c_1 hf
      refine lv_iconst (v := (-1)) hx hb dX10_file_33 (by decide) ?_
      exact hret _ _ _ _ _ _ hf hW hS dX10_file_34
    · have hf := of_f c_1 hf
      refine lv_iload_n hx hb dX10_file_4 rfl (lv_at hl 1 rfl) ?_
      refine lv_aload_n hx hb dX10_file_5 rfl (lv_at hl 0 rfl) ?_
      refine get_X10_2 hx hb hts in_X10_file_X10 hown hK hz hW lk_X10_file_0 dX10_file_6 ?_
      refine get_X1_2 hx hb hts in_X10_file_X1 hown hK hz hW (Nat.le_of_ble_eq_true rfl) lk_X10_file_1 dX10_file_9 ?_
      refine lv_icmp_ge (tgt := 33) hx hb dX10_file_12 (by decide) (fun c_2 => ?_) (fun c_2 => ?_)
      · have hf := of_t c_2 hf
        refine lv_iconst (v := (-1)) hx hb dX10_file_33 (by decide) ?_
        exact hret _ _ _ _ _ _ hf hW hS dX10_file_34
      · have hf := of_f c_2 hf
        refine lv_iload_n hx hb dX10_file_15 rfl (lv_at hl 2 rfl) ?_
        refine lv_bipush (v := 12) hx hb dX10_file_16 (by decide) ?_
        obtain ⟨r_3, hq_4, hf⟩ := of_bd hf
        refine m_goRi (va_runS (As := [.int x2, .int 12]) (rest := []) ⟨hx, hb, hml, hown, hts⟩ (c_X10_isWithin l hz x2 12 w hq_4) (va_cwS 2 hts gX10_file_X10_isWithin rfl rfl rfl (by decide +kernel) ⟨Nat.le_of_ble_eq_true rfl, Nat.le_of_ble_eq_true rfl⟩) (m_preS hK hW _) rfl rfl hl.1 rfl (lv_room (Nat.le_of_ble_eq_true rfl)) dX10_file_18 ⟨Nat.le_refl _, Nat.le_refl _⟩) ?_
        refine lv_if_eq (tgt := 33) hx hb dX10_file_21 (by decide) (fun c_5 => ?_) (fun c_5 => ?_)
        · have hf := of_t c_5 hf
          refine lv_iconst (v := (-1)) hx hb dX10_file_33 (by decide) ?_
          exact hret _ _ _ _ _ _ hf hW hS dX10_file_34
        · have hf := of_f c_5 hf
          refine lv_iload_n hx hb dX10_file_24 rfl (lv_at hl 3 rfl) ?_
          refine lv_bipush (v := 12) hx hb dX10_file_25 (by decide) ?_
          obtain ⟨r_6, hq_7, hf⟩ := of_bd hf
          refine m_goRi (va_runS (As := [.int x3, .int 12]) (rest := []) ⟨hx, hb, hml, hown, hts⟩ (c_X10_isWithin l hz x3 12 w hq_7) (va_cwS 2 hts gX10_file_X10_isWithin rfl rfl rfl (by decide +kernel) ⟨Nat.le_of_ble_eq_true rfl, Nat.le_of_ble_eq_true rfl⟩) (m_preS hK hW _) rfl rfl hl.1 rfl (lv_room (Nat.le_of_ble_eq_true rfl)) dX10_file_27 ⟨Nat.le_refl _, Nat.le_refl _⟩) ?_
          refine lv_if_ne (tgt := 35) hx hb dX10_file_30 (by decide) (fun c_8 => ?_) (fun c_8 => ?_)
          · have hf := of_f c_8 hf
            refine lv_aload_n hx hb dX10_file_35 rfl (lv_at hl 0 rfl) ?_
            refine get_X10_2 hx hb hts in_X10_file_X10 hown hK hz hW lk_X10_file_0 dX10_file_36 ?_
            refine get_X1_0 hx hb hts in_X10_file_X1 hown hK hz hW (Nat.le_of_ble_eq_true rfl) lk_X10_file_2 dX10_file_39 ?_
            refine lv_iload_n hx hb dX10_file_42 rfl (lv_at hl 1 rfl) ?_
            refine lv_iload_n hx hb dX10_file_43 rfl (lv_at hl 2 rfl) ?_
            obtain ⟨g_9, hf⟩ := of_gd hf
            refine st_AI48 hx hb hK hz hW hS (p48_1 (Nat.le_of_ble_eq_true rfl)) g_9 dX10_file_44 (fun H locs hW hS => ?_)
            obtain ⟨w_10, ew_10⟩ : ∃ y : Mem, y = mS w (3*14+1) x1.toNatClampNeg x2 := ⟨_, rfl⟩
            have hW : hd z w_10 H := by rw [ew_10]; exact hW
            have hf := of_lt ew_10 hf
            refine lv_aload_n hx hb dX10_file_45 rfl (lv_at hl 0 rfl) ?_
            refine get_X10_2 hx hb hts in_X10_file_X10 hown hK hz hW lk_X10_file_0 dX10_file_46 ?_
            refine get_X1_1 hx hb hts in_X10_file_X1 hown hK hz hW (Nat.le_of_ble_eq_true rfl) lk_X10_file_3 dX10_file_49 ?_
            refine lv_iload_n hx hb dX10_file_52 rfl (lv_at hl 1 rfl) ?_
            refine lv_iload_n hx hb dX10_file_53 rfl (lv_at hl 3 rfl) ?_
            refine st_AI48 hx hb hK hz hW hS (p48_2 (Nat.le_of_ble_eq_true rfl)) g_9 dX10_file_54 (fun H locs hW hS => ?_)
            obtain ⟨w_11, ew_11⟩ : ∃ y : Mem, y = mS w_10 (3*14+2) x1.toNatClampNeg x3 := ⟨_, rfl⟩
            have hW : hd z w_11 H := by rw [ew_11]; exact hW
            have hf := of_lt ew_11 hf
            refine lv_iconst (v := 1) hx hb dX10_file_55 (by decide) ?_
            exact hret _ _ _ _ _ _ hf hW hS dX10_file_56
          · have hf := of_t c_8 hf
            refine lv_iconst (v := (-1)) hx hb dX10_file_33 (by decide) ?_
            exact hret _ _ _ _ _ _ hf hW hS dX10_file_34
  exact START _ _ hW va_S.rf
theorem in_X10_makes_X1 : ∀ w ∈ wsX10, w ∈ wsX10_makes := by decide +kernel
theorem in_X10_makes_X10 : ∀ w ∈ wsX100, w ∈ wsX10_makes := by decide +kernel
theorem in_X10_makes_X5 : ∀ w ∈ wsX50, w ∈ wsX10_makes := by decide +kernel
theorem lk_X10_makes_0 : Cond.fieldLink RX10 10 "CamStitch" "pattern" "LCamStitch$Pattern;" ∈ wsX10_makes := by decide +kernel
theorem lk_X10_makes_1 : Cond.fieldLink RX10 126 "CamStitch$Pattern" "points" "I" ∈ wsX10_makes := by decide +kernel
theorem lk_X10_makes_2 : Cond.fieldLink RX10 26 "CamStitch" "work" "LCamStitch$Disc;" ∈ wsX10_makes := by decide +kernel
theorem lk_X10_makes_3 : Cond.fieldLink RX10 157 "CamStitch$Disc" "stitches" "I" ∈ wsX10_makes := by decide +kernel
set_option maxHeartbeats 4000000 in
set_option maxRecDepth 100000 in
theorem c_X10_makes (l : Launch) {z : LZ} (hz : IC z)  (w : Mem) {r : Int32} (hf : f_X10_makes w = some r) : Met l yX10_makes wsX10_makes (rm 2 45) (PZ z w [.ref (z.2.1 66)]) (QR (some (.int r))) 0 0 (fun _ => False) := by
  refine mk_Ri (cc := cX10_makes) (maxL := 2) (by decide +kernel) rfl (Nat.le_of_ble_eq_true rfl) ?_
  intro p e s m args below meth c hx hb hml hts hown hK hW Q hret ls hl
  have hl : lv_has ls 2 [(0, .ref (z.2.1 66))] := hl
  unfold f_X10_makes at hf
  refine lv_aload_n hx hb dX10_makes_0 rfl (lv_at hl 0 rfl) ?_
  refine get_X10_0 hx hb hts in_X10_makes_X10 hown hK hz hW lk_X10_makes_0 dX10_makes_1 ?_
  refine get_X5_2 hx hb hts in_X10_makes_X5 hown hK hz hW (Nat.le_of_ble_eq_true rfl) lk_X10_makes_1 dX10_makes_4 ?_
  refine lv_if_eq (tgt := 20) hx hb dX10_makes_7 (by decide) (fun c_1 => ?_) (fun c_1 => ?_)
  · have hf := of_t c_1 hf
    refine lv_bipush (v := (-3)) hx hb dX10_makes_20 (by decide) ?_
    exact hret _ _ _ hf dX10_makes_22
  · have hf := of_f c_1 hf
    refine lv_aload_n hx hb dX10_makes_10 rfl (lv_at hl 0 rfl) ?_
    refine get_X10_2 hx hb hts in_X10_makes_X10 hown hK hz hW lk_X10_makes_2 dX10_makes_11 ?_
    refine get_X1_2 hx hb hts in_X10_makes_X1 hown hK hz hW (Nat.le_of_ble_eq_true rfl) lk_X10_makes_3 dX10_makes_14 ?_
    refine lv_if_ne (tgt := 23) hx hb dX10_makes_17 (by decide) (fun c_2 => ?_) (fun c_2 => ?_)
    · have hf := of_f c_2 hf
      refine lv_aload_n hx hb dX10_makes_23 rfl (lv_at hl 0 rfl) ?_
      refine get_X10_2 hx hb hts in_X10_makes_X10 hown hK hz hW lk_X10_makes_2 dX10_makes_24 ?_
      refine lv_aload_n hx hb dX10_makes_27 rfl (lv_at hl 0 rfl) ?_
      refine get_X10_0 hx hb hts in_X10_makes_X10 hown hK hz hW lk_X10_makes_0 dX10_makes_28 ?_
      obtain ⟨r_3, hq_4, hf⟩ := of_bd hf
      refine m_goRi (va_runV (As := [.ref (z.2.1 (60+3*0))]) (rest := []) ⟨hx, hb, hml, hown, hts⟩ (c_X1_firstMissed l hz 14 (Nat.le_of_ble_eq_true rfl) 0 (Nat.le_of_ble_eq_true rfl) w hq_4) (cwV 1 hts gX10_makes_X1_firstMissed rfl rfl rfl (by decide +kernel) ⟨Nat.le_of_ble_eq_true rfl, Nat.le_of_ble_eq_true rfl⟩) (pre_X1 hK hz hW (Nat.le_of_ble_eq_true rfl) _) rfl rfl hl.1 rfl (lv_room (Nat.le_of_ble_eq_true rfl)) dX10_makes_31 ⟨Nat.le_refl _, Nat.le_refl _⟩) ?_
      refine lv_istore_n (lv' := [(1, .int r_3), (0, .ref (z.2.1 66))]) hx hb dX10_makes_34 rfl hl (by decide) rfl (fun ls hl => ?_)
      refine lv_iload_n hx hb dX10_makes_35 rfl (lv_at hl 0 rfl) ?_
      refine lv_aload_n hx hb dX10_makes_36 rfl (lv_at hl 1 rfl) ?_
      refine get_X10_0 hx hb hts in_X10_makes_X10 hown hK hz hW lk_X10_makes_0 dX10_makes_37 ?_
      refine get_X5_2 hx hb hts in_X10_makes_X5 hown hK hz hW (Nat.le_of_ble_eq_true rfl) lk_X10_makes_1 dX10_makes_40 ?_
      have J_6 : ∀ (v_5 : Int32) (ls : Array Slot), v_5 = (if r_3 ≤ (w.1 (60+3*0) 2) then r_3 else 9999) → lv_has ls 2 [] → W p l e (rm 2 45) s m args below meth c s.heap [] 0 0 Q (F0 m 53 ls [.int v_5]) := by
        intro v_5 ls ev_5 hl
        have hf := of_lt ev_5 hf
        exact hret _ _ _ hf dX10_makes_53
      refine lv_icmp_le (tgt := 52) hx hb dX10_makes_43 (by decide) (fun c_7 => ?_) (fun c_7 => ?_)
      · refine lv_iload_n hx hb dX10_makes_52 rfl (lv_at hl 0 rfl) ?_
        exact J_6 _ _ (by rw [if_pos c_7]) (lv_sub hl [] rfl)
      · refine lv_sipush (v := 9999) hx hb dX10_makes_46 (by decide) ?_
        refine lv_goto (tgt := 53) hx hb dX10_makes_49 (by decide) ?_
        exact J_6 _ _ (by rw [if_neg c_7]) (lv_sub hl [] rfl)
    · have hf := of_t c_2 hf
      refine lv_bipush (v := (-3)) hx hb dX10_makes_20 (by decide) ?_
      exact hret _ _ _ hf dX10_makes_22
theorem in_X10_lay_X1 : ∀ w ∈ wsX10, w ∈ wsX10_lay := by decide +kernel
theorem in_X10_lay_X10 : ∀ w ∈ wsX100, w ∈ wsX10_lay := by decide +kernel
theorem lk_X10_lay_0 : Cond.fieldLink RX10 26 "CamStitch" "work" "LCamStitch$Disc;" ∈ wsX10_lay := by decide +kernel
theorem lk_X10_lay_1 : Cond.fieldLink RX10 157 "CamStitch$Disc" "stitches" "I" ∈ wsX10_lay := by decide +kernel
theorem lk_X10_lay_2 : Cond.fieldLink RX10 33 "CamStitch" "shelves" "[LCamStitch$Disc;" ∈ wsX10_lay := by decide +kernel
set_option maxHeartbeats 4000000 in
set_option maxRecDepth 100000 in
theorem c_X10_lay (l : Launch) {z : LZ} (hz : IC z) (x1 : Int32) (w : Mem) {r : Int32} {w' : Mem} (hf : f_X10_lay x1 w = some (r, w')) : Met l yX10_lay wsX10_lay (rm 2 81) (PZ z w [.ref (z.2.1 66), .int x1]) (QW z (some (.int r)) w') 0 0 (az z) := by
  refine mk_Wi (cc := cX10_lay) (maxL := 2) (by decide +kernel) rfl (Nat.le_of_ble_eq_true rfl) ?_
  intro p e s m args below meth c hx hb hml hts hown hK hW Q hret ls hl
  have hl : lv_has ls 2 [(0, .ref (z.2.1 66)), (1, .int x1)] := hl
  unfold f_X10_lay at hf
  have START : ∀ (H : Heap) (locs : List Loc), hd z w H → va_S (az z) s.heap H locs → W p l e (rm 2 81) s m args below meth c H locs 0 0 Q (F0 m 0 ls []) := by
    intro H locs hW hS
    refine lv_iload_n hx hb dX10_lay_0 rfl (lv_at hl 1 rfl) ?_
    obtain ⟨r_1, hq_2, hf⟩ := of_bd hf
    refine m_goRi (va_runS (As := [.int x1]) (rest := []) ⟨hx, hb, hml, hown, hts⟩ (c_X10_isShelf l hz x1 w hq_2) (va_cwS 1 hts gX10_lay_X10_isShelf rfl rfl rfl (by decide +kernel) ⟨Nat.le_of_ble_eq_true rfl, Nat.le_of_ble_eq_true rfl⟩) (m_preS hK hW _) rfl rfl hl.1 rfl (lv_room (Nat.le_of_ble_eq_true rfl)) dX10_lay_1 ⟨Nat.le_refl _, Nat.le_refl _⟩) ?_
    refine lv_if_ne (tgt := 9) hx hb dX10_lay_4 (by decide) (fun c_3 => ?_) (fun c_3 => ?_)
    · have hf := of_f c_3 hf
      refine lv_aload_n hx hb dX10_lay_9 rfl (lv_at hl 0 rfl) ?_
      refine get_X10_2 hx hb hts in_X10_lay_X10 hown hK hz hW lk_X10_lay_0 dX10_lay_10 ?_
      refine get_X1_2 hx hb hts in_X10_lay_X1 hown hK hz hW (Nat.le_of_ble_eq_true rfl) lk_X10_lay_1 dX10_lay_13 ?_
      refine lv_if_ne (tgt := 22) hx hb dX10_lay_16 (by decide) (fun c_4 => ?_) (fun c_4 => ?_)
      · have hf := of_f c_4 hf
        refine lv_aload_n hx hb dX10_lay_22 rfl (lv_at hl 0 rfl) ?_
        refine get_X10_4 hx hb hts in_X10_lay_X10 hown hK hz hW lk_X10_lay_2 dX10_lay_23 ?_
        refine lv_iload_n hx hb dX10_lay_26 rfl (lv_at hl 1 rfl) ?_
        obtain ⟨g_5, hf⟩ := of_gd hf
        refine ld_AD hx hb hK hz hW g_5 dX10_lay_27 ?_
        refine lv_aload_n hx hb dX10_lay_28 rfl (lv_at hl 0 rfl) ?_
        refine get_X10_2 hx hb hts in_X10_lay_X10 hown hK hz hW lk_X10_lay_0 dX10_lay_29 ?_
        obtain ⟨w_8, hq_7, hf⟩ := of_bd hf
        refine m_goWv (va_runV (As := [.ref (z.2.1 (3*14))]) (rest := []) ⟨hx, hb, hml, hown, hts⟩ (c_X1_become l hz x1.toNatClampNeg (p8_16 (inb_lt g_5)) 14 (Nat.le_of_ble_eq_true rfl) w hq_7) (cwV 1 hts gX10_lay_X1_become rfl rfl rfl (by decide +kernel) ⟨Nat.le_of_ble_eq_true rfl, Nat.le_of_ble_eq_true rfl⟩) (pre_X1 hK hz hW (p8_16 (inb_lt g_5)) _) rfl rfl hl.1 rfl (lv_room (Nat.le_of_ble_eq_true rfl)) dX10_lay_32 ⟨Nat.le_refl _, Nat.le_refl _⟩) hS (fun H locs hW hS => ?_)
        refine lv_aload_n hx hb dX10_lay_35 rfl (lv_at hl 0 rfl) ?_
        refine get_X10_2 hx hb hts in_X10_lay_X10 hown hK hz hW lk_X10_lay_0 dX10_lay_36 ?_
        refine get_X1_2 hx hb hts in_X10_lay_X1 hown hK hz hW (Nat.le_of_ble_eq_true rfl) lk_X10_lay_1 dX10_lay_39 ?_
        exact hret _ _ _ _ _ _ hf hW hS dX10_lay_42
      · have hf := of_t c_4 hf
        refine lv_bipush (v := (-3)) hx hb dX10_lay_19 (by decide) ?_
        exact hret _ _ _ _ _ _ hf hW hS dX10_lay_21
    · have hf := of_t c_3 hf
      refine lv_iconst (v := (-1)) hx hb dX10_lay_7 (by decide) ?_
      exact hret _ _ _ _ _ _ hf hW hS dX10_lay_8
  exact START _ _ hW va_S.rf
theorem in_X10_comesFrom_X1 : ∀ w ∈ wsX10, w ∈ wsX10_comesFrom := by decide +kernel
theorem in_X10_comesFrom_X10 : ∀ w ∈ wsX100, w ∈ wsX10_comesFrom := by decide +kernel
theorem lk_X10_comesFrom_0 : Cond.fieldLink RX10 33 "CamStitch" "shelves" "[LCamStitch$Disc;" ∈ wsX10_comesFrom := by decide +kernel
theorem lk_X10_comesFrom_1 : Cond.fieldLink RX10 157 "CamStitch$Disc" "stitches" "I" ∈ wsX10_comesFrom := by decide +kernel
theorem lk_X10_comesFrom_2 : Cond.fieldLink RX10 26 "CamStitch" "work" "LCamStitch$Disc;" ∈ wsX10_comesFrom := by decide +kernel
set_option maxHeartbeats 4000000 in
set_option maxRecDepth 100000 in
theorem c_X10_comesFrom (l : Launch) {z : LZ} (hz : IC z) (x1 : Int32) (w : Mem) {r : Int32} {w' : Mem} (hf : f_X10_comesFrom x1 w = some (r, w')) : Met l yX10_comesFrom wsX10_comesFrom (rm 2 81) (PZ z w [.ref (z.2.1 66), .int x1]) (QW z (some (.int r)) w') 0 0 (az z) := by
  refine mk_Wz (cc := cX10_comesFrom) (maxL := 2) (by decide +kernel) rfl (Nat.le_of_ble_eq_true rfl) ?_
  intro p e s m args below meth c hx hb hml hts hown hK hW Q hret ls hl
  have hl : lv_has ls 2 [(0, .ref (z.2.1 66)), (1, .int x1)] := hl
  unfold f_X10_comesFrom at hf
  have START : ∀ (H : Heap) (locs : List Loc), hd z w H → va_S (az z) s.heap H locs → W p l e (rm 2 81) s m args below meth c H locs 0 0 Q (F0 m 0 ls []) := by
    intro H locs hW hS
    refine lv_aload_n hx hb dX10_comesFrom_0 rfl (lv_at hl 0 rfl) ?_
    refine get_X10_4 hx hb hts in_X10_comesFrom_X10 hown hK hz hW lk_X10_comesFrom_0 dX10_comesFrom_1 ?_
    refine lv_iload_n hx hb dX10_comesFrom_4 rfl (lv_at hl 1 rfl) ?_
    obtain ⟨g_1, hf⟩ := of_gd hf
    refine ld_AD hx hb hK hz hW g_1 dX10_comesFrom_5 ?_
    refine get_X1_2 hx hb hts in_X10_comesFrom_X1 hown hK hz hW (p8_16 (inb_lt g_1)) lk_X10_comesFrom_1 dX10_comesFrom_6 ?_
    refine lv_topi (fun v_2 ev_2 => ?_)
    have hf := of_lt ev_2 hf
    refine lv_if_ne (tgt := 14) hx hb dX10_comesFrom_9 (by decide) (fun c_3 => ?_) (fun c_3 => ?_)
    · have hf := of_f c_3 hf
      refine lv_aload_n hx hb dX10_comesFrom_14 rfl (lv_at hl 0 rfl) ?_
      refine get_X10_2 hx hb hts in_X10_comesFrom_X10 hown hK hz hW lk_X10_comesFrom_2 dX10_comesFrom_15 ?_
      refine lv_aload_n hx hb dX10_comesFrom_18 rfl (lv_at hl 0 rfl) ?_
      refine get_X10_4 hx hb hts in_X10_comesFrom_X10 hown hK hz hW lk_X10_comesFrom_0 dX10_comesFrom_19 ?_
      refine lv_iload_n hx hb dX10_comesFrom_22 rfl (lv_at hl 1 rfl) ?_
      refine ld_AD hx hb hK hz hW g_1 dX10_comesFrom_23 ?_
      obtain ⟨w_6, hq_5, hf⟩ := of_bd hf
      refine m_goWv (va_runV (As := [.ref (z.2.1 (3*x1.toNatClampNeg))]) (rest := []) ⟨hx, hb, hml, hown, hts⟩ (c_X1_become l hz 14 (Nat.le_of_ble_eq_true rfl) x1.toNatClampNeg (p8_16 (inb_lt g_1)) w hq_5) (cwV 1 hts gX10_comesFrom_X1_become rfl rfl rfl (by decide +kernel) ⟨Nat.le_of_ble_eq_true rfl, Nat.le_of_ble_eq_true rfl⟩) (pre_X1 hK hz hW (Nat.le_of_ble_eq_true rfl) _) rfl rfl hl.1 rfl (lv_room (Nat.le_of_ble_eq_true rfl)) dX10_comesFrom_24 ⟨Nat.le_refl _, Nat.le_refl _⟩) hS (fun H locs hW hS => ?_)
      refine lv_iconst (v := 1) hx hb dX10_comesFrom_27 (by decide) ?_
      exact hret _ _ _ _ _ _ hf rfl hW hS dX10_comesFrom_28
    · have hf := of_t c_3 hf
      refine lv_iconst (v := 0) hx hb dX10_comesFrom_12 (by decide) ?_
      exact hret _ _ _ _ _ _ hf rfl hW hS dX10_comesFrom_13
  exact START _ _ hW va_S.rf
theorem in_X10_take_X1 : ∀ w ∈ wsX10, w ∈ wsX10_take := by decide +kernel
theorem in_X10_take_X10 : ∀ w ∈ wsX100, w ∈ wsX10_take := by decide +kernel
theorem lk_X10_take_0 : Cond.fieldLink RX10 26 "CamStitch" "work" "LCamStitch$Disc;" ∈ wsX10_take := by decide +kernel
theorem lk_X10_take_1 : Cond.fieldLink RX10 157 "CamStitch$Disc" "stitches" "I" ∈ wsX10_take := by decide +kernel
set_option maxHeartbeats 4000000 in
set_option maxRecDepth 100000 in
theorem c_X10_take (l : Launch) {z : LZ} (hz : IC z) (x1 : Int32) (w : Mem) {r : Int32} {w' : Mem} (hf : f_X10_take x1 w = some (r, w')) : Met l yX10_take wsX10_take (rm 3 102) (PZ z w [.ref (z.2.1 66), .int x1]) (QW z (some (.int r)) w') 0 0 (az z) := by
  refine mk_Wi (cc := cX10_take) (maxL := 2) (by decide +kernel) rfl (Nat.le_of_ble_eq_true rfl) ?_
  intro p e s m args below meth c hx hb hml hts hown hK hW Q hret ls hl
  have hl : lv_has ls 2 [(0, .ref (z.2.1 66)), (1, .int x1)] := hl
  unfold f_X10_take at hf
  have START : ∀ (H : Heap) (locs : List Loc), hd z w H → va_S (az z) s.heap H locs → W p l e (rm 3 102) s m args below meth c H locs 0 0 Q (F0 m 0 ls []) := by
    intro H locs hW hS
    refine lv_iload_n hx hb dX10_take_0 rfl (lv_at hl 1 rfl) ?_
    obtain ⟨r_1, hq_2, hf⟩ := of_bd hf
    refine m_goRi (va_runS (As := [.int x1]) (rest := []) ⟨hx, hb, hml, hown, hts⟩ (c_X10_isShelf l hz x1 w hq_2) (va_cwS 1 hts gX10_take_X10_isShelf rfl rfl rfl (by decide +kernel) ⟨Nat.le_of_ble_eq_true rfl, Nat.le_of_ble_eq_true rfl⟩) (m_preS hK hW _) rfl rfl hl.1 rfl (lv_room (Nat.le_of_ble_eq_true rfl)) dX10_take_1 ⟨Nat.le_refl _, Nat.le_refl _⟩) ?_
    refine lv_if_ne (tgt := 9) hx hb dX10_take_4 (by decide) (fun c_3 => ?_) (fun c_3 => ?_)
    · have hf := of_f c_3 hf
      refine lv_aload_n hx hb dX10_take_9 rfl (lv_at hl 0 rfl) ?_
      refine lv_iload_n hx hb dX10_take_10 rfl (lv_at hl 1 rfl) ?_
      obtain ⟨r_4, w_6, hq_5, hf⟩ := of_b2 hf
      refine m_goWi (va_runV (As := [.int x1]) (rest := []) ⟨hx, hb, hml, hown, hts⟩ (c_X10_comesFrom l hz x1 w hq_5) (cwV 1 hts gX10_take_X10_comesFrom rfl rfl rfl (by decide +kernel) ⟨Nat.le_of_ble_eq_true rfl, Nat.le_of_ble_eq_true rfl⟩) (pre_X10 hK hz hW _) rfl rfl hl.1 rfl (lv_room (Nat.le_of_ble_eq_true rfl)) dX10_take_11 ⟨Nat.le_refl _, Nat.le_refl _⟩) hS (fun H locs hW hS => ?_)
      have J_8 : ∀ (v_7 : Int32) (ls : Array Slot), v_7 = (if r_4 = 0 then (-3) else (w_6.1 (3*14) 2)) → lv_has ls 2 [] → W p l e (rm 3 102) s m args below meth c H locs 0 0 Q (F0 m 29 ls [.int v_7]) := by
        intro v_7 ls ev_7 hl
        have hf := of_lt ev_7 hf
        exact hret _ _ _ _ _ _ hf hW hS dX10_take_29
      refine lv_if_eq (tgt := 27) hx hb dX10_take_14 (by decide) (fun c_9 => ?_) (fun c_9 => ?_)
      · refine lv_bipush (v := (-3)) hx hb dX10_take_27 (by decide) ?_
        exact J_8 _ _ (by rw [if_pos c_9]) (lv_sub hl [] rfl)
      · refine lv_aload_n hx hb dX10_take_17 rfl (lv_at hl 0 rfl) ?_
        refine get_X10_2 hx hb hts in_X10_take_X10 hown hK hz hW lk_X10_take_0 dX10_take_18 ?_
        refine get_X1_2 hx hb hts in_X10_take_X1 hown hK hz hW (Nat.le_of_ble_eq_true rfl) lk_X10_take_1 dX10_take_21 ?_
        refine lv_goto (tgt := 29) hx hb dX10_take_24 (by decide) ?_
        exact J_8 _ _ (by rw [if_neg c_9]) (lv_sub hl [] rfl)
    · have hf := of_t c_3 hf
      refine lv_iconst (v := (-1)) hx hb dX10_take_7 (by decide) ?_
      exact hret _ _ _ _ _ _ hf hW hS dX10_take_8
  exact START _ _ hW va_S.rf
theorem in_X10_turn_X1 : ∀ w ∈ wsX10, w ∈ wsX10_turn := by decide +kernel
theorem in_X10_turn_X10 : ∀ w ∈ wsX100, w ∈ wsX10_turn := by decide +kernel
theorem lk_X10_turn_0 : Cond.fieldLink RX10 26 "CamStitch" "work" "LCamStitch$Disc;" ∈ wsX10_turn := by decide +kernel
theorem lk_X10_turn_1 : Cond.fieldLink RX10 157 "CamStitch$Disc" "stitches" "I" ∈ wsX10_turn := by decide +kernel
theorem lk_X10_turn_2 : Cond.fieldLink RX10 30 "CamStitch" "spare" "LCamStitch$Disc;" ∈ wsX10_turn := by decide +kernel
set_option maxHeartbeats 4000000 in
set_option maxRecDepth 100000 in
theorem c_X10_turn (l : Launch) {z : LZ} (hz : IC z) (x1 : Int32) (x2 : Int32) (w : Mem) {r : Int32} {w' : Mem} (hf : f_X10_turn x1 x2 w = some (r, w')) : Met l yX10_turn wsX10_turn (rm 2 81) (PZ z w [.ref (z.2.1 66), .int x1, .int x2]) (QW z (some (.int r)) w') 0 0 (az z) := by
  refine mk_Wi (cc := cX10_turn) (maxL := 3) (by decide +kernel) rfl (Nat.le_of_ble_eq_true rfl) ?_
  intro p e s m args below meth c hx hb hml hts hown hK hW Q hret ls hl
  have hl : lv_has ls 3 [(0, .ref (z.2.1 66)), (1, .int x1), (2, .int x2)] := hl
  unfold f_X10_turn at hf
  have START : ∀ (H : Heap) (locs : List Loc), hd z w H → va_S (az z) s.heap H locs → W p l e (rm 2 81) s m args below meth c H locs 0 0 Q (F0 m 0 ls []) := by
    intro H locs hW hS
    refine lv_iload_n hx hb dX10_turn_0 rfl (lv_at hl 1 rfl) ?_
    refine lv_if_lt (tgt := 24) hx hb dX10_turn_1 (by decide) (fun c_1 => ?_) (fun c_1 => ?_)
    · have hf := of_t c_1 hf
      refine lv_iconst (v := (-1)) hx hb dX10_turn_24 (by decide) ?_
      exact hret _ _ _ _ _ _ hf hW hS dX10_turn_25
    · have hf := of_f c_1 hf
      refine lv_iload_n hx hb dX10_turn_4 rfl (lv_at hl 1 rfl) ?_
      refine lv_aload_n hx hb dX10_turn_5 rfl (lv_at hl 0 rfl) ?_
      refine get_X10_2 hx hb hts in_X10_turn_X10 hown hK hz hW lk_X10_turn_0 dX10_turn_6 ?_
      refine get_X1_2 hx hb hts in_X10_turn_X1 hown hK hz hW (Nat.le_of_ble_eq_true rfl) lk_X10_turn_1 dX10_turn_9 ?_
      refine lv_icmp_ge (tgt := 24) hx hb dX10_turn_12 (by decide) (fun c_2 => ?_) (fun c_2 => ?_)
      · have hf := of_t c_2 hf
        refine lv_iconst (v := (-1)) hx hb dX10_turn_24 (by decide) ?_
        exact hret _ _ _ _ _ _ hf hW hS dX10_turn_25
      · have hf := of_f c_2 hf
        refine lv_iload_n hx hb dX10_turn_15 rfl (lv_at hl 2 rfl) ?_
        refine lv_if_lt (tgt := 24) hx hb dX10_turn_16 (by decide) (fun c_3 => ?_) (fun c_3 => ?_)
        · have hf := of_t c_3 hf
          refine lv_iconst (v := (-1)) hx hb dX10_turn_24 (by decide) ?_
          exact hret _ _ _ _ _ _ hf hW hS dX10_turn_25
        · have hf := of_f c_3 hf
          refine lv_iload_n hx hb dX10_turn_19 rfl (lv_at hl 2 rfl) ?_
          refine lv_iconst (v := 1) hx hb dX10_turn_20 (by decide) ?_
          refine lv_icmp_le (tgt := 26) hx hb dX10_turn_21 (by decide) (fun c_4 => ?_) (fun c_4 => ?_)
          · have hf := of_t c_4 hf
            refine lv_aload_n hx hb dX10_turn_26 rfl (lv_at hl 0 rfl) ?_
            refine get_X10_3 hx hb hts in_X10_turn_X10 hown hK hz hW lk_X10_turn_2 dX10_turn_27 ?_
            refine lv_aload_n hx hb dX10_turn_30 rfl (lv_at hl 0 rfl) ?_
            refine get_X10_2 hx hb hts in_X10_turn_X10 hown hK hz hW lk_X10_turn_0 dX10_turn_31 ?_
            obtain ⟨w_7, hq_6, hf⟩ := of_bd hf
            refine m_goWv (va_runV (As := [.ref (z.2.1 (3*14))]) (rest := []) ⟨hx, hb, hml, hown, hts⟩ (c_X1_become l hz 15 (Nat.le_of_ble_eq_true rfl) 14 (Nat.le_of_ble_eq_true rfl) w hq_6) (cwV 1 hts gX10_turn_X1_become rfl rfl rfl (by decide +kernel) ⟨Nat.le_of_ble_eq_true rfl, Nat.le_of_ble_eq_true rfl⟩) (pre_X1 hK hz hW (Nat.le_of_ble_eq_true rfl) _) rfl rfl hl.1 rfl (lv_room (Nat.le_of_ble_eq_true rfl)) dX10_turn_34 ⟨Nat.le_refl _, Nat.le_refl _⟩) hS (fun H locs hW hS => ?_)
            refine lv_aload_n hx hb dX10_turn_37 rfl (lv_at hl 0 rfl) ?_
            refine get_X10_2 hx hb hts in_X10_turn_X10 hown hK hz hW lk_X10_turn_0 dX10_turn_38 ?_
            refine lv_aload_n hx hb dX10_turn_41 rfl (lv_at hl 0 rfl) ?_
            refine get_X10_3 hx hb hts in_X10_turn_X10 hown hK hz hW lk_X10_turn_2 dX10_turn_42 ?_
            refine lv_iload_n hx hb dX10_turn_45 rfl (lv_at hl 1 rfl) ?_
            refine lv_iload_n hx hb dX10_turn_46 rfl (lv_at hl 2 rfl) ?_
            refine lv_iconst (v := 1) hx hb dX10_turn_47 (by decide) ?_
            have J_9 : ∀ (v_8 : Int32) (ls : Array Slot), v_8 = (if x2 = 1 then (-1) else 1) → lv_has ls 3 [] → W p l e (rm 2 81) s m args below meth c H locs 0 0 Q (F0 m 56 ls [.int v_8, .int x1, .ref (z.2.1 (3*15)), .ref (z.2.1 (3*14))]) := by
              intro v_8 ls ev_8 hl
              have hf := of_lt ev_8 hf
              obtain ⟨w_12, hq_11, hf⟩ := of_bd hf
              refine m_goWv (va_runV (As := [.ref (z.2.1 (3*15)), .int x1, .int v_8]) (rest := []) ⟨hx, hb, hml, hown, hts⟩ (c_X1_becomeTurned l hz 14 (Nat.le_of_ble_eq_true rfl) 15 (Nat.le_of_ble_eq_true rfl) x1 v_8 w_7 hq_11) (cwV 3 hts gX10_turn_X1_becomeTurned rfl rfl rfl (by decide +kernel) ⟨Nat.le_of_ble_eq_true rfl, Nat.le_of_ble_eq_true rfl⟩) (pre_X1 hK hz hW (Nat.le_of_ble_eq_true rfl) _) rfl rfl hl.1 rfl (lv_room (Nat.le_of_ble_eq_true rfl)) dX10_turn_56 ⟨Nat.le_refl _, Nat.le_refl _⟩) hS (fun H locs hW hS => ?_)
              refine lv_iconst (v := 1) hx hb dX10_turn_59 (by decide) ?_
              exact hret _ _ _ _ _ _ hf hW hS dX10_turn_60
            refine lv_icmp_ne (tgt := 55) hx hb dX10_turn_48 (by decide) (fun c_13 => ?_) (fun c_13 => ?_)
            · refine lv_iconst (v := 1) hx hb dX10_turn_55 (by decide) ?_
              exact J_9 _ _ (by rw [if_neg c_13]) (lv_sub hl [] rfl)
            · refine lv_iconst (v := (-1)) hx hb dX10_turn_51 (by decide) ?_
              refine lv_goto (tgt := 56) hx hb dX10_turn_52 (by decide) ?_
              exact J_9 _ _ (by rw [if_pos c_13]) (lv_sub hl [] rfl)
          · have hf := of_f c_4 hf
            refine lv_iconst (v := (-1)) hx hb dX10_turn_24 (by decide) ?_
            exact hret _ _ _ _ _ _ hf hW hS dX10_turn_25
  exact START _ _ hW va_S.rf
theorem in_X10_side_X10 : ∀ w ∈ wsX100, w ∈ wsX10_side := by decide +kernel
theorem in_X10_side_X3 : ∀ w ∈ wsX30, w ∈ wsX10_side := by decide +kernel
theorem lk_X10_side_0 : Cond.fieldLink RX10 40 "CamStitch" "hem" "LCamStitch$Hem;" ∈ wsX10_side := by decide +kernel
theorem lk_X10_side_1 : Cond.fieldLink RX10 90 "CamStitch$Hem" "sides" "I" ∈ wsX10_side := by decide +kernel
theorem lk_X10_side_2 : Cond.fieldLink RX10 206 "CamStitch$Hem" "lengths" "[I" ∈ wsX10_side := by decide +kernel
set_option maxHeartbeats 4000000 in
set_option maxRecDepth 100000 in
theorem c_X10_side (l : Launch) {z : LZ} (hz : IC z) (x1 : Int32) (w : Mem) {r : Int32} {w' : Mem} (hf : f_X10_side x1 w = some (r, w')) : Met l yX10_side wsX10_side (rm 0 0) (PZ z w [.ref (z.2.1 66), .int x1]) (QW z (some (.int r)) w') 0 0 (az z) := by
  refine mk_Wi (cc := cX10_side) (maxL := 2) (by decide +kernel) rfl (Nat.le_of_ble_eq_true rfl) ?_
  intro p e s m args below meth c hx hb hml hts hown hK hW Q hret ls hl
  have hl : lv_has ls 2 [(0, .ref (z.2.1 66)), (1, .int x1)] := hl
  unfold f_X10_side at hf
  have START : ∀ (H : Heap) (locs : List Loc), hd z w H → va_S (az z) s.heap H locs → W p l e (rm 0 0) s m args below meth c H locs 0 0 Q (F0 m 0 ls []) := by
    intro H locs hW hS
    refine lv_iload_n hx hb dX10_side_0 rfl (lv_at hl 1 rfl) ?_
    refine lv_iconst (v := 1) hx hb dX10_side_1 (by decide) ?_
    refine lv_icmp_lt (tgt := 12) hx hb dX10_side_2 (by decide) (fun c_1 => ?_) (fun c_1 => ?_)
    · have hf := of_t c_1 hf
      refine lv_iconst (v := (-1)) hx hb dX10_side_12 (by decide) ?_
      exact hret _ _ _ _ _ _ hf hW hS dX10_side_13
    · have hf := of_f c_1 hf
      refine lv_iload_n hx hb dX10_side_5 rfl (lv_at hl 1 rfl) ?_
      refine lv_sipush (v := 999) hx hb dX10_side_6 (by decide) ?_
      refine lv_icmp_le (tgt := 14) hx hb dX10_side_9 (by decide) (fun c_2 => ?_) (fun c_2 => ?_)
      · have hf := of_t c_2 hf
        refine lv_aload_n hx hb dX10_side_14 rfl (lv_at hl 0 rfl) ?_
        refine get_X10_5 hx hb hts in_X10_side_X10 hown hK hz hW lk_X10_side_0 dX10_side_15 ?_
        refine get_X3_1 hx hb hts in_X10_side_X3 hown hK hz hW lk_X10_side_1 dX10_side_18 ?_
        refine lv_bipush (v := 8) hx hb dX10_side_21 (by decide) ?_
        refine lv_icmp_lt (tgt := 29) hx hb dX10_side_23 (by decide) (fun c_3 => ?_) (fun c_3 => ?_)
        · have hf := of_t c_3 hf
          refine lv_aload_n hx hb dX10_side_29 rfl (lv_at hl 0 rfl) ?_
          refine get_X10_5 hx hb hts in_X10_side_X10 hown hK hz hW lk_X10_side_0 dX10_side_30 ?_
          refine get_X3_0 hx hb hts in_X10_side_X3 hown hK hz hW lk_X10_side_2 dX10_side_33 ?_
          refine lv_aload_n hx hb dX10_side_36 rfl (lv_at hl 0 rfl) ?_
          refine get_X10_5 hx hb hts in_X10_side_X10 hown hK hz hW lk_X10_side_0 dX10_side_37 ?_
          refine get_X3_1 hx hb hts in_X10_side_X3 hown hK hz hW lk_X10_side_1 dX10_side_40 ?_
          refine lv_iload_n hx hb dX10_side_43 rfl (lv_at hl 1 rfl) ?_
          obtain ⟨g_4, hf⟩ := of_gd hf
          refine st_A73 hx hb hK hz hW hS g_4 dX10_side_44 (fun H locs hW hS => ?_)
          obtain ⟨w_5, ew_5⟩ : ∃ y : Mem, y = mS w 73 ((w.1 72 1).toNatClampNeg) x1 := ⟨_, rfl⟩
          have hW : hd z w_5 H := by rw [ew_5]; exact hW
          have hf := of_lt ew_5 hf
          refine lv_aload_n hx hb dX10_side_45 rfl (lv_at hl 0 rfl) ?_
          refine get_X10_5 hx hb hts in_X10_side_X10 hown hK hz hW lk_X10_side_0 dX10_side_46 ?_
          refine lv_dup hx hb dX10_side_49 rfl ?_
          refine get_X3_1 hx hb hts in_X10_side_X3 hown hK hz hW lk_X10_side_1 dX10_side_50 ?_
          refine lv_iconst (v := 1) hx hb dX10_side_53 (by decide) ?_
          refine lv_iadd hx hb dX10_side_54 ?_
          refine put_X3_1 hx hb hts in_X10_side_X3 hown hK hz hW hS lk_X10_side_1 dX10_side_55 (fun H locs hW hS => ?_)
          obtain ⟨w_6, ew_6⟩ : ∃ y : Mem, y = mS w_5 72 1 ((w_5.1 72 1) + 1) := ⟨_, rfl⟩
          have hW : hd z w_6 H := by rw [ew_6]; exact hW
          have hf := of_lt ew_6 hf
          refine lv_aload_n hx hb dX10_side_58 rfl (lv_at hl 0 rfl) ?_
          refine get_X10_5 hx hb hts in_X10_side_X10 hown hK hz hW lk_X10_side_0 dX10_side_59 ?_
          refine get_X3_1 hx hb hts in_X10_side_X3 hown hK hz hW lk_X10_side_1 dX10_side_62 ?_
          exact hret _ _ _ _ _ _ hf hW hS dX10_side_65
        · have hf := of_f c_3 hf
          refine lv_bipush (v := (-2)) hx hb dX10_side_26 (by decide) ?_
          exact hret _ _ _ _ _ _ hf hW hS dX10_side_28
      · have hf := of_f c_2 hf
        refine lv_iconst (v := (-1)) hx hb dX10_side_12 (by decide) ?_
        exact hret _ _ _ _ _ _ hf hW hS dX10_side_13
  exact START _ _ hW va_S.rf
theorem in_X10_sideless_X10 : ∀ w ∈ wsX100, w ∈ wsX10_sideless := by decide +kernel
theorem in_X10_sideless_X3 : ∀ w ∈ wsX30, w ∈ wsX10_sideless := by decide +kernel
theorem lk_X10_sideless_0 : Cond.fieldLink RX10 40 "CamStitch" "hem" "LCamStitch$Hem;" ∈ wsX10_sideless := by decide +kernel
theorem lk_X10_sideless_1 : Cond.fieldLink RX10 90 "CamStitch$Hem" "sides" "I" ∈ wsX10_sideless := by decide +kernel
set_option maxHeartbeats 4000000 in
set_option maxRecDepth 100000 in
theorem c_X10_sideless (l : Launch) {z : LZ} (hz : IC z)  (w : Mem) {r : Int32} {w' : Mem} (hf : f_X10_sideless w = some (r, w')) : Met l yX10_sideless wsX10_sideless (rm 0 0) (PZ z w [.ref (z.2.1 66)]) (QW z (some (.int r)) w') 0 0 (az z) := by
  refine mk_Wi (cc := cX10_sideless) (maxL := 2) (by decide +kernel) rfl (Nat.le_of_ble_eq_true rfl) ?_
  intro p e s m args below meth c hx hb hml hts hown hK hW Q hret ls hl
  have hl : lv_has ls 2 [(0, .ref (z.2.1 66))] := hl
  unfold f_X10_sideless at hf
  have START : ∀ (H : Heap) (locs : List Loc), hd z w H → va_S (az z) s.heap H locs → W p l e (rm 0 0) s m args below meth c H locs 0 0 Q (F0 m 0 ls []) := by
    intro H locs hW hS
    refine lv_aload_n hx hb dX10_sideless_0 rfl (lv_at hl 0 rfl) ?_
    refine get_X10_5 hx hb hts in_X10_sideless_X10 hown hK hz hW lk_X10_sideless_0 dX10_sideless_1 ?_
    refine get_X3_1 hx hb hts in_X10_sideless_X3 hown hK hz hW lk_X10_sideless_1 dX10_sideless_4 ?_
    refine lv_topi (fun v_1 ev_1 => ?_)
    have hf := of_lt ev_1 hf
    refine lv_istore_n (lv' := [(1, .int v_1), (0, .ref (z.2.1 66))]) hx hb dX10_sideless_7 rfl hl (by decide) rfl (fun ls hl => ?_)
    refine lv_aload_n hx hb dX10_sideless_8 rfl (lv_at hl 1 rfl) ?_
    refine get_X10_5 hx hb hts in_X10_sideless_X10 hown hK hz hW lk_X10_sideless_0 dX10_sideless_9 ?_
    refine lv_iconst (v := 0) hx hb dX10_sideless_12 (by decide) ?_
    refine put_X3_1 hx hb hts in_X10_sideless_X3 hown hK hz hW hS lk_X10_sideless_1 dX10_sideless_13 (fun H locs hW hS => ?_)
    obtain ⟨w_2, ew_2⟩ : ∃ y : Mem, y = mS w 72 1 0 := ⟨_, rfl⟩
    have hW : hd z w_2 H := by rw [ew_2]; exact hW
    have hf := of_lt ew_2 hf
    refine lv_iload_n hx hb dX10_sideless_16 rfl (lv_at hl 0 rfl) ?_
    exact hret _ _ _ _ _ _ hf hW hS dX10_sideless_17
  exact START _ _ hW va_S.rf
theorem in_X10_meets_X10 : ∀ w ∈ wsX100, w ∈ wsX10_meets := by decide +kernel
theorem in_X10_meets_X3 : ∀ w ∈ wsX30, w ∈ wsX10_meets := by decide +kernel
theorem lk_X10_meets_0 : Cond.fieldLink RX10 40 "CamStitch" "hem" "LCamStitch$Hem;" ∈ wsX10_meets := by decide +kernel
theorem lk_X10_meets_1 : Cond.fieldLink RX10 90 "CamStitch$Hem" "sides" "I" ∈ wsX10_meets := by decide +kernel
theorem lk_X10_meets_2 : Cond.fieldLink RX10 26 "CamStitch" "work" "LCamStitch$Disc;" ∈ wsX10_meets := by decide +kernel
set_option maxHeartbeats 4000000 in
set_option maxRecDepth 100000 in
theorem c_X10_meets (l : Launch) {z : LZ} (hz : IC z)  (w : Mem) {r : Int32} {w' : Mem} (hf : f_X10_meets w = some (r, w')) : Met l yX10_meets wsX10_meets (rm 4 87) (PZ z w [.ref (z.2.1 66)]) (QW z (some (.int r)) w') 0 0 (az z) := by
  refine mk_Wi (cc := cX10_meets) (maxL := 2) (by decide +kernel) rfl (Nat.le_of_ble_eq_true rfl) ?_
  intro p e s m args below meth c hx hb hml hts hown hK hW Q hret ls hl
  have hl : lv_has ls 2 [(0, .ref (z.2.1 66))] := hl
  unfold f_X10_meets at hf
  have START : ∀ (H : Heap) (locs : List Loc), hd z w H → va_S (az z) s.heap H locs → W p l e (rm 4 87) s m args below meth c H locs 0 0 Q (F0 m 0 ls []) := by
    intro H locs hW hS
    refine lv_aload_n hx hb dX10_meets_0 rfl (lv_at hl 0 rfl) ?_
    refine get_X10_5 hx hb hts in_X10_meets_X10 hown hK hz hW lk_X10_meets_0 dX10_meets_1 ?_
    refine get_X3_1 hx hb hts in_X10_meets_X3 hown hK hz hW lk_X10_meets_1 dX10_meets_4 ?_
    refine lv_if_ne (tgt := 13) hx hb dX10_meets_7 (by decide) (fun c_1 => ?_) (fun c_1 => ?_)
    · have hf := of_f c_1 hf
      refine lv_iconst (v := 0) hx hb dX10_meets_13 (by decide) ?_
      refine lv_istore_n (lv' := [(1, .int 0), (0, .ref (z.2.1 66))]) hx hb dX10_meets_14 rfl hl (by decide) rfl (fun ls hl => ?_)
      have L_4 : ∀ (n : Nat) (x1_2 : Int32) (w_3 : Mem) (exL_4 : Sum (Int32 × Mem) (Mem)) (H : Heap) (locs : List Loc) (ls : Array Slot), f_X10_meets_L15 n x1_2 w_3 = some exL_4 → hd z w_3 H → va_S (az z) s.heap H locs → lv_has ls 2 [(0, .ref (z.2.1 66)), (1, .int x1_2)] → (∀ ret, exL_4 = .inl ret → some (ret) = some (r, w')) → (∀ x, exL_4 = .inr x → ∀ (H : Heap) (locs : List Loc) (ls : Array Slot), hd z (x) H → va_S (az z) s.heap H locs → lv_has ls 2 [] → W p l e (rm 4 87) s m args below meth c H locs 0 0 Q (F0 m 66 ls [])) → W p l e (rm 4 87) s m args below meth c H locs 0 0 Q (F0 m 15 ls []) := by
        intro n
        induction n with
        | zero =>
          intro x1_2 w_3 exL_4 H locs ls hf
          have hf : (none : Option (Sum (Int32 × Mem) (Mem))) = some exL_4 := hf
          cases hf
        | succ n ihL_4 =>
          intro x1_2 w_3 exL_4 H locs ls hf hW hS hl hRL_4 hEL_4
          rw [f_X10_meets_L15_s] at hf
          refine lv_iload_n hx hb dX10_meets_15 rfl (lv_at hl 1 rfl) ?_
          refine lv_aload_n hx hb dX10_meets_16 rfl (lv_at hl 0 rfl) ?_
          refine get_X10_5 hx hb hts in_X10_meets_X10 hown hK hz hW lk_X10_meets_0 dX10_meets_17 ?_
          refine get_X3_1 hx hb hts in_X10_meets_X3 hown hK hz hW lk_X10_meets_1 dX10_meets_20 ?_
          refine lv_icmp_ge (tgt := 66) hx hb dX10_meets_23 (by decide) (fun c_5 => ?_) (fun c_5 => ?_)
          · have hf := of_t c_5 hf
            exact hEL_4 _ (Option.some.inj hf).symm _ _ _ hW hS (lv_sub hl [] rfl)
          · have hf := of_f c_5 hf
            refine lv_aload_n hx hb dX10_meets_26 rfl (lv_at hl 0 rfl) ?_
            refine get_X10_5 hx hb hts in_X10_meets_X10 hown hK hz hW lk_X10_meets_0 dX10_meets_27 ?_
            refine lv_iload_n hx hb dX10_meets_30 rfl (lv_at hl 1 rfl) ?_
            refine lv_aload_n hx hb dX10_meets_31 rfl (lv_at hl 0 rfl) ?_
            refine get_X10_2 hx hb hts in_X10_meets_X10 hown hK hz hW lk_X10_meets_2 dX10_meets_32 ?_
            obtain ⟨r_6, w_8, hq_7, hf⟩ := of_b2 hf
            refine m_goWi (va_runV (As := [.int x1_2, .ref (z.2.1 (3*14))]) (rest := []) ⟨hx, hb, hml, hown, hts⟩ (c_X3_measures l hz x1_2 14 (Nat.le_of_ble_eq_true rfl) w_3 hq_7) (cwV 2 hts gX10_meets_X3_measures rfl rfl rfl (by decide +kernel) ⟨Nat.le_of_ble_eq_true rfl, Nat.le_of_ble_eq_true rfl⟩) (pre_X3 hK hz hW _) rfl rfl hl.1 rfl (lv_room (Nat.le_of_ble_eq_true rfl)) dX10_meets_35 ⟨Nat.le_refl _, Nat.le_refl _⟩) hS (fun H locs hW hS => ?_)
            refine lv_if_ne (tgt := 44) hx hb dX10_meets_38 (by decide) (fun c_9 => ?_) (fun c_9 => ?_)
            · have hf := of_f c_9 hf
              refine lv_aload_n hx hb dX10_meets_44 rfl (lv_at hl 0 rfl) ?_
              refine get_X10_5 hx hb hts in_X10_meets_X10 hown hK hz hW lk_X10_meets_0 dX10_meets_45 ?_
              refine lv_aload_n hx hb dX10_meets_48 rfl (lv_at hl 0 rfl) ?_
              refine get_X10_2 hx hb hts in_X10_meets_X10 hown hK hz hW lk_X10_meets_2 dX10_meets_49 ?_
              obtain ⟨r_10, hq_11, hf⟩ := of_bd hf
              refine m_goRi (va_runV (As := [.ref (z.2.1 (3*14))]) (rest := []) ⟨hx, hb, hml, hown, hts⟩ (c_X3_fits l hz 14 (Nat.le_of_ble_eq_true rfl) w_8 hq_11) (cwV 1 hts gX10_meets_X3_fits rfl rfl rfl (by decide +kernel) ⟨Nat.le_of_ble_eq_true rfl, Nat.le_of_ble_eq_true rfl⟩) (pre_X3 hK hz hW _) rfl rfl hl.1 rfl (lv_room (Nat.le_of_ble_eq_true rfl)) dX10_meets_52 ⟨Nat.le_refl _, Nat.le_refl _⟩) ?_
              refine lv_if_ne (tgt := 60) hx hb dX10_meets_55 (by decide) (fun c_12 => ?_) (fun c_12 => ?_)
              · have hf := of_f c_12 hf
                obtain ⟨x1_13, ex1_13⟩ : ∃ y : Int32, y = x1_2 + 1 := ⟨_, rfl⟩
                have hf := of_lt ex1_13 hf
                refine lv_iinc (v := x1_13) (lv' := [(1, .int x1_13), (0, .ref (z.2.1 66))]) hx hb dX10_meets_60 hl (k := 1) rfl (by rw [ex1_13]; rfl) (by decide) rfl (fun ls hl => ?_)
                refine lv_goto (tgt := 15) hx hb dX10_meets_63 (by decide) ?_
                exact ihL_4 _ _ _ _ _ _ hf hW hS (lv_sub hl [1, 0] rfl) hRL_4 hEL_4
              · have hf := of_t c_12 hf
                refine lv_iconst (v := 0) hx hb dX10_meets_58 (by decide) ?_
                exact hret _ _ _ _ _ _ (hRL_4 _ (Option.some.inj hf).symm) hW hS dX10_meets_59
            · have hf := of_t c_9 hf
              refine lv_bipush (v := (-3)) hx hb dX10_meets_41 (by decide) ?_
              exact hret _ _ _ _ _ _ (hRL_4 _ (Option.some.inj hf).symm) hW hS dX10_meets_43
      obtain ⟨ex_15, hq_14, hf⟩ := of_bd hf
      refine L_4 FU _ _ _ _ _ _ hq_14 hW hS (lv_sub hl [1, 0] rfl) (fun ret he => by subst he; exact hf) (fun x he H locs ls hW hS hl => ?_)
      subst he
      obtain ⟨w_16, ew_16⟩ : ∃ y, y = x := ⟨_, rfl⟩
      subst ew_16
      have hf := of_sr hf
      have hW : hd z w_16 H := hW
      have hl : lv_has ls 2 [] := hl
      refine lv_iconst (v := 1) hx hb dX10_meets_66 (by decide) ?_
      exact hret _ _ _ _ _ _ hf hW hS dX10_meets_67
    · have hf := of_t c_1 hf
      refine lv_bipush (v := (-3)) hx hb dX10_meets_10 (by decide) ?_
      exact hret _ _ _ _ _ _ hf hW hS dX10_meets_12
  exact START _ _ hW va_S.rf
theorem in_X10_feeds_X10 : ∀ w ∈ wsX100, w ∈ wsX10_feeds := by decide +kernel
theorem in_X10_feeds_X3 : ∀ w ∈ wsX30, w ∈ wsX10_feeds := by decide +kernel
theorem in_X10_feeds_X9 : ∀ w ∈ wsX90, w ∈ wsX10_feeds := by decide +kernel
theorem lk_X10_feeds_0 : Cond.fieldLink RX10 40 "CamStitch" "hem" "LCamStitch$Hem;" ∈ wsX10_feeds := by decide +kernel
theorem lk_X10_feeds_1 : Cond.fieldLink RX10 26 "CamStitch" "work" "LCamStitch$Disc;" ∈ wsX10_feeds := by decide +kernel
theorem lk_X10_feeds_2 : Cond.fieldLink RX10 225 "CamStitch$Hem" "stitches" "I" ∈ wsX10_feeds := by decide +kernel
theorem lk_X10_feeds_3 : Cond.fieldLink RX10 81 "CamStitch" "tapes" "[LCamStitch$Tape;" ∈ wsX10_feeds := by decide +kernel
theorem lk_X10_feeds_4 : Cond.fieldLink RX10 242 "CamStitch$Tape" "row" "[J" ∈ wsX10_feeds := by decide +kernel
set_option maxHeartbeats 4000000 in
set_option maxRecDepth 100000 in
theorem c_X10_feeds (l : Launch) {z : LZ} (hz : IC z) (x1 : Int32) (x2 : Int32) (w : Mem) {r : Int32} {w' : Mem} (hf : f_X10_feeds x1 x2 w = some (r, w')) : Met l yX10_feeds wsX10_feeds (rm 3 65) (PZ z w [.ref (z.2.1 66), .int x1, .int x2]) (QW z (some (.int r)) w') 0 0 (az z) := by
  refine mk_Wi (cc := cX10_feeds) (maxL := 4) (by decide +kernel) rfl (Nat.le_of_ble_eq_true rfl) ?_
  intro p e s m args below meth c hx hb hml hts hown hK hW Q hret ls hl
  have hl : lv_has ls 4 [(0, .ref (z.2.1 66)), (1, .int x1), (2, .int x2)] := hl
  unfold f_X10_feeds at hf
  have START : ∀ (H : Heap) (locs : List Loc), hd z w H → va_S (az z) s.heap H locs → W p l e (rm 3 65) s m args below meth c H locs 0 0 Q (F0 m 0 ls []) := by
    intro H locs hW hS
    refine lv_iload_n hx hb dX10_feeds_0 rfl (lv_at hl 1 rfl) ?_
    obtain ⟨r_1, hq_2, hf⟩ := of_bd hf
    refine m_goRi (va_runS (As := [.int x1]) (rest := []) ⟨hx, hb, hml, hown, hts⟩ (c_X10_isTape l hz x1 w hq_2) (va_cwS 1 hts gX10_feeds_X10_isTape rfl rfl rfl (by decide +kernel) ⟨Nat.le_of_ble_eq_true rfl, Nat.le_of_ble_eq_true rfl⟩) (m_preS hK hW _) rfl rfl hl.1 rfl (lv_room (Nat.le_of_ble_eq_true rfl)) dX10_feeds_1 ⟨Nat.le_refl _, Nat.le_refl _⟩) ?_
    refine lv_if_ne (tgt := 9) hx hb dX10_feeds_4 (by decide) (fun c_3 => ?_) (fun c_3 => ?_)
    · have hf := of_f c_3 hf
      refine lv_aload_n hx hb dX10_feeds_9 rfl (lv_at hl 0 rfl) ?_
      refine get_X10_5 hx hb hts in_X10_feeds_X10 hown hK hz hW lk_X10_feeds_0 dX10_feeds_10 ?_
      refine lv_iload_n hx hb dX10_feeds_13 rfl (lv_at hl 2 rfl) ?_
      refine lv_aload_n hx hb dX10_feeds_14 rfl (lv_at hl 0 rfl) ?_
      refine get_X10_2 hx hb hts in_X10_feeds_X10 hown hK hz hW lk_X10_feeds_1 dX10_feeds_15 ?_
      obtain ⟨r_4, w_6, hq_5, hf⟩ := of_b2 hf
      refine m_goWi (va_runV (As := [.int x2, .ref (z.2.1 (3*14))]) (rest := []) ⟨hx, hb, hml, hown, hts⟩ (c_X3_measures l hz x2 14 (Nat.le_of_ble_eq_true rfl) w hq_5) (cwV 2 hts gX10_feeds_X3_measures rfl rfl rfl (by decide +kernel) ⟨Nat.le_of_ble_eq_true rfl, Nat.le_of_ble_eq_true rfl⟩) (pre_X3 hK hz hW _) rfl rfl hl.1 rfl (lv_room (Nat.le_of_ble_eq_true rfl)) dX10_feeds_18 ⟨Nat.le_refl _, Nat.le_refl _⟩) hS (fun H locs hW hS => ?_)
      refine lv_if_ne (tgt := 27) hx hb dX10_feeds_21 (by decide) (fun c_7 => ?_) (fun c_7 => ?_)
      · have hf := of_f c_7 hf
        refine lv_aload_n hx hb dX10_feeds_27 rfl (lv_at hl 0 rfl) ?_
        refine get_X10_5 hx hb hts in_X10_feeds_X10 hown hK hz hW lk_X10_feeds_0 dX10_feeds_28 ?_
        refine get_X3_4 hx hb hts in_X10_feeds_X3 hown hK hz hW lk_X10_feeds_2 dX10_feeds_31 ?_
        refine lv_sipush (v := 400) hx hb dX10_feeds_34 (by decide) ?_
        refine lv_icmp_le (tgt := 43) hx hb dX10_feeds_37 (by decide) (fun c_8 => ?_) (fun c_8 => ?_)
        · have hf := of_t c_8 hf
          refine lv_aload_n hx hb dX10_feeds_43 rfl (lv_at hl 0 rfl) ?_
          refine get_X10_11 hx hb hts in_X10_feeds_X10 hown hK hz hW lk_X10_feeds_3 dX10_feeds_44 ?_
          refine lv_iload_n hx hb dX10_feeds_47 rfl (lv_at hl 1 rfl) ?_
          obtain ⟨g_9, hf⟩ := of_gd hf
          refine ld_AT hx hb hK hz hW g_9 dX10_feeds_48 ?_
          refine lv_iconst (v := 2) hx hb dX10_feeds_49 (by decide) ?_
          refine lv_aload_n hx hb dX10_feeds_50 rfl (lv_at hl 0 rfl) ?_
          refine get_X10_5 hx hb hts in_X10_feeds_X10 hown hK hz hW lk_X10_feeds_0 dX10_feeds_51 ?_
          refine get_X3_4 hx hb hts in_X10_feeds_X3 hown hK hz hW lk_X10_feeds_2 dX10_feeds_54 ?_
          obtain ⟨w_12, hq_11, hf⟩ := of_bd hf
          refine m_goWv (va_runV (As := [.int 2, .int (w_6.1 72 4)]) (rest := []) ⟨hx, hb, hml, hown, hts⟩ (c_X9_becomeRow l hz x1.toNatClampNeg (inb_lt g_9) 2 (w_6.1 72 4) w_6 hq_11) (cwV 2 hts gX10_feeds_X9_becomeRow rfl rfl rfl (by decide +kernel) ⟨Nat.le_of_ble_eq_true rfl, Nat.le_of_ble_eq_true rfl⟩) (pre_X9 hK hz hW (inb_lt g_9) _) rfl rfl hl.1 rfl (lv_room (Nat.le_of_ble_eq_true rfl)) dX10_feeds_57 ⟨Nat.le_refl _, Nat.le_refl _⟩) hS (fun H locs hW hS => ?_)
          refine lv_iconst (v := 0) hx hb dX10_feeds_60 (by decide) ?_
          refine lv_istore_n (lv' := [(3, .int 0), (0, .ref (z.2.1 66)), (1, .int x1), (2, .int x2)]) hx hb dX10_feeds_61 rfl hl (by decide) rfl (fun ls hl => ?_)
          have L_15 : ∀ (n : Nat) (x3_13 : Int32) (w_14 : Mem) (exL_15 : Mem) (H : Heap) (locs : List Loc) (ls : Array Slot), f_X10_feeds_L62 x1 n x3_13 w_14 = some exL_15 → hd z w_14 H → va_S (az z) s.heap H locs → lv_has ls 4 [(0, .ref (z.2.1 66)), (1, .int x1), (3, .int x3_13)] → (∀ (H : Heap) (locs : List Loc) (ls : Array Slot), hd z (exL_15) H → va_S (az z) s.heap H locs → lv_has ls 4 [(0, .ref (z.2.1 66))] → W p l e (rm 3 65) s m args below meth c H locs 0 0 Q (F0 m 103 ls [])) → W p l e (rm 3 65) s m args below meth c H locs 0 0 Q (F0 m 62 ls []) := by
            intro n
            induction n with
            | zero =>
              intro x3_13 w_14 exL_15 H locs ls hf
              have hf : (none : Option (Mem)) = some exL_15 := hf
              cases hf
            | succ n ihL_15 =>
              intro x3_13 w_14 exL_15 H locs ls hf hW hS hl hEL_15
              rw [f_X10_feeds_L62_s] at hf
              refine lv_iload_n hx hb dX10_feeds_62 rfl (lv_at hl 2 rfl) ?_
              refine lv_aload_n hx hb dX10_feeds_63 rfl (lv_at hl 0 rfl) ?_
              refine get_X10_5 hx hb hts in_X10_feeds_X10 hown hK hz hW lk_X10_feeds_0 dX10_feeds_64 ?_
              refine get_X3_4 hx hb hts in_X10_feeds_X3 hown hK hz hW lk_X10_feeds_2 dX10_feeds_67 ?_
              refine lv_icmp_ge (tgt := 103) hx hb dX10_feeds_70 (by decide) (fun c_16 => ?_) (fun c_16 => ?_)
              · have hf := of_t c_16 hf
                have hf := Option.some.inj hf
                subst hf
                exact hEL_15 _ _ _ hW hS (lv_sub hl [0] rfl)
              · have hf := of_f c_16 hf
                refine lv_aload_n hx hb dX10_feeds_73 rfl (lv_at hl 0 rfl) ?_
                refine get_X10_11 hx hb hts in_X10_feeds_X10 hown hK hz hW lk_X10_feeds_3 dX10_feeds_74 ?_
                refine lv_iload_n hx hb dX10_feeds_77 rfl (lv_at hl 1 rfl) ?_
                refine ld_AT hx hb hK hz hW g_9 dX10_feeds_78 ?_
                refine get_X9_0 hx hb hts in_X10_feeds_X9 hown hK hz hW (inb_lt g_9) lk_X10_feeds_4 dX10_feeds_79 ?_
                refine lv_iload_n hx hb dX10_feeds_82 rfl (lv_at hl 2 rfl) ?_
                refine lv_aload_n hx hb dX10_feeds_83 rfl (lv_at hl 0 rfl) ?_
                refine get_X10_5 hx hb hts in_X10_feeds_X10 hown hK hz hW lk_X10_feeds_0 dX10_feeds_84 ?_
                refine lv_aload_n hx hb dX10_feeds_87 rfl (lv_at hl 0 rfl) ?_
                refine get_X10_2 hx hb hts in_X10_feeds_X10 hown hK hz hW lk_X10_feeds_1 dX10_feeds_88 ?_
                refine lv_iload_n hx hb dX10_feeds_91 rfl (lv_at hl 2 rfl) ?_
                obtain ⟨r_17, hq_18, hf⟩ := of_bd hf
                refine m_goRi (va_runV (As := [.ref (z.2.1 (3*14)), .int x3_13]) (rest := [.int x3_13, .ref (z.2.1 (49+2*x1.toNatClampNeg))]) ⟨hx, hb, hml, hown, hts⟩ (c_X3_feedOf l hz 14 (Nat.le_of_ble_eq_true rfl) x3_13 w_14 hq_18) (cwV 2 hts gX10_feeds_X3_feedOf rfl rfl rfl (by decide +kernel) ⟨Nat.le_of_ble_eq_true rfl, Nat.le_of_ble_eq_true rfl⟩) (pre_X3 hK hz hW _) rfl rfl hl.1 rfl (lv_room (Nat.le_of_ble_eq_true rfl)) dX10_feeds_92 ⟨Nat.le_refl _, Nat.le_refl _⟩) ?_
                refine lv_i2l hx hb dX10_feeds_95 rfl ?_
                obtain ⟨g_19, hf⟩ := of_gd hf
                refine st_AL400 hx hb hK hz hW hS (inb_lt g_9) g_19 dX10_feeds_96 (fun H locs hW hS => ?_)
                obtain ⟨w_20, ew_20⟩ : ∃ y : Mem, y = mL w_14 (49+2*x1.toNatClampNeg) x3_13.toNatClampNeg r_17.toInt64 := ⟨_, rfl⟩
                have hW : hd z w_20 H := by rw [ew_20]; exact hW
                have hf := of_lt ew_20 hf
                obtain ⟨x3_21, ex3_21⟩ : ∃ y : Int32, y = x3_13 + 1 := ⟨_, rfl⟩
                have hf := of_lt ex3_21 hf
                refine lv_iinc (v := x3_21) (lv' := [(3, .int x3_21), (0, .ref (z.2.1 66)), (1, .int x1)]) hx hb dX10_feeds_97 hl (k := 2) rfl (by rw [ex3_21]; rfl) (by decide) rfl (fun ls hl => ?_)
                refine lv_goto (tgt := 62) hx hb dX10_feeds_100 (by decide) ?_
                exact ihL_15 _ _ _ _ _ _ hf hW hS (lv_sub hl [1, 2, 0] rfl) hEL_15
          obtain ⟨ex_23, hq_22, hf⟩ := of_bd hf
          obtain ⟨w_24, ew_24⟩ : ∃ y, y = ex_23 := ⟨_, rfl⟩
          rw [← ew_24] at hf
          rw [← ew_24] at hq_22
          refine L_15 FU _ _ _ _ _ _ hq_22 hW hS (lv_sub hl [1, 2, 0] rfl) (fun H locs ls hW hS hl => ?_)
          have hW : hd z w_24 H := hW
          have hl : lv_has ls 4 [(0, .ref (z.2.1 66))] := hl
          refine lv_aload_n hx hb dX10_feeds_103 rfl (lv_at hl 0 rfl) ?_
          refine get_X10_5 hx hb hts in_X10_feeds_X10 hown hK hz hW lk_X10_feeds_0 dX10_feeds_104 ?_
          refine get_X3_4 hx hb hts in_X10_feeds_X3 hown hK hz hW lk_X10_feeds_2 dX10_feeds_107 ?_
          exact hret _ _ _ _ _ _ hf hW hS dX10_feeds_110
        · have hf := of_f c_8 hf
          refine lv_bipush (v := (-2)) hx hb dX10_feeds_40 (by decide) ?_
          exact hret _ _ _ _ _ _ hf hW hS dX10_feeds_42
      · have hf := of_t c_7 hf
        refine lv_bipush (v := (-3)) hx hb dX10_feeds_24 (by decide) ?_
        exact hret _ _ _ _ _ _ hf hW hS dX10_feeds_26
    · have hf := of_t c_3 hf
      refine lv_iconst (v := (-1)) hx hb dX10_feeds_7 (by decide) ?_
      exact hret _ _ _ _ _ _ hf hW hS dX10_feeds_8
  exact START _ _ hW va_S.rf
theorem in_X10_judge_X10 : ∀ w ∈ wsX100, w ∈ wsX10_judge := by decide +kernel
theorem lk_X10_judge_0 : Cond.fieldLink RX10 40 "CamStitch" "hem" "LCamStitch$Hem;" ∈ wsX10_judge := by decide +kernel
theorem lk_X10_judge_1 : Cond.fieldLink RX10 26 "CamStitch" "work" "LCamStitch$Disc;" ∈ wsX10_judge := by decide +kernel
theorem lk_X10_judge_2 : Cond.fieldLink RX10 81 "CamStitch" "tapes" "[LCamStitch$Tape;" ∈ wsX10_judge := by decide +kernel
set_option maxHeartbeats 4000000 in
set_option maxRecDepth 100000 in
theorem c_X10_judge (l : Launch) {z : LZ} (hz : IC z) (x1 : Int32) (x2 : Int32) (w : Mem) {r : Int32} {w' : Mem} (hf : f_X10_judge x1 x2 w = some (r, w')) : Met l yX10_judge wsX10_judge (rm 3 68) (PZ z w [.ref (z.2.1 66), .int x1, .int x2]) (QW z (some (.int r)) w') 0 0 (az z) := by
  refine mk_Wi (cc := cX10_judge) (maxL := 4) (by decide +kernel) rfl (Nat.le_of_ble_eq_true rfl) ?_
  intro p e s m args below meth c hx hb hml hts hown hK hW Q hret ls hl
  have hl : lv_has ls 4 [(0, .ref (z.2.1 66)), (1, .int x1), (2, .int x2)] := hl
  unfold f_X10_judge at hf
  have START : ∀ (H : Heap) (locs : List Loc), hd z w H → va_S (az z) s.heap H locs → W p l e (rm 3 68) s m args below meth c H locs 0 0 Q (F0 m 0 ls []) := by
    intro H locs hW hS
    refine lv_iload_n hx hb dX10_judge_0 rfl (lv_at hl 1 rfl) ?_
    obtain ⟨r_1, hq_2, hf⟩ := of_bd hf
    refine m_goRi (va_runS (As := [.int x1]) (rest := []) ⟨hx, hb, hml, hown, hts⟩ (c_X10_isTape l hz x1 w hq_2) (va_cwS 1 hts gX10_judge_X10_isTape rfl rfl rfl (by decide +kernel) ⟨Nat.le_of_ble_eq_true rfl, Nat.le_of_ble_eq_true rfl⟩) (m_preS hK hW _) rfl rfl hl.1 rfl (lv_room (Nat.le_of_ble_eq_true rfl)) dX10_judge_1 ⟨Nat.le_refl _, Nat.le_refl _⟩) ?_
    refine lv_if_ne (tgt := 9) hx hb dX10_judge_4 (by decide) (fun c_3 => ?_) (fun c_3 => ?_)
    · have hf := of_f c_3 hf
      refine lv_aload_n hx hb dX10_judge_9 rfl (lv_at hl 0 rfl) ?_
      refine get_X10_5 hx hb hts in_X10_judge_X10 hown hK hz hW lk_X10_judge_0 dX10_judge_10 ?_
      refine lv_iload_n hx hb dX10_judge_13 rfl (lv_at hl 2 rfl) ?_
      refine lv_aload_n hx hb dX10_judge_14 rfl (lv_at hl 0 rfl) ?_
      refine get_X10_2 hx hb hts in_X10_judge_X10 hown hK hz hW lk_X10_judge_1 dX10_judge_15 ?_
      obtain ⟨r_4, w_6, hq_5, hf⟩ := of_b2 hf
      refine m_goWi (va_runV (As := [.int x2, .ref (z.2.1 (3*14))]) (rest := []) ⟨hx, hb, hml, hown, hts⟩ (c_X3_measures l hz x2 14 (Nat.le_of_ble_eq_true rfl) w hq_5) (cwV 2 hts gX10_judge_X3_measures rfl rfl rfl (by decide +kernel) ⟨Nat.le_of_ble_eq_true rfl, Nat.le_of_ble_eq_true rfl⟩) (pre_X3 hK hz hW _) rfl rfl hl.1 rfl (lv_room (Nat.le_of_ble_eq_true rfl)) dX10_judge_18 ⟨Nat.le_refl _, Nat.le_refl _⟩) hS (fun H locs hW hS => ?_)
      refine lv_if_ne (tgt := 27) hx hb dX10_judge_21 (by decide) (fun c_7 => ?_) (fun c_7 => ?_)
      · have hf := of_f c_7 hf
        refine lv_aload_n hx hb dX10_judge_27 rfl (lv_at hl 0 rfl) ?_
        refine lv_iload_n hx hb dX10_judge_28 rfl (lv_at hl 1 rfl) ?_
        refine lv_iconst (v := 2) hx hb dX10_judge_29 (by decide) ?_
        obtain ⟨r_8, hq_9, hf⟩ := of_bd hf
        refine m_goRi (va_runV (As := [.int x1, .int 2]) (rest := []) ⟨hx, hb, hml, hown, hts⟩ (c_X10_againstSort l hz x1 2 w_6 hq_9) (cwV 2 hts gX10_judge_X10_againstSort rfl rfl rfl (by decide +kernel) ⟨Nat.le_of_ble_eq_true rfl, Nat.le_of_ble_eq_true rfl⟩) (pre_X10 hK hz hW _) rfl rfl hl.1 rfl (lv_room (Nat.le_of_ble_eq_true rfl)) dX10_judge_30 ⟨Nat.le_refl _, Nat.le_refl _⟩) ?_
        refine lv_istore_n (lv' := [(3, .int r_8), (0, .ref (z.2.1 66)), (1, .int x1), (2, .int x2)]) hx hb dX10_judge_33 rfl hl (by decide) rfl (fun ls hl => ?_)
        refine lv_aload_n hx hb dX10_judge_34 rfl (lv_at hl 1 rfl) ?_
        refine lv_iload_n hx hb dX10_judge_35 rfl (lv_at hl 0 rfl) ?_
        refine lv_if_eq (tgt := 43) hx hb dX10_judge_36 (by decide) (fun c_10 => ?_) (fun c_10 => ?_)
        · have hf := of_t c_10 hf
          refine lv_aload_n hx hb dX10_judge_43 rfl (lv_at hl 1 rfl) ?_
          refine get_X10_5 hx hb hts in_X10_judge_X10 hown hK hz hW lk_X10_judge_0 dX10_judge_44 ?_
          refine lv_aload_n hx hb dX10_judge_47 rfl (lv_at hl 1 rfl) ?_
          refine get_X10_11 hx hb hts in_X10_judge_X10 hown hK hz hW lk_X10_judge_2 dX10_judge_48 ?_
          refine lv_iload_n hx hb dX10_judge_51 rfl (lv_at hl 2 rfl) ?_
          obtain ⟨g_11, hf⟩ := of_gd hf
          refine ld_AT hx hb hK hz hW g_11 dX10_judge_52 ?_
          refine lv_iload_n hx hb dX10_judge_53 rfl (lv_at hl 3 rfl) ?_
          refine lv_aload_n hx hb dX10_judge_54 rfl (lv_at hl 1 rfl) ?_
          refine get_X10_2 hx hb hts in_X10_judge_X10 hown hK hz hW lk_X10_judge_1 dX10_judge_55 ?_
          obtain ⟨r_12, hq_13, hf⟩ := of_bd hf
          refine m_goRi (va_runV (As := [.ref (z.2.1 (48+2*x1.toNatClampNeg)), .int x2, .ref (z.2.1 (3*14))]) (rest := [.ref (z.2.1 66)]) ⟨hx, hb, hml, hown, hts⟩ (c_X3_judged l hz x1.toNatClampNeg (inb_lt g_11) x2 14 (Nat.le_of_ble_eq_true rfl) w_6 hq_13) (cwV 3 hts gX10_judge_X3_judged rfl rfl rfl (by decide +kernel) ⟨Nat.le_of_ble_eq_true rfl, Nat.le_of_ble_eq_true rfl⟩) (pre_X3 hK hz hW _) rfl rfl hl.1 rfl (lv_room (Nat.le_of_ble_eq_true rfl)) dX10_judge_58 ⟨Nat.le_refl _, Nat.le_refl _⟩) ?_
          obtain ⟨r_14, w_16, hq_15, hf⟩ := of_b2 hf
          refine m_goWi (va_runV (As := [.int r_12]) (rest := []) ⟨hx, hb, hml, hown, hts⟩ (c_X10_counted l hz r_12 w_6 hq_15) (cwV 1 hts gX10_judge_X10_counted rfl rfl rfl (by decide +kernel) ⟨Nat.le_of_ble_eq_true rfl, Nat.le_of_ble_eq_true rfl⟩) (pre_X10 hK hz hW _) rfl rfl hl.1 rfl (lv_room (Nat.le_of_ble_eq_true rfl)) dX10_judge_61 ⟨Nat.le_refl _, Nat.le_refl _⟩) hS (fun H locs hW hS => ?_)
          exact hret _ _ _ _ _ _ hf hW hS dX10_judge_64
        · have hf := of_f c_10 hf
          refine lv_iload_n hx hb dX10_judge_39 rfl (lv_at hl 0 rfl) ?_
          refine lv_goto (tgt := 61) hx hb dX10_judge_40 (by decide) ?_
          obtain ⟨r_17, w_19, hq_18, hf⟩ := of_b2 hf
          refine m_goWi (va_runV (As := [.int r_8]) (rest := []) ⟨hx, hb, hml, hown, hts⟩ (c_X10_counted l hz r_8 w_6 hq_18) (cwV 1 hts gX10_judge_X10_counted rfl rfl rfl (by decide +kernel) ⟨Nat.le_of_ble_eq_true rfl, Nat.le_of_ble_eq_true rfl⟩) (pre_X10 hK hz hW _) rfl rfl hl.1 rfl (lv_room (Nat.le_of_ble_eq_true rfl)) dX10_judge_61 ⟨Nat.le_refl _, Nat.le_refl _⟩) hS (fun H locs hW hS => ?_)
          exact hret _ _ _ _ _ _ hf hW hS dX10_judge_64
      · have hf := of_t c_7 hf
        refine lv_bipush (v := (-3)) hx hb dX10_judge_24 (by decide) ?_
        exact hret _ _ _ _ _ _ hf hW hS dX10_judge_26
    · have hf := of_t c_3 hf
      refine lv_iconst (v := (-1)) hx hb dX10_judge_7 (by decide) ?_
      exact hret _ _ _ _ _ _ hf hW hS dX10_judge_8
  exact START _ _ hW va_S.rf
theorem in_X10_cloth_X0 : ∀ w ∈ wsX00, w ∈ wsX10_cloth := by decide +kernel
theorem in_X10_cloth_X10 : ∀ w ∈ wsX100, w ∈ wsX10_cloth := by decide +kernel
theorem lk_X10_cloth_0 : Cond.fieldLink RX10 47 "CamStitch" "bench" "LCamStitch$Bench;" ∈ wsX10_cloth := by decide +kernel
theorem lk_X10_cloth_1 : Cond.fieldLink RX10 250 "CamStitch$Bench" "thicks" "[I" ∈ wsX10_cloth := by decide +kernel
set_option maxHeartbeats 4000000 in
set_option maxRecDepth 100000 in
theorem c_X10_cloth (l : Launch) {z : LZ} (hz : IC z) (x1 : Int32) (x2 : Int32) (w : Mem) {r : Int32} {w' : Mem} (hf : f_X10_cloth x1 x2 w = some (r, w')) : Met l yX10_cloth wsX10_cloth (rm 0 0) (PZ z w [.ref (z.2.1 66), .int x1, .int x2]) (QW z (some (.int r)) w') 0 0 (az z) := by
  refine mk_Wi (cc := cX10_cloth) (maxL := 4) (by decide +kernel) rfl (Nat.le_of_ble_eq_true rfl) ?_
  intro p e s m args below meth c hx hb hml hts hown hK hW Q hret ls hl
  have hl : lv_has ls 4 [(0, .ref (z.2.1 66)), (1, .int x1), (2, .int x2)] := hl
  unfold f_X10_cloth at hf
  have START : ∀ (H : Heap) (locs : List Loc), hd z w H → va_S (az z) s.heap H locs → W p l e (rm 0 0) s m args below meth c H locs 0 0 Q (F0 m 0 ls []) := by
    intro H locs hW hS
    refine lv_iload_n hx hb dX10_cloth_0 rfl (lv_at hl 1 rfl) ?_
    refine lv_if_lt (tgt := 19) hx hb dX10_cloth_1 (by decide) (fun c_1 => ?_) (fun c_1 => ?_)
    · have hf := of_t c_1 hf
      refine lv_iconst (v := (-1)) hx hb dX10_cloth_19 (by decide) ?_
      exact hret _ _ _ _ _ _ hf hW hS dX10_cloth_20
    · have hf := of_f c_1 hf
      refine lv_iload_n hx hb dX10_cloth_4 rfl (lv_at hl 1 rfl) ?_
      refine lv_iconst (v := 1) hx hb dX10_cloth_5 (by decide) ?_
      refine lv_icmp_gt (tgt := 19) hx hb dX10_cloth_6 (by decide) (fun c_2 => ?_) (fun c_2 => ?_)
      · have hf := of_t c_2 hf
        refine lv_iconst (v := (-1)) hx hb dX10_cloth_19 (by decide) ?_
        exact hret _ _ _ _ _ _ hf hW hS dX10_cloth_20
      · have hf := of_f c_2 hf
        refine lv_iload_n hx hb dX10_cloth_9 rfl (lv_at hl 2 rfl) ?_
        refine lv_if_lt (tgt := 19) hx hb dX10_cloth_10 (by decide) (fun c_3 => ?_) (fun c_3 => ?_)
        · have hf := of_t c_3 hf
          refine lv_iconst (v := (-1)) hx hb dX10_cloth_19 (by decide) ?_
          exact hret _ _ _ _ _ _ hf hW hS dX10_cloth_20
        · have hf := of_f c_3 hf
          refine lv_iload_n hx hb dX10_cloth_13 rfl (lv_at hl 2 rfl) ?_
          refine lv_bipush (v := 60) hx hb dX10_cloth_14 (by decide) ?_
          refine lv_icmp_le (tgt := 21) hx hb dX10_cloth_16 (by decide) (fun c_4 => ?_) (fun c_4 => ?_)
          · have hf := of_t c_4 hf
            refine lv_aload_n hx hb dX10_cloth_21 rfl (lv_at hl 0 rfl) ?_
            refine get_X10_6 hx hb hts in_X10_cloth_X10 hown hK hz hW lk_X10_cloth_0 dX10_cloth_22 ?_
            refine get_X0_0 hx hb hts in_X10_cloth_X0 hown hK hz hW lk_X10_cloth_1 dX10_cloth_25 ?_
            refine lv_iload_n hx hb dX10_cloth_28 rfl (lv_at hl 1 rfl) ?_
            obtain ⟨g_5, hf⟩ := of_gd hf
            refine ld_A75 hx hb hK hz hW g_5 dX10_cloth_29 ?_
            refine lv_topi (fun v_6 ev_6 => ?_)
            have hf := of_lt ev_6 hf
            refine lv_istore_n (lv' := [(3, .int v_6), (0, .ref (z.2.1 66)), (1, .int x1), (2, .int x2)]) hx hb dX10_cloth_30 rfl hl (by decide) rfl (fun ls hl => ?_)
            refine lv_aload_n hx hb dX10_cloth_31 rfl (lv_at hl 1 rfl) ?_
            refine get_X10_6 hx hb hts in_X10_cloth_X10 hown hK hz hW lk_X10_cloth_0 dX10_cloth_32 ?_
            refine get_X0_0 hx hb hts in_X10_cloth_X0 hown hK hz hW lk_X10_cloth_1 dX10_cloth_35 ?_
            refine lv_iload_n hx hb dX10_cloth_38 rfl (lv_at hl 2 rfl) ?_
            refine lv_iload_n hx hb dX10_cloth_39 rfl (lv_at hl 3 rfl) ?_
            refine st_A75 hx hb hK hz hW hS g_5 dX10_cloth_40 (fun H locs hW hS => ?_)
            obtain ⟨w_7, ew_7⟩ : ∃ y : Mem, y = mS w 75 x1.toNatClampNeg x2 := ⟨_, rfl⟩
            have hW : hd z w_7 H := by rw [ew_7]; exact hW
            have hf := of_lt ew_7 hf
            refine lv_iload_n hx hb dX10_cloth_41 rfl (lv_at hl 0 rfl) ?_
            exact hret _ _ _ _ _ _ hf hW hS dX10_cloth_42
          · have hf := of_f c_4 hf
            refine lv_iconst (v := (-1)) hx hb dX10_cloth_19 (by decide) ?_
            exact hret _ _ _ _ _ _ hf hW hS dX10_cloth_20
  exact START _ _ hW va_S.rf
theorem in_X10_tensions_X0 : ∀ w ∈ wsX00, w ∈ wsX10_tensions := by decide +kernel
theorem in_X10_tensions_X10 : ∀ w ∈ wsX100, w ∈ wsX10_tensions := by decide +kernel
theorem lk_X10_tensions_0 : Cond.fieldLink RX10 47 "CamStitch" "bench" "LCamStitch$Bench;" ∈ wsX10_tensions := by decide +kernel
theorem lk_X10_tensions_1 : Cond.fieldLink RX10 253 "CamStitch$Bench" "upper" "I" ∈ wsX10_tensions := by decide +kernel
theorem lk_X10_tensions_2 : Cond.fieldLink RX10 256 "CamStitch$Bench" "lower" "I" ∈ wsX10_tensions := by decide +kernel
set_option maxHeartbeats 4000000 in
set_option maxRecDepth 100000 in
theorem c_X10_tensions (l : Launch) {z : LZ} (hz : IC z) (x1 : Int32) (x2 : Int32) (w : Mem) {r : Int32} {w' : Mem} (hf : f_X10_tensions x1 x2 w = some (r, w')) : Met l yX10_tensions wsX10_tensions (rm 2 42) (PZ z w [.ref (z.2.1 66), .int x1, .int x2]) (QW z (some (.int r)) w') 0 0 (az z) := by
  refine mk_Wi (cc := cX10_tensions) (maxL := 3) (by decide +kernel) rfl (Nat.le_of_ble_eq_true rfl) ?_
  intro p e s m args below meth c hx hb hml hts hown hK hW Q hret ls hl
  have hl : lv_has ls 3 [(0, .ref (z.2.1 66)), (1, .int x1), (2, .int x2)] := hl
  unfold f_X10_tensions at hf
  have START : ∀ (H : Heap) (locs : List Loc), hd z w H → va_S (az z) s.heap H locs → W p l e (rm 2 42) s m args below meth c H locs 0 0 Q (F0 m 0 ls []) := by
    intro H locs hW hS
    refine lv_iload_n hx hb dX10_tensions_0 rfl (lv_at hl 1 rfl) ?_
    refine lv_iconst (v := 1) hx hb dX10_tensions_1 (by decide) ?_
    refine lv_icmp_lt (tgt := 22) hx hb dX10_tensions_2 (by decide) (fun c_1 => ?_) (fun c_1 => ?_)
    · have hf := of_t c_1 hf
      refine lv_iconst (v := (-1)) hx hb dX10_tensions_22 (by decide) ?_
      exact hret _ _ _ _ _ _ hf hW hS dX10_tensions_23
    · have hf := of_f c_1 hf
      refine lv_iload_n hx hb dX10_tensions_5 rfl (lv_at hl 1 rfl) ?_
      refine lv_bipush (v := 99) hx hb dX10_tensions_6 (by decide) ?_
      refine lv_icmp_gt (tgt := 22) hx hb dX10_tensions_8 (by decide) (fun c_2 => ?_) (fun c_2 => ?_)
      · have hf := of_t c_2 hf
        refine lv_iconst (v := (-1)) hx hb dX10_tensions_22 (by decide) ?_
        exact hret _ _ _ _ _ _ hf hW hS dX10_tensions_23
      · have hf := of_f c_2 hf
        refine lv_iload_n hx hb dX10_tensions_11 rfl (lv_at hl 2 rfl) ?_
        refine lv_iconst (v := 1) hx hb dX10_tensions_12 (by decide) ?_
        refine lv_icmp_lt (tgt := 22) hx hb dX10_tensions_13 (by decide) (fun c_3 => ?_) (fun c_3 => ?_)
        · have hf := of_t c_3 hf
          refine lv_iconst (v := (-1)) hx hb dX10_tensions_22 (by decide) ?_
          exact hret _ _ _ _ _ _ hf hW hS dX10_tensions_23
        · have hf := of_f c_3 hf
          refine lv_iload_n hx hb dX10_tensions_16 rfl (lv_at hl 2 rfl) ?_
          refine lv_bipush (v := 99) hx hb dX10_tensions_17 (by decide) ?_
          refine lv_icmp_le (tgt := 24) hx hb dX10_tensions_19 (by decide) (fun c_4 => ?_) (fun c_4 => ?_)
          · have hf := of_t c_4 hf
            refine lv_aload_n hx hb dX10_tensions_24 rfl (lv_at hl 0 rfl) ?_
            refine get_X10_6 hx hb hts in_X10_tensions_X10 hown hK hz hW lk_X10_tensions_0 dX10_tensions_25 ?_
            refine lv_iload_n hx hb dX10_tensions_28 rfl (lv_at hl 1 rfl) ?_
            refine put_X0_1 hx hb hts in_X10_tensions_X0 hown hK hz hW hS lk_X10_tensions_1 dX10_tensions_29 (fun H locs hW hS => ?_)
            obtain ⟨w_5, ew_5⟩ : ∃ y : Mem, y = mS w 74 1 x1 := ⟨_, rfl⟩
            have hW : hd z w_5 H := by rw [ew_5]; exact hW
            have hf := of_lt ew_5 hf
            refine lv_aload_n hx hb dX10_tensions_32 rfl (lv_at hl 0 rfl) ?_
            refine get_X10_6 hx hb hts in_X10_tensions_X10 hown hK hz hW lk_X10_tensions_0 dX10_tensions_33 ?_
            refine lv_iload_n hx hb dX10_tensions_36 rfl (lv_at hl 2 rfl) ?_
            refine put_X0_2 hx hb hts in_X10_tensions_X0 hown hK hz hW hS lk_X10_tensions_2 dX10_tensions_37 (fun H locs hW hS => ?_)
            obtain ⟨w_6, ew_6⟩ : ∃ y : Mem, y = mS w_5 74 2 x2 := ⟨_, rfl⟩
            have hW : hd z w_6 H := by rw [ew_6]; exact hW
            have hf := of_lt ew_6 hf
            refine lv_aload_n hx hb dX10_tensions_40 rfl (lv_at hl 0 rfl) ?_
            refine get_X10_6 hx hb hts in_X10_tensions_X10 hown hK hz hW lk_X10_tensions_0 dX10_tensions_41 ?_
            refine lv_iload_n hx hb dX10_tensions_44 rfl (lv_at hl 1 rfl) ?_
            refine lv_iload_n hx hb dX10_tensions_45 rfl (lv_at hl 2 rfl) ?_
            obtain ⟨r_7, hq_8, hf⟩ := of_bd hf
            refine m_goRi (va_runV (As := [.int x1, .int x2]) (rest := []) ⟨hx, hb, hml, hown, hts⟩ (c_X0_depth l hz x1 x2 w_6 hq_8) (cwV 2 hts gX10_tensions_X0_depth rfl rfl rfl (by decide +kernel) ⟨Nat.le_of_ble_eq_true rfl, Nat.le_of_ble_eq_true rfl⟩) (pre_X0 hK hz hW _) rfl rfl hl.1 rfl (lv_room (Nat.le_of_ble_eq_true rfl)) dX10_tensions_46 ⟨Nat.le_refl _, Nat.le_refl _⟩) ?_
            exact hret _ _ _ _ _ _ hf hW hS dX10_tensions_49
          · have hf := of_f c_4 hf
            refine lv_iconst (v := (-1)) hx hb dX10_tensions_22 (by decide) ?_
            exact hret _ _ _ _ _ _ hf hW hS dX10_tensions_23
  exact START _ _ hW va_S.rf
theorem in_X10_lock_X0 : ∀ w ∈ wsX00, w ∈ wsX10_lock := by decide +kernel
theorem in_X10_lock_X10 : ∀ w ∈ wsX100, w ∈ wsX10_lock := by decide +kernel
theorem lk_X10_lock_0 : Cond.fieldLink RX10 47 "CamStitch" "bench" "LCamStitch$Bench;" ∈ wsX10_lock := by decide +kernel
theorem lk_X10_lock_1 : Cond.fieldLink RX10 253 "CamStitch$Bench" "upper" "I" ∈ wsX10_lock := by decide +kernel
theorem lk_X10_lock_2 : Cond.fieldLink RX10 256 "CamStitch$Bench" "lower" "I" ∈ wsX10_lock := by decide +kernel
set_option maxHeartbeats 4000000 in
set_option maxRecDepth 100000 in
theorem c_X10_lock (l : Launch) {z : LZ} (hz : IC z)  (w : Mem) {r : Int32} (hf : f_X10_lock w = some r) : Met l yX10_lock wsX10_lock (rm 2 42) (PZ z w [.ref (z.2.1 66)]) (QR (some (.int r))) 0 0 (fun _ => False) := by
  refine mk_Ri (cc := cX10_lock) (maxL := 1) (by decide +kernel) rfl (Nat.le_of_ble_eq_true rfl) ?_
  intro p e s m args below meth c hx hb hml hts hown hK hW Q hret ls hl
  have hl : lv_has ls 1 [(0, .ref (z.2.1 66))] := hl
  unfold f_X10_lock at hf
  refine lv_aload_n hx hb dX10_lock_0 rfl (lv_at hl 0 rfl) ?_
  refine get_X10_6 hx hb hts in_X10_lock_X10 hown hK hz hW lk_X10_lock_0 dX10_lock_1 ?_
  refine lv_aload_n hx hb dX10_lock_4 rfl (lv_at hl 0 rfl) ?_
  refine get_X10_6 hx hb hts in_X10_lock_X10 hown hK hz hW lk_X10_lock_0 dX10_lock_5 ?_
  refine lv_aload_n hx hb dX10_lock_8 rfl (lv_at hl 0 rfl) ?_
  refine get_X10_6 hx hb hts in_X10_lock_X10 hown hK hz hW lk_X10_lock_0 dX10_lock_9 ?_
  refine get_X0_1 hx hb hts in_X10_lock_X0 hown hK hz hW lk_X10_lock_1 dX10_lock_12 ?_
  refine lv_aload_n hx hb dX10_lock_15 rfl (lv_at hl 0 rfl) ?_
  refine get_X10_6 hx hb hts in_X10_lock_X10 hown hK hz hW lk_X10_lock_0 dX10_lock_16 ?_
  refine get_X0_2 hx hb hts in_X10_lock_X0 hown hK hz hW lk_X10_lock_2 dX10_lock_19 ?_
  obtain ⟨r_1, hq_2, hf⟩ := of_bd hf
  refine m_goRi (va_runV (As := [.int (w.1 74 1), .int (w.1 74 2)]) (rest := [.ref (z.2.1 74)]) ⟨hx, hb, hml, hown, hts⟩ (c_X0_depth l hz (w.1 74 1) (w.1 74 2) w hq_2) (cwV 2 hts gX10_lock_X0_depth rfl rfl rfl (by decide +kernel) ⟨Nat.le_of_ble_eq_true rfl, Nat.le_of_ble_eq_true rfl⟩) (pre_X0 hK hz hW _) rfl rfl hl.1 rfl (lv_room (Nat.le_of_ble_eq_true rfl)) dX10_lock_22 ⟨Nat.le_refl _, Nat.le_refl _⟩) ?_
  obtain ⟨r_3, hq_4, hf⟩ := of_bd hf
  refine m_goRi (va_runV (As := [.int r_1]) (rest := []) ⟨hx, hb, hml, hown, hts⟩ (c_X0_whereLies l hz r_1 w hq_4) (cwV 1 hts gX10_lock_X0_whereLies rfl rfl rfl (by decide +kernel) ⟨Nat.le_of_ble_eq_true rfl, Nat.le_of_ble_eq_true rfl⟩) (pre_X0 hK hz hW _) rfl rfl hl.1 rfl (lv_room (Nat.le_of_ble_eq_true rfl)) dX10_lock_25 ⟨Nat.le_refl _, Nat.le_refl _⟩) ?_
  exact hret _ _ _ hf dX10_lock_28
theorem in_X10_tune_X10 : ∀ w ∈ wsX100, w ∈ wsX10_tune := by decide +kernel
theorem lk_X10_tune_0 : Cond.fieldLink RX10 47 "CamStitch" "bench" "LCamStitch$Bench;" ∈ wsX10_tune := by decide +kernel
set_option maxHeartbeats 4000000 in
set_option maxRecDepth 100000 in
theorem c_X10_tune (l : Launch) {z : LZ} (hz : IC z) (x1 : Int32) (w : Mem) {r : Int32} (hf : f_X10_tune x1 w = some r) : Met l yX10_tune wsX10_tune (rm 3 65) (PZ z w [.ref (z.2.1 66), .int x1]) (QR (some (.int r))) 0 0 (fun _ => False) := by
  refine mk_Ri (cc := cX10_tune) (maxL := 2) (by decide +kernel) rfl (Nat.le_of_ble_eq_true rfl) ?_
  intro p e s m args below meth c hx hb hml hts hown hK hW Q hret ls hl
  have hl : lv_has ls 2 [(0, .ref (z.2.1 66)), (1, .int x1)] := hl
  unfold f_X10_tune at hf
  refine lv_iload_n hx hb dX10_tune_0 rfl (lv_at hl 1 rfl) ?_
  refine lv_if_lt (tgt := 9) hx hb dX10_tune_1 (by decide) (fun c_1 => ?_) (fun c_1 => ?_)
  · have hf := of_t c_1 hf
    refine lv_iconst (v := (-1)) hx hb dX10_tune_9 (by decide) ?_
    exact hret _ _ _ hf dX10_tune_10
  · have hf := of_f c_1 hf
    refine lv_iload_n hx hb dX10_tune_4 rfl (lv_at hl 1 rfl) ?_
    refine lv_iconst (v := 1) hx hb dX10_tune_5 (by decide) ?_
    refine lv_icmp_le (tgt := 11) hx hb dX10_tune_6 (by decide) (fun c_2 => ?_) (fun c_2 => ?_)
    · have hf := of_t c_2 hf
      refine lv_aload_n hx hb dX10_tune_11 rfl (lv_at hl 0 rfl) ?_
      refine get_X10_6 hx hb hts in_X10_tune_X10 hown hK hz hW lk_X10_tune_0 dX10_tune_12 ?_
      refine lv_iload_n hx hb dX10_tune_15 rfl (lv_at hl 1 rfl) ?_
      obtain ⟨r_3, hq_4, hf⟩ := of_bd hf
      refine m_goRi (va_runV (As := [.int x1]) (rest := []) ⟨hx, hb, hml, hown, hts⟩ (c_X0_leastTensions l hz x1 w hq_4) (cwV 1 hts gX10_tune_X0_leastTensions rfl rfl rfl (by decide +kernel) ⟨Nat.le_of_ble_eq_true rfl, Nat.le_of_ble_eq_true rfl⟩) (pre_X0 hK hz hW _) rfl rfl hl.1 rfl (lv_room (Nat.le_of_ble_eq_true rfl)) dX10_tune_16 ⟨Nat.le_refl _, Nat.le_refl _⟩) ?_
      exact hret _ _ _ hf dX10_tune_19
    · have hf := of_f c_2 hf
      refine lv_iconst (v := (-1)) hx hb dX10_tune_9 (by decide) ?_
      exact hret _ _ _ hf dX10_tune_10
theorem in_X10_wind_X0 : ∀ w ∈ wsX00, w ∈ wsX10_wind := by decide +kernel
theorem in_X10_wind_X10 : ∀ w ∈ wsX100, w ∈ wsX10_wind := by decide +kernel
theorem lk_X10_wind_0 : Cond.constant RX10 268 1000000 ∈ wsX10_wind := by decide +kernel
theorem lk_X10_wind_1 : Cond.fieldLink RX10 47 "CamStitch" "bench" "LCamStitch$Bench;" ∈ wsX10_wind := by decide +kernel
theorem lk_X10_wind_2 : Cond.fieldLink RX10 269 "CamStitch$Bench" "spool" "I" ∈ wsX10_wind := by decide +kernel
theorem lk_X10_wind_3 : Cond.fieldLink RX10 272 "CamStitch$Bench" "bobbin" "I" ∈ wsX10_wind := by decide +kernel
set_option maxHeartbeats 4000000 in
set_option maxRecDepth 100000 in
theorem c_X10_wind (l : Launch) {z : LZ} (hz : IC z) (x1 : Int32) (x2 : Int32) (w : Mem) {r : Int32} {w' : Mem} (hf : f_X10_wind x1 x2 w = some (r, w')) : Met l yX10_wind wsX10_wind (rm 0 0) (PZ z w [.ref (z.2.1 66), .int x1, .int x2]) (QW z (some (.int r)) w') 0 0 (az z) := by
  refine mk_Wi (cc := cX10_wind) (maxL := 3) (by decide +kernel) rfl (Nat.le_of_ble_eq_true rfl) ?_
  intro p e s m args below meth c hx hb hml hts hown hK hW Q hret ls hl
  have hl : lv_has ls 3 [(0, .ref (z.2.1 66)), (1, .int x1), (2, .int x2)] := hl
  unfold f_X10_wind at hf
  have START : ∀ (H : Heap) (locs : List Loc), hd z w H → va_S (az z) s.heap H locs → W p l e (rm 0 0) s m args below meth c H locs 0 0 Q (F0 m 0 ls []) := by
    intro H locs hW hS
    refine lv_iload_n hx hb dX10_wind_0 rfl (lv_at hl 1 rfl) ?_
    refine lv_if_lt (tgt := 22) hx hb dX10_wind_1 (by decide) (fun c_1 => ?_) (fun c_1 => ?_)
    · have hf := of_t c_1 hf
      refine lv_iconst (v := (-1)) hx hb dX10_wind_22 (by decide) ?_
      exact hret _ _ _ _ _ _ hf hW hS dX10_wind_23
    · have hf := of_f c_1 hf
      refine lv_iload_n hx hb dX10_wind_4 rfl (lv_at hl 1 rfl) ?_
      refine lv_ldcw (v := 1000000) hx hb hown (hts _ lk_X10_wind_0) dX10_wind_5 ?_
      refine lv_icmp_gt (tgt := 22) hx hb dX10_wind_8 (by decide) (fun c_2 => ?_) (fun c_2 => ?_)
      · have hf := of_t c_2 hf
        refine lv_iconst (v := (-1)) hx hb dX10_wind_22 (by decide) ?_
        exact hret _ _ _ _ _ _ hf hW hS dX10_wind_23
      · have hf := of_f c_2 hf
        refine lv_iload_n hx hb dX10_wind_11 rfl (lv_at hl 2 rfl) ?_
        refine lv_if_lt (tgt := 22) hx hb dX10_wind_12 (by decide) (fun c_3 => ?_) (fun c_3 => ?_)
        · have hf := of_t c_3 hf
          refine lv_iconst (v := (-1)) hx hb dX10_wind_22 (by decide) ?_
          exact hret _ _ _ _ _ _ hf hW hS dX10_wind_23
        · have hf := of_f c_3 hf
          refine lv_iload_n hx hb dX10_wind_15 rfl (lv_at hl 2 rfl) ?_
          refine lv_ldcw (v := 1000000) hx hb hown (hts _ lk_X10_wind_0) dX10_wind_16 ?_
          refine lv_icmp_le (tgt := 24) hx hb dX10_wind_19 (by decide) (fun c_4 => ?_) (fun c_4 => ?_)
          · have hf := of_t c_4 hf
            refine lv_aload_n hx hb dX10_wind_24 rfl (lv_at hl 0 rfl) ?_
            refine get_X10_6 hx hb hts in_X10_wind_X10 hown hK hz hW lk_X10_wind_1 dX10_wind_25 ?_
            refine lv_iload_n hx hb dX10_wind_28 rfl (lv_at hl 1 rfl) ?_
            refine put_X0_3 hx hb hts in_X10_wind_X0 hown hK hz hW hS lk_X10_wind_2 dX10_wind_29 (fun H locs hW hS => ?_)
            obtain ⟨w_5, ew_5⟩ : ∃ y : Mem, y = mS w 74 3 x1 := ⟨_, rfl⟩
            have hW : hd z w_5 H := by rw [ew_5]; exact hW
            have hf := of_lt ew_5 hf
            refine lv_aload_n hx hb dX10_wind_32 rfl (lv_at hl 0 rfl) ?_
            refine get_X10_6 hx hb hts in_X10_wind_X10 hown hK hz hW lk_X10_wind_1 dX10_wind_33 ?_
            refine lv_iload_n hx hb dX10_wind_36 rfl (lv_at hl 2 rfl) ?_
            refine put_X0_4 hx hb hts in_X10_wind_X0 hown hK hz hW hS lk_X10_wind_3 dX10_wind_37 (fun H locs hW hS => ?_)
            obtain ⟨w_6, ew_6⟩ : ∃ y : Mem, y = mS w_5 74 4 x2 := ⟨_, rfl⟩
            have hW : hd z w_6 H := by rw [ew_6]; exact hW
            have hf := of_lt ew_6 hf
            refine lv_iconst (v := 0) hx hb dX10_wind_40 (by decide) ?_
            exact hret _ _ _ _ _ _ hf hW hS dX10_wind_41
          · have hf := of_f c_4 hf
            refine lv_iconst (v := (-1)) hx hb dX10_wind_22 (by decide) ?_
            exact hret _ _ _ _ _ _ hf hW hS dX10_wind_23
  exact START _ _ hW va_S.rf
theorem in_X10_step_X10 : ∀ w ∈ wsX100, w ∈ wsX10_step := by decide +kernel
theorem in_X10_step_X4 : ∀ w ∈ wsX40, w ∈ wsX10_step := by decide +kernel
theorem lk_X10_step_0 : Cond.fieldLink RX10 54 "CamStitch" "job" "LCamStitch$Job;" ∈ wsX10_step := by decide +kernel
theorem lk_X10_step_1 : Cond.fieldLink RX10 97 "CamStitch$Job" "steps" "I" ∈ wsX10_step := by decide +kernel
theorem lk_X10_step_2 : Cond.fieldLink RX10 278 "CamStitch$Job" "kinds" "[I" ∈ wsX10_step := by decide +kernel
theorem lk_X10_step_3 : Cond.fieldLink RX10 281 "CamStitch$Job" "numbers" "[I" ∈ wsX10_step := by decide +kernel
set_option maxHeartbeats 4000000 in
set_option maxRecDepth 100000 in
theorem c_X10_step (l : Launch) {z : LZ} (hz : IC z) (x1 : Int32) (x2 : Int32) (w : Mem) {r : Int32} {w' : Mem} (hf : f_X10_step x1 x2 w = some (r, w')) : Met l yX10_step wsX10_step (rm 2 41) (PZ z w [.ref (z.2.1 66), .int x1, .int x2]) (QW z (some (.int r)) w') 0 0 (az z) := by
  refine mk_Wi (cc := cX10_step) (maxL := 3) (by decide +kernel) rfl (Nat.le_of_ble_eq_true rfl) ?_
  intro p e s m args below meth c hx hb hml hts hown hK hW Q hret ls hl
  have hl : lv_has ls 3 [(0, .ref (z.2.1 66)), (1, .int x1), (2, .int x2)] := hl
  unfold f_X10_step at hf
  have START : ∀ (H : Heap) (locs : List Loc), hd z w H → va_S (az z) s.heap H locs → W p l e (rm 2 41) s m args below meth c H locs 0 0 Q (F0 m 0 ls []) := by
    intro H locs hW hS
    refine lv_iload_n hx hb dX10_step_0 rfl (lv_at hl 1 rfl) ?_
    refine lv_iload_n hx hb dX10_step_1 rfl (lv_at hl 2 rfl) ?_
    obtain ⟨r_1, hq_2, hf⟩ := of_bd hf
    refine m_goRi (va_runS (As := [.int x1, .int x2]) (rest := []) ⟨hx, hb, hml, hown, hts⟩ (c_X4_isStep l hz x1 x2 w hq_2) (va_cwS 2 hts gX10_step_X4_isStep rfl rfl rfl (by decide +kernel) ⟨Nat.le_of_ble_eq_true rfl, Nat.le_of_ble_eq_true rfl⟩) (m_preS hK hW _) rfl rfl hl.1 rfl (lv_room (Nat.le_of_ble_eq_true rfl)) dX10_step_2 ⟨Nat.le_refl _, Nat.le_refl _⟩) ?_
    refine lv_if_ne (tgt := 10) hx hb dX10_step_5 (by decide) (fun c_3 => ?_) (fun c_3 => ?_)
    · have hf := of_f c_3 hf
      refine lv_aload_n hx hb dX10_step_10 rfl (lv_at hl 0 rfl) ?_
      refine get_X10_7 hx hb hts in_X10_step_X10 hown hK hz hW lk_X10_step_0 dX10_step_11 ?_
      refine get_X4_2 hx hb hts in_X10_step_X4 hown hK hz hW lk_X10_step_1 dX10_step_14 ?_
      refine lv_bipush (v := 20) hx hb dX10_step_17 (by decide) ?_
      refine lv_icmp_lt (tgt := 25) hx hb dX10_step_19 (by decide) (fun c_4 => ?_) (fun c_4 => ?_)
      · have hf := of_t c_4 hf
        refine lv_aload_n hx hb dX10_step_25 rfl (lv_at hl 0 rfl) ?_
        refine get_X10_7 hx hb hts in_X10_step_X10 hown hK hz hW lk_X10_step_0 dX10_step_26 ?_
        refine get_X4_0 hx hb hts in_X10_step_X4 hown hK hz hW lk_X10_step_2 dX10_step_29 ?_
        refine lv_aload_n hx hb dX10_step_32 rfl (lv_at hl 0 rfl) ?_
        refine get_X10_7 hx hb hts in_X10_step_X10 hown hK hz hW lk_X10_step_0 dX10_step_33 ?_
        refine get_X4_2 hx hb hts in_X10_step_X4 hown hK hz hW lk_X10_step_1 dX10_step_36 ?_
        refine lv_iload_n hx hb dX10_step_39 rfl (lv_at hl 1 rfl) ?_
        obtain ⟨g_5, hf⟩ := of_gd hf
        refine st_A77 hx hb hK hz hW hS g_5 dX10_step_40 (fun H locs hW hS => ?_)
        obtain ⟨w_6, ew_6⟩ : ∃ y : Mem, y = mS w 77 ((w.1 76 2).toNatClampNeg) x1 := ⟨_, rfl⟩
        have hW : hd z w_6 H := by rw [ew_6]; exact hW
        have hf := of_lt ew_6 hf
        refine lv_aload_n hx hb dX10_step_41 rfl (lv_at hl 0 rfl) ?_
        refine get_X10_7 hx hb hts in_X10_step_X10 hown hK hz hW lk_X10_step_0 dX10_step_42 ?_
        refine get_X4_1 hx hb hts in_X10_step_X4 hown hK hz hW lk_X10_step_3 dX10_step_45 ?_
        refine lv_aload_n hx hb dX10_step_48 rfl (lv_at hl 0 rfl) ?_
        refine get_X10_7 hx hb hts in_X10_step_X10 hown hK hz hW lk_X10_step_0 dX10_step_49 ?_
        refine get_X4_2 hx hb hts in_X10_step_X4 hown hK hz hW lk_X10_step_1 dX10_step_52 ?_
        refine lv_iload_n hx hb dX10_step_55 rfl (lv_at hl 2 rfl) ?_
        obtain ⟨g_7, hf⟩ := of_gd hf
        refine st_A78 hx hb hK hz hW hS g_7 dX10_step_56 (fun H locs hW hS => ?_)
        obtain ⟨w_8, ew_8⟩ : ∃ y : Mem, y = mS w_6 78 ((w_6.1 76 2).toNatClampNeg) x2 := ⟨_, rfl⟩
        have hW : hd z w_8 H := by rw [ew_8]; exact hW
        have hf := of_lt ew_8 hf
        refine lv_aload_n hx hb dX10_step_57 rfl (lv_at hl 0 rfl) ?_
        refine get_X10_7 hx hb hts in_X10_step_X10 hown hK hz hW lk_X10_step_0 dX10_step_58 ?_
        refine lv_dup hx hb dX10_step_61 rfl ?_
        refine get_X4_2 hx hb hts in_X10_step_X4 hown hK hz hW lk_X10_step_1 dX10_step_62 ?_
        refine lv_iconst (v := 1) hx hb dX10_step_65 (by decide) ?_
        refine lv_iadd hx hb dX10_step_66 ?_
        refine put_X4_2 hx hb hts in_X10_step_X4 hown hK hz hW hS lk_X10_step_1 dX10_step_67 (fun H locs hW hS => ?_)
        obtain ⟨w_9, ew_9⟩ : ∃ y : Mem, y = mS w_8 76 2 ((w_8.1 76 2) + 1) := ⟨_, rfl⟩
        have hW : hd z w_9 H := by rw [ew_9]; exact hW
        have hf := of_lt ew_9 hf
        refine lv_aload_n hx hb dX10_step_70 rfl (lv_at hl 0 rfl) ?_
        refine get_X10_7 hx hb hts in_X10_step_X10 hown hK hz hW lk_X10_step_0 dX10_step_71 ?_
        refine get_X4_2 hx hb hts in_X10_step_X4 hown hK hz hW lk_X10_step_1 dX10_step_74 ?_
        exact hret _ _ _ _ _ _ hf hW hS dX10_step_77
      · have hf := of_f c_4 hf
        refine lv_bipush (v := (-2)) hx hb dX10_step_22 (by decide) ?_
        exact hret _ _ _ _ _ _ hf hW hS dX10_step_24
    · have hf := of_t c_3 hf
      refine lv_iconst (v := (-1)) hx hb dX10_step_8 (by decide) ?_
      exact hret _ _ _ _ _ _ hf hW hS dX10_step_9
  exact START _ _ hW va_S.rf
theorem in_X10_stepless_X10 : ∀ w ∈ wsX100, w ∈ wsX10_stepless := by decide +kernel
theorem in_X10_stepless_X4 : ∀ w ∈ wsX40, w ∈ wsX10_stepless := by decide +kernel
theorem lk_X10_stepless_0 : Cond.fieldLink RX10 54 "CamStitch" "job" "LCamStitch$Job;" ∈ wsX10_stepless := by decide +kernel
theorem lk_X10_stepless_1 : Cond.fieldLink RX10 97 "CamStitch$Job" "steps" "I" ∈ wsX10_stepless := by decide +kernel
set_option maxHeartbeats 4000000 in
set_option maxRecDepth 100000 in
theorem c_X10_stepless (l : Launch) {z : LZ} (hz : IC z)  (w : Mem) {r : Int32} {w' : Mem} (hf : f_X10_stepless w = some (r, w')) : Met l yX10_stepless wsX10_stepless (rm 0 0) (PZ z w [.ref (z.2.1 66)]) (QW z (some (.int r)) w') 0 0 (az z) := by
  refine mk_Wi (cc := cX10_stepless) (maxL := 2) (by decide +kernel) rfl (Nat.le_of_ble_eq_true rfl) ?_
  intro p e s m args below meth c hx hb hml hts hown hK hW Q hret ls hl
  have hl : lv_has ls 2 [(0, .ref (z.2.1 66))] := hl
  unfold f_X10_stepless at hf
  have START : ∀ (H : Heap) (locs : List Loc), hd z w H → va_S (az z) s.heap H locs → W p l e (rm 0 0) s m args below meth c H locs 0 0 Q (F0 m 0 ls []) := by
    intro H locs hW hS
    refine lv_aload_n hx hb dX10_stepless_0 rfl (lv_at hl 0 rfl) ?_
    refine get_X10_7 hx hb hts in_X10_stepless_X10 hown hK hz hW lk_X10_stepless_0 dX10_stepless_1 ?_
    refine get_X4_2 hx hb hts in_X10_stepless_X4 hown hK hz hW lk_X10_stepless_1 dX10_stepless_4 ?_
    refine lv_topi (fun v_1 ev_1 => ?_)
    have hf := of_lt ev_1 hf
    refine lv_istore_n (lv' := [(1, .int v_1), (0, .ref (z.2.1 66))]) hx hb dX10_stepless_7 rfl hl (by decide) rfl (fun ls hl => ?_)
    refine lv_aload_n hx hb dX10_stepless_8 rfl (lv_at hl 1 rfl) ?_
    refine get_X10_7 hx hb hts in_X10_stepless_X10 hown hK hz hW lk_X10_stepless_0 dX10_stepless_9 ?_
    refine lv_iconst (v := 0) hx hb dX10_stepless_12 (by decide) ?_
    refine put_X4_2 hx hb hts in_X10_stepless_X4 hown hK hz hW hS lk_X10_stepless_1 dX10_stepless_13 (fun H locs hW hS => ?_)
    obtain ⟨w_2, ew_2⟩ : ∃ y : Mem, y = mS w 76 2 0 := ⟨_, rfl⟩
    have hW : hd z w_2 H := by rw [ew_2]; exact hW
    have hf := of_lt ew_2 hf
    refine lv_iload_n hx hb dX10_stepless_16 rfl (lv_at hl 0 rfl) ?_
    exact hret _ _ _ _ _ _ hf hW hS dX10_stepless_17
  exact START _ _ hW va_S.rf
theorem in_X10_endsStep_X10 : ∀ w ∈ wsX100, w ∈ wsX10_endsStep := by decide +kernel
theorem in_X10_endsStep_X8 : ∀ w ∈ wsX80, w ∈ wsX10_endsStep := by decide +kernel
theorem lk_X10_endsStep_0 : Cond.fieldLink RX10 61 "CamStitch" "seam" "LCamStitch$Seam;" ∈ wsX10_endsStep := by decide +kernel
theorem lk_X10_endsStep_1 : Cond.fieldLink RX10 421 "CamStitch$Seam" "next" "I" ∈ wsX10_endsStep := by decide +kernel
theorem lk_X10_endsStep_2 : Cond.fieldLink RX10 316 "CamStitch$Seam" "why" "I" ∈ wsX10_endsStep := by decide +kernel
theorem lk_X10_endsStep_3 : Cond.fieldLink RX10 26 "CamStitch" "work" "LCamStitch$Disc;" ∈ wsX10_endsStep := by decide +kernel
theorem lk_X10_endsStep_4 : Cond.fieldLink RX10 47 "CamStitch" "bench" "LCamStitch$Bench;" ∈ wsX10_endsStep := by decide +kernel
theorem lk_X10_endsStep_5 : Cond.fieldLink RX10 310 "CamStitch$Seam" "quarter" "I" ∈ wsX10_endsStep := by decide +kernel
theorem lk_X10_endsStep_6 : Cond.fieldLink RX10 313 "CamStitch$Seam" "isBack" "Z" ∈ wsX10_endsStep := by decide +kernel
set_option maxHeartbeats 4000000 in
set_option maxRecDepth 100000 in
theorem c_X10_endsStep (l : Launch) {z : LZ} (hz : IC z) (x1 : Int32) (x2 : Int32) (w : Mem) {r : Int32} {w' : Mem} (hf : f_X10_endsStep x1 x2 w = some (r, w')) : Met l yX10_endsStep wsX10_endsStep (rm 5 115) (PZ z w [.ref (z.2.1 66), .int x1, .int x2]) (QW z (some (.int r)) w') 0 0 (az z) := by
  refine mk_Wz (cc := cX10_endsStep) (maxL := 3) (by decide +kernel) rfl (Nat.le_of_ble_eq_true rfl) ?_
  intro p e s m args below meth c hx hb hml hts hown hK hW Q hret ls hl
  have hl : lv_has ls 3 [(0, .ref (z.2.1 66)), (1, .int x1), (2, .int x2)] := hl
  unfold f_X10_endsStep at hf
  have START : ∀ (H : Heap) (locs : List Loc), hd z w H → va_S (az z) s.heap H locs → W p l e (rm 5 115) s m args below meth c H locs 0 0 Q (F0 m 0 ls []) := by
    intro H locs hW hS
    refine lv_iload_n hx hb dX10_endsStep_0 rfl (lv_at hl 1 rfl) ?_
    by_cases c_1 : x1 = 0
    · have hf := of_t c_1 hf
      refine lv_tableIn (off := 27) (tgt := 28) hx hb dX10_endsStep_1 (by rw [c_1]; decide) (by rw [c_1]; decide) (by rw [c_1]; rfl) (by decide) ?_
      refine lv_aload_n hx hb dX10_endsStep_28 rfl (lv_at hl 0 rfl) ?_
      refine lv_iload_n hx hb dX10_endsStep_29 rfl (lv_at hl 2 rfl) ?_
      obtain ⟨r_2, w_4, hq_3, hf⟩ := of_b2 hf
      refine m_goWi (va_runV (As := [.int x2]) (rest := []) ⟨hx, hb, hml, hown, hts⟩ (c_X10_comesFrom l hz x2 w hq_3) (cwV 1 hts gX10_endsStep_X10_comesFrom rfl rfl rfl (by decide +kernel) ⟨Nat.le_of_ble_eq_true rfl, Nat.le_of_ble_eq_true rfl⟩) (pre_X10 hK hz hW _) rfl rfl hl.1 rfl (lv_room (Nat.le_of_ble_eq_true rfl)) dX10_endsStep_30 ⟨Nat.le_refl _, Nat.le_refl _⟩) hS (fun H locs hW hS => ?_)
      refine lv_if_ne (tgt := 46) hx hb dX10_endsStep_33 (by decide) (fun c_5 => ?_) (fun c_5 => ?_)
      · have hf := of_f c_5 hf
        refine lv_aload_n hx hb dX10_endsStep_46 rfl (lv_at hl 0 rfl) ?_
        refine get_X10_8 hx hb hts in_X10_endsStep_X10 hown hK hz hW lk_X10_endsStep_0 dX10_endsStep_47 ?_
        refine lv_iconst (v := 0) hx hb dX10_endsStep_50 (by decide) ?_
        refine put_X8_12 hx hb hts in_X10_endsStep_X8 hown hK hz hW hS lk_X10_endsStep_1 dX10_endsStep_51 (fun H locs hW hS => ?_)
        obtain ⟨w_6, ew_6⟩ : ∃ y : Mem, y = mS w_4 79 12 0 := ⟨_, rfl⟩
        have hW : hd z w_6 H := by rw [ew_6]; exact hW
        have hf := of_lt ew_6 hf
        refine lv_iconst (v := 1) hx hb dX10_endsStep_54 (by decide) ?_
        exact hret _ _ _ _ _ _ hf rfl hW hS dX10_endsStep_55
      · have hf := of_t c_5 hf
        refine lv_aload_n hx hb dX10_endsStep_36 rfl (lv_at hl 0 rfl) ?_
        refine get_X10_8 hx hb hts in_X10_endsStep_X10 hown hK hz hW lk_X10_endsStep_0 dX10_endsStep_37 ?_
        refine lv_iconst (v := 4) hx hb dX10_endsStep_40 (by decide) ?_
        refine put_X8_8 hx hb hts in_X10_endsStep_X8 hown hK hz hW hS lk_X10_endsStep_2 dX10_endsStep_41 (fun H locs hW hS => ?_)
        obtain ⟨w_7, ew_7⟩ : ∃ y : Mem, y = mS w_4 79 8 4 := ⟨_, rfl⟩
        have hW : hd z w_7 H := by rw [ew_7]; exact hW
        have hf := of_lt ew_7 hf
        refine lv_iconst (v := 0) hx hb dX10_endsStep_44 (by decide) ?_
        exact hret _ _ _ _ _ _ hf rfl hW hS dX10_endsStep_45
    have hf := of_f c_1 hf
    by_cases c_8 : x1 = 1
    · have hf := of_t c_8 hf
      refine lv_tableIn (off := 55) (tgt := 56) hx hb dX10_endsStep_1 (by rw [c_8]; decide) (by rw [c_8]; decide) (by rw [c_8]; rfl) (by decide) ?_
      refine lv_aload_n hx hb dX10_endsStep_56 rfl (lv_at hl 0 rfl) ?_
      refine get_X10_8 hx hb hts in_X10_endsStep_X10 hown hK hz hW lk_X10_endsStep_0 dX10_endsStep_57 ?_
      refine lv_aload_n hx hb dX10_endsStep_60 rfl (lv_at hl 0 rfl) ?_
      refine get_X10_2 hx hb hts in_X10_endsStep_X10 hown hK hz hW lk_X10_endsStep_3 dX10_endsStep_61 ?_
      refine lv_aload_n hx hb dX10_endsStep_64 rfl (lv_at hl 0 rfl) ?_
      refine get_X10_6 hx hb hts in_X10_endsStep_X10 hown hK hz hW lk_X10_endsStep_4 dX10_endsStep_65 ?_
      refine lv_iload_n hx hb dX10_endsStep_68 rfl (lv_at hl 2 rfl) ?_
      obtain ⟨r_9, w_11, hq_10, hf⟩ := of_b2 hf
      refine m_goWi (va_runV (As := [.ref (z.2.1 (3*14)), .ref (z.2.1 74), .int x2]) (rest := []) ⟨hx, hb, hml, hown, hts⟩ (c_X8_sews l hz 14 (Nat.le_of_ble_eq_true rfl) x2 w hq_10) (cwV 3 hts gX10_endsStep_X8_sews rfl rfl rfl (by decide +kernel) ⟨Nat.le_of_ble_eq_true rfl, Nat.le_of_ble_eq_true rfl⟩) (pre_X8 hK hz hW _) rfl rfl hl.1 rfl (lv_room (Nat.le_of_ble_eq_true rfl)) dX10_endsStep_69 ⟨Nat.le_refl _, Nat.le_refl _⟩) hS (fun H locs hW hS => ?_)
      obtain ⟨g_12, hf⟩ := of_gd hf
      exact hret _ _ _ _ _ _ hf (bz_n g_12) hW hS dX10_endsStep_72
    have hf := of_f c_8 hf
    by_cases c_13 : x1 = 2
    · have hf := of_t c_13 hf
      refine lv_tableIn (off := 72) (tgt := 73) hx hb dX10_endsStep_1 (by rw [c_13]; decide) (by rw [c_13]; decide) (by rw [c_13]; rfl) (by decide) ?_
      refine lv_aload_n hx hb dX10_endsStep_73 rfl (lv_at hl 0 rfl) ?_
      refine get_X10_8 hx hb hts in_X10_endsStep_X10 hown hK hz hW lk_X10_endsStep_0 dX10_endsStep_74 ?_
      refine lv_aload_n hx hb dX10_endsStep_77 rfl (lv_at hl 0 rfl) ?_
      refine get_X10_8 hx hb hts in_X10_endsStep_X10 hown hK hz hW lk_X10_endsStep_0 dX10_endsStep_78 ?_
      refine get_X8_6 hx hb hts in_X10_endsStep_X8 hown hK hz hW lk_X10_endsStep_5 dX10_endsStep_81 ?_
      refine lv_iload_n hx hb dX10_endsStep_84 rfl (lv_at hl 2 rfl) ?_
      refine lv_iadd hx hb dX10_endsStep_85 ?_
      refine lv_iconst (v := 4) hx hb dX10_endsStep_86 (by decide) ?_
      refine lv_irem hx hb dX10_endsStep_87 (by decide) ?_
      refine lv_topi (fun v_14 ev_14 => ?_)
      have hf := of_lt (e := irm ((w.1 79 6) + x2) 4) ev_14 hf
      refine put_X8_6 hx hb hts in_X10_endsStep_X8 hown hK hz hW hS lk_X10_endsStep_5 dX10_endsStep_88 (fun H locs hW hS => ?_)
      obtain ⟨w_15, ew_15⟩ : ∃ y : Mem, y = mS w 79 6 v_14 := ⟨_, rfl⟩
      have hW : hd z w_15 H := by rw [ew_15]; exact hW
      have hf := of_lt ew_15 hf
      refine lv_iconst (v := 1) hx hb dX10_endsStep_91 (by decide) ?_
      exact hret _ _ _ _ _ _ hf rfl hW hS dX10_endsStep_92
    have hf := of_f c_13 hf
    refine lv_tableOut (tgt := 93) hx hb dX10_endsStep_1 (by have qc_1 := lv_neT c_1 (show (0 : Int32).toInt = 0 by decide); have qc_8 := lv_neT c_8 (show (1 : Int32).toInt = 1 by decide); have qc_13 := lv_neT c_13 (show (2 : Int32).toInt = 2 by decide); omega) (by decide) ?_
    refine lv_aload_n hx hb dX10_endsStep_93 rfl (lv_at hl 0 rfl) ?_
    refine get_X10_8 hx hb hts in_X10_endsStep_X10 hown hK hz hW lk_X10_endsStep_0 dX10_endsStep_94 ?_
    refine lv_aload_n hx hb dX10_endsStep_97 rfl (lv_at hl 0 rfl) ?_
    refine get_X10_8 hx hb hts in_X10_endsStep_X10 hown hK hz hW lk_X10_endsStep_0 dX10_endsStep_98 ?_
    refine get_X8_7 hx hb hts in_X10_endsStep_X8 hown hK hz hW lk_X10_endsStep_6 dX10_endsStep_101 ?_
    have J_17 : ∀ (v_16 : Int32) (ls : Array Slot), v_16 = (if (w.1 79 7) = 0 then 1 else 0) → lv_has ls 3 [] → W p l e (rm 5 115) s m args below meth c H locs 0 0 Q (F0 m 112 ls [.int v_16, .ref (z.2.1 79)]) := by
      intro v_16 ls ev_16 hl
      have hf := of_lt ev_16 hf
      obtain ⟨g_18, hf⟩ := of_gd hf
      refine put_X8_7 hx hb hts in_X10_endsStep_X8 hown hK hz hW hS (bz_s g_18) lk_X10_endsStep_6 dX10_endsStep_112 (fun H locs hW hS => ?_)
      obtain ⟨w_19, ew_19⟩ : ∃ y : Mem, y = mS w 79 7 v_16 := ⟨_, rfl⟩
      have hW : hd z w_19 H := by rw [ew_19]; exact hW
      have hf := of_lt ew_19 hf
      refine lv_iconst (v := 1) hx hb dX10_endsStep_115 (by decide) ?_
      exact hret _ _ _ _ _ _ hf rfl hW hS dX10_endsStep_116
    refine lv_if_ne (tgt := 111) hx hb dX10_endsStep_104 (by decide) (fun c_20 => ?_) (fun c_20 => ?_)
    · refine lv_iconst (v := 0) hx hb dX10_endsStep_111 (by decide) ?_
      exact J_17 _ _ (by rw [if_neg c_20]) (lv_sub hl [] rfl)
    · refine lv_iconst (v := 1) hx hb dX10_endsStep_107 (by decide) ?_
      refine lv_goto (tgt := 112) hx hb dX10_endsStep_108 (by decide) ?_
      exact J_17 _ _ (by rw [if_pos c_20]) (lv_sub hl [] rfl)
  exact START _ _ hW va_S.rf
theorem in_X10_sew_X10 : ∀ w ∈ wsX100, w ∈ wsX10_sew := by decide +kernel
theorem in_X10_sew_X4 : ∀ w ∈ wsX40, w ∈ wsX10_sew := by decide +kernel
theorem in_X10_sew_X8 : ∀ w ∈ wsX80, w ∈ wsX10_sew := by decide +kernel
theorem lk_X10_sew_0 : Cond.fieldLink RX10 61 "CamStitch" "seam" "LCamStitch$Seam;" ∈ wsX10_sew := by decide +kernel
theorem lk_X10_sew_1 : Cond.fieldLink RX10 26 "CamStitch" "work" "LCamStitch$Disc;" ∈ wsX10_sew := by decide +kernel
theorem lk_X10_sew_2 : Cond.fieldLink RX10 54 "CamStitch" "job" "LCamStitch$Job;" ∈ wsX10_sew := by decide +kernel
theorem lk_X10_sew_3 : Cond.fieldLink RX10 97 "CamStitch$Job" "steps" "I" ∈ wsX10_sew := by decide +kernel
theorem lk_X10_sew_4 : Cond.fieldLink RX10 278 "CamStitch$Job" "kinds" "[I" ∈ wsX10_sew := by decide +kernel
theorem lk_X10_sew_5 : Cond.fieldLink RX10 281 "CamStitch$Job" "numbers" "[I" ∈ wsX10_sew := by decide +kernel
theorem lk_X10_sew_6 : Cond.fieldLink RX10 294 "CamStitch$Seam" "stepsEnded" "I" ∈ wsX10_sew := by decide +kernel
theorem lk_X10_sew_7 : Cond.fieldLink RX10 297 "CamStitch$Seam" "stitches" "I" ∈ wsX10_sew := by decide +kernel
set_option maxHeartbeats 4000000 in
set_option maxRecDepth 100000 in
theorem c_X10_sew (l : Launch) {z : LZ} (hz : IC z)  (w : Mem) {r : Int32} {w' : Mem} (hf : f_X10_sew w = some (r, w')) : Met l yX10_sew wsX10_sew (rm 6 137) (PZ z w [.ref (z.2.1 66)]) (QW z (some (.int r)) w') 0 0 (az z) := by
  refine mk_Wi (cc := cX10_sew) (maxL := 2) (by decide +kernel) rfl (Nat.le_of_ble_eq_true rfl) ?_
  intro p e s m args below meth c hx hb hml hts hown hK hW Q hret ls hl
  have hl : lv_has ls 2 [(0, .ref (z.2.1 66))] := hl
  unfold f_X10_sew at hf
  have START : ∀ (H : Heap) (locs : List Loc), hd z w H → va_S (az z) s.heap H locs → W p l e (rm 6 137) s m args below meth c H locs 0 0 Q (F0 m 0 ls []) := by
    intro H locs hW hS
    refine lv_aload_n hx hb dX10_sew_0 rfl (lv_at hl 0 rfl) ?_
    refine get_X10_8 hx hb hts in_X10_sew_X10 hown hK hz hW lk_X10_sew_0 dX10_sew_1 ?_
    refine lv_aload_n hx hb dX10_sew_4 rfl (lv_at hl 0 rfl) ?_
    refine get_X10_2 hx hb hts in_X10_sew_X10 hown hK hz hW lk_X10_sew_1 dX10_sew_5 ?_
    obtain ⟨r_1, hq_2, hf⟩ := of_bd hf
    refine m_goRi (va_runV (As := []) (rest := [.ref (z.2.1 79)]) ⟨hx, hb, hml, hown, hts⟩ (c_X1_needle l hz 14 (Nat.le_of_ble_eq_true rfl) w hq_2) (cwV 0 hts gX10_sew_X1_needle rfl rfl rfl (by decide +kernel) ⟨Nat.le_of_ble_eq_true rfl, Nat.le_of_ble_eq_true rfl⟩) (pre_X1 hK hz hW (Nat.le_of_ble_eq_true rfl) _) rfl rfl hl.1 rfl (lv_room (Nat.le_of_ble_eq_true rfl)) dX10_sew_8 ⟨Nat.le_refl _, Nat.le_refl _⟩) ?_
    obtain ⟨w_5, hq_4, hf⟩ := of_bd hf
    refine m_goWv (va_runV (As := [.int r_1]) (rest := []) ⟨hx, hb, hml, hown, hts⟩ (c_X8_start l hz r_1 w hq_4) (cwV 1 hts gX10_sew_X8_start rfl rfl rfl (by decide +kernel) ⟨Nat.le_of_ble_eq_true rfl, Nat.le_of_ble_eq_true rfl⟩) (pre_X8 hK hz hW _) rfl rfl hl.1 rfl (lv_room (Nat.le_of_ble_eq_true rfl)) dX10_sew_11 ⟨Nat.le_refl _, Nat.le_refl _⟩) hS (fun H locs hW hS => ?_)
    refine lv_iconst (v := 0) hx hb dX10_sew_14 (by decide) ?_
    refine lv_istore_n (lv' := [(1, .int 0), (0, .ref (z.2.1 66))]) hx hb dX10_sew_15 rfl hl (by decide) rfl (fun ls hl => ?_)
    have L_8 : ∀ (n : Nat) (x1_6 : Int32) (w_7 : Mem) (exL_8 : Int32 × Mem) (H : Heap) (locs : List Loc) (ls : Array Slot), f_X10_sew_L16 n x1_6 w_7 = some exL_8 → hd z w_7 H → va_S (az z) s.heap H locs → lv_has ls 2 [(0, .ref (z.2.1 66)), (1, .int x1_6)] → (∀ (H : Heap) (locs : List Loc) (ls : Array Slot), hd z (exL_8.2) H → va_S (az z) s.heap H locs → lv_has ls 2 [(0, .ref (z.2.1 66)), (1, .int exL_8.1)] → W p l e (rm 6 137) s m args below meth c H locs 0 0 Q (F0 m 58 ls [])) → W p l e (rm 6 137) s m args below meth c H locs 0 0 Q (F0 m 16 ls []) := by
      intro n
      induction n with
      | zero =>
        intro x1_6 w_7 exL_8 H locs ls hf
        have hf : (none : Option (Int32 × Mem)) = some exL_8 := hf
        cases hf
      | succ n ihL_8 =>
        intro x1_6 w_7 exL_8 H locs ls hf hW hS hl hEL_8
        rw [f_X10_sew_L16_s] at hf
        refine lv_iload_n hx hb dX10_sew_16 rfl (lv_at hl 1 rfl) ?_
        refine lv_aload_n hx hb dX10_sew_17 rfl (lv_at hl 0 rfl) ?_
        refine get_X10_7 hx hb hts in_X10_sew_X10 hown hK hz hW lk_X10_sew_2 dX10_sew_18 ?_
        refine get_X4_2 hx hb hts in_X10_sew_X4 hown hK hz hW lk_X10_sew_3 dX10_sew_21 ?_
        refine lv_icmp_ge (tgt := 58) hx hb dX10_sew_24 (by decide) (fun c_9 => ?_) (fun c_9 => ?_)
        · have hf := of_t c_9 hf
          have hf := Option.some.inj hf
          subst hf
          exact hEL_8 _ _ _ hW hS (lv_sub hl [0, 1] rfl)
        · have hf := of_f c_9 hf
          refine lv_aload_n hx hb dX10_sew_27 rfl (lv_at hl 0 rfl) ?_
          refine lv_aload_n hx hb dX10_sew_28 rfl (lv_at hl 0 rfl) ?_
          refine get_X10_7 hx hb hts in_X10_sew_X10 hown hK hz hW lk_X10_sew_2 dX10_sew_29 ?_
          refine get_X4_0 hx hb hts in_X10_sew_X4 hown hK hz hW lk_X10_sew_4 dX10_sew_32 ?_
          refine lv_iload_n hx hb dX10_sew_35 rfl (lv_at hl 1 rfl) ?_
          obtain ⟨g_10, hf⟩ := of_gd hf
          refine ld_A77 hx hb hK hz hW g_10 dX10_sew_36 ?_
          refine lv_topi (fun v_11 ev_11 => ?_)
          have hf := of_lt ev_11 hf
          refine lv_aload_n hx hb dX10_sew_37 rfl (lv_at hl 0 rfl) ?_
          refine get_X10_7 hx hb hts in_X10_sew_X10 hown hK hz hW lk_X10_sew_2 dX10_sew_38 ?_
          refine get_X4_1 hx hb hts in_X10_sew_X4 hown hK hz hW lk_X10_sew_5 dX10_sew_41 ?_
          refine lv_iload_n hx hb dX10_sew_44 rfl (lv_at hl 1 rfl) ?_
          refine ld_A78 hx hb hK hz hW g_10 dX10_sew_45 ?_
          refine lv_topi (fun v_12 ev_12 => ?_)
          have hf := of_lt ev_12 hf
          obtain ⟨r_13, w_15, hq_14, hf⟩ := of_b2 hf
          refine m_goWi (va_runV (As := [.int v_11, .int v_12]) (rest := []) ⟨hx, hb, hml, hown, hts⟩ (c_X10_endsStep l hz v_11 v_12 w_7 hq_14) (cwV 2 hts gX10_sew_X10_endsStep rfl rfl rfl (by decide +kernel) ⟨Nat.le_of_ble_eq_true rfl, Nat.le_of_ble_eq_true rfl⟩) (pre_X10 hK hz hW _) rfl rfl hl.1 rfl (lv_room (Nat.le_of_ble_eq_true rfl)) dX10_sew_46 ⟨Nat.le_refl _, Nat.le_refl _⟩) hS (fun H locs hW hS => ?_)
          refine lv_if_eq (tgt := 58) hx hb dX10_sew_49 (by decide) (fun c_16 => ?_) (fun c_16 => ?_)
          · have hf := of_t c_16 hf
            have hf := Option.some.inj hf
            subst hf
            exact hEL_8 _ _ _ hW hS (lv_sub hl [0, 1] rfl)
          · have hf := of_f c_16 hf
            obtain ⟨x1_17, ex1_17⟩ : ∃ y : Int32, y = x1_6 + 1 := ⟨_, rfl⟩
            have hf := of_lt ex1_17 hf
            refine lv_iinc (v := x1_17) (lv' := [(1, .int x1_17), (0, .ref (z.2.1 66))]) hx hb dX10_sew_52 hl (k := 1) rfl (by rw [ex1_17]; rfl) (by decide) rfl (fun ls hl => ?_)
            refine lv_goto (tgt := 16) hx hb dX10_sew_55 (by decide) ?_
            exact ihL_8 _ _ _ _ _ _ hf hW hS (lv_sub hl [1, 0] rfl) hEL_8
    obtain ⟨ex_19, hq_18, hf⟩ := of_bd hf
    obtain ⟨x1_20, w_21⟩ := ex_19
    have hf := of_tp2 hf
    refine L_8 FU _ _ _ _ _ _ hq_18 hW hS (lv_sub hl [1, 0] rfl) (fun H locs ls hW hS hl => ?_)
    have hW : hd z w_21 H := hW
    have hl : lv_has ls 2 [(0, .ref (z.2.1 66)), (1, .int x1_20)] := hl
    refine lv_aload_n hx hb dX10_sew_58 rfl (lv_at hl 0 rfl) ?_
    refine get_X10_8 hx hb hts in_X10_sew_X10 hown hK hz hW lk_X10_sew_0 dX10_sew_59 ?_
    refine lv_iload_n hx hb dX10_sew_62 rfl (lv_at hl 1 rfl) ?_
    refine put_X8_11 hx hb hts in_X10_sew_X8 hown hK hz hW hS lk_X10_sew_6 dX10_sew_63 (fun H locs hW hS => ?_)
    obtain ⟨w_22, ew_22⟩ : ∃ y : Mem, y = mS w_21 79 11 x1_20 := ⟨_, rfl⟩
    have hW : hd z w_22 H := by rw [ew_22]; exact hW
    have hf := of_lt ew_22 hf
    refine lv_aload_n hx hb dX10_sew_66 rfl (lv_at hl 0 rfl) ?_
    refine get_X10_8 hx hb hts in_X10_sew_X10 hown hK hz hW lk_X10_sew_0 dX10_sew_67 ?_
    refine get_X8_3 hx hb hts in_X10_sew_X8 hown hK hz hW lk_X10_sew_7 dX10_sew_70 ?_
    exact hret _ _ _ _ _ _ hf hW hS dX10_sew_73
  exact START _ _ hW va_S.rf
theorem in_X10_thread_X0 : ∀ w ∈ wsX00, w ∈ wsX10_thread := by decide +kernel
theorem in_X10_thread_X10 : ∀ w ∈ wsX100, w ∈ wsX10_thread := by decide +kernel
theorem lk_X10_thread_0 : Cond.fieldLink RX10 47 "CamStitch" "bench" "LCamStitch$Bench;" ∈ wsX10_thread := by decide +kernel
theorem lk_X10_thread_1 : Cond.fieldLink RX10 272 "CamStitch$Bench" "bobbin" "I" ∈ wsX10_thread := by decide +kernel
theorem lk_X10_thread_2 : Cond.fieldLink RX10 269 "CamStitch$Bench" "spool" "I" ∈ wsX10_thread := by decide +kernel
set_option maxHeartbeats 4000000 in
set_option maxRecDepth 100000 in
theorem c_X10_thread (l : Launch) {z : LZ} (hz : IC z) (x1 : Int32) (w : Mem) {r : Int32} (hf : f_X10_thread x1 w = some r) : Met l yX10_thread wsX10_thread (rm 0 0) (PZ z w [.ref (z.2.1 66), .int x1]) (QR (some (.int r))) 0 0 (fun _ => False) := by
  refine mk_Ri (cc := cX10_thread) (maxL := 2) (by decide +kernel) rfl (Nat.le_of_ble_eq_true rfl) ?_
  intro p e s m args below meth c hx hb hml hts hown hK hW Q hret ls hl
  have hl : lv_has ls 2 [(0, .ref (z.2.1 66)), (1, .int x1)] := hl
  unfold f_X10_thread at hf
  refine lv_iload_n hx hb dX10_thread_0 rfl (lv_at hl 1 rfl) ?_
  refine lv_if_lt (tgt := 9) hx hb dX10_thread_1 (by decide) (fun c_1 => ?_) (fun c_1 => ?_)
  · have hf := of_t c_1 hf
    refine lv_iconst (v := (-1)) hx hb dX10_thread_9 (by decide) ?_
    exact hret _ _ _ hf dX10_thread_10
  · have hf := of_f c_1 hf
    refine lv_iload_n hx hb dX10_thread_4 rfl (lv_at hl 1 rfl) ?_
    refine lv_iconst (v := 1) hx hb dX10_thread_5 (by decide) ?_
    refine lv_icmp_le (tgt := 11) hx hb dX10_thread_6 (by decide) (fun c_2 => ?_) (fun c_2 => ?_)
    · have hf := of_t c_2 hf
      refine lv_iload_n hx hb dX10_thread_11 rfl (lv_at hl 1 rfl) ?_
      have J_4 : ∀ (v_3 : Int32) (ls : Array Slot), v_3 = (if x1 = 0 then (w.1 74 3) else (w.1 74 4)) → lv_has ls 2 [] → W p l e (rm 0 0) s m args below meth c s.heap [] 0 0 Q (F0 m 32 ls [.int v_3]) := by
        intro v_3 ls ev_3 hl
        have hf := of_lt ev_3 hf
        exact hret _ _ _ hf dX10_thread_32
      refine lv_if_ne (tgt := 25) hx hb dX10_thread_12 (by decide) (fun c_5 => ?_) (fun c_5 => ?_)
      · refine lv_aload_n hx hb dX10_thread_25 rfl (lv_at hl 0 rfl) ?_
        refine get_X10_6 hx hb hts in_X10_thread_X10 hown hK hz hW lk_X10_thread_0 dX10_thread_26 ?_
        refine get_X0_4 hx hb hts in_X10_thread_X0 hown hK hz hW lk_X10_thread_1 dX10_thread_29 ?_
        exact J_4 _ _ (by rw [if_neg c_5]) (lv_sub hl [] rfl)
      · refine lv_aload_n hx hb dX10_thread_15 rfl (lv_at hl 0 rfl) ?_
        refine get_X10_6 hx hb hts in_X10_thread_X10 hown hK hz hW lk_X10_thread_0 dX10_thread_16 ?_
        refine get_X0_3 hx hb hts in_X10_thread_X0 hown hK hz hW lk_X10_thread_2 dX10_thread_19 ?_
        refine lv_goto (tgt := 32) hx hb dX10_thread_22 (by decide) ?_
        exact J_4 _ _ (by rw [if_pos c_5]) (lv_sub hl [] rfl)
    · have hf := of_f c_2 hf
      refine lv_iconst (v := (-1)) hx hb dX10_thread_9 (by decide) ?_
      exact hret _ _ _ hf dX10_thread_10
theorem in_X10_againstRim_X10 : ∀ w ∈ wsX100, w ∈ wsX10_againstRim := by decide +kernel
theorem in_X10_againstRim_X9 : ∀ w ∈ wsX90, w ∈ wsX10_againstRim := by decide +kernel
theorem lk_X10_againstRim_0 : Cond.fieldLink RX10 81 "CamStitch" "tapes" "[LCamStitch$Tape;" ∈ wsX10_againstRim := by decide +kernel
theorem lk_X10_againstRim_1 : Cond.fieldLink RX10 394 "CamStitch$Tape" "length" "I" ∈ wsX10_againstRim := by decide +kernel
set_option maxHeartbeats 4000000 in
set_option maxRecDepth 100000 in
theorem c_X10_againstRim (l : Launch) {z : LZ} (hz : IC z) (x1 : Int32) (x2 : Int32) (w : Mem) {r : Int32} (hf : f_X10_againstRim x1 x2 w = some r) : Met l yX10_againstRim wsX10_againstRim (rm 2 42) (PZ z w [.ref (z.2.1 66), .int x1, .int x2]) (QR (some (.int r))) 0 0 (fun _ => False) := by
  refine mk_Ri (cc := cX10_againstRim) (maxL := 4) (by decide +kernel) rfl (Nat.le_of_ble_eq_true rfl) ?_
  intro p e s m args below meth c hx hb hml hts hown hK hW Q hret ls hl
  have hl : lv_has ls 4 [(0, .ref (z.2.1 66)), (1, .int x1), (2, .int x2)] := hl
  unfold f_X10_againstRim at hf
  refine lv_iload_n hx hb dX10_againstRim_0 rfl (lv_at hl 2 rfl) ?_
  refine lv_if_lt (tgt := 10) hx hb dX10_againstRim_1 (by decide) (fun c_1 => ?_) (fun c_1 => ?_)
  · have hf := of_t c_1 hf
    refine lv_iconst (v := (-1)) hx hb dX10_againstRim_10 (by decide) ?_
    exact hret _ _ _ hf dX10_againstRim_11
  · have hf := of_f c_1 hf
    refine lv_iload_n hx hb dX10_againstRim_4 rfl (lv_at hl 2 rfl) ?_
    refine lv_bipush (v := 6) hx hb dX10_againstRim_5 (by decide) ?_
    refine lv_icmp_le (tgt := 12) hx hb dX10_againstRim_7 (by decide) (fun c_2 => ?_) (fun c_2 => ?_)
    · have hf := of_t c_2 hf
      refine lv_aload_n hx hb dX10_againstRim_12 rfl (lv_at hl 0 rfl) ?_
      refine lv_iload_n hx hb dX10_againstRim_13 rfl (lv_at hl 1 rfl) ?_
      refine lv_iconst (v := 1) hx hb dX10_againstRim_14 (by decide) ?_
      obtain ⟨r_3, hq_4, hf⟩ := of_bd hf
      refine m_goRi (va_runV (As := [.int x1, .int 1]) (rest := []) ⟨hx, hb, hml, hown, hts⟩ (c_X10_againstSort l hz x1 1 w hq_4) (cwV 2 hts gX10_againstRim_X10_againstSort rfl rfl rfl (by decide +kernel) ⟨Nat.le_of_ble_eq_true rfl, Nat.le_of_ble_eq_true rfl⟩) (pre_X10 hK hz hW _) rfl rfl hl.1 rfl (lv_room (Nat.le_of_ble_eq_true rfl)) dX10_againstRim_15 ⟨Nat.le_refl _, Nat.le_refl _⟩) ?_
      refine lv_istore_n (lv' := [(3, .int r_3), (0, .ref (z.2.1 66)), (1, .int x1), (2, .int x2)]) hx hb dX10_againstRim_18 rfl hl (by decide) rfl (fun ls hl => ?_)
      refine lv_iload_n hx hb dX10_againstRim_19 rfl (lv_at hl 0 rfl) ?_
      refine lv_if_eq (tgt := 25) hx hb dX10_againstRim_20 (by decide) (fun c_5 => ?_) (fun c_5 => ?_)
      · have hf := of_t c_5 hf
        refine lv_aload_n hx hb dX10_againstRim_25 rfl (lv_at hl 1 rfl) ?_
        refine get_X10_11 hx hb hts in_X10_againstRim_X10 hown hK hz hW lk_X10_againstRim_0 dX10_againstRim_26 ?_
        refine lv_iload_n hx hb dX10_againstRim_29 rfl (lv_at hl 2 rfl) ?_
        obtain ⟨g_6, hf⟩ := of_gd hf
        refine ld_AT hx hb hK hz hW g_6 dX10_againstRim_30 ?_
        refine get_X9_3 hx hb hts in_X10_againstRim_X9 hown hK hz hW (inb_lt g_6) lk_X10_againstRim_1 dX10_againstRim_31 ?_
        refine lv_topi (fun v_7 ev_7 => ?_)
        have hf := of_lt ev_7 hf
        refine lv_iconst (v := 1) hx hb dX10_againstRim_34 (by decide) ?_
        refine lv_icmp_lt (tgt := 52) hx hb dX10_againstRim_35 (by decide) (fun c_8 => ?_) (fun c_8 => ?_)
        · have hf := of_t c_8 hf
          refine lv_bipush (v := (-4)) hx hb dX10_againstRim_52 (by decide) ?_
          refine lv_goto (tgt := 58) hx hb dX10_againstRim_54 (by decide) ?_
          exact hret _ _ _ hf dX10_againstRim_58
        · have hf := of_f c_8 hf
          refine lv_aload_n hx hb dX10_againstRim_38 rfl (lv_at hl 1 rfl) ?_
          refine get_X10_11 hx hb hts in_X10_againstRim_X10 hown hK hz hW lk_X10_againstRim_0 dX10_againstRim_39 ?_
          refine lv_iload_n hx hb dX10_againstRim_42 rfl (lv_at hl 2 rfl) ?_
          refine ld_AT hx hb hK hz hW g_6 dX10_againstRim_43 ?_
          refine get_X9_3 hx hb hts in_X10_againstRim_X9 hown hK hz hW (inb_lt g_6) lk_X10_againstRim_1 dX10_againstRim_44 ?_
          refine lv_topi (fun v_9 ev_9 => ?_)
          have hf := of_lt ev_9 hf
          refine lv_bipush (v := 48) hx hb dX10_againstRim_47 (by decide) ?_
          have J_11 : ∀ (v_10 : Int32) (ls : Array Slot), v_10 = (if v_9 ≤ 48 then 0 else (-4)) → lv_has ls 4 [] → W p l e (rm 2 42) s m args below meth c s.heap [] 0 0 Q (F0 m 58 ls [.int v_10]) := by
            intro v_10 ls ev_10 hl
            have hf := of_lt ev_10 hf
            exact hret _ _ _ hf dX10_againstRim_58
          refine lv_icmp_le (tgt := 57) hx hb dX10_againstRim_49 (by decide) (fun c_12 => ?_) (fun c_12 => ?_)
          · refine lv_iconst (v := 0) hx hb dX10_againstRim_57 (by decide) ?_
            exact J_11 _ _ (by rw [if_pos c_12]) (lv_sub hl [] rfl)
          · refine lv_bipush (v := (-4)) hx hb dX10_againstRim_52 (by decide) ?_
            refine lv_goto (tgt := 58) hx hb dX10_againstRim_54 (by decide) ?_
            exact J_11 _ _ (by rw [if_neg c_12]) (lv_sub hl [] rfl)
      · have hf := of_f c_5 hf
        refine lv_iload_n hx hb dX10_againstRim_23 rfl (lv_at hl 0 rfl) ?_
        exact hret _ _ _ hf dX10_againstRim_24
    · have hf := of_f c_2 hf
      refine lv_iconst (v := (-1)) hx hb dX10_againstRim_10 (by decide) ?_
      exact hret _ _ _ hf dX10_againstRim_11
theorem in_X10_names_X10 : ∀ w ∈ wsX100, w ∈ wsX10_names := by decide +kernel
theorem in_X10_names_X7 : ∀ w ∈ wsX70, w ∈ wsX10_names := by decide +kernel
theorem lk_X10_names_0 : Cond.fieldLink RX10 68 "CamStitch" "rim" "LCamStitch$Rim;" ∈ wsX10_names := by decide +kernel
theorem lk_X10_names_1 : Cond.fieldLink RX10 81 "CamStitch" "tapes" "[LCamStitch$Tape;" ∈ wsX10_names := by decide +kernel
theorem lk_X10_names_2 : Cond.fieldLink RX10 33 "CamStitch" "shelves" "[LCamStitch$Disc;" ∈ wsX10_names := by decide +kernel
theorem lk_X10_names_3 : Cond.fieldLink RX10 337 "CamStitch$Rim" "found" "I" ∈ wsX10_names := by decide +kernel
set_option maxHeartbeats 4000000 in
set_option maxRecDepth 100000 in
theorem c_X10_names (l : Launch) {z : LZ} (hz : IC z) (x1 : Int32) (x2 : Int32) (w : Mem) {r : Int32} {w' : Mem} (hf : f_X10_names x1 x2 w = some (r, w')) : Met l yX10_names wsX10_names (rm 3 65) (PZ z w [.ref (z.2.1 66), .int x1, .int x2]) (QW z (some (.int r)) w') 0 0 (az z) := by
  refine mk_Wi (cc := cX10_names) (maxL := 4) (by decide +kernel) rfl (Nat.le_of_ble_eq_true rfl) ?_
  intro p e s m args below meth c hx hb hml hts hown hK hW Q hret ls hl
  have hl : lv_has ls 4 [(0, .ref (z.2.1 66)), (1, .int x1), (2, .int x2)] := hl
  unfold f_X10_names at hf
  have START : ∀ (H : Heap) (locs : List Loc), hd z w H → va_S (az z) s.heap H locs → W p l e (rm 3 65) s m args below meth c H locs 0 0 Q (F0 m 0 ls []) := by
    intro H locs hW hS
    refine lv_aload_n hx hb dX10_names_0 rfl (lv_at hl 0 rfl) ?_
    refine lv_iload_n hx hb dX10_names_1 rfl (lv_at hl 1 rfl) ?_
    refine lv_iload_n hx hb dX10_names_2 rfl (lv_at hl 2 rfl) ?_
    obtain ⟨r_1, hq_2, hf⟩ := of_bd hf
    refine m_goRi (va_runV (As := [.int x1, .int x2]) (rest := []) ⟨hx, hb, hml, hown, hts⟩ (c_X10_againstRim l hz x1 x2 w hq_2) (cwV 2 hts gX10_names_X10_againstRim rfl rfl rfl (by decide +kernel) ⟨Nat.le_of_ble_eq_true rfl, Nat.le_of_ble_eq_true rfl⟩) (pre_X10 hK hz hW _) rfl rfl hl.1 rfl (lv_room (Nat.le_of_ble_eq_true rfl)) dX10_names_3 ⟨Nat.le_refl _, Nat.le_refl _⟩) ?_
    refine lv_istore_n (lv' := [(3, .int r_1), (0, .ref (z.2.1 66)), (1, .int x1), (2, .int x2)]) hx hb dX10_names_6 rfl hl (by decide) rfl (fun ls hl => ?_)
    refine lv_iload_n hx hb dX10_names_7 rfl (lv_at hl 0 rfl) ?_
    refine lv_if_eq (tgt := 17) hx hb dX10_names_8 (by decide) (fun c_3 => ?_) (fun c_3 => ?_)
    · have hf := of_t c_3 hf
      refine lv_aload_n hx hb dX10_names_17 rfl (lv_at hl 1 rfl) ?_
      refine get_X10_9 hx hb hts in_X10_names_X10 hown hK hz hW lk_X10_names_0 dX10_names_18 ?_
      refine lv_aload_n hx hb dX10_names_21 rfl (lv_at hl 1 rfl) ?_
      refine get_X10_11 hx hb hts in_X10_names_X10 hown hK hz hW lk_X10_names_1 dX10_names_22 ?_
      refine lv_iload_n hx hb dX10_names_25 rfl (lv_at hl 2 rfl) ?_
      obtain ⟨g_4, hf⟩ := of_gd hf
      refine ld_AT hx hb hK hz hW g_4 dX10_names_26 ?_
      refine lv_aload_n hx hb dX10_names_27 rfl (lv_at hl 1 rfl) ?_
      refine get_X10_4 hx hb hts in_X10_names_X10 hown hK hz hW lk_X10_names_2 dX10_names_28 ?_
      refine lv_iload_n hx hb dX10_names_31 rfl (lv_at hl 3 rfl) ?_
      refine lv_iconst (v := (-1)) hx hb dX10_names_32 (by decide) ?_
      obtain ⟨r_5, w_7, hq_6, hf⟩ := of_b2 hf
      refine m_goWi (va_runV (As := [.ref (z.2.1 (48+2*x1.toNatClampNeg)), .ref (z.2.1 70), .int x2, .int (-1)]) (rest := []) ⟨hx, hb, hml, hown, hts⟩ (c_X7_find l hz x1.toNatClampNeg (inb_lt g_4) x2 (-1) w hq_6) (cwV 4 hts gX10_names_X7_find rfl rfl rfl (by decide +kernel) ⟨Nat.le_of_ble_eq_true rfl, Nat.le_of_ble_eq_true rfl⟩) (pre_X7 hK hz hW _) rfl rfl hl.1 rfl (lv_room (Nat.le_of_ble_eq_true rfl)) dX10_names_33 ⟨Nat.le_refl _, Nat.le_refl _⟩) hS (fun H locs hW hS => ?_)
      refine lv_pop hx hb dX10_names_36 rfl ?_
      refine lv_aload_n hx hb dX10_names_37 rfl (lv_at hl 1 rfl) ?_
      refine get_X10_9 hx hb hts in_X10_names_X10 hown hK hz hW lk_X10_names_0 dX10_names_38 ?_
      refine get_X7_0 hx hb hts in_X10_names_X7 hown hK hz hW lk_X10_names_3 dX10_names_41 ?_
      exact hret _ _ _ _ _ _ hf hW hS dX10_names_44
    · have hf := of_f c_3 hf
      refine lv_aload_n hx hb dX10_names_11 rfl (lv_at hl 1 rfl) ?_
      refine lv_iload_n hx hb dX10_names_12 rfl (lv_at hl 0 rfl) ?_
      obtain ⟨r_8, w_10, hq_9, hf⟩ := of_b2 hf
      refine m_goWi (va_runV (As := [.int r_1]) (rest := []) ⟨hx, hb, hml, hown, hts⟩ (c_X10_counted l hz r_1 w hq_9) (cwV 1 hts gX10_names_X10_counted rfl rfl rfl (by decide +kernel) ⟨Nat.le_of_ble_eq_true rfl, Nat.le_of_ble_eq_true rfl⟩) (pre_X10 hK hz hW _) rfl rfl hl.1 rfl (lv_room (Nat.le_of_ble_eq_true rfl)) dX10_names_13 ⟨Nat.le_refl _, Nat.le_refl _⟩) hS (fun H locs hW hS => ?_)
      exact hret _ _ _ _ _ _ hf hW hS dX10_names_16
  exact START _ _ hW va_S.rf
theorem in_X10_name_X10 : ∀ w ∈ wsX100, w ∈ wsX10_name := by decide +kernel
theorem lk_X10_name_0 : Cond.fieldLink RX10 68 "CamStitch" "rim" "LCamStitch$Rim;" ∈ wsX10_name := by decide +kernel
theorem lk_X10_name_1 : Cond.fieldLink RX10 81 "CamStitch" "tapes" "[LCamStitch$Tape;" ∈ wsX10_name := by decide +kernel
theorem lk_X10_name_2 : Cond.fieldLink RX10 33 "CamStitch" "shelves" "[LCamStitch$Disc;" ∈ wsX10_name := by decide +kernel
set_option maxHeartbeats 4000000 in
set_option maxRecDepth 100000 in
theorem c_X10_name (l : Launch) {z : LZ} (hz : IC z) (x1 : Int32) (x2 : Int32) (x3 : Int32) (w : Mem) {r : Int32} {w' : Mem} (hf : f_X10_name x1 x2 x3 w = some (r, w')) : Met l yX10_name wsX10_name (rm 3 65) (PZ z w [.ref (z.2.1 66), .int x1, .int x2, .int x3]) (QW z (some (.int r)) w') 0 0 (az z) := by
  refine mk_Wi (cc := cX10_name) (maxL := 5) (by decide +kernel) rfl (Nat.le_of_ble_eq_true rfl) ?_
  intro p e s m args below meth c hx hb hml hts hown hK hW Q hret ls hl
  have hl : lv_has ls 5 [(0, .ref (z.2.1 66)), (1, .int x1), (2, .int x2), (3, .int x3)] := hl
  unfold f_X10_name at hf
  have START : ∀ (H : Heap) (locs : List Loc), hd z w H → va_S (az z) s.heap H locs → W p l e (rm 3 65) s m args below meth c H locs 0 0 Q (F0 m 0 ls []) := by
    intro H locs hW hS
    refine lv_iload_n hx hb dX10_name_0 rfl (lv_at hl 3 rfl) ?_
    refine lv_if_ge (tgt := 6) hx hb dX10_name_1 (by decide) (fun c_1 => ?_) (fun c_1 => ?_)
    · have hf := of_t c_1 hf
      refine lv_aload_n hx hb dX10_name_6 rfl (lv_at hl 0 rfl) ?_
      refine lv_iload_n hx hb dX10_name_7 rfl (lv_at hl 1 rfl) ?_
      refine lv_iload_n hx hb dX10_name_8 rfl (lv_at hl 2 rfl) ?_
      obtain ⟨r_2, hq_3, hf⟩ := of_bd hf
      refine m_goRi (va_runV (As := [.int x1, .int x2]) (rest := []) ⟨hx, hb, hml, hown, hts⟩ (c_X10_againstRim l hz x1 x2 w hq_3) (cwV 2 hts gX10_name_X10_againstRim rfl rfl rfl (by decide +kernel) ⟨Nat.le_of_ble_eq_true rfl, Nat.le_of_ble_eq_true rfl⟩) (pre_X10 hK hz hW _) rfl rfl hl.1 rfl (lv_room (Nat.le_of_ble_eq_true rfl)) dX10_name_9 ⟨Nat.le_refl _, Nat.le_refl _⟩) ?_
      refine lv_istore (lv' := [(4, .int r_2), (0, .ref (z.2.1 66)), (1, .int x1), (2, .int x2), (3, .int x3)]) hx hb dX10_name_12 hl (by decide) rfl (fun ls hl => ?_)
      refine lv_aload_n hx hb dX10_name_14 rfl (lv_at hl 1 rfl) ?_
      refine lv_iload hx hb dX10_name_15 (lv_at hl 0 rfl) ?_
      refine lv_if_eq (tgt := 25) hx hb dX10_name_17 (by decide) (fun c_4 => ?_) (fun c_4 => ?_)
      · have hf := of_t c_4 hf
        refine lv_aload_n hx hb dX10_name_25 rfl (lv_at hl 1 rfl) ?_
        refine get_X10_9 hx hb hts in_X10_name_X10 hown hK hz hW lk_X10_name_0 dX10_name_26 ?_
        refine lv_aload_n hx hb dX10_name_29 rfl (lv_at hl 1 rfl) ?_
        refine get_X10_11 hx hb hts in_X10_name_X10 hown hK hz hW lk_X10_name_1 dX10_name_30 ?_
        refine lv_iload_n hx hb dX10_name_33 rfl (lv_at hl 2 rfl) ?_
        obtain ⟨g_5, hf⟩ := of_gd hf
        refine ld_AT hx hb hK hz hW g_5 dX10_name_34 ?_
        refine lv_aload_n hx hb dX10_name_35 rfl (lv_at hl 1 rfl) ?_
        refine get_X10_4 hx hb hts in_X10_name_X10 hown hK hz hW lk_X10_name_2 dX10_name_36 ?_
        refine lv_iload_n hx hb dX10_name_39 rfl (lv_at hl 3 rfl) ?_
        refine lv_iload_n hx hb dX10_name_40 rfl (lv_at hl 4 rfl) ?_
        obtain ⟨r_6, w_8, hq_7, hf⟩ := of_b2 hf
        refine m_goWi (va_runV (As := [.ref (z.2.1 (48+2*x1.toNatClampNeg)), .ref (z.2.1 70), .int x2, .int x3]) (rest := [.ref (z.2.1 66)]) ⟨hx, hb, hml, hown, hts⟩ (c_X7_find l hz x1.toNatClampNeg (inb_lt g_5) x2 x3 w hq_7) (cwV 4 hts gX10_name_X7_find rfl rfl rfl (by decide +kernel) ⟨Nat.le_of_ble_eq_true rfl, Nat.le_of_ble_eq_true rfl⟩) (pre_X7 hK hz hW _) rfl rfl hl.1 rfl (lv_room (Nat.le_of_ble_eq_true rfl)) dX10_name_41 ⟨Nat.le_refl _, Nat.le_refl _⟩) hS (fun H locs hW hS => ?_)
        obtain ⟨r_9, w_11, hq_10, hf⟩ := of_b2 hf
        refine m_goWi (va_runV (As := [.int r_6]) (rest := []) ⟨hx, hb, hml, hown, hts⟩ (c_X10_counted l hz r_6 w_8 hq_10) (cwV 1 hts gX10_name_X10_counted rfl rfl rfl (by decide +kernel) ⟨Nat.le_of_ble_eq_true rfl, Nat.le_of_ble_eq_true rfl⟩) (pre_X10 hK hz hW _) rfl rfl hl.1 rfl (lv_room (Nat.le_of_ble_eq_true rfl)) dX10_name_44 ⟨Nat.le_refl _, Nat.le_refl _⟩) hS (fun H locs hW hS => ?_)
        exact hret _ _ _ _ _ _ hf hW hS dX10_name_47
      · have hf := of_f c_4 hf
        refine lv_iload hx hb dX10_name_20 (lv_at hl 0 rfl) ?_
        refine lv_goto (tgt := 44) hx hb dX10_name_22 (by decide) ?_
        obtain ⟨r_12, w_14, hq_13, hf⟩ := of_b2 hf
        refine m_goWi (va_runV (As := [.int r_2]) (rest := []) ⟨hx, hb, hml, hown, hts⟩ (c_X10_counted l hz r_2 w hq_13) (cwV 1 hts gX10_name_X10_counted rfl rfl rfl (by decide +kernel) ⟨Nat.le_of_ble_eq_true rfl, Nat.le_of_ble_eq_true rfl⟩) (pre_X10 hK hz hW _) rfl rfl hl.1 rfl (lv_room (Nat.le_of_ble_eq_true rfl)) dX10_name_44 ⟨Nat.le_refl _, Nat.le_refl _⟩) hS (fun H locs hW hS => ?_)
        exact hret _ _ _ _ _ _ hf hW hS dX10_name_47
    · have hf := of_f c_1 hf
      refine lv_iconst (v := (-1)) hx hb dX10_name_4 (by decide) ?_
      exact hret _ _ _ _ _ _ hf hW hS dX10_name_5
  exact START _ _ hW va_S.rf
theorem in_X10_wear_X10 : ∀ w ∈ wsX100, w ∈ wsX10_wear := by decide +kernel
theorem lk_X10_wear_0 : Cond.fieldLink RX10 68 "CamStitch" "rim" "LCamStitch$Rim;" ∈ wsX10_wear := by decide +kernel
theorem lk_X10_wear_1 : Cond.fieldLink RX10 81 "CamStitch" "tapes" "[LCamStitch$Tape;" ∈ wsX10_wear := by decide +kernel
theorem lk_X10_wear_2 : Cond.fieldLink RX10 33 "CamStitch" "shelves" "[LCamStitch$Disc;" ∈ wsX10_wear := by decide +kernel
set_option maxHeartbeats 4000000 in
set_option maxRecDepth 100000 in
theorem c_X10_wear (l : Launch) {z : LZ} (hz : IC z) (x1 : Int32) (w : Mem) {r : Int32} {w' : Mem} (hf : f_X10_wear x1 w = some (r, w')) : Met l yX10_wear wsX10_wear (rm 3 65) (PZ z w [.ref (z.2.1 66), .int x1]) (QW z (some (.int r)) w') 0 0 (az z) := by
  refine mk_Wi (cc := cX10_wear) (maxL := 4) (by decide +kernel) rfl (Nat.le_of_ble_eq_true rfl) ?_
  intro p e s m args below meth c hx hb hml hts hown hK hW Q hret ls hl
  have hl : lv_has ls 4 [(0, .ref (z.2.1 66)), (1, .int x1)] := hl
  unfold f_X10_wear at hf
  have START : ∀ (H : Heap) (locs : List Loc), hd z w H → va_S (az z) s.heap H locs → W p l e (rm 3 65) s m args below meth c H locs 0 0 Q (F0 m 0 ls []) := by
    intro H locs hW hS
    refine lv_aload_n hx hb dX10_wear_0 rfl (lv_at hl 0 rfl) ?_
    refine lv_iload_n hx hb dX10_wear_1 rfl (lv_at hl 1 rfl) ?_
    refine lv_iconst (v := 0) hx hb dX10_wear_2 (by decide) ?_
    obtain ⟨r_1, hq_2, hf⟩ := of_bd hf
    refine m_goRi (va_runV (As := [.int x1, .int 0]) (rest := []) ⟨hx, hb, hml, hown, hts⟩ (c_X10_againstRim l hz x1 0 w hq_2) (cwV 2 hts gX10_wear_X10_againstRim rfl rfl rfl (by decide +kernel) ⟨Nat.le_of_ble_eq_true rfl, Nat.le_of_ble_eq_true rfl⟩) (pre_X10 hK hz hW _) rfl rfl hl.1 rfl (lv_room (Nat.le_of_ble_eq_true rfl)) dX10_wear_3 ⟨Nat.le_refl _, Nat.le_refl _⟩) ?_
    refine lv_istore_n (lv' := [(2, .int r_1), (0, .ref (z.2.1 66)), (1, .int x1)]) hx hb dX10_wear_6 rfl hl (by decide) rfl (fun ls hl => ?_)
    refine lv_iload_n hx hb dX10_wear_7 rfl (lv_at hl 0 rfl) ?_
    refine lv_if_eq (tgt := 17) hx hb dX10_wear_8 (by decide) (fun c_3 => ?_) (fun c_3 => ?_)
    · have hf := of_t c_3 hf
      refine lv_iconst (v := 0) hx hb dX10_wear_17 (by decide) ?_
      refine lv_istore_n (lv' := [(3, .int 0), (2, .int r_1), (0, .ref (z.2.1 66)), (1, .int x1)]) hx hb dX10_wear_18 rfl hl (by decide) rfl (fun ls hl => ?_)
      have L_6 : ∀ (n : Nat) (x3_4 : Int32) (w_5 : Mem) (exL_6 : Sum (Int32 × Mem) (Mem)) (H : Heap) (locs : List Loc) (ls : Array Slot), f_X10_wear_L19 x1 n x3_4 w_5 = some exL_6 → hd z w_5 H → va_S (az z) s.heap H locs → lv_has ls 4 [(0, .ref (z.2.1 66)), (1, .int x1), (3, .int x3_4)] → (∀ ret, exL_6 = .inl ret → some (ret) = some (r, w')) → (∀ x, exL_6 = .inr x → ∀ (H : Heap) (locs : List Loc) (ls : Array Slot), hd z (x) H → va_S (az z) s.heap H locs → lv_has ls 4 [] → W p l e (rm 3 65) s m args below meth c H locs 0 0 Q (F0 m 56 ls [])) → W p l e (rm 3 65) s m args below meth c H locs 0 0 Q (F0 m 19 ls []) := by
        intro n
        induction n with
        | zero =>
          intro x3_4 w_5 exL_6 H locs ls hf
          have hf : (none : Option (Sum (Int32 × Mem) (Mem))) = some exL_6 := hf
          cases hf
        | succ n ihL_6 =>
          intro x3_4 w_5 exL_6 H locs ls hf hW hS hl hRL_6 hEL_6
          rw [f_X10_wear_L19_s] at hf
          refine lv_iload_n hx hb dX10_wear_19 rfl (lv_at hl 2 rfl) ?_
          refine lv_bipush (v := 6) hx hb dX10_wear_20 (by decide) ?_
          refine lv_icmp_gt (tgt := 56) hx hb dX10_wear_22 (by decide) (fun c_7 => ?_) (fun c_7 => ?_)
          · have hf := of_t c_7 hf
            exact hEL_6 _ (Option.some.inj hf).symm _ _ _ hW hS (lv_sub hl [] rfl)
          · have hf := of_f c_7 hf
            refine lv_aload_n hx hb dX10_wear_25 rfl (lv_at hl 0 rfl) ?_
            refine get_X10_9 hx hb hts in_X10_wear_X10 hown hK hz hW lk_X10_wear_0 dX10_wear_26 ?_
            refine lv_aload_n hx hb dX10_wear_29 rfl (lv_at hl 0 rfl) ?_
            refine get_X10_11 hx hb hts in_X10_wear_X10 hown hK hz hW lk_X10_wear_1 dX10_wear_30 ?_
            refine lv_iload_n hx hb dX10_wear_33 rfl (lv_at hl 1 rfl) ?_
            obtain ⟨g_8, hf⟩ := of_gd hf
            refine ld_AT hx hb hK hz hW g_8 dX10_wear_34 ?_
            refine lv_aload_n hx hb dX10_wear_35 rfl (lv_at hl 0 rfl) ?_
            refine get_X10_4 hx hb hts in_X10_wear_X10 hown hK hz hW lk_X10_wear_2 dX10_wear_36 ?_
            refine lv_iload_n hx hb dX10_wear_39 rfl (lv_at hl 2 rfl) ?_
            refine lv_iconst (v := 0) hx hb dX10_wear_40 (by decide) ?_
            obtain ⟨r_9, w_11, hq_10, hf⟩ := of_b2 hf
            refine m_goWi (va_runV (As := [.ref (z.2.1 (48+2*x1.toNatClampNeg)), .ref (z.2.1 70), .int x3_4, .int 0]) (rest := []) ⟨hx, hb, hml, hown, hts⟩ (c_X7_find l hz x1.toNatClampNeg (inb_lt g_8) x3_4 0 w_5 hq_10) (cwV 4 hts gX10_wear_X7_find rfl rfl rfl (by decide +kernel) ⟨Nat.le_of_ble_eq_true rfl, Nat.le_of_ble_eq_true rfl⟩) (pre_X7 hK hz hW _) rfl rfl hl.1 rfl (lv_room (Nat.le_of_ble_eq_true rfl)) dX10_wear_41 ⟨Nat.le_refl _, Nat.le_refl _⟩) hS (fun H locs hW hS => ?_)
            refine lv_iconst (v := (-1)) hx hb dX10_wear_44 (by decide) ?_
            refine lv_icmp_eq (tgt := 50) hx hb dX10_wear_45 (by decide) (fun c_12 => ?_) (fun c_12 => ?_)
            · have hf := of_t c_12 hf
              obtain ⟨x3_13, ex3_13⟩ : ∃ y : Int32, y = x3_4 + 1 := ⟨_, rfl⟩
              have hf := of_lt ex3_13 hf
              refine lv_iinc (v := x3_13) (lv' := [(3, .int x3_13), (0, .ref (z.2.1 66)), (1, .int x1)]) hx hb dX10_wear_50 hl (k := 2) rfl (by rw [ex3_13]; rfl) (by decide) rfl (fun ls hl => ?_)
              refine lv_goto (tgt := 19) hx hb dX10_wear_53 (by decide) ?_
              exact ihL_6 _ _ _ _ _ _ hf hW hS (lv_sub hl [1, 2, 0] rfl) hRL_6 hEL_6
            · have hf := of_f c_12 hf
              refine lv_iload_n hx hb dX10_wear_48 rfl (lv_at hl 2 rfl) ?_
              exact hret _ _ _ _ _ _ (hRL_6 _ (Option.some.inj hf).symm) hW hS dX10_wear_49
      obtain ⟨ex_15, hq_14, hf⟩ := of_bd hf
      refine L_6 FU _ _ _ _ _ _ hq_14 hW hS (lv_sub hl [2, 3, 0] rfl) (fun ret he => by subst he; exact hf) (fun x he H locs ls hW hS hl => ?_)
      subst he
      obtain ⟨w_16, ew_16⟩ : ∃ y, y = x := ⟨_, rfl⟩
      subst ew_16
      have hf := of_sr hf
      have hW : hd z w_16 H := hW
      have hl : lv_has ls 4 [] := hl
      refine lv_bipush (v := (-4)) hx hb dX10_wear_56 (by decide) ?_
      exact hret _ _ _ _ _ _ hf hW hS dX10_wear_58
    · have hf := of_f c_3 hf
      refine lv_aload_n hx hb dX10_wear_11 rfl (lv_at hl 1 rfl) ?_
      refine lv_iload_n hx hb dX10_wear_12 rfl (lv_at hl 0 rfl) ?_
      obtain ⟨r_17, w_19, hq_18, hf⟩ := of_b2 hf
      refine m_goWi (va_runV (As := [.int r_1]) (rest := []) ⟨hx, hb, hml, hown, hts⟩ (c_X10_counted l hz r_1 w hq_18) (cwV 1 hts gX10_wear_X10_counted rfl rfl rfl (by decide +kernel) ⟨Nat.le_of_ble_eq_true rfl, Nat.le_of_ble_eq_true rfl⟩) (pre_X10 hK hz hW _) rfl rfl hl.1 rfl (lv_room (Nat.le_of_ble_eq_true rfl)) dX10_wear_13 ⟨Nat.le_refl _, Nat.le_refl _⟩) hS (fun H locs hW hS => ?_)
      exact hret _ _ _ _ _ _ hf hW hS dX10_wear_16
  exact START _ _ hW va_S.rf
set_option maxHeartbeats 4000000 in
set_option maxRecDepth 100000 in
theorem c_X10_isState (l : Launch) {z : LZ} (hz : IC z) (x0 : Int32) (w : Mem) {r : Int32} (hf : f_X10_isState x0 = some r) : Met l yX10_isState wsX10_isState (rm 0 0) (PZ z w [.int x0]) (QR (some (.int r))) 0 0 (fun _ => False) := by
  refine mk_Rz (cc := cX10_isState) (maxL := 1) (by decide +kernel) rfl (Nat.le_of_ble_eq_true rfl) ?_
  intro p e s m args below meth c hx hb hml hts hown hK hW Q hret ls hl
  have hl : lv_has ls 1 [(0, .int x0)] := hl
  unfold f_X10_isState at hf
  refine lv_iload_n hx hb dX10_isState_0 rfl (lv_at hl 0 rfl) ?_
  have J_2 : ∀ (v_1 : Int32) (ls : Array Slot), v_1 = (if x0 < 0 then 0 else (if 2772 ≤ x0 then 0 else 1)) → lv_has ls 1 [] → W p l e (rm 0 0) s m args below meth c s.heap [] 0 0 Q (F0 m 16 ls [.int v_1]) := by
    intro v_1 ls ev_1 hl
    have hf := of_lt ev_1 hf
    obtain ⟨g_3, hf⟩ := of_gd hf
    exact hret _ _ _ hf (bz_n g_3) dX10_isState_16
  refine lv_if_lt (tgt := 15) hx hb dX10_isState_1 (by decide) (fun c_4 => ?_) (fun c_4 => ?_)
  · refine lv_iconst (v := 0) hx hb dX10_isState_15 (by decide) ?_
    exact J_2 _ _ (by rw [if_pos c_4]) (lv_sub hl [] rfl)
  · refine lv_iload_n hx hb dX10_isState_4 rfl (lv_at hl 0 rfl) ?_
    refine lv_sipush (v := 2772) hx hb dX10_isState_5 (by decide) ?_
    refine lv_icmp_ge (tgt := 15) hx hb dX10_isState_8 (by decide) (fun c_5 => ?_) (fun c_5 => ?_)
    · refine lv_iconst (v := 0) hx hb dX10_isState_15 (by decide) ?_
      exact J_2 _ _ (by rw [if_neg c_4, if_pos c_5]) (lv_sub hl [] rfl)
    · refine lv_iconst (v := 1) hx hb dX10_isState_11 (by decide) ?_
      refine lv_goto (tgt := 16) hx hb dX10_isState_12 (by decide) ?_
      exact J_2 _ _ (by rw [if_neg c_4, if_neg c_5]) (lv_sub hl [] rfl)
set_option maxHeartbeats 4000000 in
set_option maxRecDepth 100000 in
theorem c_X10_isTrial (l : Launch) {z : LZ} (hz : IC z) (x0 : Int32) (w : Mem) {r : Int32} (hf : f_X10_isTrial x0 = some r) : Met l yX10_isTrial wsX10_isTrial (rm 0 0) (PZ z w [.int x0]) (QR (some (.int r))) 0 0 (fun _ => False) := by
  refine mk_Rz (cc := cX10_isTrial) (maxL := 1) (by decide +kernel) rfl (Nat.le_of_ble_eq_true rfl) ?_
  intro p e s m args below meth c hx hb hml hts hown hK hW Q hret ls hl
  have hl : lv_has ls 1 [(0, .int x0)] := hl
  unfold f_X10_isTrial at hf
  refine lv_iload_n hx hb dX10_isTrial_0 rfl (lv_at hl 0 rfl) ?_
  have J_2 : ∀ (v_1 : Int32) (ls : Array Slot), v_1 = (if x0 < 0 then 0 else (if 325 ≤ x0 then 0 else 1)) → lv_has ls 1 [] → W p l e (rm 0 0) s m args below meth c s.heap [] 0 0 Q (F0 m 16 ls [.int v_1]) := by
    intro v_1 ls ev_1 hl
    have hf := of_lt ev_1 hf
    obtain ⟨g_3, hf⟩ := of_gd hf
    exact hret _ _ _ hf (bz_n g_3) dX10_isTrial_16
  refine lv_if_lt (tgt := 15) hx hb dX10_isTrial_1 (by decide) (fun c_4 => ?_) (fun c_4 => ?_)
  · refine lv_iconst (v := 0) hx hb dX10_isTrial_15 (by decide) ?_
    exact J_2 _ _ (by rw [if_pos c_4]) (lv_sub hl [] rfl)
  · refine lv_iload_n hx hb dX10_isTrial_4 rfl (lv_at hl 0 rfl) ?_
    refine lv_sipush (v := 325) hx hb dX10_isTrial_5 (by decide) ?_
    refine lv_icmp_ge (tgt := 15) hx hb dX10_isTrial_8 (by decide) (fun c_5 => ?_) (fun c_5 => ?_)
    · refine lv_iconst (v := 0) hx hb dX10_isTrial_15 (by decide) ?_
      exact J_2 _ _ (by rw [if_neg c_4, if_pos c_5]) (lv_sub hl [] rfl)
    · refine lv_iconst (v := 1) hx hb dX10_isTrial_11 (by decide) ?_
      refine lv_goto (tgt := 16) hx hb dX10_isTrial_12 (by decide) ?_
      exact J_2 _ _ (by rw [if_neg c_4, if_neg c_5]) (lv_sub hl [] rfl)
set_option maxHeartbeats 4000000 in
set_option maxRecDepth 100000 in
theorem c_X10_outcome (l : Launch) {z : LZ} (hz : IC z) (x1 : Int32) (x2 : Int32) (w : Mem) {r : Int32} (hf : f_X10_outcome x1 x2 = some r) : Met l yX10_outcome wsX10_outcome (rm 4 93) (PZ z w [.ref (z.2.1 66), .int x1, .int x2]) (QR (some (.int r))) 0 0 (fun _ => False) := by
  refine mk_Ri (cc := cX10_outcome) (maxL := 3) (by decide +kernel) rfl (Nat.le_of_ble_eq_true rfl) ?_
  intro p e s m args below meth c hx hb hml hts hown hK hW Q hret ls hl
  have hl : lv_has ls 3 [(0, .ref (z.2.1 66)), (1, .int x1), (2, .int x2)] := hl
  unfold f_X10_outcome at hf
  refine lv_iload_n hx hb dX10_outcome_0 rfl (lv_at hl 1 rfl) ?_
  obtain ⟨r_1, hq_2, hf⟩ := of_bd hf
  refine m_goRi (va_runS (As := [.int x1]) (rest := []) ⟨hx, hb, hml, hown, hts⟩ (c_X10_isState l hz x1 w hq_2) (va_cwS 1 hts gX10_outcome_X10_isState rfl rfl rfl (by decide +kernel) ⟨Nat.le_of_ble_eq_true rfl, Nat.le_of_ble_eq_true rfl⟩) (m_preS hK hW _) rfl rfl hl.1 rfl (lv_room (Nat.le_of_ble_eq_true rfl)) dX10_outcome_1 ⟨Nat.le_refl _, Nat.le_refl _⟩) ?_
  refine lv_if_eq (tgt := 22) hx hb dX10_outcome_4 (by decide) (fun c_3 => ?_) (fun c_3 => ?_)
  · have hf := of_t c_3 hf
    refine lv_iconst (v := (-1)) hx hb dX10_outcome_22 (by decide) ?_
    exact hret _ _ _ hf dX10_outcome_23
  · have hf := of_f c_3 hf
    refine lv_iload_n hx hb dX10_outcome_7 rfl (lv_at hl 2 rfl) ?_
    obtain ⟨r_4, hq_5, hf⟩ := of_bd hf
    refine m_goRi (va_runS (As := [.int x2]) (rest := []) ⟨hx, hb, hml, hown, hts⟩ (c_X10_isTrial l hz x2 w hq_5) (va_cwS 1 hts gX10_outcome_X10_isTrial rfl rfl rfl (by decide +kernel) ⟨Nat.le_of_ble_eq_true rfl, Nat.le_of_ble_eq_true rfl⟩) (m_preS hK hW _) rfl rfl hl.1 rfl (lv_room (Nat.le_of_ble_eq_true rfl)) dX10_outcome_8 ⟨Nat.le_refl _, Nat.le_refl _⟩) ?_
    refine lv_if_eq (tgt := 22) hx hb dX10_outcome_11 (by decide) (fun c_6 => ?_) (fun c_6 => ?_)
    · have hf := of_t c_6 hf
      refine lv_iconst (v := (-1)) hx hb dX10_outcome_22 (by decide) ?_
      exact hret _ _ _ hf dX10_outcome_23
    · have hf := of_f c_6 hf
      refine lv_iload_n hx hb dX10_outcome_14 rfl (lv_at hl 1 rfl) ?_
      refine lv_iload_n hx hb dX10_outcome_15 rfl (lv_at hl 2 rfl) ?_
      obtain ⟨r_7, hq_8, hf⟩ := of_bd hf
      refine m_goRi (va_runS (As := [.int x1, .int x2]) (rest := []) ⟨hx, hb, hml, hown, hts⟩ (c_X2_outcomeOf l hz x1 x2 w hq_8) (va_cwS 2 hts gX10_outcome_X2_outcomeOf rfl rfl rfl (by decide +kernel) ⟨Nat.le_of_ble_eq_true rfl, Nat.le_of_ble_eq_true rfl⟩) (m_preS hK hW _) rfl rfl hl.1 rfl (lv_room (Nat.le_of_ble_eq_true rfl)) dX10_outcome_16 ⟨Nat.le_refl _, Nat.le_refl _⟩) ?_
      refine lv_goto (tgt := 23) hx hb dX10_outcome_19 (by decide) ?_
      exact hret _ _ _ hf dX10_outcome_23
theorem in_X10_note_X10 : ∀ w ∈ wsX100, w ∈ wsX10_note := by decide +kernel
theorem in_X10_note_X2 : ∀ w ∈ wsX20, w ∈ wsX10_note := by decide +kernel
theorem lk_X10_note_0 : Cond.fieldLink RX10 75 "CamStitch" "faults" "LCamStitch$Faults;" ∈ wsX10_note := by decide +kernel
theorem lk_X10_note_1 : Cond.fieldLink RX10 101 "CamStitch$Faults" "notes" "I" ∈ wsX10_note := by decide +kernel
theorem lk_X10_note_2 : Cond.fieldLink RX10 349 "CamStitch$Faults" "trials" "[I" ∈ wsX10_note := by decide +kernel
theorem lk_X10_note_3 : Cond.fieldLink RX10 352 "CamStitch$Faults" "outcomes" "[I" ∈ wsX10_note := by decide +kernel
set_option maxHeartbeats 4000000 in
set_option maxRecDepth 100000 in
theorem c_X10_note (l : Launch) {z : LZ} (hz : IC z) (x1 : Int32) (x2 : Int32) (w : Mem) {r : Int32} {w' : Mem} (hf : f_X10_note x1 x2 w = some (r, w')) : Met l yX10_note wsX10_note (rm 1 20) (PZ z w [.ref (z.2.1 66), .int x1, .int x2]) (QW z (some (.int r)) w') 0 0 (az z) := by
  refine mk_Wi (cc := cX10_note) (maxL := 3) (by decide +kernel) rfl (Nat.le_of_ble_eq_true rfl) ?_
  intro p e s m args below meth c hx hb hml hts hown hK hW Q hret ls hl
  have hl : lv_has ls 3 [(0, .ref (z.2.1 66)), (1, .int x1), (2, .int x2)] := hl
  unfold f_X10_note at hf
  have START : ∀ (H : Heap) (locs : List Loc), hd z w H → va_S (az z) s.heap H locs → W p l e (rm 1 20) s m args below meth c H locs 0 0 Q (F0 m 0 ls []) := by
    intro H locs hW hS
    refine lv_iload_n hx hb dX10_note_0 rfl (lv_at hl 1 rfl) ?_
    obtain ⟨r_1, hq_2, hf⟩ := of_bd hf
    refine m_goRi (va_runS (As := [.int x1]) (rest := []) ⟨hx, hb, hml, hown, hts⟩ (c_X10_isTrial l hz x1 w hq_2) (va_cwS 1 hts gX10_note_X10_isTrial rfl rfl rfl (by decide +kernel) ⟨Nat.le_of_ble_eq_true rfl, Nat.le_of_ble_eq_true rfl⟩) (m_preS hK hW _) rfl rfl hl.1 rfl (lv_room (Nat.le_of_ble_eq_true rfl)) dX10_note_1 ⟨Nat.le_refl _, Nat.le_refl _⟩) ?_
    refine lv_if_eq (tgt := 16) hx hb dX10_note_4 (by decide) (fun c_3 => ?_) (fun c_3 => ?_)
    · have hf := of_t c_3 hf
      refine lv_iconst (v := (-1)) hx hb dX10_note_16 (by decide) ?_
      exact hret _ _ _ _ _ _ hf hW hS dX10_note_17
    · have hf := of_f c_3 hf
      refine lv_iload_n hx hb dX10_note_7 rfl (lv_at hl 2 rfl) ?_
      refine lv_if_lt (tgt := 16) hx hb dX10_note_8 (by decide) (fun c_4 => ?_) (fun c_4 => ?_)
      · have hf := of_t c_4 hf
        refine lv_iconst (v := (-1)) hx hb dX10_note_16 (by decide) ?_
        exact hret _ _ _ _ _ _ hf hW hS dX10_note_17
      · have hf := of_f c_4 hf
        refine lv_iload_n hx hb dX10_note_11 rfl (lv_at hl 2 rfl) ?_
        refine lv_iconst (v := 5) hx hb dX10_note_12 (by decide) ?_
        refine lv_icmp_lt (tgt := 18) hx hb dX10_note_13 (by decide) (fun c_5 => ?_) (fun c_5 => ?_)
        · have hf := of_t c_5 hf
          refine lv_aload_n hx hb dX10_note_18 rfl (lv_at hl 0 rfl) ?_
          refine get_X10_10 hx hb hts in_X10_note_X10 hown hK hz hW lk_X10_note_0 dX10_note_19 ?_
          refine get_X2_2 hx hb hts in_X10_note_X2 hown hK hz hW lk_X10_note_1 dX10_note_22 ?_
          refine lv_bipush (v := 24) hx hb dX10_note_25 (by decide) ?_
          refine lv_icmp_lt (tgt := 33) hx hb dX10_note_27 (by decide) (fun c_6 => ?_) (fun c_6 => ?_)
          · have hf := of_t c_6 hf
            refine lv_aload_n hx hb dX10_note_33 rfl (lv_at hl 0 rfl) ?_
            refine get_X10_10 hx hb hts in_X10_note_X10 hown hK hz hW lk_X10_note_0 dX10_note_34 ?_
            refine get_X2_0 hx hb hts in_X10_note_X2 hown hK hz hW lk_X10_note_2 dX10_note_37 ?_
            refine lv_aload_n hx hb dX10_note_40 rfl (lv_at hl 0 rfl) ?_
            refine get_X10_10 hx hb hts in_X10_note_X10 hown hK hz hW lk_X10_note_0 dX10_note_41 ?_
            refine get_X2_2 hx hb hts in_X10_note_X2 hown hK hz hW lk_X10_note_1 dX10_note_44 ?_
            refine lv_iload_n hx hb dX10_note_47 rfl (lv_at hl 1 rfl) ?_
            obtain ⟨g_7, hf⟩ := of_gd hf
            refine st_A84 hx hb hK hz hW hS g_7 dX10_note_48 (fun H locs hW hS => ?_)
            obtain ⟨w_8, ew_8⟩ : ∃ y : Mem, y = mS w 84 ((w.1 83 2).toNatClampNeg) x1 := ⟨_, rfl⟩
            have hW : hd z w_8 H := by rw [ew_8]; exact hW
            have hf := of_lt ew_8 hf
            refine lv_aload_n hx hb dX10_note_49 rfl (lv_at hl 0 rfl) ?_
            refine get_X10_10 hx hb hts in_X10_note_X10 hown hK hz hW lk_X10_note_0 dX10_note_50 ?_
            refine get_X2_1 hx hb hts in_X10_note_X2 hown hK hz hW lk_X10_note_3 dX10_note_53 ?_
            refine lv_aload_n hx hb dX10_note_56 rfl (lv_at hl 0 rfl) ?_
            refine get_X10_10 hx hb hts in_X10_note_X10 hown hK hz hW lk_X10_note_0 dX10_note_57 ?_
            refine get_X2_2 hx hb hts in_X10_note_X2 hown hK hz hW lk_X10_note_1 dX10_note_60 ?_
            refine lv_iload_n hx hb dX10_note_63 rfl (lv_at hl 2 rfl) ?_
            obtain ⟨g_9, hf⟩ := of_gd hf
            refine st_A85 hx hb hK hz hW hS g_9 dX10_note_64 (fun H locs hW hS => ?_)
            obtain ⟨w_10, ew_10⟩ : ∃ y : Mem, y = mS w_8 85 ((w_8.1 83 2).toNatClampNeg) x2 := ⟨_, rfl⟩
            have hW : hd z w_10 H := by rw [ew_10]; exact hW
            have hf := of_lt ew_10 hf
            refine lv_aload_n hx hb dX10_note_65 rfl (lv_at hl 0 rfl) ?_
            refine get_X10_10 hx hb hts in_X10_note_X10 hown hK hz hW lk_X10_note_0 dX10_note_66 ?_
            refine lv_dup hx hb dX10_note_69 rfl ?_
            refine get_X2_2 hx hb hts in_X10_note_X2 hown hK hz hW lk_X10_note_1 dX10_note_70 ?_
            refine lv_iconst (v := 1) hx hb dX10_note_73 (by decide) ?_
            refine lv_iadd hx hb dX10_note_74 ?_
            refine put_X2_2 hx hb hts in_X10_note_X2 hown hK hz hW hS lk_X10_note_1 dX10_note_75 (fun H locs hW hS => ?_)
            obtain ⟨w_11, ew_11⟩ : ∃ y : Mem, y = mS w_10 83 2 ((w_10.1 83 2) + 1) := ⟨_, rfl⟩
            have hW : hd z w_11 H := by rw [ew_11]; exact hW
            have hf := of_lt ew_11 hf
            refine lv_aload_n hx hb dX10_note_78 rfl (lv_at hl 0 rfl) ?_
            refine get_X10_10 hx hb hts in_X10_note_X10 hown hK hz hW lk_X10_note_0 dX10_note_79 ?_
            refine get_X2_2 hx hb hts in_X10_note_X2 hown hK hz hW lk_X10_note_1 dX10_note_82 ?_
            exact hret _ _ _ _ _ _ hf hW hS dX10_note_85
          · have hf := of_f c_6 hf
            refine lv_bipush (v := (-2)) hx hb dX10_note_30 (by decide) ?_
            exact hret _ _ _ _ _ _ hf hW hS dX10_note_32
        · have hf := of_f c_5 hf
          refine lv_iconst (v := (-1)) hx hb dX10_note_16 (by decide) ?_
          exact hret _ _ _ _ _ _ hf hW hS dX10_note_17
  exact START _ _ hW va_S.rf
theorem in_X10_noteless_X10 : ∀ w ∈ wsX100, w ∈ wsX10_noteless := by decide +kernel
theorem in_X10_noteless_X2 : ∀ w ∈ wsX20, w ∈ wsX10_noteless := by decide +kernel
theorem lk_X10_noteless_0 : Cond.fieldLink RX10 75 "CamStitch" "faults" "LCamStitch$Faults;" ∈ wsX10_noteless := by decide +kernel
theorem lk_X10_noteless_1 : Cond.fieldLink RX10 101 "CamStitch$Faults" "notes" "I" ∈ wsX10_noteless := by decide +kernel
set_option maxHeartbeats 4000000 in
set_option maxRecDepth 100000 in
theorem c_X10_noteless (l : Launch) {z : LZ} (hz : IC z)  (w : Mem) {r : Int32} {w' : Mem} (hf : f_X10_noteless w = some (r, w')) : Met l yX10_noteless wsX10_noteless (rm 0 0) (PZ z w [.ref (z.2.1 66)]) (QW z (some (.int r)) w') 0 0 (az z) := by
  refine mk_Wi (cc := cX10_noteless) (maxL := 2) (by decide +kernel) rfl (Nat.le_of_ble_eq_true rfl) ?_
  intro p e s m args below meth c hx hb hml hts hown hK hW Q hret ls hl
  have hl : lv_has ls 2 [(0, .ref (z.2.1 66))] := hl
  unfold f_X10_noteless at hf
  have START : ∀ (H : Heap) (locs : List Loc), hd z w H → va_S (az z) s.heap H locs → W p l e (rm 0 0) s m args below meth c H locs 0 0 Q (F0 m 0 ls []) := by
    intro H locs hW hS
    refine lv_aload_n hx hb dX10_noteless_0 rfl (lv_at hl 0 rfl) ?_
    refine get_X10_10 hx hb hts in_X10_noteless_X10 hown hK hz hW lk_X10_noteless_0 dX10_noteless_1 ?_
    refine get_X2_2 hx hb hts in_X10_noteless_X2 hown hK hz hW lk_X10_noteless_1 dX10_noteless_4 ?_
    refine lv_topi (fun v_1 ev_1 => ?_)
    have hf := of_lt ev_1 hf
    refine lv_istore_n (lv' := [(1, .int v_1), (0, .ref (z.2.1 66))]) hx hb dX10_noteless_7 rfl hl (by decide) rfl (fun ls hl => ?_)
    refine lv_aload_n hx hb dX10_noteless_8 rfl (lv_at hl 1 rfl) ?_
    refine get_X10_10 hx hb hts in_X10_noteless_X10 hown hK hz hW lk_X10_noteless_0 dX10_noteless_9 ?_
    refine lv_iconst (v := 0) hx hb dX10_noteless_12 (by decide) ?_
    refine put_X2_2 hx hb hts in_X10_noteless_X2 hown hK hz hW hS lk_X10_noteless_1 dX10_noteless_13 (fun H locs hW hS => ?_)
    obtain ⟨w_2, ew_2⟩ : ∃ y : Mem, y = mS w 83 2 0 := ⟨_, rfl⟩
    have hW : hd z w_2 H := by rw [ew_2]; exact hW
    have hf := of_lt ew_2 hf
    refine lv_iload_n hx hb dX10_noteless_16 rfl (lv_at hl 0 rfl) ?_
    exact hret _ _ _ _ _ _ hf hW hS dX10_noteless_17
  exact START _ _ hW va_S.rf
set_option maxHeartbeats 4000000 in
set_option maxRecDepth 100000 in
theorem c_X10_isCauses (l : Launch) {z : LZ} (hz : IC z) (x0 : Int32) (w : Mem) {r : Int32} (hf : f_X10_isCauses x0 = some r) : Met l yX10_isCauses wsX10_isCauses (rm 0 0) (PZ z w [.int x0]) (QR (some (.int r))) 0 0 (fun _ => False) := by
  refine mk_Rz (cc := cX10_isCauses) (maxL := 1) (by decide +kernel) rfl (Nat.le_of_ble_eq_true rfl) ?_
  intro p e s m args below meth c hx hb hml hts hown hK hW Q hret ls hl
  have hl : lv_has ls 1 [(0, .int x0)] := hl
  unfold f_X10_isCauses at hf
  refine lv_iload_n hx hb dX10_isCauses_0 rfl (lv_at hl 0 rfl) ?_
  have J_2 : ∀ (v_1 : Int32) (ls : Array Slot), v_1 = (if x0 < 0 then 0 else (if 4 < x0 then 0 else 1)) → lv_has ls 1 [] → W p l e (rm 0 0) s m args below meth c s.heap [] 0 0 Q (F0 m 14 ls [.int v_1]) := by
    intro v_1 ls ev_1 hl
    have hf := of_lt ev_1 hf
    obtain ⟨g_3, hf⟩ := of_gd hf
    exact hret _ _ _ hf (bz_n g_3) dX10_isCauses_14
  refine lv_if_lt (tgt := 13) hx hb dX10_isCauses_1 (by decide) (fun c_4 => ?_) (fun c_4 => ?_)
  · refine lv_iconst (v := 0) hx hb dX10_isCauses_13 (by decide) ?_
    exact J_2 _ _ (by rw [if_pos c_4]) (lv_sub hl [] rfl)
  · refine lv_iload_n hx hb dX10_isCauses_4 rfl (lv_at hl 0 rfl) ?_
    refine lv_iconst (v := 4) hx hb dX10_isCauses_5 (by decide) ?_
    refine lv_icmp_gt (tgt := 13) hx hb dX10_isCauses_6 (by decide) (fun c_5 => ?_) (fun c_5 => ?_)
    · refine lv_iconst (v := 0) hx hb dX10_isCauses_13 (by decide) ?_
      exact J_2 _ _ (by rw [if_neg c_4, if_pos c_5]) (lv_sub hl [] rfl)
    · refine lv_iconst (v := 1) hx hb dX10_isCauses_9 (by decide) ?_
      refine lv_goto (tgt := 14) hx hb dX10_isCauses_10 (by decide) ?_
      exact J_2 _ _ (by rw [if_neg c_4, if_neg c_5]) (lv_sub hl [] rfl)
theorem in_X10_left_X10 : ∀ w ∈ wsX100, w ∈ wsX10_left := by decide +kernel
theorem in_X10_left_X2 : ∀ w ∈ wsX20, w ∈ wsX10_left := by decide +kernel
theorem lk_X10_left_0 : Cond.fieldLink RX10 75 "CamStitch" "faults" "LCamStitch$Faults;" ∈ wsX10_left := by decide +kernel
theorem lk_X10_left_1 : Cond.fieldLink RX10 361 "CamStitch$Faults" "size" "I" ∈ wsX10_left := by decide +kernel
set_option maxHeartbeats 4000000 in
set_option maxRecDepth 100000 in
theorem c_X10_left (l : Launch) {z : LZ} (hz : IC z) (x1 : Int32) (w : Mem) {r : Int32} {w' : Mem} (hf : f_X10_left x1 w = some (r, w')) : Met l yX10_left wsX10_left (rm 5 115) (PZ z w [.ref (z.2.1 66), .int x1]) (QW z (some (.int r)) w') 0 0 (az z) := by
  refine mk_Wi (cc := cX10_left) (maxL := 2) (by decide +kernel) rfl (Nat.le_of_ble_eq_true rfl) ?_
  intro p e s m args below meth c hx hb hml hts hown hK hW Q hret ls hl
  have hl : lv_has ls 2 [(0, .ref (z.2.1 66)), (1, .int x1)] := hl
  unfold f_X10_left at hf
  have START : ∀ (H : Heap) (locs : List Loc), hd z w H → va_S (az z) s.heap H locs → W p l e (rm 5 115) s m args below meth c H locs 0 0 Q (F0 m 0 ls []) := by
    intro H locs hW hS
    refine lv_iload_n hx hb dX10_left_0 rfl (lv_at hl 1 rfl) ?_
    obtain ⟨r_1, hq_2, hf⟩ := of_bd hf
    refine m_goRi (va_runS (As := [.int x1]) (rest := []) ⟨hx, hb, hml, hown, hts⟩ (c_X10_isCauses l hz x1 w hq_2) (va_cwS 1 hts gX10_left_X10_isCauses rfl rfl rfl (by decide +kernel) ⟨Nat.le_of_ble_eq_true rfl, Nat.le_of_ble_eq_true rfl⟩) (m_preS hK hW _) rfl rfl hl.1 rfl (lv_room (Nat.le_of_ble_eq_true rfl)) dX10_left_1 ⟨Nat.le_refl _, Nat.le_refl _⟩) ?_
    refine lv_if_ne (tgt := 9) hx hb dX10_left_4 (by decide) (fun c_3 => ?_) (fun c_3 => ?_)
    · have hf := of_f c_3 hf
      refine lv_aload_n hx hb dX10_left_9 rfl (lv_at hl 0 rfl) ?_
      refine get_X10_10 hx hb hts in_X10_left_X10 hown hK hz hW lk_X10_left_0 dX10_left_10 ?_
      refine lv_iload_n hx hb dX10_left_13 rfl (lv_at hl 1 rfl) ?_
      obtain ⟨w_6, hq_5, hf⟩ := of_bd hf
      refine m_goWv (va_runV (As := [.int x1]) (rest := []) ⟨hx, hb, hml, hown, hts⟩ (c_X2_gatherNoted l hz x1 w hq_5) (cwV 1 hts gX10_left_X2_gatherNoted rfl rfl rfl (by decide +kernel) ⟨Nat.le_of_ble_eq_true rfl, Nat.le_of_ble_eq_true rfl⟩) (pre_X2 hK hz hW _) rfl rfl hl.1 rfl (lv_room (Nat.le_of_ble_eq_true rfl)) dX10_left_14 ⟨Nat.le_refl _, Nat.le_refl _⟩) hS (fun H locs hW hS => ?_)
      refine lv_aload_n hx hb dX10_left_17 rfl (lv_at hl 0 rfl) ?_
      refine get_X10_10 hx hb hts in_X10_left_X10 hown hK hz hW lk_X10_left_0 dX10_left_18 ?_
      refine get_X2_3 hx hb hts in_X10_left_X2 hown hK hz hW lk_X10_left_1 dX10_left_21 ?_
      exact hret _ _ _ _ _ _ hf hW hS dX10_left_24
    · have hf := of_t c_3 hf
      refine lv_iconst (v := (-1)) hx hb dX10_left_7 (by decide) ?_
      exact hret _ _ _ _ _ _ hf hW hS dX10_left_8
  exact START _ _ hW va_S.rf
theorem in_X10_state_X10 : ∀ w ∈ wsX100, w ∈ wsX10_state := by decide +kernel
theorem lk_X10_state_0 : Cond.fieldLink RX10 75 "CamStitch" "faults" "LCamStitch$Faults;" ∈ wsX10_state := by decide +kernel
set_option maxHeartbeats 4000000 in
set_option maxRecDepth 100000 in
theorem c_X10_state (l : Launch) {z : LZ} (hz : IC z) (x1 : Int32) (x2 : Int32) (w : Mem) {r : Int32} {w' : Mem} (hf : f_X10_state x1 x2 w = some (r, w')) : Met l yX10_state wsX10_state (rm 5 115) (PZ z w [.ref (z.2.1 66), .int x1, .int x2]) (QW z (some (.int r)) w') 0 0 (az z) := by
  refine mk_Wi (cc := cX10_state) (maxL := 3) (by decide +kernel) rfl (Nat.le_of_ble_eq_true rfl) ?_
  intro p e s m args below meth c hx hb hml hts hown hK hW Q hret ls hl
  have hl : lv_has ls 3 [(0, .ref (z.2.1 66)), (1, .int x1), (2, .int x2)] := hl
  unfold f_X10_state at hf
  have START : ∀ (H : Heap) (locs : List Loc), hd z w H → va_S (az z) s.heap H locs → W p l e (rm 5 115) s m args below meth c H locs 0 0 Q (F0 m 0 ls []) := by
    intro H locs hW hS
    refine lv_iload_n hx hb dX10_state_0 rfl (lv_at hl 1 rfl) ?_
    obtain ⟨r_1, hq_2, hf⟩ := of_bd hf
    refine m_goRi (va_runS (As := [.int x1]) (rest := []) ⟨hx, hb, hml, hown, hts⟩ (c_X10_isCauses l hz x1 w hq_2) (va_cwS 1 hts gX10_state_X10_isCauses rfl rfl rfl (by decide +kernel) ⟨Nat.le_of_ble_eq_true rfl, Nat.le_of_ble_eq_true rfl⟩) (m_preS hK hW _) rfl rfl hl.1 rfl (lv_room (Nat.le_of_ble_eq_true rfl)) dX10_state_1 ⟨Nat.le_refl _, Nat.le_refl _⟩) ?_
    refine lv_if_ne (tgt := 9) hx hb dX10_state_4 (by decide) (fun c_3 => ?_) (fun c_3 => ?_)
    · have hf := of_f c_3 hf
      refine lv_aload_n hx hb dX10_state_9 rfl (lv_at hl 0 rfl) ?_
      refine get_X10_10 hx hb hts in_X10_state_X10 hown hK hz hW lk_X10_state_0 dX10_state_10 ?_
      refine lv_iload_n hx hb dX10_state_13 rfl (lv_at hl 1 rfl) ?_
      obtain ⟨w_6, hq_5, hf⟩ := of_bd hf
      refine m_goWv (va_runV (As := [.int x1]) (rest := []) ⟨hx, hb, hml, hown, hts⟩ (c_X2_gatherNoted l hz x1 w hq_5) (cwV 1 hts gX10_state_X2_gatherNoted rfl rfl rfl (by decide +kernel) ⟨Nat.le_of_ble_eq_true rfl, Nat.le_of_ble_eq_true rfl⟩) (pre_X2 hK hz hW _) rfl rfl hl.1 rfl (lv_room (Nat.le_of_ble_eq_true rfl)) dX10_state_14 ⟨Nat.le_refl _, Nat.le_refl _⟩) hS (fun H locs hW hS => ?_)
      refine lv_aload_n hx hb dX10_state_17 rfl (lv_at hl 0 rfl) ?_
      refine get_X10_10 hx hb hts in_X10_state_X10 hown hK hz hW lk_X10_state_0 dX10_state_18 ?_
      refine lv_iload_n hx hb dX10_state_21 rfl (lv_at hl 2 rfl) ?_
      obtain ⟨r_7, hq_8, hf⟩ := of_bd hf
      refine m_goRi (va_runV (As := [.int x2]) (rest := []) ⟨hx, hb, hml, hown, hts⟩ (c_X2_numberOf l hz x2 w_6 hq_8) (cwV 1 hts gX10_state_X2_numberOf rfl rfl rfl (by decide +kernel) ⟨Nat.le_of_ble_eq_true rfl, Nat.le_of_ble_eq_true rfl⟩) (pre_X2 hK hz hW _) rfl rfl hl.1 rfl (lv_room (Nat.le_of_ble_eq_true rfl)) dX10_state_22 ⟨Nat.le_refl _, Nat.le_refl _⟩) ?_
      exact hret _ _ _ _ _ _ hf hW hS dX10_state_25
    · have hf := of_t c_3 hf
      refine lv_iconst (v := (-1)) hx hb dX10_state_7 (by decide) ?_
      exact hret _ _ _ _ _ _ hf hW hS dX10_state_8
  exact START _ _ hW va_S.rf
theorem in_X10_best_X10 : ∀ w ∈ wsX100, w ∈ wsX10_best := by decide +kernel
theorem lk_X10_best_0 : Cond.fieldLink RX10 75 "CamStitch" "faults" "LCamStitch$Faults;" ∈ wsX10_best := by decide +kernel
set_option maxHeartbeats 4000000 in
set_option maxRecDepth 100000 in
theorem c_X10_best (l : Launch) {z : LZ} (hz : IC z) (x1 : Int32) (w : Mem) {r : Int32} {w' : Mem} (hf : f_X10_best x1 w = some (r, w')) : Met l yX10_best wsX10_best (rm 5 115) (PZ z w [.ref (z.2.1 66), .int x1]) (QW z (some (.int r)) w') 0 0 (az z) := by
  refine mk_Wi (cc := cX10_best) (maxL := 2) (by decide +kernel) rfl (Nat.le_of_ble_eq_true rfl) ?_
  intro p e s m args below meth c hx hb hml hts hown hK hW Q hret ls hl
  have hl : lv_has ls 2 [(0, .ref (z.2.1 66)), (1, .int x1)] := hl
  unfold f_X10_best at hf
  have START : ∀ (H : Heap) (locs : List Loc), hd z w H → va_S (az z) s.heap H locs → W p l e (rm 5 115) s m args below meth c H locs 0 0 Q (F0 m 0 ls []) := by
    intro H locs hW hS
    refine lv_iload_n hx hb dX10_best_0 rfl (lv_at hl 1 rfl) ?_
    obtain ⟨r_1, hq_2, hf⟩ := of_bd hf
    refine m_goRi (va_runS (As := [.int x1]) (rest := []) ⟨hx, hb, hml, hown, hts⟩ (c_X10_isCauses l hz x1 w hq_2) (va_cwS 1 hts gX10_best_X10_isCauses rfl rfl rfl (by decide +kernel) ⟨Nat.le_of_ble_eq_true rfl, Nat.le_of_ble_eq_true rfl⟩) (m_preS hK hW _) rfl rfl hl.1 rfl (lv_room (Nat.le_of_ble_eq_true rfl)) dX10_best_1 ⟨Nat.le_refl _, Nat.le_refl _⟩) ?_
    refine lv_if_ne (tgt := 9) hx hb dX10_best_4 (by decide) (fun c_3 => ?_) (fun c_3 => ?_)
    · have hf := of_f c_3 hf
      refine lv_aload_n hx hb dX10_best_9 rfl (lv_at hl 0 rfl) ?_
      refine get_X10_10 hx hb hts in_X10_best_X10 hown hK hz hW lk_X10_best_0 dX10_best_10 ?_
      refine lv_iload_n hx hb dX10_best_13 rfl (lv_at hl 1 rfl) ?_
      obtain ⟨w_6, hq_5, hf⟩ := of_bd hf
      refine m_goWv (va_runV (As := [.int x1]) (rest := []) ⟨hx, hb, hml, hown, hts⟩ (c_X2_gatherNoted l hz x1 w hq_5) (cwV 1 hts gX10_best_X2_gatherNoted rfl rfl rfl (by decide +kernel) ⟨Nat.le_of_ble_eq_true rfl, Nat.le_of_ble_eq_true rfl⟩) (pre_X2 hK hz hW _) rfl rfl hl.1 rfl (lv_room (Nat.le_of_ble_eq_true rfl)) dX10_best_14 ⟨Nat.le_refl _, Nat.le_refl _⟩) hS (fun H locs hW hS => ?_)
      refine lv_aload_n hx hb dX10_best_17 rfl (lv_at hl 0 rfl) ?_
      refine get_X10_10 hx hb hts in_X10_best_X10 hown hK hz hW lk_X10_best_0 dX10_best_18 ?_
      obtain ⟨r_7, hq_8, hf⟩ := of_bd hf
      refine m_goRi (va_runV (As := []) (rest := []) ⟨hx, hb, hml, hown, hts⟩ (c_X2_partingTrial l hz w_6 hq_8) (cwV 0 hts gX10_best_X2_partingTrial rfl rfl rfl (by decide +kernel) ⟨Nat.le_of_ble_eq_true rfl, Nat.le_of_ble_eq_true rfl⟩) (pre_X2 hK hz hW _) rfl rfl hl.1 rfl (lv_room (Nat.le_of_ble_eq_true rfl)) dX10_best_21 ⟨Nat.le_refl _, Nat.le_refl _⟩) ?_
      exact hret _ _ _ _ _ _ hf hW hS dX10_best_24
    · have hf := of_t c_3 hf
      refine lv_iconst (v := (-1)) hx hb dX10_best_7 (by decide) ?_
      exact hret _ _ _ _ _ _ hf hW hS dX10_best_8
  exact START _ _ hW va_S.rf
