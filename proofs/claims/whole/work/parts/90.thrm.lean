/-! ===== the methods that throw (by program: wip/gen/gen.py) ===== -/
theorem in_X10_point_X10 : ∀ w ∈ wsX100, w ∈ wsX10_point := by decide +kernel
theorem in_X10_point_X5 : ∀ w ∈ wsX50, w ∈ wsX10_point := by decide +kernel
theorem at_X10_point_0 : ∀ w ∈ (vx_atS RX10 (if 0 = 0 then 133 else 140) (exn 0) xNM).filter goodWord, w ∈ wsX10_point := fun w h => List.mem_cons_of_mem _ (List.mem_append_left _ (List.mem_append_right _ h))
theorem lk_X10_point_1 : Cond.classLink RX10 129 "java/lang/IllegalArgumentException" ∈ wsX10_point := by decide +kernel
theorem lk_X10_point_2 : Cond.initialized "java/lang/IllegalArgumentException" ∈ wsX10_point := by decide +kernel
theorem at_X10_point_1 : ∀ w ∈ (vx_atS RX10 (if 1 = 0 then 133 else 140) (exn 1) xNM).filter goodWord, w ∈ wsX10_point := fun w h => List.mem_cons_of_mem _ (List.mem_append_right _ h)
theorem lk_X10_point_4 : Cond.classLink RX10 136 "java/lang/IllegalStateException" ∈ wsX10_point := by decide +kernel
theorem lk_X10_point_5 : Cond.initialized "java/lang/IllegalStateException" ∈ wsX10_point := by decide +kernel
theorem lk_X10_point_6 : Cond.fieldLink RX10 10 "CamStitch" "pattern" "LCamStitch$Pattern;" ∈ wsX10_point := by decide +kernel
theorem lk_X10_point_7 : Cond.fieldLink RX10 126 "CamStitch$Pattern" "points" "I" ∈ wsX10_point := by decide +kernel
theorem lk_X10_point_8 : Cond.fieldLink RX10 145 "CamStitch$Pattern" "ys" "[I" ∈ wsX10_point := by decide +kernel
theorem lk_X10_point_9 : Cond.fieldLink RX10 141 "CamStitch$Pattern" "xs" "[I" ∈ wsX10_point := by decide +kernel
set_option maxHeartbeats 4000000 in
set_option maxRecDepth 100000 in
theorem c_X10_point (l : Launch) (hst : l.stackTraces = false) {z : LZ} (hz : IC z) (x1 : Int32) (x2 : Int32) (w : Mem) {o : Sum Int32 Nat} {w' : Mem} (hf : f_X10_point x1 x2 w = some (o, w')) : vx_Met l yX10_point wsX10_point (rmx 6 90) (PX z w [.ref (z.2.1 66), .int x1, .int x2]) (QXi z o w') (XZ z o w') 1 6 (az z) := by
  refine mk_X (cc := cX10_point) (maxL := 3) (rt := .int) (fun v => .int v) hst (by decide +kernel) rfl rfl (Nat.le_of_ble_eq_true rfl) xq_i ⟨Nat.le_of_ble_eq_true rfl, Nat.le_of_ble_eq_true rfl, Nat.le_of_ble_eq_true rfl, Nat.le_of_ble_eq_true rfl⟩ ?_
  intro p e s m args below meth c hx hb hml hts hown hK hW Q hret hthr hthrW ls hl
  have hl : lv_has ls 3 [(0, .ref (z.2.1 66)), (1, .int x1), (2, .int x2)] := hl
  unfold f_X10_point at hf
  have START : ∀ (H : Heap) (locs : List Loc), hd z w H → va_S (az z) s.heap H locs → W p l e (rmx 6 90) s m args below meth c H locs 0 0 Q (F0 m 0 ls []) := by
    intro H locs hW hS
    refine lv_iload_n hx hb dX10_point_0 rfl (lv_at hl 2 rfl) ?_
    refine lv_if_lt (tgt := 9) hx hb dX10_point_1 (by decide) (fun c_1 => ?_) (fun c_1 => ?_)
    · have hf := of_t c_1 hf
      exact hthr 0 131 "no such what" _ _ _ _ _ _ (by decide) hf (by decide +kernel) hW hS hl.1 lk_X10_point_1 lk_X10_point_2 at_X10_point_0 dX10_point_9 dX10_point_12 dX10_point_13 dX10_point_15 dX10_point_18 (Nat.le_of_ble_eq_true rfl)
    · have hf := of_f c_1 hf
      refine lv_iload_n hx hb dX10_point_4 rfl (lv_at hl 2 rfl) ?_
      refine lv_iconst (v := 1) hx hb dX10_point_5 (by decide) ?_
      refine lv_icmp_le (tgt := 19) hx hb dX10_point_6 (by decide) (fun c_2 => ?_) (fun c_2 => ?_)
      · have hf := of_t c_2 hf
        refine lv_iload_n hx hb dX10_point_19 rfl (lv_at hl 1 rfl) ?_
        refine lv_if_lt (tgt := 34) hx hb dX10_point_20 (by decide) (fun c_3 => ?_) (fun c_3 => ?_)
        · have hf := of_t c_3 hf
          exact hthr 1 138 "no such point" _ _ _ _ _ _ (by decide) hf (by decide +kernel) hW hS hl.1 lk_X10_point_4 lk_X10_point_5 at_X10_point_1 dX10_point_34 dX10_point_37 dX10_point_38 dX10_point_40 dX10_point_43 (Nat.le_of_ble_eq_true rfl)
        · have hf := of_f c_3 hf
          refine lv_iload_n hx hb dX10_point_23 rfl (lv_at hl 1 rfl) ?_
          refine lv_aload_n hx hb dX10_point_24 rfl (lv_at hl 0 rfl) ?_
          refine get_X10_0 hx hb hts in_X10_point_X10 hown hK hz hW lk_X10_point_6 dX10_point_25 ?_
          refine get_X5_2 hx hb hts in_X10_point_X5 hown hK hz hW (Nat.le_of_ble_eq_true rfl) lk_X10_point_7 dX10_point_28 ?_
          refine lv_icmp_lt (tgt := 44) hx hb dX10_point_31 (by decide) (fun c_4 => ?_) (fun c_4 => ?_)
          · have hf := of_t c_4 hf
            refine lv_iload_n hx hb dX10_point_44 rfl (lv_at hl 2 rfl) ?_
            refine lv_if_ne (tgt := 60) hx hb dX10_point_45 (by decide) (fun c_5 => ?_) (fun c_5 => ?_)
            · have hf := of_f c_5 hf
              refine lv_aload_n hx hb dX10_point_60 rfl (lv_at hl 0 rfl) ?_
              refine get_X10_0 hx hb hts in_X10_point_X10 hown hK hz hW lk_X10_point_6 dX10_point_61 ?_
              refine get_X5_1 hx hb hts in_X10_point_X5 hown hK hz hW (Nat.le_of_ble_eq_true rfl) lk_X10_point_8 dX10_point_64 ?_
              refine lv_iload_n hx hb dX10_point_67 rfl (lv_at hl 1 rfl) ?_
              obtain ⟨g_6, hf⟩ := of_gd hf
              refine ld_AI24q hx hb hK hz hW (Nat.le_of_ble_eq_true rfl) g_6 dX10_point_68 ?_
              refine lv_topi (fun v_7 ev_7 => ?_)
              have hf := of_lt ev_7 hf
              exact hret _ _ _ _ _ _ hf hW hS dX10_point_69
            · have hf := of_t c_5 hf
              refine lv_aload_n hx hb dX10_point_48 rfl (lv_at hl 0 rfl) ?_
              refine get_X10_0 hx hb hts in_X10_point_X10 hown hK hz hW lk_X10_point_6 dX10_point_49 ?_
              refine get_X5_0 hx hb hts in_X10_point_X5 hown hK hz hW (Nat.le_of_ble_eq_true rfl) lk_X10_point_9 dX10_point_52 ?_
              refine lv_iload_n hx hb dX10_point_55 rfl (lv_at hl 1 rfl) ?_
              obtain ⟨g_8, hf⟩ := of_gd hf
              refine ld_AI24p hx hb hK hz hW (Nat.le_of_ble_eq_true rfl) g_8 dX10_point_56 ?_
              refine lv_topi (fun v_9 ev_9 => ?_)
              have hf := of_lt ev_9 hf
              refine lv_goto (tgt := 69) hx hb dX10_point_57 (by decide) ?_
              exact hret _ _ _ _ _ _ hf hW hS dX10_point_69
          · have hf := of_f c_4 hf
            exact hthr 1 138 "no such point" _ _ _ _ _ _ (by decide) hf (by decide +kernel) hW hS hl.1 lk_X10_point_4 lk_X10_point_5 at_X10_point_1 dX10_point_34 dX10_point_37 dX10_point_38 dX10_point_40 dX10_point_43 (Nat.le_of_ble_eq_true rfl)
      · have hf := of_f c_2 hf
        exact hthr 0 131 "no such what" _ _ _ _ _ _ (by decide) hf (by decide +kernel) hW hS hl.1 lk_X10_point_1 lk_X10_point_2 at_X10_point_0 dX10_point_9 dX10_point_12 dX10_point_13 dX10_point_15 dX10_point_18 (Nat.le_of_ble_eq_true rfl)
  exact START _ _ hW va_S.rf
theorem in_X10_advance_X10 : ∀ w ∈ wsX100, w ∈ wsX10_advance := by decide +kernel
theorem in_X10_advance_X5 : ∀ w ∈ wsX50, w ∈ wsX10_advance := by decide +kernel
theorem lk_X10_advance_0 : Cond.fieldLink RX10 10 "CamStitch" "pattern" "LCamStitch$Pattern;" ∈ wsX10_advance := by decide +kernel
theorem lk_X10_advance_1 : Cond.fieldLink RX10 126 "CamStitch$Pattern" "points" "I" ∈ wsX10_advance := by decide +kernel
theorem lk_X10_advance_2 : Cond.fieldLink RX10 150 "CamStitch$Pattern" "advance" "I" ∈ wsX10_advance := by decide +kernel
theorem at_X10_advance_1 : ∀ w ∈ (vx_atS RX10 (if 1 = 0 then 133 else 140) (exn 1) xNM).filter goodWord, w ∈ wsX10_advance := fun w h => List.mem_cons_of_mem _ (List.mem_append_right _ h)
theorem lk_X10_advance_4 : Cond.classLink RX10 136 "java/lang/IllegalStateException" ∈ wsX10_advance := by decide +kernel
theorem lk_X10_advance_5 : Cond.initialized "java/lang/IllegalStateException" ∈ wsX10_advance := by decide +kernel
set_option maxHeartbeats 4000000 in
set_option maxRecDepth 100000 in
theorem c_X10_advance (l : Launch) (hst : l.stackTraces = false) {z : LZ} (hz : IC z)  (w : Mem) {o : Sum Int32 Nat} {w' : Mem} (hf : f_X10_advance w = some (o, w')) : vx_Met l yX10_advance wsX10_advance (rmx 6 90) (PX z w [.ref (z.2.1 66)]) (QXi z o w') (XZ z o w') 1 6 (az z) := by
  refine mk_X (cc := cX10_advance) (maxL := 1) (rt := .int) (fun v => .int v) hst (by decide +kernel) rfl rfl (Nat.le_of_ble_eq_true rfl) xq_i ⟨Nat.le_of_ble_eq_true rfl, Nat.le_of_ble_eq_true rfl, Nat.le_of_ble_eq_true rfl, Nat.le_of_ble_eq_true rfl⟩ ?_
  intro p e s m args below meth c hx hb hml hts hown hK hW Q hret hthr hthrW ls hl
  have hl : lv_has ls 1 [(0, .ref (z.2.1 66))] := hl
  unfold f_X10_advance at hf
  have START : ∀ (H : Heap) (locs : List Loc), hd z w H → va_S (az z) s.heap H locs → W p l e (rmx 6 90) s m args below meth c H locs 0 0 Q (F0 m 0 ls []) := by
    intro H locs hW hS
    refine lv_aload_n hx hb dX10_advance_0 rfl (lv_at hl 0 rfl) ?_
    refine get_X10_0 hx hb hts in_X10_advance_X10 hown hK hz hW lk_X10_advance_0 dX10_advance_1 ?_
    refine get_X5_2 hx hb hts in_X10_advance_X5 hown hK hz hW (Nat.le_of_ble_eq_true rfl) lk_X10_advance_1 dX10_advance_4 ?_
    refine lv_if_ne (tgt := 20) hx hb dX10_advance_7 (by decide) (fun c_1 => ?_) (fun c_1 => ?_)
    · have hf := of_f c_1 hf
      refine lv_aload_n hx hb dX10_advance_20 rfl (lv_at hl 0 rfl) ?_
      refine get_X10_0 hx hb hts in_X10_advance_X10 hown hK hz hW lk_X10_advance_0 dX10_advance_21 ?_
      refine get_X5_3 hx hb hts in_X10_advance_X5 hown hK hz hW (Nat.le_of_ble_eq_true rfl) lk_X10_advance_2 dX10_advance_24 ?_
      exact hret _ _ _ _ _ _ hf hW hS dX10_advance_27
    · have hf := of_t c_1 hf
      exact hthr 1 148 "no pattern" _ _ _ _ _ _ (by decide) hf (by decide +kernel) hW hS hl.1 lk_X10_advance_4 lk_X10_advance_5 at_X10_advance_1 dX10_advance_10 dX10_advance_13 dX10_advance_14 dX10_advance_16 dX10_advance_19 (Nat.le_of_ble_eq_true rfl)
  exact START _ _ hW va_S.rf
theorem in_X10_disc_X1 : ∀ w ∈ wsX10, w ∈ wsX10_disc := by decide +kernel
theorem in_X10_disc_X10 : ∀ w ∈ wsX100, w ∈ wsX10_disc := by decide +kernel
theorem at_X10_disc_0 : ∀ w ∈ (vx_atS RX10 (if 0 = 0 then 133 else 140) (exn 0) xNM).filter goodWord, w ∈ wsX10_disc := fun w h => List.mem_cons_of_mem _ (List.mem_append_left _ (List.mem_append_right _ h))
theorem lk_X10_disc_1 : Cond.classLink RX10 129 "java/lang/IllegalArgumentException" ∈ wsX10_disc := by decide +kernel
theorem lk_X10_disc_2 : Cond.initialized "java/lang/IllegalArgumentException" ∈ wsX10_disc := by decide +kernel
theorem lk_X10_disc_3 : Cond.fieldLink RX10 26 "CamStitch" "work" "LCamStitch$Disc;" ∈ wsX10_disc := by decide +kernel
theorem lk_X10_disc_4 : Cond.fieldLink RX10 157 "CamStitch$Disc" "stitches" "I" ∈ wsX10_disc := by decide +kernel
theorem lk_X10_disc_5 : Cond.fieldLink RX10 169 "CamStitch$Disc" "swings" "[I" ∈ wsX10_disc := by decide +kernel
theorem lk_X10_disc_6 : Cond.fieldLink RX10 179 "CamStitch$Disc" "feeds" "[I" ∈ wsX10_disc := by decide +kernel
theorem at_X10_disc_1 : ∀ w ∈ (vx_atS RX10 (if 1 = 0 then 133 else 140) (exn 1) xNM).filter goodWord, w ∈ wsX10_disc := fun w h => List.mem_cons_of_mem _ (List.mem_append_right _ h)
theorem lk_X10_disc_8 : Cond.classLink RX10 136 "java/lang/IllegalStateException" ∈ wsX10_disc := by decide +kernel
theorem lk_X10_disc_9 : Cond.initialized "java/lang/IllegalStateException" ∈ wsX10_disc := by decide +kernel
set_option maxHeartbeats 4000000 in
set_option maxRecDepth 100000 in
theorem c_X10_disc (l : Launch) (hst : l.stackTraces = false) {z : LZ} (hz : IC z) (x1 : Int32) (w : Mem) {o : Sum Int32 Nat} {w' : Mem} (hf : f_X10_disc x1 w = some (o, w')) : vx_Met l yX10_disc wsX10_disc (rmx 6 90) (PX z w [.ref (z.2.1 66), .int x1]) (QXi z o w') (XZ z o w') 1 6 (az z) := by
  refine mk_X (cc := cX10_disc) (maxL := 2) (rt := .int) (fun v => .int v) hst (by decide +kernel) rfl rfl (Nat.le_of_ble_eq_true rfl) xq_i ⟨Nat.le_of_ble_eq_true rfl, Nat.le_of_ble_eq_true rfl, Nat.le_of_ble_eq_true rfl, Nat.le_of_ble_eq_true rfl⟩ ?_
  intro p e s m args below meth c hx hb hml hts hown hK hW Q hret hthr hthrW ls hl
  have hl : lv_has ls 2 [(0, .ref (z.2.1 66)), (1, .int x1)] := hl
  unfold f_X10_disc at hf
  have START : ∀ (H : Heap) (locs : List Loc), hd z w H → va_S (az z) s.heap H locs → W p l e (rmx 6 90) s m args below meth c H locs 0 0 Q (F0 m 0 ls []) := by
    intro H locs hW hS
    refine lv_iload_n hx hb dX10_disc_0 rfl (lv_at hl 1 rfl) ?_
    refine lv_if_lt (tgt := 10) hx hb dX10_disc_1 (by decide) (fun c_1 => ?_) (fun c_1 => ?_)
    · have hf := of_t c_1 hf
      exact hthr 0 131 "no such what" _ _ _ _ _ _ (by decide) hf (by decide +kernel) hW hS hl.1 lk_X10_disc_1 lk_X10_disc_2 at_X10_disc_0 dX10_disc_10 dX10_disc_13 dX10_disc_14 dX10_disc_16 dX10_disc_19 (Nat.le_of_ble_eq_true rfl)
    · have hf := of_f c_1 hf
      refine lv_iload_n hx hb dX10_disc_4 rfl (lv_at hl 1 rfl) ?_
      refine lv_bipush (v := 6) hx hb dX10_disc_5 (by decide) ?_
      refine lv_icmp_le (tgt := 20) hx hb dX10_disc_7 (by decide) (fun c_2 => ?_) (fun c_2 => ?_)
      · have hf := of_t c_2 hf
        refine lv_aload_n hx hb dX10_disc_20 rfl (lv_at hl 0 rfl) ?_
        refine get_X10_2 hx hb hts in_X10_disc_X10 hown hK hz hW lk_X10_disc_3 dX10_disc_21 ?_
        refine get_X1_2 hx hb hts in_X10_disc_X1 hown hK hz hW (Nat.le_of_ble_eq_true rfl) lk_X10_disc_4 dX10_disc_24 ?_
        refine lv_if_ne (tgt := 40) hx hb dX10_disc_27 (by decide) (fun c_3 => ?_) (fun c_3 => ?_)
        · have hf := of_f c_3 hf
          refine lv_iload_n hx hb dX10_disc_40 rfl (lv_at hl 1 rfl) ?_
          by_cases c_4 : x1 = 0
          · have hf := of_t c_4 hf
            refine lv_tableIn (off := 39) (tgt := 80) hx hb dX10_disc_41 (by rw [c_4]; decide) (by rw [c_4]; decide) (by rw [c_4]; rfl) (by decide) ?_
            refine lv_aload_n hx hb dX10_disc_80 rfl (lv_at hl 0 rfl) ?_
            refine get_X10_2 hx hb hts in_X10_disc_X10 hown hK hz hW lk_X10_disc_3 dX10_disc_81 ?_
            refine get_X1_2 hx hb hts in_X10_disc_X1 hown hK hz hW (Nat.le_of_ble_eq_true rfl) lk_X10_disc_4 dX10_disc_84 ?_
            exact hret _ _ _ _ _ _ hf hW hS dX10_disc_87
          have hf := of_f c_4 hf
          by_cases c_5 : x1 = 1
          · have hf := of_t c_5 hf
            refine lv_tableIn (off := 47) (tgt := 88) hx hb dX10_disc_41 (by rw [c_5]; decide) (by rw [c_5]; decide) (by rw [c_5]; rfl) (by decide) ?_
            refine lv_aload_n hx hb dX10_disc_88 rfl (lv_at hl 0 rfl) ?_
            refine get_X10_2 hx hb hts in_X10_disc_X10 hown hK hz hW lk_X10_disc_3 dX10_disc_89 ?_
            obtain ⟨r_6, hq_7, hf⟩ := of_bd hf
            refine m_goRi (va_runV (As := []) (rest := []) ⟨hx, hb, hml, hown, hts⟩ (c_X1_sumOfFeeds l hz 14 (Nat.le_of_ble_eq_true rfl) w hq_7) (cwV 0 hts gX10_disc_X1_sumOfFeeds rfl rfl rfl (by decide +kernel) ⟨Nat.le_of_ble_eq_true rfl, Nat.le_of_ble_eq_true rfl⟩) (pre_X1 hK hz hW (Nat.le_of_ble_eq_true rfl) _) rfl rfl hl.1 rfl (lv_room (Nat.le_of_ble_eq_true rfl)) dX10_disc_92 ⟨Nat.zero_le _, Nat.zero_le _⟩) ?_
            exact hret _ _ _ _ _ _ hf hW hS dX10_disc_95
          have hf := of_f c_5 hf
          by_cases c_8 : x1 = 2
          · have hf := of_t c_8 hf
            refine lv_tableIn (off := 55) (tgt := 96) hx hb dX10_disc_41 (by rw [c_8]; decide) (by rw [c_8]; decide) (by rw [c_8]; rfl) (by decide) ?_
            refine lv_aload_n hx hb dX10_disc_96 rfl (lv_at hl 0 rfl) ?_
            refine get_X10_2 hx hb hts in_X10_disc_X10 hown hK hz hW lk_X10_disc_3 dX10_disc_97 ?_
            obtain ⟨r_9, hq_10, hf⟩ := of_bd hf
            refine m_goRi (va_runV (As := []) (rest := []) ⟨hx, hb, hml, hown, hts⟩ (c_X1_steepness l hz 14 (Nat.le_of_ble_eq_true rfl) w hq_10) (cwV 0 hts gX10_disc_X1_steepness rfl rfl rfl (by decide +kernel) ⟨Nat.le_of_ble_eq_true rfl, Nat.le_of_ble_eq_true rfl⟩) (pre_X1 hK hz hW (Nat.le_of_ble_eq_true rfl) _) rfl rfl hl.1 rfl (lv_room (Nat.le_of_ble_eq_true rfl)) dX10_disc_100 ⟨Nat.zero_le _, Nat.zero_le _⟩) ?_
            exact hret _ _ _ _ _ _ hf hW hS dX10_disc_103
          have hf := of_f c_8 hf
          by_cases c_11 : x1 = 3
          · have hf := of_t c_11 hf
            refine lv_tableIn (off := 63) (tgt := 104) hx hb dX10_disc_41 (by rw [c_11]; decide) (by rw [c_11]; decide) (by rw [c_11]; rfl) (by decide) ?_
            refine lv_aload_n hx hb dX10_disc_104 rfl (lv_at hl 0 rfl) ?_
            refine get_X10_2 hx hb hts in_X10_disc_X10 hown hK hz hW lk_X10_disc_3 dX10_disc_105 ?_
            refine lv_aload_n hx hb dX10_disc_108 rfl (lv_at hl 0 rfl) ?_
            refine get_X10_2 hx hb hts in_X10_disc_X10 hown hK hz hW lk_X10_disc_3 dX10_disc_109 ?_
            refine get_X1_0 hx hb hts in_X10_disc_X1 hown hK hz hW (Nat.le_of_ble_eq_true rfl) lk_X10_disc_5 dX10_disc_112 ?_
            obtain ⟨r_12, hq_13, hf⟩ := of_bd hf
            refine m_goRi (va_runV (As := [.ref (z.2.1 (3*14+1))]) (rest := []) ⟨hx, hb, hml, hown, hts⟩ (c_X1_greatestOf l hz 14 (Nat.le_of_ble_eq_true rfl) (3*14+1) (p48_1 (Nat.le_of_ble_eq_true rfl)) w hq_13) (cwV 1 hts gX10_disc_X1_greatestOf rfl rfl rfl (by decide +kernel) ⟨Nat.le_of_ble_eq_true rfl, Nat.le_of_ble_eq_true rfl⟩) (pre_X1 hK hz hW (Nat.le_of_ble_eq_true rfl) _) rfl rfl hl.1 rfl (lv_room (Nat.le_of_ble_eq_true rfl)) dX10_disc_115 ⟨Nat.zero_le _, Nat.zero_le _⟩) ?_
            exact hret _ _ _ _ _ _ hf hW hS dX10_disc_118
          have hf := of_f c_11 hf
          by_cases c_14 : x1 = 4
          · have hf := of_t c_14 hf
            refine lv_tableIn (off := 78) (tgt := 119) hx hb dX10_disc_41 (by rw [c_14]; decide) (by rw [c_14]; decide) (by rw [c_14]; rfl) (by decide) ?_
            refine lv_aload_n hx hb dX10_disc_119 rfl (lv_at hl 0 rfl) ?_
            refine get_X10_2 hx hb hts in_X10_disc_X10 hown hK hz hW lk_X10_disc_3 dX10_disc_120 ?_
            refine lv_aload_n hx hb dX10_disc_123 rfl (lv_at hl 0 rfl) ?_
            refine get_X10_2 hx hb hts in_X10_disc_X10 hown hK hz hW lk_X10_disc_3 dX10_disc_124 ?_
            refine get_X1_0 hx hb hts in_X10_disc_X1 hown hK hz hW (Nat.le_of_ble_eq_true rfl) lk_X10_disc_5 dX10_disc_127 ?_
            obtain ⟨r_15, hq_16, hf⟩ := of_bd hf
            refine m_goRi (va_runV (As := [.ref (z.2.1 (3*14+1))]) (rest := []) ⟨hx, hb, hml, hown, hts⟩ (c_X1_leastOf l hz 14 (Nat.le_of_ble_eq_true rfl) (3*14+1) (p48_1 (Nat.le_of_ble_eq_true rfl)) w hq_16) (cwV 1 hts gX10_disc_X1_leastOf rfl rfl rfl (by decide +kernel) ⟨Nat.le_of_ble_eq_true rfl, Nat.le_of_ble_eq_true rfl⟩) (pre_X1 hK hz hW (Nat.le_of_ble_eq_true rfl) _) rfl rfl hl.1 rfl (lv_room (Nat.le_of_ble_eq_true rfl)) dX10_disc_130 ⟨Nat.zero_le _, Nat.zero_le _⟩) ?_
            exact hret _ _ _ _ _ _ hf hW hS dX10_disc_133
          have hf := of_f c_14 hf
          by_cases c_17 : x1 = 5
          · have hf := of_t c_17 hf
            refine lv_tableIn (off := 93) (tgt := 134) hx hb dX10_disc_41 (by rw [c_17]; decide) (by rw [c_17]; decide) (by rw [c_17]; rfl) (by decide) ?_
            refine lv_aload_n hx hb dX10_disc_134 rfl (lv_at hl 0 rfl) ?_
            refine get_X10_2 hx hb hts in_X10_disc_X10 hown hK hz hW lk_X10_disc_3 dX10_disc_135 ?_
            refine lv_aload_n hx hb dX10_disc_138 rfl (lv_at hl 0 rfl) ?_
            refine get_X10_2 hx hb hts in_X10_disc_X10 hown hK hz hW lk_X10_disc_3 dX10_disc_139 ?_
            refine get_X1_1 hx hb hts in_X10_disc_X1 hown hK hz hW (Nat.le_of_ble_eq_true rfl) lk_X10_disc_6 dX10_disc_142 ?_
            obtain ⟨r_18, hq_19, hf⟩ := of_bd hf
            refine m_goRi (va_runV (As := [.ref (z.2.1 (3*14+2))]) (rest := []) ⟨hx, hb, hml, hown, hts⟩ (c_X1_greatestOf l hz 14 (Nat.le_of_ble_eq_true rfl) (3*14+2) (p48_2 (Nat.le_of_ble_eq_true rfl)) w hq_19) (cwV 1 hts gX10_disc_X1_greatestOf rfl rfl rfl (by decide +kernel) ⟨Nat.le_of_ble_eq_true rfl, Nat.le_of_ble_eq_true rfl⟩) (pre_X1 hK hz hW (Nat.le_of_ble_eq_true rfl) _) rfl rfl hl.1 rfl (lv_room (Nat.le_of_ble_eq_true rfl)) dX10_disc_145 ⟨Nat.zero_le _, Nat.zero_le _⟩) ?_
            exact hret _ _ _ _ _ _ hf hW hS dX10_disc_148
          have hf := of_f c_17 hf
          refine lv_tableOut (tgt := 149) hx hb dX10_disc_41 (by have qc_4 := lv_neT c_4 (show (0 : Int32).toInt = 0 by decide); have qc_5 := lv_neT c_5 (show (1 : Int32).toInt = 1 by decide); have qc_8 := lv_neT c_8 (show (2 : Int32).toInt = 2 by decide); have qc_11 := lv_neT c_11 (show (3 : Int32).toInt = 3 by decide); have qc_14 := lv_neT c_14 (show (4 : Int32).toInt = 4 by decide); have qc_17 := lv_neT c_17 (show (5 : Int32).toInt = 5 by decide); omega) (by decide) ?_
          refine lv_aload_n hx hb dX10_disc_149 rfl (lv_at hl 0 rfl) ?_
          refine get_X10_2 hx hb hts in_X10_disc_X10 hown hK hz hW lk_X10_disc_3 dX10_disc_150 ?_
          refine lv_aload_n hx hb dX10_disc_153 rfl (lv_at hl 0 rfl) ?_
          refine get_X10_2 hx hb hts in_X10_disc_X10 hown hK hz hW lk_X10_disc_3 dX10_disc_154 ?_
          refine get_X1_1 hx hb hts in_X10_disc_X1 hown hK hz hW (Nat.le_of_ble_eq_true rfl) lk_X10_disc_6 dX10_disc_157 ?_
          obtain ⟨r_20, hq_21, hf⟩ := of_bd hf
          refine m_goRi (va_runV (As := [.ref (z.2.1 (3*14+2))]) (rest := []) ⟨hx, hb, hml, hown, hts⟩ (c_X1_leastOf l hz 14 (Nat.le_of_ble_eq_true rfl) (3*14+2) (p48_2 (Nat.le_of_ble_eq_true rfl)) w hq_21) (cwV 1 hts gX10_disc_X1_leastOf rfl rfl rfl (by decide +kernel) ⟨Nat.le_of_ble_eq_true rfl, Nat.le_of_ble_eq_true rfl⟩) (pre_X1 hK hz hW (Nat.le_of_ble_eq_true rfl) _) rfl rfl hl.1 rfl (lv_room (Nat.le_of_ble_eq_true rfl)) dX10_disc_160 ⟨Nat.zero_le _, Nat.zero_le _⟩) ?_
          exact hret _ _ _ _ _ _ hf hW hS dX10_disc_163
        · have hf := of_t c_3 hf
          exact hthr 1 160 "no disc at work" _ _ _ _ _ _ (by decide) hf (by decide +kernel) hW hS hl.1 lk_X10_disc_8 lk_X10_disc_9 at_X10_disc_1 dX10_disc_30 dX10_disc_33 dX10_disc_34 dX10_disc_36 dX10_disc_39 (Nat.le_of_ble_eq_true rfl)
      · have hf := of_f c_2 hf
        exact hthr 0 131 "no such what" _ _ _ _ _ _ (by decide) hf (by decide +kernel) hW hS hl.1 lk_X10_disc_1 lk_X10_disc_2 at_X10_disc_0 dX10_disc_10 dX10_disc_13 dX10_disc_14 dX10_disc_16 dX10_disc_19 (Nat.le_of_ble_eq_true rfl)
  exact START _ _ hW va_S.rf
theorem in_X10_stitch_X1 : ∀ w ∈ wsX10, w ∈ wsX10_stitch := by decide +kernel
theorem in_X10_stitch_X10 : ∀ w ∈ wsX100, w ∈ wsX10_stitch := by decide +kernel
theorem at_X10_stitch_0 : ∀ w ∈ (vx_atS RX10 (if 0 = 0 then 133 else 140) (exn 0) xNM).filter goodWord, w ∈ wsX10_stitch := fun w h => List.mem_cons_of_mem _ (List.mem_append_left _ (List.mem_append_right _ h))
theorem lk_X10_stitch_1 : Cond.classLink RX10 129 "java/lang/IllegalArgumentException" ∈ wsX10_stitch := by decide +kernel
theorem lk_X10_stitch_2 : Cond.initialized "java/lang/IllegalArgumentException" ∈ wsX10_stitch := by decide +kernel
theorem at_X10_stitch_1 : ∀ w ∈ (vx_atS RX10 (if 1 = 0 then 133 else 140) (exn 1) xNM).filter goodWord, w ∈ wsX10_stitch := fun w h => List.mem_cons_of_mem _ (List.mem_append_right _ h)
theorem lk_X10_stitch_4 : Cond.classLink RX10 136 "java/lang/IllegalStateException" ∈ wsX10_stitch := by decide +kernel
theorem lk_X10_stitch_5 : Cond.initialized "java/lang/IllegalStateException" ∈ wsX10_stitch := by decide +kernel
theorem lk_X10_stitch_6 : Cond.fieldLink RX10 26 "CamStitch" "work" "LCamStitch$Disc;" ∈ wsX10_stitch := by decide +kernel
theorem lk_X10_stitch_7 : Cond.fieldLink RX10 157 "CamStitch$Disc" "stitches" "I" ∈ wsX10_stitch := by decide +kernel
theorem lk_X10_stitch_8 : Cond.fieldLink RX10 179 "CamStitch$Disc" "feeds" "[I" ∈ wsX10_stitch := by decide +kernel
theorem lk_X10_stitch_9 : Cond.fieldLink RX10 169 "CamStitch$Disc" "swings" "[I" ∈ wsX10_stitch := by decide +kernel
set_option maxHeartbeats 4000000 in
set_option maxRecDepth 100000 in
theorem c_X10_stitch (l : Launch) (hst : l.stackTraces = false) {z : LZ} (hz : IC z) (x1 : Int32) (x2 : Int32) (w : Mem) {o : Sum Int32 Nat} {w' : Mem} (hf : f_X10_stitch x1 x2 w = some (o, w')) : vx_Met l yX10_stitch wsX10_stitch (rmx 6 90) (PX z w [.ref (z.2.1 66), .int x1, .int x2]) (QXi z o w') (XZ z o w') 1 6 (az z) := by
  refine mk_X (cc := cX10_stitch) (maxL := 3) (rt := .int) (fun v => .int v) hst (by decide +kernel) rfl rfl (Nat.le_of_ble_eq_true rfl) xq_i ⟨Nat.le_of_ble_eq_true rfl, Nat.le_of_ble_eq_true rfl, Nat.le_of_ble_eq_true rfl, Nat.le_of_ble_eq_true rfl⟩ ?_
  intro p e s m args below meth c hx hb hml hts hown hK hW Q hret hthr hthrW ls hl
  have hl : lv_has ls 3 [(0, .ref (z.2.1 66)), (1, .int x1), (2, .int x2)] := hl
  unfold f_X10_stitch at hf
  have START : ∀ (H : Heap) (locs : List Loc), hd z w H → va_S (az z) s.heap H locs → W p l e (rmx 6 90) s m args below meth c H locs 0 0 Q (F0 m 0 ls []) := by
    intro H locs hW hS
    refine lv_iload_n hx hb dX10_stitch_0 rfl (lv_at hl 2 rfl) ?_
    refine lv_if_lt (tgt := 9) hx hb dX10_stitch_1 (by decide) (fun c_1 => ?_) (fun c_1 => ?_)
    · have hf := of_t c_1 hf
      exact hthr 0 131 "no such what" _ _ _ _ _ _ (by decide) hf (by decide +kernel) hW hS hl.1 lk_X10_stitch_1 lk_X10_stitch_2 at_X10_stitch_0 dX10_stitch_9 dX10_stitch_12 dX10_stitch_13 dX10_stitch_15 dX10_stitch_18 (Nat.le_of_ble_eq_true rfl)
    · have hf := of_f c_1 hf
      refine lv_iload_n hx hb dX10_stitch_4 rfl (lv_at hl 2 rfl) ?_
      refine lv_iconst (v := 1) hx hb dX10_stitch_5 (by decide) ?_
      refine lv_icmp_le (tgt := 19) hx hb dX10_stitch_6 (by decide) (fun c_2 => ?_) (fun c_2 => ?_)
      · have hf := of_t c_2 hf
        refine lv_iload_n hx hb dX10_stitch_19 rfl (lv_at hl 1 rfl) ?_
        refine lv_if_lt (tgt := 34) hx hb dX10_stitch_20 (by decide) (fun c_3 => ?_) (fun c_3 => ?_)
        · have hf := of_t c_3 hf
          exact hthr 1 182 "no such stitch" _ _ _ _ _ _ (by decide) hf (by decide +kernel) hW hS hl.1 lk_X10_stitch_4 lk_X10_stitch_5 at_X10_stitch_1 dX10_stitch_34 dX10_stitch_37 dX10_stitch_38 dX10_stitch_40 dX10_stitch_43 (Nat.le_of_ble_eq_true rfl)
        · have hf := of_f c_3 hf
          refine lv_iload_n hx hb dX10_stitch_23 rfl (lv_at hl 1 rfl) ?_
          refine lv_aload_n hx hb dX10_stitch_24 rfl (lv_at hl 0 rfl) ?_
          refine get_X10_2 hx hb hts in_X10_stitch_X10 hown hK hz hW lk_X10_stitch_6 dX10_stitch_25 ?_
          refine get_X1_2 hx hb hts in_X10_stitch_X1 hown hK hz hW (Nat.le_of_ble_eq_true rfl) lk_X10_stitch_7 dX10_stitch_28 ?_
          refine lv_icmp_lt (tgt := 44) hx hb dX10_stitch_31 (by decide) (fun c_4 => ?_) (fun c_4 => ?_)
          · have hf := of_t c_4 hf
            refine lv_iload_n hx hb dX10_stitch_44 rfl (lv_at hl 2 rfl) ?_
            refine lv_if_ne (tgt := 60) hx hb dX10_stitch_45 (by decide) (fun c_5 => ?_) (fun c_5 => ?_)
            · have hf := of_f c_5 hf
              refine lv_aload_n hx hb dX10_stitch_60 rfl (lv_at hl 0 rfl) ?_
              refine get_X10_2 hx hb hts in_X10_stitch_X10 hown hK hz hW lk_X10_stitch_6 dX10_stitch_61 ?_
              refine get_X1_1 hx hb hts in_X10_stitch_X1 hown hK hz hW (Nat.le_of_ble_eq_true rfl) lk_X10_stitch_8 dX10_stitch_64 ?_
              refine lv_iload_n hx hb dX10_stitch_67 rfl (lv_at hl 1 rfl) ?_
              obtain ⟨g_6, hf⟩ := of_gd hf
              refine ld_AI48 hx hb hK hz hW (p48_2 (Nat.le_of_ble_eq_true rfl)) g_6 dX10_stitch_68 ?_
              refine lv_topi (fun v_7 ev_7 => ?_)
              have hf := of_lt ev_7 hf
              exact hret _ _ _ _ _ _ hf hW hS dX10_stitch_69
            · have hf := of_t c_5 hf
              refine lv_aload_n hx hb dX10_stitch_48 rfl (lv_at hl 0 rfl) ?_
              refine get_X10_2 hx hb hts in_X10_stitch_X10 hown hK hz hW lk_X10_stitch_6 dX10_stitch_49 ?_
              refine get_X1_0 hx hb hts in_X10_stitch_X1 hown hK hz hW (Nat.le_of_ble_eq_true rfl) lk_X10_stitch_9 dX10_stitch_52 ?_
              refine lv_iload_n hx hb dX10_stitch_55 rfl (lv_at hl 1 rfl) ?_
              obtain ⟨g_8, hf⟩ := of_gd hf
              refine ld_AI48 hx hb hK hz hW (p48_1 (Nat.le_of_ble_eq_true rfl)) g_8 dX10_stitch_56 ?_
              refine lv_topi (fun v_9 ev_9 => ?_)
              have hf := of_lt ev_9 hf
              refine lv_goto (tgt := 69) hx hb dX10_stitch_57 (by decide) ?_
              exact hret _ _ _ _ _ _ hf hW hS dX10_stitch_69
          · have hf := of_f c_4 hf
            exact hthr 1 182 "no such stitch" _ _ _ _ _ _ (by decide) hf (by decide +kernel) hW hS hl.1 lk_X10_stitch_4 lk_X10_stitch_5 at_X10_stitch_1 dX10_stitch_34 dX10_stitch_37 dX10_stitch_38 dX10_stitch_40 dX10_stitch_43 (Nat.le_of_ble_eq_true rfl)
      · have hf := of_f c_2 hf
        exact hthr 0 131 "no such what" _ _ _ _ _ _ (by decide) hf (by decide +kernel) hW hS hl.1 lk_X10_stitch_1 lk_X10_stitch_2 at_X10_stitch_0 dX10_stitch_9 dX10_stitch_12 dX10_stitch_13 dX10_stitch_15 dX10_stitch_18 (Nat.le_of_ble_eq_true rfl)
  exact START _ _ hW va_S.rf
theorem in_X10_hem_X10 : ∀ w ∈ wsX100, w ∈ wsX10_hem := by decide +kernel
theorem in_X10_hem_X3 : ∀ w ∈ wsX30, w ∈ wsX10_hem := by decide +kernel
theorem at_X10_hem_0 : ∀ w ∈ (vx_atS RX10 (if 0 = 0 then 133 else 140) (exn 0) xNM).filter goodWord, w ∈ wsX10_hem := fun w h => List.mem_cons_of_mem _ (List.mem_append_left _ (List.mem_append_right _ h))
theorem lk_X10_hem_1 : Cond.classLink RX10 129 "java/lang/IllegalArgumentException" ∈ wsX10_hem := by decide +kernel
theorem lk_X10_hem_2 : Cond.initialized "java/lang/IllegalArgumentException" ∈ wsX10_hem := by decide +kernel
theorem lk_X10_hem_3 : Cond.fieldLink RX10 40 "CamStitch" "hem" "LCamStitch$Hem;" ∈ wsX10_hem := by decide +kernel
theorem lk_X10_hem_4 : Cond.fieldLink RX10 26 "CamStitch" "work" "LCamStitch$Disc;" ∈ wsX10_hem := by decide +kernel
theorem lk_X10_hem_5 : Cond.fieldLink RX10 215 "CamStitch$Hem" "rounds" "I" ∈ wsX10_hem := by decide +kernel
theorem lk_X10_hem_6 : Cond.fieldLink RX10 218 "CamStitch$Hem" "rest" "I" ∈ wsX10_hem := by decide +kernel
theorem lk_X10_hem_7 : Cond.fieldLink RX10 225 "CamStitch$Hem" "stitches" "I" ∈ wsX10_hem := by decide +kernel
theorem at_X10_hem_1 : ∀ w ∈ (vx_atS RX10 (if 1 = 0 then 133 else 140) (exn 1) xNM).filter goodWord, w ∈ wsX10_hem := fun w h => List.mem_cons_of_mem _ (List.mem_append_right _ h)
theorem lk_X10_hem_9 : Cond.classLink RX10 136 "java/lang/IllegalStateException" ∈ wsX10_hem := by decide +kernel
theorem lk_X10_hem_10 : Cond.initialized "java/lang/IllegalStateException" ∈ wsX10_hem := by decide +kernel
set_option maxHeartbeats 4000000 in
set_option maxRecDepth 100000 in
theorem c_X10_hem (l : Launch) (hst : l.stackTraces = false) {z : LZ} (hz : IC z) (x1 : Int32) (x2 : Int32) (w : Mem) {o : Sum Int32 Nat} {w' : Mem} (hf : f_X10_hem x1 x2 w = some (o, w')) : vx_Met l yX10_hem wsX10_hem (rmx 6 90) (PX z w [.ref (z.2.1 66), .int x1, .int x2]) (QXi z o w') (XZ z o w') 1 6 (az z) := by
  refine mk_X (cc := cX10_hem) (maxL := 3) (rt := .int) (fun v => .int v) hst (by decide +kernel) rfl rfl (Nat.le_of_ble_eq_true rfl) xq_i ⟨Nat.le_of_ble_eq_true rfl, Nat.le_of_ble_eq_true rfl, Nat.le_of_ble_eq_true rfl, Nat.le_of_ble_eq_true rfl⟩ ?_
  intro p e s m args below meth c hx hb hml hts hown hK hW Q hret hthr hthrW ls hl
  have hl : lv_has ls 3 [(0, .ref (z.2.1 66)), (1, .int x1), (2, .int x2)] := hl
  unfold f_X10_hem at hf
  have START : ∀ (H : Heap) (locs : List Loc), hd z w H → va_S (az z) s.heap H locs → W p l e (rmx 6 90) s m args below meth c H locs 0 0 Q (F0 m 0 ls []) := by
    intro H locs hW hS
    refine lv_iload_n hx hb dX10_hem_0 rfl (lv_at hl 2 rfl) ?_
    refine lv_if_lt (tgt := 9) hx hb dX10_hem_1 (by decide) (fun c_1 => ?_) (fun c_1 => ?_)
    · have hf := of_t c_1 hf
      exact hthr 0 131 "no such what" _ _ _ _ _ _ (by decide) hf (by decide +kernel) hW hS hl.1 lk_X10_hem_1 lk_X10_hem_2 at_X10_hem_0 dX10_hem_9 dX10_hem_12 dX10_hem_13 dX10_hem_15 dX10_hem_18 (Nat.le_of_ble_eq_true rfl)
    · have hf := of_f c_1 hf
      refine lv_iload_n hx hb dX10_hem_4 rfl (lv_at hl 2 rfl) ?_
      refine lv_iconst (v := 4) hx hb dX10_hem_5 (by decide) ?_
      refine lv_icmp_le (tgt := 19) hx hb dX10_hem_6 (by decide) (fun c_2 => ?_) (fun c_2 => ?_)
      · have hf := of_t c_2 hf
        refine lv_aload_n hx hb dX10_hem_19 rfl (lv_at hl 0 rfl) ?_
        refine get_X10_5 hx hb hts in_X10_hem_X10 hown hK hz hW lk_X10_hem_3 dX10_hem_20 ?_
        refine lv_iload_n hx hb dX10_hem_23 rfl (lv_at hl 1 rfl) ?_
        refine lv_aload_n hx hb dX10_hem_24 rfl (lv_at hl 0 rfl) ?_
        refine get_X10_2 hx hb hts in_X10_hem_X10 hown hK hz hW lk_X10_hem_4 dX10_hem_25 ?_
        obtain ⟨r_3, w_5, hq_4, hf⟩ := of_b2 hf
        refine m_goWi (va_runV (As := [.int x1, .ref (z.2.1 (3*14))]) (rest := []) ⟨hx, hb, hml, hown, hts⟩ (c_X3_measures l hz x1 14 (Nat.le_of_ble_eq_true rfl) w hq_4) (cwV 2 hts gX10_hem_X3_measures rfl rfl rfl (by decide +kernel) ⟨Nat.le_of_ble_eq_true rfl, Nat.le_of_ble_eq_true rfl⟩) (pre_X3 hK hz hW _) rfl rfl hl.1 rfl (lv_room (Nat.le_of_ble_eq_true rfl)) dX10_hem_28 ⟨Nat.zero_le _, Nat.zero_le _⟩) hS (fun H locs hW hS => ?_)
        refine lv_if_ne (tgt := 44) hx hb dX10_hem_31 (by decide) (fun c_6 => ?_) (fun c_6 => ?_)
        · have hf := of_f c_6 hf
          refine lv_iload_n hx hb dX10_hem_44 rfl (lv_at hl 2 rfl) ?_
          by_cases c_7 : x2 = 0
          · have hf := of_t c_7 hf
            refine lv_tableIn (off := 31) (tgt := 76) hx hb dX10_hem_45 (by rw [c_7]; decide) (by rw [c_7]; decide) (by rw [c_7]; rfl) (by decide) ?_
            refine lv_aload_n hx hb dX10_hem_76 rfl (lv_at hl 0 rfl) ?_
            refine get_X10_5 hx hb hts in_X10_hem_X10 hown hK hz hW lk_X10_hem_3 dX10_hem_77 ?_
            refine get_X3_2 hx hb hts in_X10_hem_X3 hown hK hz hW lk_X10_hem_5 dX10_hem_80 ?_
            exact hret _ _ _ _ _ _ hf hW hS dX10_hem_83
          have hf := of_f c_7 hf
          by_cases c_8 : x2 = 1
          · have hf := of_t c_8 hf
            refine lv_tableIn (off := 39) (tgt := 84) hx hb dX10_hem_45 (by rw [c_8]; decide) (by rw [c_8]; decide) (by rw [c_8]; rfl) (by decide) ?_
            refine lv_aload_n hx hb dX10_hem_84 rfl (lv_at hl 0 rfl) ?_
            refine get_X10_5 hx hb hts in_X10_hem_X10 hown hK hz hW lk_X10_hem_3 dX10_hem_85 ?_
            refine get_X3_3 hx hb hts in_X10_hem_X3 hown hK hz hW lk_X10_hem_6 dX10_hem_88 ?_
            exact hret _ _ _ _ _ _ hf hW hS dX10_hem_91
          have hf := of_f c_8 hf
          by_cases c_9 : x2 = 2
          · have hf := of_t c_9 hf
            refine lv_tableIn (off := 47) (tgt := 92) hx hb dX10_hem_45 (by rw [c_9]; decide) (by rw [c_9]; decide) (by rw [c_9]; rfl) (by decide) ?_
            refine lv_aload_n hx hb dX10_hem_92 rfl (lv_at hl 0 rfl) ?_
            refine get_X10_5 hx hb hts in_X10_hem_X10 hown hK hz hW lk_X10_hem_3 dX10_hem_93 ?_
            refine lv_aload_n hx hb dX10_hem_96 rfl (lv_at hl 0 rfl) ?_
            refine get_X10_2 hx hb hts in_X10_hem_X10 hown hK hz hW lk_X10_hem_4 dX10_hem_97 ?_
            obtain ⟨r_10, hq_11, hf⟩ := of_bd hf
            refine m_goRi (va_runV (As := [.ref (z.2.1 (3*14))]) (rest := []) ⟨hx, hb, hml, hown, hts⟩ (c_X3_fits l hz 14 (Nat.le_of_ble_eq_true rfl) w_5 hq_11) (cwV 1 hts gX10_hem_X3_fits rfl rfl rfl (by decide +kernel) ⟨Nat.le_of_ble_eq_true rfl, Nat.le_of_ble_eq_true rfl⟩) (pre_X3 hK hz hW _) rfl rfl hl.1 rfl (lv_room (Nat.le_of_ble_eq_true rfl)) dX10_hem_100 ⟨Nat.zero_le _, Nat.zero_le _⟩) ?_
            have J_13 : ∀ (v_12 : Int32) (ls : Array Slot), v_12 = (if r_10 = 0 then 0 else 1) → lv_has ls 3 [] → W p l e (rmx 6 90) s m args below meth c H locs 0 0 Q (F0 m 111 ls [.int v_12]) := by
              intro v_12 ls ev_12 hl
              have hf := of_lt ev_12 hf
              exact hret _ _ _ _ _ _ hf hW hS dX10_hem_111
            refine lv_if_eq (tgt := 110) hx hb dX10_hem_103 (by decide) (fun c_14 => ?_) (fun c_14 => ?_)
            · refine lv_iconst (v := 0) hx hb dX10_hem_110 (by decide) ?_
              exact J_13 _ _ (by rw [if_pos c_14]) (lv_sub hl [] rfl)
            · refine lv_iconst (v := 1) hx hb dX10_hem_106 (by decide) ?_
              refine lv_goto (tgt := 111) hx hb dX10_hem_107 (by decide) ?_
              exact J_13 _ _ (by rw [if_neg c_14]) (lv_sub hl [] rfl)
          have hf := of_f c_9 hf
          by_cases c_15 : x2 = 3
          · have hf := of_t c_15 hf
            refine lv_tableIn (off := 67) (tgt := 112) hx hb dX10_hem_45 (by rw [c_15]; decide) (by rw [c_15]; decide) (by rw [c_15]; rfl) (by decide) ?_
            refine lv_aload_n hx hb dX10_hem_112 rfl (lv_at hl 0 rfl) ?_
            refine get_X10_5 hx hb hts in_X10_hem_X10 hown hK hz hW lk_X10_hem_3 dX10_hem_113 ?_
            refine get_X3_4 hx hb hts in_X10_hem_X3 hown hK hz hW lk_X10_hem_7 dX10_hem_116 ?_
            exact hret _ _ _ _ _ _ hf hW hS dX10_hem_119
          have hf := of_f c_15 hf
          refine lv_tableOut (tgt := 120) hx hb dX10_hem_45 (by have qc_7 := lv_neT c_7 (show (0 : Int32).toInt = 0 by decide); have qc_8 := lv_neT c_8 (show (1 : Int32).toInt = 1 by decide); have qc_9 := lv_neT c_9 (show (2 : Int32).toInt = 2 by decide); have qc_15 := lv_neT c_15 (show (3 : Int32).toInt = 3 by decide); omega) (by decide) ?_
          refine lv_aload_n hx hb dX10_hem_120 rfl (lv_at hl 0 rfl) ?_
          refine get_X10_5 hx hb hts in_X10_hem_X10 hown hK hz hW lk_X10_hem_3 dX10_hem_121 ?_
          obtain ⟨r_16, hq_17, hf⟩ := of_bd hf
          refine m_goRi (va_runV (As := []) (rest := []) ⟨hx, hb, hml, hown, hts⟩ (c_X3_greatestChange l hz w_5 hq_17) (cwV 0 hts gX10_hem_X3_greatestChange rfl rfl rfl (by decide +kernel) ⟨Nat.le_of_ble_eq_true rfl, Nat.le_of_ble_eq_true rfl⟩) (pre_X3 hK hz hW _) rfl rfl hl.1 rfl (lv_room (Nat.le_of_ble_eq_true rfl)) dX10_hem_124 ⟨Nat.zero_le _, Nat.zero_le _⟩) ?_
          exact hret _ _ _ _ _ _ hf hW hS dX10_hem_127
        · have hf := of_t c_6 hf
          exact hthr 1 213 "no such side, or no disc with a length" _ _ _ _ _ _ (by decide) hf (by decide +kernel) hW hS hl.1 lk_X10_hem_9 lk_X10_hem_10 at_X10_hem_1 dX10_hem_34 dX10_hem_37 dX10_hem_38 dX10_hem_40 dX10_hem_43 (Nat.le_of_ble_eq_true rfl)
      · have hf := of_f c_2 hf
        exact hthr 0 131 "no such what" _ _ _ _ _ _ (by decide) hf (by decide +kernel) hW hS hl.1 lk_X10_hem_1 lk_X10_hem_2 at_X10_hem_0 dX10_hem_9 dX10_hem_12 dX10_hem_13 dX10_hem_15 dX10_hem_18 (Nat.le_of_ble_eq_true rfl)
  exact START _ _ hW va_S.rf
theorem in_X10_fed_X10 : ∀ w ∈ wsX100, w ∈ wsX10_fed := by decide +kernel
theorem in_X10_fed_X3 : ∀ w ∈ wsX30, w ∈ wsX10_fed := by decide +kernel
theorem lk_X10_fed_0 : Cond.fieldLink RX10 40 "CamStitch" "hem" "LCamStitch$Hem;" ∈ wsX10_fed := by decide +kernel
theorem lk_X10_fed_1 : Cond.fieldLink RX10 26 "CamStitch" "work" "LCamStitch$Disc;" ∈ wsX10_fed := by decide +kernel
theorem at_X10_fed_1 : ∀ w ∈ (vx_atS RX10 (if 1 = 0 then 133 else 140) (exn 1) xNM).filter goodWord, w ∈ wsX10_fed := fun w h => List.mem_cons_of_mem _ (List.mem_append_right _ h)
theorem lk_X10_fed_3 : Cond.classLink RX10 136 "java/lang/IllegalStateException" ∈ wsX10_fed := by decide +kernel
theorem lk_X10_fed_4 : Cond.initialized "java/lang/IllegalStateException" ∈ wsX10_fed := by decide +kernel
theorem lk_X10_fed_5 : Cond.fieldLink RX10 225 "CamStitch$Hem" "stitches" "I" ∈ wsX10_fed := by decide +kernel
set_option maxHeartbeats 4000000 in
set_option maxRecDepth 100000 in
theorem c_X10_fed (l : Launch) (hst : l.stackTraces = false) {z : LZ} (hz : IC z) (x1 : Int32) (x2 : Int32) (w : Mem) {o : Sum Int32 Nat} {w' : Mem} (hf : f_X10_fed x1 x2 w = some (o, w')) : vx_Met l yX10_fed wsX10_fed (rmx 6 90) (PX z w [.ref (z.2.1 66), .int x1, .int x2]) (QXi z o w') (XZ z o w') 1 6 (az z) := by
  refine mk_X (cc := cX10_fed) (maxL := 3) (rt := .int) (fun v => .int v) hst (by decide +kernel) rfl rfl (Nat.le_of_ble_eq_true rfl) xq_i ⟨Nat.le_of_ble_eq_true rfl, Nat.le_of_ble_eq_true rfl, Nat.le_of_ble_eq_true rfl, Nat.le_of_ble_eq_true rfl⟩ ?_
  intro p e s m args below meth c hx hb hml hts hown hK hW Q hret hthr hthrW ls hl
  have hl : lv_has ls 3 [(0, .ref (z.2.1 66)), (1, .int x1), (2, .int x2)] := hl
  unfold f_X10_fed at hf
  have START : ∀ (H : Heap) (locs : List Loc), hd z w H → va_S (az z) s.heap H locs → W p l e (rmx 6 90) s m args below meth c H locs 0 0 Q (F0 m 0 ls []) := by
    intro H locs hW hS
    refine lv_aload_n hx hb dX10_fed_0 rfl (lv_at hl 0 rfl) ?_
    refine get_X10_5 hx hb hts in_X10_fed_X10 hown hK hz hW lk_X10_fed_0 dX10_fed_1 ?_
    refine lv_iload_n hx hb dX10_fed_4 rfl (lv_at hl 1 rfl) ?_
    refine lv_aload_n hx hb dX10_fed_5 rfl (lv_at hl 0 rfl) ?_
    refine get_X10_2 hx hb hts in_X10_fed_X10 hown hK hz hW lk_X10_fed_1 dX10_fed_6 ?_
    obtain ⟨r_1, w_3, hq_2, hf⟩ := of_b2 hf
    refine m_goWi (va_runV (As := [.int x1, .ref (z.2.1 (3*14))]) (rest := []) ⟨hx, hb, hml, hown, hts⟩ (c_X3_measures l hz x1 14 (Nat.le_of_ble_eq_true rfl) w hq_2) (cwV 2 hts gX10_fed_X3_measures rfl rfl rfl (by decide +kernel) ⟨Nat.le_of_ble_eq_true rfl, Nat.le_of_ble_eq_true rfl⟩) (pre_X3 hK hz hW _) rfl rfl hl.1 rfl (lv_room (Nat.le_of_ble_eq_true rfl)) dX10_fed_9 ⟨Nat.zero_le _, Nat.zero_le _⟩) hS (fun H locs hW hS => ?_)
    refine lv_if_eq (tgt := 30) hx hb dX10_fed_12 (by decide) (fun c_4 => ?_) (fun c_4 => ?_)
    · have hf := of_t c_4 hf
      exact hthr 1 229 "no such side or stitch, or no disc with a length" _ _ _ _ _ _ (by decide) hf (by decide +kernel) hW hS hl.1 lk_X10_fed_3 lk_X10_fed_4 at_X10_fed_1 dX10_fed_30 dX10_fed_33 dX10_fed_34 dX10_fed_36 dX10_fed_39 (Nat.le_of_ble_eq_true rfl)
    · have hf := of_f c_4 hf
      refine lv_iload_n hx hb dX10_fed_15 rfl (lv_at hl 2 rfl) ?_
      refine lv_if_lt (tgt := 30) hx hb dX10_fed_16 (by decide) (fun c_5 => ?_) (fun c_5 => ?_)
      · have hf := of_t c_5 hf
        exact hthr 1 229 "no such side or stitch, or no disc with a length" _ _ _ _ _ _ (by decide) hf (by decide +kernel) hW hS hl.1 lk_X10_fed_3 lk_X10_fed_4 at_X10_fed_1 dX10_fed_30 dX10_fed_33 dX10_fed_34 dX10_fed_36 dX10_fed_39 (Nat.le_of_ble_eq_true rfl)
      · have hf := of_f c_5 hf
        refine lv_iload_n hx hb dX10_fed_19 rfl (lv_at hl 2 rfl) ?_
        refine lv_aload_n hx hb dX10_fed_20 rfl (lv_at hl 0 rfl) ?_
        refine get_X10_5 hx hb hts in_X10_fed_X10 hown hK hz hW lk_X10_fed_0 dX10_fed_21 ?_
        refine get_X3_4 hx hb hts in_X10_fed_X3 hown hK hz hW lk_X10_fed_5 dX10_fed_24 ?_
        refine lv_icmp_lt (tgt := 40) hx hb dX10_fed_27 (by decide) (fun c_6 => ?_) (fun c_6 => ?_)
        · have hf := of_t c_6 hf
          refine lv_aload_n hx hb dX10_fed_40 rfl (lv_at hl 0 rfl) ?_
          refine get_X10_5 hx hb hts in_X10_fed_X10 hown hK hz hW lk_X10_fed_0 dX10_fed_41 ?_
          refine lv_aload_n hx hb dX10_fed_44 rfl (lv_at hl 0 rfl) ?_
          refine get_X10_2 hx hb hts in_X10_fed_X10 hown hK hz hW lk_X10_fed_1 dX10_fed_45 ?_
          refine lv_iload_n hx hb dX10_fed_48 rfl (lv_at hl 2 rfl) ?_
          obtain ⟨r_7, hq_8, hf⟩ := of_bd hf
          refine m_goRi (va_runV (As := [.ref (z.2.1 (3*14)), .int x2]) (rest := []) ⟨hx, hb, hml, hown, hts⟩ (c_X3_feedOf l hz 14 (Nat.le_of_ble_eq_true rfl) x2 w_3 hq_8) (cwV 2 hts gX10_fed_X3_feedOf rfl rfl rfl (by decide +kernel) ⟨Nat.le_of_ble_eq_true rfl, Nat.le_of_ble_eq_true rfl⟩) (pre_X3 hK hz hW _) rfl rfl hl.1 rfl (lv_room (Nat.le_of_ble_eq_true rfl)) dX10_fed_49 ⟨Nat.zero_le _, Nat.zero_le _⟩) ?_
          exact hret _ _ _ _ _ _ hf hW hS dX10_fed_52
        · have hf := of_f c_6 hf
          exact hthr 1 229 "no such side or stitch, or no disc with a length" _ _ _ _ _ _ (by decide) hf (by decide +kernel) hW hS hl.1 lk_X10_fed_3 lk_X10_fed_4 at_X10_fed_1 dX10_fed_30 dX10_fed_33 dX10_fed_34 dX10_fed_36 dX10_fed_39 (Nat.le_of_ble_eq_true rfl)
  exact START _ _ hW va_S.rf
theorem in_X10_seam_X10 : ∀ w ∈ wsX100, w ∈ wsX10_seam := by decide +kernel
theorem in_X10_seam_X8 : ∀ w ∈ wsX80, w ∈ wsX10_seam := by decide +kernel
theorem at_X10_seam_0 : ∀ w ∈ (vx_atS RX10 (if 0 = 0 then 133 else 140) (exn 0) xNM).filter goodWord, w ∈ wsX10_seam := fun w h => List.mem_cons_of_mem _ (List.mem_append_left _ (List.mem_append_right _ h))
theorem lk_X10_seam_1 : Cond.classLink RX10 129 "java/lang/IllegalArgumentException" ∈ wsX10_seam := by decide +kernel
theorem lk_X10_seam_2 : Cond.initialized "java/lang/IllegalArgumentException" ∈ wsX10_seam := by decide +kernel
theorem lk_X10_seam_3 : Cond.fieldLink RX10 61 "CamStitch" "seam" "LCamStitch$Seam;" ∈ wsX10_seam := by decide +kernel
theorem lk_X10_seam_4 : Cond.fieldLink RX10 298 "CamStitch$Seam" "isSewn" "Z" ∈ wsX10_seam := by decide +kernel
theorem lk_X10_seam_5 : Cond.fieldLink RX10 297 "CamStitch$Seam" "stitches" "I" ∈ wsX10_seam := by decide +kernel
theorem lk_X10_seam_6 : Cond.fieldLink RX10 304 "CamStitch$Seam" "x" "I" ∈ wsX10_seam := by decide +kernel
theorem lk_X10_seam_7 : Cond.fieldLink RX10 307 "CamStitch$Seam" "y" "I" ∈ wsX10_seam := by decide +kernel
theorem lk_X10_seam_8 : Cond.fieldLink RX10 310 "CamStitch$Seam" "quarter" "I" ∈ wsX10_seam := by decide +kernel
theorem lk_X10_seam_9 : Cond.fieldLink RX10 313 "CamStitch$Seam" "isBack" "Z" ∈ wsX10_seam := by decide +kernel
theorem lk_X10_seam_10 : Cond.fieldLink RX10 316 "CamStitch$Seam" "why" "I" ∈ wsX10_seam := by decide +kernel
theorem lk_X10_seam_11 : Cond.fieldLink RX10 322 "CamStitch$Seam" "upperThread" "I" ∈ wsX10_seam := by decide +kernel
theorem lk_X10_seam_12 : Cond.fieldLink RX10 325 "CamStitch$Seam" "lowerThread" "I" ∈ wsX10_seam := by decide +kernel
theorem lk_X10_seam_13 : Cond.fieldLink RX10 294 "CamStitch$Seam" "stepsEnded" "I" ∈ wsX10_seam := by decide +kernel
theorem at_X10_seam_1 : ∀ w ∈ (vx_atS RX10 (if 1 = 0 then 133 else 140) (exn 1) xNM).filter goodWord, w ∈ wsX10_seam := fun w h => List.mem_cons_of_mem _ (List.mem_append_right _ h)
theorem lk_X10_seam_15 : Cond.classLink RX10 136 "java/lang/IllegalStateException" ∈ wsX10_seam := by decide +kernel
theorem lk_X10_seam_16 : Cond.initialized "java/lang/IllegalStateException" ∈ wsX10_seam := by decide +kernel
set_option maxHeartbeats 4000000 in
set_option maxRecDepth 100000 in
theorem c_X10_seam (l : Launch) (hst : l.stackTraces = false) {z : LZ} (hz : IC z) (x1 : Int32) (w : Mem) {o : Sum Int32 Nat} {w' : Mem} (hf : f_X10_seam x1 w = some (o, w')) : vx_Met l yX10_seam wsX10_seam (rmx 6 90) (PX z w [.ref (z.2.1 66), .int x1]) (QXi z o w') (XZ z o w') 1 6 (az z) := by
  refine mk_X (cc := cX10_seam) (maxL := 2) (rt := .int) (fun v => .int v) hst (by decide +kernel) rfl rfl (Nat.le_of_ble_eq_true rfl) xq_i ⟨Nat.le_of_ble_eq_true rfl, Nat.le_of_ble_eq_true rfl, Nat.le_of_ble_eq_true rfl, Nat.le_of_ble_eq_true rfl⟩ ?_
  intro p e s m args below meth c hx hb hml hts hown hK hW Q hret hthr hthrW ls hl
  have hl : lv_has ls 2 [(0, .ref (z.2.1 66)), (1, .int x1)] := hl
  unfold f_X10_seam at hf
  have START : ∀ (H : Heap) (locs : List Loc), hd z w H → va_S (az z) s.heap H locs → W p l e (rmx 6 90) s m args below meth c H locs 0 0 Q (F0 m 0 ls []) := by
    intro H locs hW hS
    refine lv_iload_n hx hb dX10_seam_0 rfl (lv_at hl 1 rfl) ?_
    refine lv_if_lt (tgt := 10) hx hb dX10_seam_1 (by decide) (fun c_1 => ?_) (fun c_1 => ?_)
    · have hf := of_t c_1 hf
      exact hthr 0 131 "no such what" _ _ _ _ _ _ (by decide) hf (by decide +kernel) hW hS hl.1 lk_X10_seam_1 lk_X10_seam_2 at_X10_seam_0 dX10_seam_10 dX10_seam_13 dX10_seam_14 dX10_seam_16 dX10_seam_19 (Nat.le_of_ble_eq_true rfl)
    · have hf := of_f c_1 hf
      refine lv_iload_n hx hb dX10_seam_4 rfl (lv_at hl 1 rfl) ?_
      refine lv_bipush (v := 9) hx hb dX10_seam_5 (by decide) ?_
      refine lv_icmp_le (tgt := 20) hx hb dX10_seam_7 (by decide) (fun c_2 => ?_) (fun c_2 => ?_)
      · have hf := of_t c_2 hf
        refine lv_aload_n hx hb dX10_seam_20 rfl (lv_at hl 0 rfl) ?_
        refine get_X10_8 hx hb hts in_X10_seam_X10 hown hK hz hW lk_X10_seam_3 dX10_seam_21 ?_
        refine get_X8_2 hx hb hts in_X10_seam_X8 hown hK hz hW lk_X10_seam_4 dX10_seam_24 ?_
        refine lv_if_ne (tgt := 41) hx hb dX10_seam_27 (by decide) (fun c_3 => ?_) (fun c_3 => ?_)
        · have hf := of_f c_3 hf
          refine lv_iload_n hx hb dX10_seam_41 rfl (lv_at hl 1 rfl) ?_
          by_cases c_4 : x1 = 0
          · have hf := of_t c_4 hf
            refine lv_tableIn (off := 50) (tgt := 92) hx hb dX10_seam_42 (by rw [c_4]; decide) (by rw [c_4]; decide) (by rw [c_4]; rfl) (by decide) ?_
            refine lv_aload_n hx hb dX10_seam_92 rfl (lv_at hl 0 rfl) ?_
            refine get_X10_8 hx hb hts in_X10_seam_X10 hown hK hz hW lk_X10_seam_3 dX10_seam_93 ?_
            refine get_X8_3 hx hb hts in_X10_seam_X8 hown hK hz hW lk_X10_seam_5 dX10_seam_96 ?_
            exact hret _ _ _ _ _ _ hf hW hS dX10_seam_99
          have hf := of_f c_4 hf
          by_cases c_5 : x1 = 1
          · have hf := of_t c_5 hf
            refine lv_tableIn (off := 58) (tgt := 100) hx hb dX10_seam_42 (by rw [c_5]; decide) (by rw [c_5]; decide) (by rw [c_5]; rfl) (by decide) ?_
            refine lv_aload_n hx hb dX10_seam_100 rfl (lv_at hl 0 rfl) ?_
            refine get_X10_8 hx hb hts in_X10_seam_X10 hown hK hz hW lk_X10_seam_3 dX10_seam_101 ?_
            refine get_X8_4 hx hb hts in_X10_seam_X8 hown hK hz hW lk_X10_seam_6 dX10_seam_104 ?_
            exact hret _ _ _ _ _ _ hf hW hS dX10_seam_107
          have hf := of_f c_5 hf
          by_cases c_6 : x1 = 2
          · have hf := of_t c_6 hf
            refine lv_tableIn (off := 66) (tgt := 108) hx hb dX10_seam_42 (by rw [c_6]; decide) (by rw [c_6]; decide) (by rw [c_6]; rfl) (by decide) ?_
            refine lv_aload_n hx hb dX10_seam_108 rfl (lv_at hl 0 rfl) ?_
            refine get_X10_8 hx hb hts in_X10_seam_X10 hown hK hz hW lk_X10_seam_3 dX10_seam_109 ?_
            refine get_X8_5 hx hb hts in_X10_seam_X8 hown hK hz hW lk_X10_seam_7 dX10_seam_112 ?_
            exact hret _ _ _ _ _ _ hf hW hS dX10_seam_115
          have hf := of_f c_6 hf
          by_cases c_7 : x1 = 3
          · have hf := of_t c_7 hf
            refine lv_tableIn (off := 74) (tgt := 116) hx hb dX10_seam_42 (by rw [c_7]; decide) (by rw [c_7]; decide) (by rw [c_7]; rfl) (by decide) ?_
            refine lv_aload_n hx hb dX10_seam_116 rfl (lv_at hl 0 rfl) ?_
            refine get_X10_8 hx hb hts in_X10_seam_X10 hown hK hz hW lk_X10_seam_3 dX10_seam_117 ?_
            refine get_X8_6 hx hb hts in_X10_seam_X8 hown hK hz hW lk_X10_seam_8 dX10_seam_120 ?_
            exact hret _ _ _ _ _ _ hf hW hS dX10_seam_123
          have hf := of_f c_7 hf
          by_cases c_8 : x1 = 4
          · have hf := of_t c_8 hf
            refine lv_tableIn (off := 82) (tgt := 124) hx hb dX10_seam_42 (by rw [c_8]; decide) (by rw [c_8]; decide) (by rw [c_8]; rfl) (by decide) ?_
            refine lv_aload_n hx hb dX10_seam_124 rfl (lv_at hl 0 rfl) ?_
            refine get_X10_8 hx hb hts in_X10_seam_X10 hown hK hz hW lk_X10_seam_3 dX10_seam_125 ?_
            refine get_X8_7 hx hb hts in_X10_seam_X8 hown hK hz hW lk_X10_seam_9 dX10_seam_128 ?_
            have J_10 : ∀ (v_9 : Int32) (ls : Array Slot), v_9 = (if (w.1 79 7) = 0 then 0 else 1) → lv_has ls 2 [] → W p l e (rmx 6 90) s m args below meth c H locs 0 0 Q (F0 m 139 ls [.int v_9]) := by
              intro v_9 ls ev_9 hl
              have hf := of_lt ev_9 hf
              exact hret _ _ _ _ _ _ hf hW hS dX10_seam_139
            refine lv_if_eq (tgt := 138) hx hb dX10_seam_131 (by decide) (fun c_11 => ?_) (fun c_11 => ?_)
            · refine lv_iconst (v := 0) hx hb dX10_seam_138 (by decide) ?_
              exact J_10 _ _ (by rw [if_pos c_11]) (lv_sub hl [] rfl)
            · refine lv_iconst (v := 1) hx hb dX10_seam_134 (by decide) ?_
              refine lv_goto (tgt := 139) hx hb dX10_seam_135 (by decide) ?_
              exact J_10 _ _ (by rw [if_neg c_11]) (lv_sub hl [] rfl)
          have hf := of_f c_8 hf
          by_cases c_12 : x1 = 5
          · have hf := of_t c_12 hf
            refine lv_tableIn (off := 98) (tgt := 140) hx hb dX10_seam_42 (by rw [c_12]; decide) (by rw [c_12]; decide) (by rw [c_12]; rfl) (by decide) ?_
            refine lv_aload_n hx hb dX10_seam_140 rfl (lv_at hl 0 rfl) ?_
            refine get_X10_8 hx hb hts in_X10_seam_X10 hown hK hz hW lk_X10_seam_3 dX10_seam_141 ?_
            refine get_X8_8 hx hb hts in_X10_seam_X8 hown hK hz hW lk_X10_seam_10 dX10_seam_144 ?_
            exact hret _ _ _ _ _ _ hf hW hS dX10_seam_147
          have hf := of_f c_12 hf
          by_cases c_13 : x1 = 6
          · have hf := of_t c_13 hf
            refine lv_tableIn (off := 106) (tgt := 148) hx hb dX10_seam_42 (by rw [c_13]; decide) (by rw [c_13]; decide) (by rw [c_13]; rfl) (by decide) ?_
            refine lv_aload_n hx hb dX10_seam_148 rfl (lv_at hl 0 rfl) ?_
            refine get_X10_8 hx hb hts in_X10_seam_X10 hown hK hz hW lk_X10_seam_3 dX10_seam_149 ?_
            obtain ⟨r_14, hq_15, hf⟩ := of_bd hf
            refine m_goRi (va_runV (As := []) (rest := []) ⟨hx, hb, hml, hown, hts⟩ (c_X8_returns l hz w hq_15) (cwV 0 hts gX10_seam_X8_returns rfl rfl rfl (by decide +kernel) ⟨Nat.le_of_ble_eq_true rfl, Nat.le_of_ble_eq_true rfl⟩) (pre_X8 hK hz hW _) rfl rfl hl.1 rfl (lv_room (Nat.le_of_ble_eq_true rfl)) dX10_seam_152 ⟨Nat.zero_le _, Nat.zero_le _⟩) ?_
            exact hret _ _ _ _ _ _ hf hW hS dX10_seam_155
          have hf := of_f c_13 hf
          by_cases c_16 : x1 = 7
          · have hf := of_t c_16 hf
            refine lv_tableIn (off := 114) (tgt := 156) hx hb dX10_seam_42 (by rw [c_16]; decide) (by rw [c_16]; decide) (by rw [c_16]; rfl) (by decide) ?_
            refine lv_aload_n hx hb dX10_seam_156 rfl (lv_at hl 0 rfl) ?_
            refine get_X10_8 hx hb hts in_X10_seam_X10 hown hK hz hW lk_X10_seam_3 dX10_seam_157 ?_
            refine get_X8_9 hx hb hts in_X10_seam_X8 hown hK hz hW lk_X10_seam_11 dX10_seam_160 ?_
            exact hret _ _ _ _ _ _ hf hW hS dX10_seam_163
          have hf := of_f c_16 hf
          by_cases c_17 : x1 = 8
          · have hf := of_t c_17 hf
            refine lv_tableIn (off := 122) (tgt := 164) hx hb dX10_seam_42 (by rw [c_17]; decide) (by rw [c_17]; decide) (by rw [c_17]; rfl) (by decide) ?_
            refine lv_aload_n hx hb dX10_seam_164 rfl (lv_at hl 0 rfl) ?_
            refine get_X10_8 hx hb hts in_X10_seam_X10 hown hK hz hW lk_X10_seam_3 dX10_seam_165 ?_
            refine get_X8_10 hx hb hts in_X10_seam_X8 hown hK hz hW lk_X10_seam_12 dX10_seam_168 ?_
            exact hret _ _ _ _ _ _ hf hW hS dX10_seam_171
          have hf := of_f c_17 hf
          refine lv_tableOut (tgt := 172) hx hb dX10_seam_42 (by have qc_4 := lv_neT c_4 (show (0 : Int32).toInt = 0 by decide); have qc_5 := lv_neT c_5 (show (1 : Int32).toInt = 1 by decide); have qc_6 := lv_neT c_6 (show (2 : Int32).toInt = 2 by decide); have qc_7 := lv_neT c_7 (show (3 : Int32).toInt = 3 by decide); have qc_8 := lv_neT c_8 (show (4 : Int32).toInt = 4 by decide); have qc_12 := lv_neT c_12 (show (5 : Int32).toInt = 5 by decide); have qc_13 := lv_neT c_13 (show (6 : Int32).toInt = 6 by decide); have qc_16 := lv_neT c_16 (show (7 : Int32).toInt = 7 by decide); have qc_17 := lv_neT c_17 (show (8 : Int32).toInt = 8 by decide); omega) (by decide) ?_
          refine lv_aload_n hx hb dX10_seam_172 rfl (lv_at hl 0 rfl) ?_
          refine get_X10_8 hx hb hts in_X10_seam_X10 hown hK hz hW lk_X10_seam_3 dX10_seam_173 ?_
          refine get_X8_11 hx hb hts in_X10_seam_X8 hown hK hz hW lk_X10_seam_13 dX10_seam_176 ?_
          exact hret _ _ _ _ _ _ hf hW hS dX10_seam_179
        · have hf := of_t c_3 hf
          exact hthrW 1 302 "none was sewn" _ _ _ _ _ _ (by decide) hf (by decide +kernel) hW hS hl.1 lk_X10_seam_15 lk_X10_seam_16 at_X10_seam_1 dX10_seam_30 dX10_seam_33 dX10_seam_34 dX10_seam_37 dX10_seam_40 (Nat.le_of_ble_eq_true rfl)
      · have hf := of_f c_2 hf
        exact hthr 0 131 "no such what" _ _ _ _ _ _ (by decide) hf (by decide +kernel) hW hS hl.1 lk_X10_seam_1 lk_X10_seam_2 at_X10_seam_0 dX10_seam_10 dX10_seam_13 dX10_seam_14 dX10_seam_16 dX10_seam_19 (Nat.le_of_ble_eq_true rfl)
  exact START _ _ hW va_S.rf
theorem in_X10_sewn_X10 : ∀ w ∈ wsX100, w ∈ wsX10_sewn := by decide +kernel
theorem in_X10_sewn_X8 : ∀ w ∈ wsX80, w ∈ wsX10_sewn := by decide +kernel
theorem at_X10_sewn_0 : ∀ w ∈ (vx_atS RX10 (if 0 = 0 then 133 else 140) (exn 0) xNM).filter goodWord, w ∈ wsX10_sewn := fun w h => List.mem_cons_of_mem _ (List.mem_append_left _ (List.mem_append_right _ h))
theorem lk_X10_sewn_1 : Cond.classLink RX10 129 "java/lang/IllegalArgumentException" ∈ wsX10_sewn := by decide +kernel
theorem lk_X10_sewn_2 : Cond.initialized "java/lang/IllegalArgumentException" ∈ wsX10_sewn := by decide +kernel
theorem at_X10_sewn_1 : ∀ w ∈ (vx_atS RX10 (if 1 = 0 then 133 else 140) (exn 1) xNM).filter goodWord, w ∈ wsX10_sewn := fun w h => List.mem_cons_of_mem _ (List.mem_append_right _ h)
theorem lk_X10_sewn_4 : Cond.classLink RX10 136 "java/lang/IllegalStateException" ∈ wsX10_sewn := by decide +kernel
theorem lk_X10_sewn_5 : Cond.initialized "java/lang/IllegalStateException" ∈ wsX10_sewn := by decide +kernel
theorem lk_X10_sewn_6 : Cond.fieldLink RX10 61 "CamStitch" "seam" "LCamStitch$Seam;" ∈ wsX10_sewn := by decide +kernel
theorem lk_X10_sewn_7 : Cond.fieldLink RX10 297 "CamStitch$Seam" "stitches" "I" ∈ wsX10_sewn := by decide +kernel
theorem lk_X10_sewn_8 : Cond.fieldLink RX10 329 "CamStitch$Seam" "ys" "[I" ∈ wsX10_sewn := by decide +kernel
theorem lk_X10_sewn_9 : Cond.fieldLink RX10 328 "CamStitch$Seam" "xs" "[I" ∈ wsX10_sewn := by decide +kernel
set_option maxHeartbeats 4000000 in
set_option maxRecDepth 100000 in
theorem c_X10_sewn (l : Launch) (hst : l.stackTraces = false) {z : LZ} (hz : IC z) (x1 : Int32) (x2 : Int32) (w : Mem) {o : Sum Int32 Nat} {w' : Mem} (hf : f_X10_sewn x1 x2 w = some (o, w')) : vx_Met l yX10_sewn wsX10_sewn (rmx 6 90) (PX z w [.ref (z.2.1 66), .int x1, .int x2]) (QXi z o w') (XZ z o w') 1 6 (az z) := by
  refine mk_X (cc := cX10_sewn) (maxL := 3) (rt := .int) (fun v => .int v) hst (by decide +kernel) rfl rfl (Nat.le_of_ble_eq_true rfl) xq_i ⟨Nat.le_of_ble_eq_true rfl, Nat.le_of_ble_eq_true rfl, Nat.le_of_ble_eq_true rfl, Nat.le_of_ble_eq_true rfl⟩ ?_
  intro p e s m args below meth c hx hb hml hts hown hK hW Q hret hthr hthrW ls hl
  have hl : lv_has ls 3 [(0, .ref (z.2.1 66)), (1, .int x1), (2, .int x2)] := hl
  unfold f_X10_sewn at hf
  have START : ∀ (H : Heap) (locs : List Loc), hd z w H → va_S (az z) s.heap H locs → W p l e (rmx 6 90) s m args below meth c H locs 0 0 Q (F0 m 0 ls []) := by
    intro H locs hW hS
    refine lv_iload_n hx hb dX10_sewn_0 rfl (lv_at hl 2 rfl) ?_
    refine lv_if_lt (tgt := 9) hx hb dX10_sewn_1 (by decide) (fun c_1 => ?_) (fun c_1 => ?_)
    · have hf := of_t c_1 hf
      exact hthr 0 131 "no such what" _ _ _ _ _ _ (by decide) hf (by decide +kernel) hW hS hl.1 lk_X10_sewn_1 lk_X10_sewn_2 at_X10_sewn_0 dX10_sewn_9 dX10_sewn_12 dX10_sewn_13 dX10_sewn_15 dX10_sewn_18 (Nat.le_of_ble_eq_true rfl)
    · have hf := of_f c_1 hf
      refine lv_iload_n hx hb dX10_sewn_4 rfl (lv_at hl 2 rfl) ?_
      refine lv_iconst (v := 1) hx hb dX10_sewn_5 (by decide) ?_
      refine lv_icmp_le (tgt := 19) hx hb dX10_sewn_6 (by decide) (fun c_2 => ?_) (fun c_2 => ?_)
      · have hf := of_t c_2 hf
        refine lv_iload_n hx hb dX10_sewn_19 rfl (lv_at hl 1 rfl) ?_
        refine lv_if_lt (tgt := 34) hx hb dX10_sewn_20 (by decide) (fun c_3 => ?_) (fun c_3 => ?_)
        · have hf := of_t c_3 hf
          exact hthr 1 182 "no such stitch" _ _ _ _ _ _ (by decide) hf (by decide +kernel) hW hS hl.1 lk_X10_sewn_4 lk_X10_sewn_5 at_X10_sewn_1 dX10_sewn_34 dX10_sewn_37 dX10_sewn_38 dX10_sewn_40 dX10_sewn_43 (Nat.le_of_ble_eq_true rfl)
        · have hf := of_f c_3 hf
          refine lv_iload_n hx hb dX10_sewn_23 rfl (lv_at hl 1 rfl) ?_
          refine lv_aload_n hx hb dX10_sewn_24 rfl (lv_at hl 0 rfl) ?_
          refine get_X10_8 hx hb hts in_X10_sewn_X10 hown hK hz hW lk_X10_sewn_6 dX10_sewn_25 ?_
          refine get_X8_3 hx hb hts in_X10_sewn_X8 hown hK hz hW lk_X10_sewn_7 dX10_sewn_28 ?_
          refine lv_icmp_lt (tgt := 44) hx hb dX10_sewn_31 (by decide) (fun c_4 => ?_) (fun c_4 => ?_)
          · have hf := of_t c_4 hf
            refine lv_iload_n hx hb dX10_sewn_44 rfl (lv_at hl 2 rfl) ?_
            refine lv_if_ne (tgt := 60) hx hb dX10_sewn_45 (by decide) (fun c_5 => ?_) (fun c_5 => ?_)
            · have hf := of_f c_5 hf
              refine lv_aload_n hx hb dX10_sewn_60 rfl (lv_at hl 0 rfl) ?_
              refine get_X10_8 hx hb hts in_X10_sewn_X10 hown hK hz hW lk_X10_sewn_6 dX10_sewn_61 ?_
              refine get_X8_1 hx hb hts in_X10_sewn_X8 hown hK hz hW lk_X10_sewn_8 dX10_sewn_64 ?_
              refine lv_iload_n hx hb dX10_sewn_67 rfl (lv_at hl 1 rfl) ?_
              obtain ⟨g_6, hf⟩ := of_gd hf
              refine ld_A81 hx hb hK hz hW g_6 dX10_sewn_68 ?_
              exact hret _ _ _ _ _ _ hf hW hS dX10_sewn_69
            · have hf := of_t c_5 hf
              refine lv_aload_n hx hb dX10_sewn_48 rfl (lv_at hl 0 rfl) ?_
              refine get_X10_8 hx hb hts in_X10_sewn_X10 hown hK hz hW lk_X10_sewn_6 dX10_sewn_49 ?_
              refine get_X8_0 hx hb hts in_X10_sewn_X8 hown hK hz hW lk_X10_sewn_9 dX10_sewn_52 ?_
              refine lv_iload_n hx hb dX10_sewn_55 rfl (lv_at hl 1 rfl) ?_
              obtain ⟨g_7, hf⟩ := of_gd hf
              refine ld_A80 hx hb hK hz hW g_7 dX10_sewn_56 ?_
              refine lv_goto (tgt := 69) hx hb dX10_sewn_57 (by decide) ?_
              exact hret _ _ _ _ _ _ hf hW hS dX10_sewn_69
          · have hf := of_f c_4 hf
            exact hthr 1 182 "no such stitch" _ _ _ _ _ _ (by decide) hf (by decide +kernel) hW hS hl.1 lk_X10_sewn_4 lk_X10_sewn_5 at_X10_sewn_1 dX10_sewn_34 dX10_sewn_37 dX10_sewn_38 dX10_sewn_40 dX10_sewn_43 (Nat.le_of_ble_eq_true rfl)
      · have hf := of_f c_2 hf
        exact hthr 0 131 "no such what" _ _ _ _ _ _ (by decide) hf (by decide +kernel) hW hS hl.1 lk_X10_sewn_1 lk_X10_sewn_2 at_X10_sewn_0 dX10_sewn_9 dX10_sewn_12 dX10_sewn_13 dX10_sewn_15 dX10_sewn_18 (Nat.le_of_ble_eq_true rfl)
  exact START _ _ hW va_S.rf
theorem in_X10_at_X10 : ∀ w ∈ wsX100, w ∈ wsX10_at := by decide +kernel
theorem in_X10_at_X9 : ∀ w ∈ wsX90, w ∈ wsX10_at := by decide +kernel
theorem lk_X10_at_0 : Cond.fieldLink RX10 81 "CamStitch" "tapes" "[LCamStitch$Tape;" ∈ wsX10_at := by decide +kernel
theorem at_X10_at_1 : ∀ w ∈ (vx_atS RX10 (if 1 = 0 then 133 else 140) (exn 1) xNM).filter goodWord, w ∈ wsX10_at := fun w h => List.mem_cons_of_mem _ (List.mem_append_right _ h)
theorem lk_X10_at_2 : Cond.classLink RX10 136 "java/lang/IllegalStateException" ∈ wsX10_at := by decide +kernel
theorem lk_X10_at_3 : Cond.initialized "java/lang/IllegalStateException" ∈ wsX10_at := by decide +kernel
theorem lk_X10_at_4 : Cond.fieldLink RX10 394 "CamStitch$Tape" "length" "I" ∈ wsX10_at := by decide +kernel
theorem lk_X10_at_5 : Cond.fieldLink RX10 242 "CamStitch$Tape" "row" "[J" ∈ wsX10_at := by decide +kernel
theorem at_X10_at_0 : ∀ w ∈ (vx_atS RX10 (if 0 = 0 then 133 else 140) (exn 0) xNM).filter goodWord, w ∈ wsX10_at := fun w h => List.mem_cons_of_mem _ (List.mem_append_left _ (List.mem_append_right _ h))
theorem lk_X10_at_7 : Cond.classLink RX10 129 "java/lang/IllegalArgumentException" ∈ wsX10_at := by decide +kernel
theorem lk_X10_at_8 : Cond.initialized "java/lang/IllegalArgumentException" ∈ wsX10_at := by decide +kernel
set_option maxHeartbeats 4000000 in
set_option maxRecDepth 100000 in
theorem c_X10_at (l : Launch) (hst : l.stackTraces = false) {z : LZ} (hz : IC z) (x1 : Int32) (x2 : Int32) (w : Mem) {o : Sum Int64 Nat} {w' : Mem} (hf : f_X10_at x1 x2 w = some (o, w')) : vx_Met l yX10_at wsX10_at (rmx 6 90) (PX z w [.ref (z.2.1 66), .int x1, .int x2]) (QXl z o w') (XZ z o w') 1 6 (az z) := by
  refine mk_X (cc := cX10_at) (maxL := 3) (rt := .long) (fun v => .long v) hst (by decide +kernel) rfl rfl (Nat.le_of_ble_eq_true rfl) xq_l ⟨Nat.le_of_ble_eq_true rfl, Nat.le_of_ble_eq_true rfl, Nat.le_of_ble_eq_true rfl, Nat.le_of_ble_eq_true rfl⟩ ?_
  intro p e s m args below meth c hx hb hml hts hown hK hW Q hret hthr hthrW ls hl
  have hl : lv_has ls 3 [(0, .ref (z.2.1 66)), (1, .int x1), (2, .int x2)] := hl
  unfold f_X10_at at hf
  have START : ∀ (H : Heap) (locs : List Loc), hd z w H → va_S (az z) s.heap H locs → W p l e (rmx 6 90) s m args below meth c H locs 0 0 Q (F0 m 0 ls []) := by
    intro H locs hW hS
    refine lv_iload_n hx hb dX10_at_0 rfl (lv_at hl 1 rfl) ?_
    obtain ⟨r_1, hq_2, hf⟩ := of_bd hf
    refine m_goRi (va_runS (As := [.int x1]) (rest := []) ⟨hx, hb, hml, hown, hts⟩ (c_X10_isTape l hz x1 w hq_2) (va_cwS 1 hts gX10_at_X10_isTape rfl rfl rfl (by decide +kernel) ⟨Nat.le_of_ble_eq_true rfl, Nat.le_of_ble_eq_true rfl⟩) (m_preS hK hW _) rfl rfl hl.1 rfl (lv_room (Nat.le_of_ble_eq_true rfl)) dX10_at_1 ⟨Nat.zero_le _, Nat.zero_le _⟩) ?_
    refine lv_if_ne (tgt := 18) hx hb dX10_at_4 (by decide) (fun c_3 => ?_) (fun c_3 => ?_)
    · have hf := of_f c_3 hf
      refine lv_aload_n hx hb dX10_at_18 rfl (lv_at hl 0 rfl) ?_
      refine get_X10_11 hx hb hts in_X10_at_X10 hown hK hz hW lk_X10_at_0 dX10_at_19 ?_
      refine lv_iload_n hx hb dX10_at_22 rfl (lv_at hl 1 rfl) ?_
      obtain ⟨g_4, hf⟩ := of_gd hf
      refine ld_AT hx hb hK hz hW g_4 dX10_at_23 ?_
      obtain ⟨r_5, hq_6, hf⟩ := of_bd hf
      refine m_goRi (va_runV (As := []) (rest := []) ⟨hx, hb, hml, hown, hts⟩ (c_X9_isRow l hz x1.toNatClampNeg (inb_lt g_4) w hq_6) (cwV 0 hts gX10_at_X9_isRow rfl rfl rfl (by decide +kernel) ⟨Nat.le_of_ble_eq_true rfl, Nat.le_of_ble_eq_true rfl⟩) (pre_X9 hK hz hW (inb_lt g_4) _) rfl rfl hl.1 rfl (lv_room (Nat.le_of_ble_eq_true rfl)) dX10_at_24 ⟨Nat.zero_le _, Nat.zero_le _⟩) ?_
      refine lv_if_eq (tgt := 47) hx hb dX10_at_27 (by decide) (fun c_7 => ?_) (fun c_7 => ?_)
      · have hf := of_t c_7 hf
        exact hthrW 1 407 "no row, or no such place" _ _ _ _ _ _ (by decide) hf (by decide +kernel) hW hS hl.1 lk_X10_at_2 lk_X10_at_3 at_X10_at_1 dX10_at_47 dX10_at_50 dX10_at_51 dX10_at_54 dX10_at_57 (Nat.le_of_ble_eq_true rfl)
      · have hf := of_f c_7 hf
        refine lv_iload_n hx hb dX10_at_30 rfl (lv_at hl 2 rfl) ?_
        refine lv_if_lt (tgt := 47) hx hb dX10_at_31 (by decide) (fun c_8 => ?_) (fun c_8 => ?_)
        · have hf := of_t c_8 hf
          exact hthrW 1 407 "no row, or no such place" _ _ _ _ _ _ (by decide) hf (by decide +kernel) hW hS hl.1 lk_X10_at_2 lk_X10_at_3 at_X10_at_1 dX10_at_47 dX10_at_50 dX10_at_51 dX10_at_54 dX10_at_57 (Nat.le_of_ble_eq_true rfl)
        · have hf := of_f c_8 hf
          refine lv_iload_n hx hb dX10_at_34 rfl (lv_at hl 2 rfl) ?_
          refine lv_aload_n hx hb dX10_at_35 rfl (lv_at hl 0 rfl) ?_
          refine get_X10_11 hx hb hts in_X10_at_X10 hown hK hz hW lk_X10_at_0 dX10_at_36 ?_
          refine lv_iload_n hx hb dX10_at_39 rfl (lv_at hl 1 rfl) ?_
          refine ld_AT hx hb hK hz hW g_4 dX10_at_40 ?_
          refine get_X9_3 hx hb hts in_X10_at_X9 hown hK hz hW (inb_lt g_4) lk_X10_at_4 dX10_at_41 ?_
          refine lv_topi (fun v_9 ev_9 => ?_)
          have hf := of_lt ev_9 hf
          refine lv_icmp_lt (tgt := 58) hx hb dX10_at_44 (by decide) (fun c_10 => ?_) (fun c_10 => ?_)
          · have hf := of_t c_10 hf
            refine lv_aload_n hx hb dX10_at_58 rfl (lv_at hl 0 rfl) ?_
            refine get_X10_11 hx hb hts in_X10_at_X10 hown hK hz hW lk_X10_at_0 dX10_at_59 ?_
            refine lv_iload_n hx hb dX10_at_62 rfl (lv_at hl 1 rfl) ?_
            refine ld_AT hx hb hK hz hW g_4 dX10_at_63 ?_
            refine get_X9_0 hx hb hts in_X10_at_X9 hown hK hz hW (inb_lt g_4) lk_X10_at_5 dX10_at_64 ?_
            refine lv_iload_n hx hb dX10_at_67 rfl (lv_at hl 2 rfl) ?_
            obtain ⟨g_11, hf⟩ := of_gd hf
            refine ld_AL400 hx hb hK hz hW (inb_lt g_4) g_11 dX10_at_68 ?_
            refine lv_topl (fun v_12 ev_12 => ?_)
            have hf := of_lt ev_12 hf
            exact hret _ _ _ _ _ _ hf hW hS dX10_at_69
          · have hf := of_f c_10 hf
            exact hthrW 1 407 "no row, or no such place" _ _ _ _ _ _ (by decide) hf (by decide +kernel) hW hS hl.1 lk_X10_at_2 lk_X10_at_3 at_X10_at_1 dX10_at_47 dX10_at_50 dX10_at_51 dX10_at_54 dX10_at_57 (Nat.le_of_ble_eq_true rfl)
    · have hf := of_t c_3 hf
      exact hthrW 0 401 "no such tape" _ _ _ _ _ _ (by decide) hf (by decide +kernel) hW hS hl.1 lk_X10_at_7 lk_X10_at_8 at_X10_at_0 dX10_at_7 dX10_at_10 dX10_at_11 dX10_at_14 dX10_at_17 (Nat.le_of_ble_eq_true rfl)
  exact START _ _ hW va_S.rf
