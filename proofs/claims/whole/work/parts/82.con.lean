/-! ===== contracts (by program: wip/gen/gen.py): X6_isDone X6_firstFault X7_isNamed X7_find X8_forget X8_start X8_takesThread X8_moves X8_sewsOne X8_sews X8_wasAt X8_returns J7_fill_d0a16 X9_becomeRow X9_becomeDisc X9_isRow X9_hasPlaces X9_narrowed X10_begin X10_isTape X10_againstSort X10_counted X10_read ===== -/
theorem in_X6_isDone_X5 : ∀ w ∈ wsX50, w ∈ wsX6_isDone := by decide +kernel
theorem in_X6_isDone_X6 : ∀ w ∈ wsX60, w ∈ wsX6_isDone := by decide +kernel
theorem lk_X6_isDone_0 : Cond.fieldLink RX6 66 "CamStitch$Reader" "isMirrored" "Z" ∈ wsX6_isDone := by decide +kernel
theorem lk_X6_isDone_1 : Cond.fieldLink RX6 12 "CamStitch$Reader" "draft" "LCamStitch$Pattern;" ∈ wsX6_isDone := by decide +kernel
theorem lk_X6_isDone_2 : Cond.fieldLink RX6 60 "CamStitch$Reader" "originX" "I" ∈ wsX6_isDone := by decide +kernel
theorem lk_X6_isDone_3 : Cond.fieldLink RX6 63 "CamStitch$Reader" "originY" "I" ∈ wsX6_isDone := by decide +kernel
theorem lk_X6_isDone_4 : Cond.initialized RX10 ∈ wsX6_isDone := by decide +kernel
theorem lk_X6_isDone_5 : Cond.static yX10_isWithin ∈ wsX6_isDone := by decide +kernel
theorem lk_X6_isDone_6 : Cond.fieldLink RX6 90 "CamStitch$Pattern" "advance" "I" ∈ wsX6_isDone := by decide +kernel
theorem lk_X6_isDone_7 : Cond.fieldLink RX6 70 "CamStitch$Reader" "hasAdvance" "Z" ∈ wsX6_isDone := by decide +kernel
set_option maxHeartbeats 4000000 in
set_option maxRecDepth 100000 in
theorem c_X6_isDone (l : Launch) {z : LZ} (hz : IC z) (x1 : Int32) (x2 : Int32) (x3 : Int32) (w : Mem) {r : Int32} {w' : Mem} (hf : f_X6_isDone x1 x2 x3 w = some (r, w')) : Met l yX6_isDone wsX6_isDone (rm 2 43) (PZ z w [.ref (z.2.1 67), .int x1, .int x2, .int x3]) (QW z (some (.int r)) w') 0 0 (az z) := by
  refine mk_Wz (cc := cX6_isDone) (maxL := 5) (by decide +kernel) rfl (Nat.le_of_ble_eq_true rfl) ?_
  intro p e s m args below meth c hx hb hml hts hown hK hW Q hret ls hl
  have hl : lv_has ls 5 [(0, .ref (z.2.1 67)), (1, .int x1), (2, .int x2), (3, .int x3)] := hl
  unfold f_X6_isDone at hf
  have START : ∀ (H : Heap) (locs : List Loc), hd z w H → va_S (az z) s.heap H locs → W p l e (rm 2 43) s m args below meth c H locs 0 0 Q (F0 m 0 ls []) := by
    intro H locs hW hS
    refine lv_aload_n hx hb dX6_isDone_0 rfl (lv_at hl 0 rfl) ?_
    refine get_X6_7 hx hb hts in_X6_isDone_X6 hown hK hz hW lk_X6_isDone_0 dX6_isDone_1 ?_
    have J_2 : ∀ (v_1 : Int32) (ls : Array Slot), v_1 = (if (w.1 67 7) = 0 then x2 else (-x2)) → lv_has ls 5 [(0, .ref (z.2.1 67)), (1, .int x1), (2, .int x2), (3, .int x3)] → W p l e (rm 2 43) s m args below meth c H locs 0 0 Q (F0 m 13 ls [.int v_1]) := by
      intro v_1 ls ev_1 hl
      have hf := of_lt ev_1 hf
      refine lv_istore (lv' := [(4, .int v_1), (0, .ref (z.2.1 67)), (1, .int x1), (2, .int x2), (3, .int x3)]) hx hb dX6_isDone_13 hl (by decide) rfl (fun ls hl => ?_)
      refine lv_iload_n hx hb dX6_isDone_15 rfl (lv_at hl 2 rfl) ?_
      by_cases c_3 : x1 = 1
      · have hf := of_t c_3 hf
        refine lv_tableIn (off := 36) (tgt := 52) hx hb dX6_isDone_16 (by rw [c_3]; decide) (by rw [c_3]; decide) (by rw [c_3]; rfl) (by decide) ?_
        refine lv_aload_n hx hb dX6_isDone_52 rfl (lv_at hl 1 rfl) ?_
        refine get_X6_0 hx hb hts in_X6_isDone_X6 hown hK hz hW lk_X6_isDone_1 dX6_isDone_53 ?_
        refine lv_aload_n hx hb dX6_isDone_56 rfl (lv_at hl 1 rfl) ?_
        refine get_X6_5 hx hb hts in_X6_isDone_X6 hown hK hz hW lk_X6_isDone_2 dX6_isDone_57 ?_
        refine lv_iload hx hb dX6_isDone_60 (lv_at hl 0 rfl) ?_
        refine lv_iadd hx hb dX6_isDone_62 ?_
        refine lv_aload_n hx hb dX6_isDone_63 rfl (lv_at hl 1 rfl) ?_
        refine get_X6_6 hx hb hts in_X6_isDone_X6 hown hK hz hW lk_X6_isDone_3 dX6_isDone_64 ?_
        refine lv_iload_n hx hb dX6_isDone_67 rfl (lv_at hl 4 rfl) ?_
        refine lv_iadd hx hb dX6_isDone_68 ?_
        obtain ⟨r_4, w_6, hq_5, hf⟩ := of_b2 hf
        refine m_goWi (va_runV (As := [.int ((w.1 67 5) + v_1), .int ((w.1 67 6) + x3)]) (rest := []) ⟨hx, hb, hml, hown, hts⟩ (c_X5_gets l hz 1 (Nat.le_of_ble_eq_true rfl) ((w.1 67 5) + v_1) ((w.1 67 6) + x3) w hq_5) (cwV 2 hts gX6_isDone_X5_gets rfl rfl rfl (by decide +kernel) ⟨Nat.le_of_ble_eq_true rfl, Nat.le_of_ble_eq_true rfl⟩) (pre_X5 hK hz hW (Nat.le_of_ble_eq_true rfl) _) rfl rfl hl.1 rfl (lv_room (Nat.le_of_ble_eq_true rfl)) dX6_isDone_69 ⟨Nat.le_refl _, Nat.le_refl _⟩) hS (fun H locs hW hS => ?_)
        obtain ⟨g_7, hf⟩ := of_gd hf
        exact hret _ _ _ _ _ _ hf (bz_n g_7) hW hS dX6_isDone_72
      have hf := of_f c_3 hf
      by_cases c_8 : x1 = 2
      · have hf := of_t c_8 hf
        refine lv_tableIn (off := 57) (tgt := 73) hx hb dX6_isDone_16 (by rw [c_8]; decide) (by rw [c_8]; decide) (by rw [c_8]; rfl) (by decide) ?_
        refine lv_aload_n hx hb dX6_isDone_73 rfl (lv_at hl 1 rfl) ?_
        refine lv_dup hx hb dX6_isDone_74 rfl ?_
        refine get_X6_5 hx hb hts in_X6_isDone_X6 hown hK hz hW lk_X6_isDone_2 dX6_isDone_75 ?_
        refine lv_iload hx hb dX6_isDone_78 (lv_at hl 0 rfl) ?_
        refine lv_iadd hx hb dX6_isDone_80 ?_
        refine put_X6_5 hx hb hts in_X6_isDone_X6 hown hK hz hW hS lk_X6_isDone_2 dX6_isDone_81 (fun H locs hW hS => ?_)
        obtain ⟨w_9, ew_9⟩ : ∃ y : Mem, y = mS w 67 5 ((w.1 67 5) + v_1) := ⟨_, rfl⟩
        have hW : hd z w_9 H := by rw [ew_9]; exact hW
        have hf := of_lt ew_9 hf
        refine lv_aload_n hx hb dX6_isDone_84 rfl (lv_at hl 1 rfl) ?_
        refine lv_dup hx hb dX6_isDone_85 rfl ?_
        refine get_X6_6 hx hb hts in_X6_isDone_X6 hown hK hz hW lk_X6_isDone_3 dX6_isDone_86 ?_
        refine lv_iload_n hx hb dX6_isDone_89 rfl (lv_at hl 4 rfl) ?_
        refine lv_iadd hx hb dX6_isDone_90 ?_
        refine put_X6_6 hx hb hts in_X6_isDone_X6 hown hK hz hW hS lk_X6_isDone_3 dX6_isDone_91 (fun H locs hW hS => ?_)
        obtain ⟨w_10, ew_10⟩ : ∃ y : Mem, y = mS w_9 67 6 ((w_9.1 67 6) + x3) := ⟨_, rfl⟩
        have hW : hd z w_10 H := by rw [ew_10]; exact hW
        have hf := of_lt ew_10 hf
        refine lv_aload_n hx hb dX6_isDone_94 rfl (lv_at hl 1 rfl) ?_
        refine get_X6_5 hx hb hts in_X6_isDone_X6 hown hK hz hW lk_X6_isDone_2 dX6_isDone_95 ?_
        refine lv_bipush (v := 100) hx hb dX6_isDone_98 (by decide) ?_
        obtain ⟨r_11, hq_12, hf⟩ := of_bd hf
        refine m_goRi (va_runSN (As := [.int (w_10.1 67 5), .int 100]) (rest := []) ⟨hx, hb, hml, hown, hts⟩ (c_X10_isWithin l hz (w_10.1 67 5) 100 w_10 hq_12) ⟨va_cnB 2 hts gX6_isDone_X10_isWithin_n80 rfl rfl rfl (nz_6 hK hz) (hts _ lk_X6_isDone_4) (by decide +kernel) ⟨Nat.le_of_ble_eq_true rfl, Nat.le_of_ble_eq_true rfl⟩, hts _ lk_X6_isDone_5, trivial⟩ (m_preS hK hW _) rfl rfl hl.1 rfl (lv_room (Nat.le_of_ble_eq_true rfl)) dX6_isDone_100 ⟨Nat.le_refl _, Nat.le_refl _⟩) ?_
        refine lv_if_eq (tgt := 122) hx hb dX6_isDone_103 (by decide) (fun c_13 => ?_) (fun c_13 => ?_)
        · have hf := of_t c_13 hf
          refine lv_iconst (v := 0) hx hb dX6_isDone_122 (by decide) ?_
          exact hret _ _ _ _ _ _ hf rfl hW hS dX6_isDone_123
        · have hf := of_f c_13 hf
          refine lv_aload_n hx hb dX6_isDone_106 rfl (lv_at hl 1 rfl) ?_
          refine get_X6_6 hx hb hts in_X6_isDone_X6 hown hK hz hW lk_X6_isDone_3 dX6_isDone_107 ?_
          refine lv_bipush (v := 100) hx hb dX6_isDone_110 (by decide) ?_
          obtain ⟨r_14, hq_15, hf⟩ := of_bd hf
          refine m_goRi (va_runSN (As := [.int (w_10.1 67 6), .int 100]) (rest := []) ⟨hx, hb, hml, hown, hts⟩ (c_X10_isWithin l hz (w_10.1 67 6) 100 w_10 hq_15) ⟨va_cnB 2 hts gX6_isDone_X10_isWithin_n80 rfl rfl rfl (nz_6 hK hz) (hts _ lk_X6_isDone_4) (by decide +kernel) ⟨Nat.le_of_ble_eq_true rfl, Nat.le_of_ble_eq_true rfl⟩, hts _ lk_X6_isDone_5, trivial⟩ (m_preS hK hW _) rfl rfl hl.1 rfl (lv_room (Nat.le_of_ble_eq_true rfl)) dX6_isDone_112 ⟨Nat.le_refl _, Nat.le_refl _⟩) ?_
          have J_17 : ∀ (v_16 : Int32) (ls : Array Slot), v_16 = (if r_14 = 0 then 0 else 1) → lv_has ls 5 [] → W p l e (rm 2 43) s m args below meth c H locs 0 0 Q (F0 m 123 ls [.int v_16]) := by
            intro v_16 ls ev_16 hl
            have hf := of_lt ev_16 hf
            obtain ⟨g_18, hf⟩ := of_gd hf
            exact hret _ _ _ _ _ _ hf (bz_n g_18) hW hS dX6_isDone_123
          refine lv_if_eq (tgt := 122) hx hb dX6_isDone_115 (by decide) (fun c_19 => ?_) (fun c_19 => ?_)
          · refine lv_iconst (v := 0) hx hb dX6_isDone_122 (by decide) ?_
            exact J_17 _ _ (by rw [if_pos c_19]) (lv_sub hl [] rfl)
          · refine lv_iconst (v := 1) hx hb dX6_isDone_118 (by decide) ?_
            refine lv_goto (tgt := 123) hx hb dX6_isDone_119 (by decide) ?_
            exact J_17 _ _ (by rw [if_neg c_19]) (lv_sub hl [] rfl)
      have hf := of_f c_8 hf
      by_cases c_20 : x1 = 3
      · have hf := of_t c_20 hf
        refine lv_tableIn (off := 108) (tgt := 124) hx hb dX6_isDone_16 (by rw [c_20]; decide) (by rw [c_20]; decide) (by rw [c_20]; rfl) (by decide) ?_
        refine lv_aload_n hx hb dX6_isDone_124 rfl (lv_at hl 1 rfl) ?_
        refine lv_aload_n hx hb dX6_isDone_125 rfl (lv_at hl 1 rfl) ?_
        refine get_X6_7 hx hb hts in_X6_isDone_X6 hown hK hz hW lk_X6_isDone_0 dX6_isDone_126 ?_
        have J_22 : ∀ (v_21 : Int32) (ls : Array Slot), v_21 = (if (w.1 67 7) = 0 then 1 else 0) → lv_has ls 5 [] → W p l e (rm 2 43) s m args below meth c H locs 0 0 Q (F0 m 137 ls [.int v_21, .ref (z.2.1 67)]) := by
          intro v_21 ls ev_21 hl
          have hf := of_lt ev_21 hf
          obtain ⟨g_23, hf⟩ := of_gd hf
          refine put_X6_7 hx hb hts in_X6_isDone_X6 hown hK hz hW hS (bz_s g_23) lk_X6_isDone_0 dX6_isDone_137 (fun H locs hW hS => ?_)
          obtain ⟨w_24, ew_24⟩ : ∃ y : Mem, y = mS w 67 7 v_21 := ⟨_, rfl⟩
          have hW : hd z w_24 H := by rw [ew_24]; exact hW
          have hf := of_lt ew_24 hf
          refine lv_iconst (v := 1) hx hb dX6_isDone_140 (by decide) ?_
          exact hret _ _ _ _ _ _ hf rfl hW hS dX6_isDone_141
        refine lv_if_ne (tgt := 136) hx hb dX6_isDone_129 (by decide) (fun c_25 => ?_) (fun c_25 => ?_)
        · refine lv_iconst (v := 0) hx hb dX6_isDone_136 (by decide) ?_
          exact J_22 _ _ (by rw [if_neg c_25]) (lv_sub hl [] rfl)
        · refine lv_iconst (v := 1) hx hb dX6_isDone_132 (by decide) ?_
          refine lv_goto (tgt := 137) hx hb dX6_isDone_133 (by decide) ?_
          exact J_22 _ _ (by rw [if_pos c_25]) (lv_sub hl [] rfl)
      have hf := of_f c_20 hf
      by_cases c_26 : x1 = 4
      · have hf := of_t c_26 hf
        refine lv_tableIn (off := 126) (tgt := 142) hx hb dX6_isDone_16 (by rw [c_26]; decide) (by rw [c_26]; decide) (by rw [c_26]; rfl) (by decide) ?_
        refine lv_aload_n hx hb dX6_isDone_142 rfl (lv_at hl 1 rfl) ?_
        refine lv_iload_n hx hb dX6_isDone_143 rfl (lv_at hl 3 rfl) ?_
        obtain ⟨r_27, w_29, hq_28, hf⟩ := of_b2 hf
        refine m_goWi (va_runV (As := [.int x2]) (rest := []) ⟨hx, hb, hml, hown, hts⟩ (c_X6_opens l hz x2 w hq_28) (cwV 1 hts gX6_isDone_X6_opens rfl rfl rfl (by decide +kernel) ⟨Nat.le_of_ble_eq_true rfl, Nat.le_of_ble_eq_true rfl⟩) (pre_X6 hK hz hW _) rfl rfl hl.1 rfl (lv_room (Nat.le_of_ble_eq_true rfl)) dX6_isDone_144 ⟨Nat.le_refl _, Nat.le_refl _⟩) hS (fun H locs hW hS => ?_)
        obtain ⟨g_30, hf⟩ := of_gd hf
        exact hret _ _ _ _ _ _ hf (bz_n g_30) hW hS dX6_isDone_147
      have hf := of_f c_26 hf
      by_cases c_31 : x1 = 5
      · have hf := of_t c_31 hf
        refine lv_tableIn (off := 132) (tgt := 148) hx hb dX6_isDone_16 (by rw [c_31]; decide) (by rw [c_31]; decide) (by rw [c_31]; rfl) (by decide) ?_
        refine lv_aload_n hx hb dX6_isDone_148 rfl (lv_at hl 1 rfl) ?_
        obtain ⟨r_32, w_34, hq_33, hf⟩ := of_b2 hf
        refine m_goWi (va_runV (As := []) (rest := []) ⟨hx, hb, hml, hown, hts⟩ (c_X6_closes l hz w hq_33) (cwV 0 hts gX6_isDone_X6_closes rfl rfl rfl (by decide +kernel) ⟨Nat.le_of_ble_eq_true rfl, Nat.le_of_ble_eq_true rfl⟩) (pre_X6 hK hz hW _) rfl rfl hl.1 rfl (lv_room (Nat.le_of_ble_eq_true rfl)) dX6_isDone_149 ⟨Nat.le_refl _, Nat.le_refl _⟩) hS (fun H locs hW hS => ?_)
        obtain ⟨g_35, hf⟩ := of_gd hf
        exact hret _ _ _ _ _ _ hf (bz_n g_35) hW hS dX6_isDone_152
      have hf := of_f c_31 hf
      refine lv_tableOut (tgt := 153) hx hb dX6_isDone_16 (by have qc_3 := lv_neT c_3 (show (1 : Int32).toInt = 1 by decide); have qc_8 := lv_neT c_8 (show (2 : Int32).toInt = 2 by decide); have qc_20 := lv_neT c_20 (show (3 : Int32).toInt = 3 by decide); have qc_26 := lv_neT c_26 (show (4 : Int32).toInt = 4 by decide); have qc_31 := lv_neT c_31 (show (5 : Int32).toInt = 5 by decide); omega) (by decide) ?_
      refine lv_aload_n hx hb dX6_isDone_153 rfl (lv_at hl 1 rfl) ?_
      refine get_X6_0 hx hb hts in_X6_isDone_X6 hown hK hz hW lk_X6_isDone_1 dX6_isDone_154 ?_
      refine lv_iload_n hx hb dX6_isDone_157 rfl (lv_at hl 3 rfl) ?_
      refine put_X5_3 hx hb hts in_X6_isDone_X5 hown hK hz hW hS (Nat.le_of_ble_eq_true rfl) lk_X6_isDone_6 dX6_isDone_158 (fun H locs hW hS => ?_)
      obtain ⟨w_36, ew_36⟩ : ∃ y : Mem, y = mS w (60+3*1) 3 x2 := ⟨_, rfl⟩
      have hW : hd z w_36 H := by rw [ew_36]; exact hW
      have hf := of_lt ew_36 hf
      refine lv_aload_n hx hb dX6_isDone_161 rfl (lv_at hl 1 rfl) ?_
      refine lv_iconst (v := 1) hx hb dX6_isDone_162 (by decide) ?_
      refine put_X6_8 hx hb hts in_X6_isDone_X6 hown hK hz hW hS (Or.inr rfl) lk_X6_isDone_7 dX6_isDone_163 (fun H locs hW hS => ?_)
      obtain ⟨w_37, ew_37⟩ : ∃ y : Mem, y = mS w_36 67 8 1 := ⟨_, rfl⟩
      have hW : hd z w_37 H := by rw [ew_37]; exact hW
      have hf := of_lt ew_37 hf
      refine lv_iload_n hx hb dX6_isDone_166 rfl (lv_at hl 3 rfl) ?_
      refine lv_bipush (v := 100) hx hb dX6_isDone_167 (by decide) ?_
      obtain ⟨r_38, hq_39, hf⟩ := of_bd hf
      refine m_goRi (va_runSN (As := [.int x2, .int 100]) (rest := []) ⟨hx, hb, hml, hown, hts⟩ (c_X10_isWithin l hz x2 100 w_37 hq_39) ⟨va_cnB 2 hts gX6_isDone_X10_isWithin_n80 rfl rfl rfl (nz_6 hK hz) (hts _ lk_X6_isDone_4) (by decide +kernel) ⟨Nat.le_of_ble_eq_true rfl, Nat.le_of_ble_eq_true rfl⟩, hts _ lk_X6_isDone_5, trivial⟩ (m_preS hK hW _) rfl rfl hl.1 rfl (lv_room (Nat.le_of_ble_eq_true rfl)) dX6_isDone_169 ⟨Nat.le_refl _, Nat.le_refl _⟩) ?_
      obtain ⟨g_40, hf⟩ := of_gd hf
      exact hret _ _ _ _ _ _ hf (bz_n g_40) hW hS dX6_isDone_172
    refine lv_if_eq (tgt := 12) hx hb dX6_isDone_4 (by decide) (fun c_41 => ?_) (fun c_41 => ?_)
    · refine lv_iload_n hx hb dX6_isDone_12 rfl (lv_at hl 2 rfl) ?_
      exact J_2 _ _ (by rw [if_pos c_41]) (lv_sub hl [0, 1, 2, 3] rfl)
    · refine lv_iload_n hx hb dX6_isDone_7 rfl (lv_at hl 2 rfl) ?_
      refine lv_ineg hx hb dX6_isDone_8 ?_
      refine lv_goto (tgt := 13) hx hb dX6_isDone_9 (by decide) ?_
      exact J_2 _ _ (by rw [if_neg c_41]) (lv_sub hl [0, 1, 2, 3] rfl)
  exact START _ _ hW va_S.rf
theorem in_X6_firstFault_X6 : ∀ w ∈ wsX60, w ∈ wsX6_firstFault := by decide +kernel
theorem in_X6_firstFault_X9 : ∀ w ∈ wsX90, w ∈ wsX6_firstFault := by decide +kernel
theorem lk_X6_firstFault_0 : Cond.constant RX6 28 1000000 ∈ wsX6_firstFault := by decide +kernel
theorem lk_X6_firstFault_1 : Cond.fieldLink RX6 29 "CamStitch$Tape" "length" "I" ∈ wsX6_firstFault := by decide +kernel
theorem lk_X6_firstFault_2 : Cond.fieldLink RX6 35 "CamStitch$Tape" "row" "[J" ∈ wsX6_firstFault := by decide +kernel
theorem lk_X6_firstFault_3 : Cond.fieldLink RX6 47 "CamStitch$Reader" "next" "I" ∈ wsX6_firstFault := by decide +kernel
set_option maxHeartbeats 4000000 in
set_option maxRecDepth 100000 in
theorem c_X6_firstFault (l : Launch) {z : LZ} (hz : IC z) (d1 : Nat) (hd1 : d1 < 6) (w : Mem) {r : Int32} {w' : Mem} (hf : f_X6_firstFault d1 w = some (r, w')) : Met l yX6_firstFault wsX6_firstFault (rm 3 67) (PZ z w [.ref (z.2.1 67), .ref (z.2.1 (48+2*d1))]) (QW z (some (.int r)) w') 0 0 (az z) := by
  refine mk_Wi (cc := cX6_firstFault) (maxL := 8) (by decide +kernel) rfl (Nat.le_of_ble_eq_true rfl) ?_
  intro p e s m args below meth c hx hb hml hts hown hK hW Q hret ls hl
  have hl : lv_has ls 8 [(0, .ref (z.2.1 67)), (1, .ref (z.2.1 (48+2*d1)))] := hl
  unfold f_X6_firstFault at hf
  have START : ∀ (H : Heap) (locs : List Loc), hd z w H → va_S (az z) s.heap H locs → W p l e (rm 3 67) s m args below meth c H locs 0 0 Q (F0 m 0 ls []) := by
    intro H locs hW hS
    refine lv_aload_n hx hb dX6_firstFault_0 rfl (lv_at hl 0 rfl) ?_
    obtain ⟨w_3, hq_2, hf⟩ := of_bd hf
    refine m_goWv (va_runV (As := []) (rest := []) ⟨hx, hb, hml, hown, hts⟩ (c_X6_start l hz w hq_2) (cwV 0 hts gX6_firstFault_X6_start rfl rfl rfl (by decide +kernel) ⟨Nat.le_of_ble_eq_true rfl, Nat.le_of_ble_eq_true rfl⟩) (pre_X6 hK hz hW _) rfl rfl hl.1 rfl (lv_room (Nat.le_of_ble_eq_true rfl)) dX6_firstFault_1 ⟨Nat.le_refl _, Nat.le_refl _⟩) hS (fun H locs hW hS => ?_)
    refine lv_iconst (v := 0) hx hb dX6_firstFault_4 (by decide) ?_
    refine lv_istore_n (lv' := [(2, .int 0), (0, .ref (z.2.1 67)), (1, .ref (z.2.1 (48+2*d1)))]) hx hb dX6_firstFault_5 rfl hl (by decide) rfl (fun ls hl => ?_)
    refine lv_iconst (v := 0) hx hb dX6_firstFault_6 (by decide) ?_
    refine lv_istore_n (lv' := [(3, .int 0), (2, .int 0), (0, .ref (z.2.1 67)), (1, .ref (z.2.1 (48+2*d1)))]) hx hb dX6_firstFault_7 rfl hl (by decide) rfl (fun ls hl => ?_)
    have L_7 : ∀ (n : Nat) (x2_4 : Int32) (x3_5 : Int32) (w_6 : Mem) (exL_7 : Sum (Int32 × Mem) (Mem)) (H : Heap) (locs : List Loc) (ls : Array Slot), f_X6_firstFault_L8 d1 n x2_4 x3_5 w_6 = some exL_7 → hd z w_6 H → va_S (az z) s.heap H locs → lv_has ls 8 [(0, .ref (z.2.1 67)), (1, .ref (z.2.1 (48+2*d1))), (2, .int x2_4), (3, .int x3_5)] → (∀ ret, exL_7 = .inl ret → some (ret) = some (r, w')) → (∀ x, exL_7 = .inr x → ∀ (H : Heap) (locs : List Loc) (ls : Array Slot), hd z (x) H → va_S (az z) s.heap H locs → lv_has ls 8 [(1, .ref (z.2.1 (48+2*d1)))] → W p l e (rm 3 67) s m args below meth c H locs 0 0 Q (F0 m 151 ls [])) → W p l e (rm 3 67) s m args below meth c H locs 0 0 Q (F0 m 8 ls []) := by
      intro n
      induction n with
      | zero =>
        intro x2_4 x3_5 w_6 exL_7 H locs ls hf
        have hf : (none : Option (Sum (Int32 × Mem) (Mem))) = some exL_7 := hf
        cases hf
      | succ n ihL_7 =>
        intro x2_4 x3_5 w_6 exL_7 H locs ls hf hW hS hl hRL_7 hEL_7
        rw [f_X6_firstFault_L8_s] at hf
        refine lv_iload_n hx hb dX6_firstFault_8 rfl (lv_at hl 3 rfl) ?_
        refine lv_ldc (v := 1000000) hx hb hown (hts _ lk_X6_firstFault_0) dX6_firstFault_9 ?_
        refine lv_icmp_ge (tgt := 151) hx hb dX6_firstFault_11 (by decide) (fun c_8 => ?_) (fun c_8 => ?_)
        · have hf := of_t c_8 hf
          exact hEL_7 _ (Option.some.inj hf).symm _ _ _ hW hS (lv_sub hl [1] rfl)
        · have hf := of_f c_8 hf
          refine lv_iload_n hx hb dX6_firstFault_14 rfl (lv_at hl 2 rfl) ?_
          refine lv_aload_n hx hb dX6_firstFault_15 rfl (lv_at hl 1 rfl) ?_
          refine get_X9_3 hx hb hts in_X6_firstFault_X9 hown hK hz hW hd1 lk_X6_firstFault_1 dX6_firstFault_16 ?_
          refine lv_icmp_ge (tgt := 151) hx hb dX6_firstFault_19 (by decide) (fun c_9 => ?_) (fun c_9 => ?_)
          · have hf := of_t c_9 hf
            exact hEL_7 _ (Option.some.inj hf).symm _ _ _ hW hS (lv_sub hl [1] rfl)
          · have hf := of_f c_9 hf
            refine lv_aload_n hx hb dX6_firstFault_22 rfl (lv_at hl 1 rfl) ?_
            refine get_X9_0 hx hb hts in_X6_firstFault_X9 hown hK hz hW hd1 lk_X6_firstFault_2 dX6_firstFault_23 ?_
            refine lv_iload_n hx hb dX6_firstFault_26 rfl (lv_at hl 2 rfl) ?_
            obtain ⟨g_10, hf⟩ := of_gd hf
            refine ld_AL400 hx hb hK hz hW hd1 g_10 dX6_firstFault_27 ?_
            refine lv_topl (fun v_11 ev_11 => ?_)
            have hf := of_lt ev_11 hf
            refine lv_l2i hx hb dX6_firstFault_28 rfl ?_
            refine lv_topi (fun v_12 ev_12 => ?_)
            have hf := of_lt ev_12 hf
            refine lv_istore (lv' := [(4, .int v_12), (0, .ref (z.2.1 67)), (1, .ref (z.2.1 (48+2*d1))), (2, .int x2_4), (3, .int x3_5)]) hx hb dX6_firstFault_29 hl (by decide) rfl (fun ls hl => ?_)
            refine lv_iload hx hb dX6_firstFault_31 (lv_at hl 0 rfl) ?_
            refine lv_if_ne (tgt := 49) hx hb dX6_firstFault_33 (by decide) (fun c_13 => ?_) (fun c_13 => ?_)
            · have hf := of_f c_13 hf
              refine lv_iload hx hb dX6_firstFault_49 (lv_at hl 0 rfl) ?_
              obtain ⟨r_14, hq_15, hf⟩ := of_bd hf
              refine m_goRi (va_runS (As := [.int v_12]) (rest := []) ⟨hx, hb, hml, hown, hts⟩ (c_X6_numbersOf l hz v_12 w_6 hq_15) (va_cwS 1 hts gX6_firstFault_X6_numbersOf rfl rfl rfl (by decide +kernel) ⟨Nat.le_of_ble_eq_true rfl, Nat.le_of_ble_eq_true rfl⟩) (m_preS hK hW _) rfl rfl hl.1 rfl (lv_room (Nat.le_of_ble_eq_true rfl)) dX6_firstFault_51 ⟨Nat.le_refl _, Nat.le_refl _⟩) ?_
              refine lv_istore (lv' := [(5, .int r_14), (4, .int v_12), (0, .ref (z.2.1 67)), (1, .ref (z.2.1 (48+2*d1))), (2, .int x2_4), (3, .int x3_5)]) hx hb dX6_firstFault_54 hl (by decide) rfl (fun ls hl => ?_)
              refine lv_iload hx hb dX6_firstFault_56 (lv_at hl 0 rfl) ?_
              refine lv_if_lt (tgt := 72) hx hb dX6_firstFault_58 (by decide) (fun c_16 => ?_) (fun c_16 => ?_)
              · have hf := of_t c_16 hf
                refine lv_iload_n hx hb dX6_firstFault_72 rfl (lv_at hl 4 rfl) ?_
                exact hret _ _ _ _ _ _ (hRL_7 _ (Option.some.inj hf).symm) hW hS dX6_firstFault_73
              · have hf := of_f c_16 hf
                refine lv_iload_n hx hb dX6_firstFault_61 rfl (lv_at hl 4 rfl) ?_
                refine lv_iload hx hb dX6_firstFault_62 (lv_at hl 0 rfl) ?_
                refine lv_iadd hx hb dX6_firstFault_64 ?_
                refine lv_aload_n hx hb dX6_firstFault_65 rfl (lv_at hl 3 rfl) ?_
                refine get_X9_3 hx hb hts in_X6_firstFault_X9 hown hK hz hW hd1 lk_X6_firstFault_1 dX6_firstFault_66 ?_
                refine lv_icmp_lt (tgt := 74) hx hb dX6_firstFault_69 (by decide) (fun c_17 => ?_) (fun c_17 => ?_)
                · have hf := of_t c_17 hf
                  refine lv_iload hx hb dX6_firstFault_74 (lv_at hl 0 rfl) ?_
                  obtain ⟨k_18, ek_18, hf⟩ := of_lz hf
                  have Jk_18 : ∀ (t_19 : Int32) (ls : Array Slot), k_18 t_19 = some exL_7 → lv_has ls 8 [(0, .ref (z.2.1 67)), (1, .ref (z.2.1 (48+2*d1))), (2, .int x2_4), (3, .int x3_5), (4, .int v_12), (5, .int r_14)] → W p l e (rm 3 67) s m args below meth c H locs 0 0 Q (F0 m 92 ls [.int t_19]) := by
                    intro t_19 ls hf hl
                    have hf := of_j1 ek_18 hf
                    refine lv_istore (lv' := [(6, .int t_19), (0, .ref (z.2.1 67)), (1, .ref (z.2.1 (48+2*d1))), (2, .int x2_4), (3, .int x3_5), (4, .int v_12), (5, .int r_14)]) hx hb dX6_firstFault_92 hl (by decide) rfl (fun ls hl => ?_)
                    refine lv_iload hx hb dX6_firstFault_94 (lv_at hl 6 rfl) ?_
                    refine lv_iconst (v := 1) hx hb dX6_firstFault_96 (by decide) ?_
                    obtain ⟨k_20, ek_20, hf⟩ := of_lz hf
                    have Jk_20 : ∀ (t_21 : Int32) (ls : Array Slot), k_20 t_21 = some exL_7 → lv_has ls 8 [(0, .ref (z.2.1 67)), (1, .ref (z.2.1 (48+2*d1))), (2, .int x2_4), (3, .int x3_5), (4, .int v_12), (5, .int r_14), (6, .int t_19)] → W p l e (rm 3 67) s m args below meth c H locs 0 0 Q (F0 m 113 ls [.int t_21]) := by
                      intro t_21 ls hf hl
                      have hf := of_j1 ek_20 hf
                      refine lv_istore (lv' := [(7, .int t_21), (0, .ref (z.2.1 67)), (1, .ref (z.2.1 (48+2*d1))), (2, .int x2_4), (3, .int x3_5), (4, .int v_12), (5, .int r_14), (6, .int t_19)]) hx hb dX6_firstFault_113 hl (by decide) rfl (fun ls hl => ?_)
                      refine lv_aload_n hx hb dX6_firstFault_115 rfl (lv_at hl 1 rfl) ?_
                      refine lv_iload_n hx hb dX6_firstFault_116 rfl (lv_at hl 3 rfl) ?_
                      refine lv_iconst (v := 1) hx hb dX6_firstFault_117 (by decide) ?_
                      refine lv_iadd hx hb dX6_firstFault_118 ?_
                      refine lv_iload hx hb dX6_firstFault_119 (lv_at hl 6 rfl) ?_
                      refine lv_iadd hx hb dX6_firstFault_121 ?_
                      refine put_X6_4 hx hb hts in_X6_firstFault_X6 hown hK hz hW hS lk_X6_firstFault_3 dX6_firstFault_122 (fun H locs hW hS => ?_)
                      obtain ⟨w_22, ew_22⟩ : ∃ y : Mem, y = mS w_6 67 4 ((x2_4 + 1) + r_14) := ⟨_, rfl⟩
                      have hW : hd z w_22 H := by rw [ew_22]; exact hW
                      have hf := of_lt ew_22 hf
                      refine lv_aload_n hx hb dX6_firstFault_125 rfl (lv_at hl 1 rfl) ?_
                      refine lv_iload hx hb dX6_firstFault_126 (lv_at hl 5 rfl) ?_
                      refine lv_iload hx hb dX6_firstFault_128 (lv_at hl 7 rfl) ?_
                      refine lv_iload hx hb dX6_firstFault_130 (lv_at hl 0 rfl) ?_
                      obtain ⟨r_23, w_25, hq_24, hf⟩ := of_b2 hf
                      refine m_goWi (va_runV (As := [.int v_12, .int t_19, .int t_21]) (rest := []) ⟨hx, hb, hml, hown, hts⟩ (c_X6_isDone l hz v_12 t_19 t_21 w_22 hq_24) (cwV 3 hts gX6_firstFault_X6_isDone rfl rfl rfl (by decide +kernel) ⟨Nat.le_of_ble_eq_true rfl, Nat.le_of_ble_eq_true rfl⟩) (pre_X6 hK hz hW _) rfl rfl hl.1 rfl (lv_room (Nat.le_of_ble_eq_true rfl)) dX6_firstFault_132 ⟨Nat.le_refl _, Nat.le_refl _⟩) hS (fun H locs hW hS => ?_)
                      refine lv_if_ne (tgt := 140) hx hb dX6_firstFault_135 (by decide) (fun c_26 => ?_) (fun c_26 => ?_)
                      · have hf := of_f c_26 hf
                        refine lv_aload_n hx hb dX6_firstFault_140 rfl (lv_at hl 1 rfl) ?_
                        refine get_X6_4 hx hb hts in_X6_firstFault_X6 hown hK hz hW lk_X6_firstFault_3 dX6_firstFault_141 ?_
                        refine lv_topi (fun v_27 ev_27 => ?_)
                        have hf := of_lt ev_27 hf
                        refine lv_istore_n (lv' := [(2, .int v_27), (7, .int t_21), (0, .ref (z.2.1 67)), (1, .ref (z.2.1 (48+2*d1))), (3, .int x3_5), (4, .int v_12), (5, .int r_14), (6, .int t_19)]) hx hb dX6_firstFault_144 rfl hl (by decide) rfl (fun ls hl => ?_)
                        obtain ⟨x3_28, ex3_28⟩ : ∃ y : Int32, y = x3_5 + 1 := ⟨_, rfl⟩
                        have hf := of_lt ex3_28 hf
                        refine lv_iinc (v := x3_28) (lv' := [(3, .int x3_28), (2, .int v_27), (7, .int t_21), (0, .ref (z.2.1 67)), (1, .ref (z.2.1 (48+2*d1))), (4, .int v_12), (5, .int r_14), (6, .int t_19)]) hx hb dX6_firstFault_145 hl (k := 4) rfl (by rw [ex3_28]; rfl) (by decide) rfl (fun ls hl => ?_)
                        refine lv_goto (tgt := 8) hx hb dX6_firstFault_148 (by decide) ?_
                        exact ihL_7 _ _ _ _ _ _ _ hf hW hS (lv_sub hl [3, 4, 1, 0] rfl) hRL_7 hEL_7
                      · have hf := of_t c_26 hf
                        refine lv_iload_n hx hb dX6_firstFault_138 rfl (lv_at hl 3 rfl) ?_
                        exact hret _ _ _ _ _ _ (hRL_7 _ (Option.some.inj hf).symm) hW hS dX6_firstFault_139
                    refine lv_icmp_le (tgt := 112) hx hb dX6_firstFault_97 (by decide) (fun c_29 => ?_) (fun c_29 => ?_)
                    · have hf := of_t c_29 hf
                      refine lv_iconst (v := 0) hx hb dX6_firstFault_112 (by decide) ?_
                      exact Jk_20 _ _ hf (lv_sub hl [1, 2, 3, 4, 5, 6, 0] rfl)
                    · have hf := of_f c_29 hf
                      refine lv_aload_n hx hb dX6_firstFault_100 rfl (lv_at hl 2 rfl) ?_
                      refine get_X9_0 hx hb hts in_X6_firstFault_X9 hown hK hz hW hd1 lk_X6_firstFault_2 dX6_firstFault_101 ?_
                      refine lv_iload_n hx hb dX6_firstFault_104 rfl (lv_at hl 3 rfl) ?_
                      refine lv_iconst (v := 2) hx hb dX6_firstFault_105 (by decide) ?_
                      refine lv_iadd hx hb dX6_firstFault_106 ?_
                      obtain ⟨g_30, hf⟩ := of_gd hf
                      refine ld_AL400 hx hb hK hz hW hd1 g_30 dX6_firstFault_107 ?_
                      refine lv_topl (fun v_31 ev_31 => ?_)
                      have hf := of_lt ev_31 hf
                      refine lv_l2i hx hb dX6_firstFault_108 rfl ?_
                      refine lv_goto (tgt := 113) hx hb dX6_firstFault_109 (by decide) ?_
                      exact Jk_20 _ _ hf (lv_sub hl [1, 2, 3, 4, 5, 6, 0] rfl)
                  refine lv_if_le (tgt := 91) hx hb dX6_firstFault_76 (by decide) (fun c_32 => ?_) (fun c_32 => ?_)
                  · have hf := of_t c_32 hf
                    refine lv_iconst (v := 0) hx hb dX6_firstFault_91 (by decide) ?_
                    exact Jk_18 _ _ hf (lv_sub hl [2, 3, 4, 5, 1, 0] rfl)
                  · have hf := of_f c_32 hf
                    refine lv_aload_n hx hb dX6_firstFault_79 rfl (lv_at hl 3 rfl) ?_
                    refine get_X9_0 hx hb hts in_X6_firstFault_X9 hown hK hz hW hd1 lk_X6_firstFault_2 dX6_firstFault_80 ?_
                    refine lv_iload_n hx hb dX6_firstFault_83 rfl (lv_at hl 4 rfl) ?_
                    refine lv_iconst (v := 1) hx hb dX6_firstFault_84 (by decide) ?_
                    refine lv_iadd hx hb dX6_firstFault_85 ?_
                    obtain ⟨g_33, hf⟩ := of_gd hf
                    refine ld_AL400 hx hb hK hz hW hd1 g_33 dX6_firstFault_86 ?_
                    refine lv_topl (fun v_34 ev_34 => ?_)
                    have hf := of_lt ev_34 hf
                    refine lv_l2i hx hb dX6_firstFault_87 rfl ?_
                    refine lv_goto (tgt := 92) hx hb dX6_firstFault_88 (by decide) ?_
                    exact Jk_18 _ _ hf (lv_sub hl [2, 3, 4, 5, 1, 0] rfl)
                · have hf := of_f c_17 hf
                  refine lv_iload_n hx hb dX6_firstFault_72 rfl (lv_at hl 4 rfl) ?_
                  exact hret _ _ _ _ _ _ (hRL_7 _ (Option.some.inj hf).symm) hW hS dX6_firstFault_73
            · have hf := of_t c_13 hf
              refine lv_aload_n hx hb dX6_firstFault_36 rfl (lv_at hl 1 rfl) ?_
              obtain ⟨r_35, hq_36, hf⟩ := of_bd hf
              refine m_goRi (va_runV (As := []) (rest := []) ⟨hx, hb, hml, hown, hts⟩ (c_X6_canEnd l hz w_6 hq_36) (cwV 0 hts gX6_firstFault_X6_canEnd rfl rfl rfl (by decide +kernel) ⟨Nat.le_of_ble_eq_true rfl, Nat.le_of_ble_eq_true rfl⟩) (pre_X6 hK hz hW _) rfl rfl hl.1 rfl (lv_room (Nat.le_of_ble_eq_true rfl)) dX6_firstFault_37 ⟨Nat.le_refl _, Nat.le_refl _⟩) ?_
              have J_38 : ∀ (v_37 : Int32) (ls : Array Slot), v_37 = (if r_35 = 0 then x2_4 else (-1)) → lv_has ls 8 [] → W p l e (rm 3 67) s m args below meth c H locs 0 0 Q (F0 m 48 ls [.int v_37]) := by
                intro v_37 ls ev_37 hl
                have hf := of_lt ev_37 hf
                exact hret _ _ _ _ _ _ (hRL_7 _ (Option.some.inj hf).symm) hW hS dX6_firstFault_48
              refine lv_if_eq (tgt := 47) hx hb dX6_firstFault_40 (by decide) (fun c_39 => ?_) (fun c_39 => ?_)
              · refine lv_iload_n hx hb dX6_firstFault_47 rfl (lv_at hl 3 rfl) ?_
                exact J_38 _ _ (by rw [if_pos c_39]) (lv_sub hl [] rfl)
              · refine lv_iconst (v := (-1)) hx hb dX6_firstFault_43 (by decide) ?_
                refine lv_goto (tgt := 48) hx hb dX6_firstFault_44 (by decide) ?_
                exact J_38 _ _ (by rw [if_neg c_39]) (lv_sub hl [] rfl)
    obtain ⟨ex_41, hq_40, hf⟩ := of_bd hf
    refine L_7 FU _ _ _ _ _ _ _ hq_40 hW hS (lv_sub hl [2, 3, 1, 0] rfl) (fun ret he => by subst he; exact hf) (fun x he H locs ls hW hS hl => ?_)
    subst he
    obtain ⟨w_42, ew_42⟩ : ∃ y, y = x := ⟨_, rfl⟩
    subst ew_42
    have hf := of_sr hf
    have hW : hd z w_42 H := hW
    have hl : lv_has ls 8 [(1, .ref (z.2.1 (48+2*d1)))] := hl
    refine lv_aload_n hx hb dX6_firstFault_151 rfl (lv_at hl 0 rfl) ?_
    refine get_X9_3 hx hb hts in_X6_firstFault_X9 hown hK hz hW hd1 lk_X6_firstFault_1 dX6_firstFault_152 ?_
    exact hret _ _ _ _ _ _ hf hW hS dX6_firstFault_155
  exact START _ _ hW va_S.rf
theorem in_X7_isNamed_X1 : ∀ w ∈ wsX10, w ∈ wsX7_isNamed := by decide +kernel
theorem in_X7_isNamed_X9 : ∀ w ∈ wsX90, w ∈ wsX7_isNamed := by decide +kernel
theorem lk_X7_isNamed_0 : Cond.fieldLink RX7 24 "CamStitch$Tape" "length" "I" ∈ wsX7_isNamed := by decide +kernel
theorem lk_X7_isNamed_1 : Cond.fieldLink RX7 29 "CamStitch$Tape" "row" "[J" ∈ wsX7_isNamed := by decide +kernel
theorem lk_X7_isNamed_2 : Cond.fieldLink RX7 33 "CamStitch$Disc" "swings" "[I" ∈ wsX7_isNamed := by decide +kernel
theorem lk_X7_isNamed_3 : Cond.fieldLink RX7 15 "CamStitch$Disc" "stitches" "I" ∈ wsX7_isNamed := by decide +kernel
set_option maxHeartbeats 4000000 in
set_option maxRecDepth 100000 in
theorem c_X7_isNamed (l : Launch) {z : LZ} (hz : IC z) (d0 : Nat) (hd0 : d0 < 6) (d1 : Nat) (hd1 : d1 < 16) (x2 : Int32) (x3 : Int32) (x4 : Int32) (w : Mem) {r : Int32} (hf : f_X7_isNamed d0 d1 x2 x3 x4 w = some r) : Met l yX7_isNamed wsX7_isNamed (rm 0 0) (PZ z w [.ref (z.2.1 (48+2*d0)), .ref (z.2.1 (3*d1)), .int x2, .int x3, .int x4]) (QR (some (.int r))) 0 0 (fun _ => False) := by
  refine mk_Rz (cc := cX7_isNamed) (maxL := 9) (by decide +kernel) rfl (Nat.le_of_ble_eq_true rfl) ?_
  intro p e s m args below meth c hx hb hml hts hown hK hW Q hret ls hl
  have hl : lv_has ls 9 [(0, .ref (z.2.1 (48+2*d0))), (1, .ref (z.2.1 (3*d1))), (2, .int x2), (3, .int x3), (4, .int x4)] := hl
  unfold f_X7_isNamed at hf
  refine lv_iload_n hx hb dX7_isNamed_0 rfl (lv_at hl 2 rfl) ?_
  refine lv_istore (lv' := [(5, .int x2), (0, .ref (z.2.1 (48+2*d0))), (1, .ref (z.2.1 (3*d1))), (2, .int x2), (3, .int x3), (4, .int x4)]) hx hb dX7_isNamed_1 hl (by decide) rfl (fun ls hl => ?_)
  refine lv_iconst (v := 0) hx hb dX7_isNamed_3 (by decide) ?_
  refine lv_istore (lv' := [(6, .int 0), (5, .int x2), (0, .ref (z.2.1 (48+2*d0))), (1, .ref (z.2.1 (3*d1))), (2, .int x2), (3, .int x3), (4, .int x4)]) hx hb dX7_isNamed_4 hl (by decide) rfl (fun ls hl => ?_)
  have L_3 : ∀ (n : Nat) (x5_1 : Int32) (x6_2 : Int32) (exL_3 : Sum (Int32) (Unit)) (ls : Array Slot), f_X7_isNamed_L6 w d0 d1 x3 x4 n x5_1 x6_2 = some exL_3 → lv_has ls 9 [(0, .ref (z.2.1 (48+2*d0))), (1, .ref (z.2.1 (3*d1))), (3, .int x3), (4, .int x4), (5, .int x5_1), (6, .int x6_2)] → (∀ ret, exL_3 = .inl ret → some (ret) = some r) → (∀ x, exL_3 = .inr x → ∀ (ls : Array Slot), lv_has ls 9 [] → W p l e (rm 0 0) s m args below meth c s.heap [] 0 0 Q (F0 m 100 ls [])) → W p l e (rm 0 0) s m args below meth c s.heap [] 0 0 Q (F0 m 6 ls []) := by
    intro n
    induction n with
    | zero =>
      intro x5_1 x6_2 exL_3 ls hf
      have hf : (none : Option (Sum (Int32) (Unit))) = some exL_3 := hf
      cases hf
    | succ n ihL_3 =>
      intro x5_1 x6_2 exL_3 ls hf hl hRL_3 hEL_3
      rw [f_X7_isNamed_L6_s] at hf
      refine lv_iload hx hb dX7_isNamed_6 (lv_at hl 5 rfl) ?_
      refine lv_aload_n hx hb dX7_isNamed_8 rfl (lv_at hl 0 rfl) ?_
      refine get_X9_3 hx hb hts in_X7_isNamed_X9 hown hK hz hW hd0 lk_X7_isNamed_0 dX7_isNamed_9 ?_
      refine lv_icmp_ge (tgt := 100) hx hb dX7_isNamed_12 (by decide) (fun c_4 => ?_) (fun c_4 => ?_)
      · have hf := of_t c_4 hf
        exact hEL_3 _ (Option.some.inj hf).symm _ (lv_sub hl [] rfl)
      · have hf := of_f c_4 hf
        refine lv_aload_n hx hb dX7_isNamed_15 rfl (lv_at hl 0 rfl) ?_
        refine get_X9_0 hx hb hts in_X7_isNamed_X9 hown hK hz hW hd0 lk_X7_isNamed_1 dX7_isNamed_16 ?_
        refine lv_iload hx hb dX7_isNamed_19 (lv_at hl 5 rfl) ?_
        obtain ⟨g_5, hf⟩ := of_gd hf
        refine ld_AL400 hx hb hK hz hW hd0 g_5 dX7_isNamed_21 ?_
        refine lv_topl (fun v_6 ev_6 => ?_)
        have hf := of_lt ev_6 hf
        refine lv_l2i hx hb dX7_isNamed_22 rfl ?_
        refine lv_topi (fun v_7 ev_7 => ?_)
        have hf := of_lt ev_7 hf
        refine lv_istore (lv' := [(7, .int v_7), (0, .ref (z.2.1 (48+2*d0))), (1, .ref (z.2.1 (3*d1))), (3, .int x3), (4, .int x4), (5, .int x5_1), (6, .int x6_2)]) hx hb dX7_isNamed_23 hl (by decide) rfl (fun ls hl => ?_)
        refine lv_aload_n hx hb dX7_isNamed_25 rfl (lv_at hl 2 rfl) ?_
        refine get_X1_0 hx hb hts in_X7_isNamed_X1 hown hK hz hW hd1 lk_X7_isNamed_2 dX7_isNamed_26 ?_
        refine lv_iload hx hb dX7_isNamed_29 (lv_at hl 5 rfl) ?_
        obtain ⟨g_8, hf⟩ := of_gd hf
        refine ld_AI48 hx hb hK hz hW (p48_1 hd1) g_8 dX7_isNamed_31 ?_
        refine lv_topi (fun v_9 ev_9 => ?_)
        have hf := of_lt ev_9 hf
        refine lv_istore (lv' := [(8, .int v_9), (7, .int v_7), (0, .ref (z.2.1 (48+2*d0))), (1, .ref (z.2.1 (3*d1))), (3, .int x3), (4, .int x4), (5, .int x5_1), (6, .int x6_2)]) hx hb dX7_isNamed_32 hl (by decide) rfl (fun ls hl => ?_)
        refine lv_iload hx hb dX7_isNamed_34 (lv_at hl 1 rfl) ?_
        refine lv_bipush (v := (-128)) hx hb dX7_isNamed_36 (by decide) ?_
        obtain ⟨k_10, ek_10, hf⟩ := of_lz hf
        have Jk_10 : ∀ (ls : Array Slot), k_10 () = some exL_3 → lv_has ls 9 [(0, .ref (z.2.1 (48+2*d0))), (1, .ref (z.2.1 (3*d1))), (3, .int x3), (4, .int x4), (5, .int x5_1), (6, .int x6_2)] → W p l e (rm 0 0) s m args below meth c s.heap [] 0 0 Q (F0 m 60 ls []) := by
          intro ls hf hl
          have hf := of_j1 ek_10 hf
          refine lv_iload hx hb dX7_isNamed_60 (lv_at hl 4 rfl) ?_
          refine lv_iload_n hx hb dX7_isNamed_62 rfl (lv_at hl 2 rfl) ?_
          refine lv_iadd hx hb dX7_isNamed_63 ?_
          refine lv_topi (fun v_11 ev_11 => ?_)
          have hf := of_lt ev_11 hf
          refine lv_istore (lv' := [(5, .int v_11), (0, .ref (z.2.1 (48+2*d0))), (1, .ref (z.2.1 (3*d1))), (3, .int x3), (4, .int x4), (6, .int x6_2)]) hx hb dX7_isNamed_64 hl (by decide) rfl (fun ls hl => ?_)
          refine lv_iload hx hb dX7_isNamed_66 (lv_at hl 0 rfl) ?_
          have J_13 : ∀ (v_12 : Int32) (ls : Array Slot), v_12 = (if 0 ≤ v_11 then (if v_11 < (w.1 (3*d1) 2) then v_11 else 0) else ((w.1 (3*d1) 2) - 1)) → lv_has ls 9 [(0, .ref (z.2.1 (48+2*d0))), (1, .ref (z.2.1 (3*d1))), (3, .int x3), (4, .int x4), (5, .int v_12), (6, .int x6_2)] → W p l e (rm 0 0) s m args below meth c s.heap [] 0 0 Q (F0 m 94 ls []) := by
            intro v_12 ls ev_12 hl
            have hf := of_lt ev_12 hf
            obtain ⟨x6_14, ex6_14⟩ : ∃ y : Int32, y = x6_2 + 1 := ⟨_, rfl⟩
            have hf := of_lt ex6_14 hf
            refine lv_iinc (v := x6_14) (lv' := [(6, .int x6_14), (0, .ref (z.2.1 (48+2*d0))), (1, .ref (z.2.1 (3*d1))), (3, .int x3), (4, .int x4), (5, .int v_12)]) hx hb dX7_isNamed_94 hl (k := 5) rfl (by rw [ex6_14]; rfl) (by decide) rfl (fun ls hl => ?_)
            refine lv_goto (tgt := 6) hx hb dX7_isNamed_97 (by decide) ?_
            exact ihL_3 _ _ _ _ hf (lv_sub hl [1, 2, 3, 4, 5, 0] rfl) hRL_3 hEL_3
          refine lv_if_ge (tgt := 82) hx hb dX7_isNamed_68 (by decide) (fun c_15 => ?_) (fun c_15 => ?_)
          · refine lv_iload hx hb dX7_isNamed_82 (lv_at hl 0 rfl) ?_
            refine lv_aload_n hx hb dX7_isNamed_84 rfl (lv_at hl 2 rfl) ?_
            refine get_X1_2 hx hb hts in_X7_isNamed_X1 hown hK hz hW hd1 lk_X7_isNamed_3 dX7_isNamed_85 ?_
            refine lv_icmp_lt (tgt := 94) hx hb dX7_isNamed_88 (by decide) (fun c_16 => ?_) (fun c_16 => ?_)
            · exact J_13 _ _ (by rw [if_pos c_15, if_pos c_16]) (lv_sub hl [1, 2, 3, 4, 0, 5] rfl)
            · refine lv_iconst (v := 0) hx hb dX7_isNamed_91 (by decide) ?_
              refine lv_istore (lv' := [(5, .int 0), (0, .ref (z.2.1 (48+2*d0))), (1, .ref (z.2.1 (3*d1))), (3, .int x3), (4, .int x4), (6, .int x6_2)]) hx hb dX7_isNamed_92 hl (by decide) rfl (fun ls hl => ?_)
              exact J_13 _ _ (by rw [if_pos c_15, if_neg c_16]) (lv_sub hl [1, 2, 3, 4, 0, 5] rfl)
          · refine lv_aload_n hx hb dX7_isNamed_71 rfl (lv_at hl 2 rfl) ?_
            refine get_X1_2 hx hb hts in_X7_isNamed_X1 hown hK hz hW hd1 lk_X7_isNamed_3 dX7_isNamed_72 ?_
            refine lv_iconst (v := 1) hx hb dX7_isNamed_75 (by decide) ?_
            refine lv_isub hx hb dX7_isNamed_76 ?_
            refine lv_istore (lv' := [(5, .int ((w.1 (3*d1) 2) - 1)), (0, .ref (z.2.1 (48+2*d0))), (1, .ref (z.2.1 (3*d1))), (3, .int x3), (4, .int x4), (6, .int x6_2)]) hx hb dX7_isNamed_77 hl (by decide) rfl (fun ls hl => ?_)
            refine lv_goto (tgt := 94) hx hb dX7_isNamed_79 (by decide) ?_
            exact J_13 _ _ (by rw [if_neg c_15]) (lv_sub hl [1, 2, 3, 4, 0, 5] rfl)
        refine lv_icmp_eq (tgt := 60) hx hb dX7_isNamed_38 (by decide) (fun c_17 => ?_) (fun c_17 => ?_)
        · have hf := of_t c_17 hf
          exact Jk_10  _ hf (lv_sub hl [2, 3, 4, 5, 6, 7] rfl)
        · have hf := of_f c_17 hf
          refine lv_iload hx hb dX7_isNamed_41 (lv_at hl 1 rfl) ?_
          refine lv_iload hx hb dX7_isNamed_43 (lv_at hl 0 rfl) ?_
          refine lv_iload hx hb dX7_isNamed_45 (lv_at hl 5 rfl) ?_
          refine lv_isub hx hb dX7_isNamed_47 ?_
          refine lv_icmp_lt (tgt := 58) hx hb dX7_isNamed_48 (by decide) (fun c_18 => ?_) (fun c_18 => ?_)
          · have hf := of_t c_18 hf
            refine lv_iconst (v := 0) hx hb dX7_isNamed_58 (by decide) ?_
            exact hret _ _ _ (hRL_3 _ (Option.some.inj hf).symm) rfl dX7_isNamed_59
          · have hf := of_f c_18 hf
            refine lv_iload hx hb dX7_isNamed_51 (lv_at hl 1 rfl) ?_
            refine lv_iload hx hb dX7_isNamed_53 (lv_at hl 0 rfl) ?_
            refine lv_icmp_le (tgt := 60) hx hb dX7_isNamed_55 (by decide) (fun c_19 => ?_) (fun c_19 => ?_)
            · have hf := of_t c_19 hf
              exact Jk_10  _ hf (lv_sub hl [2, 3, 4, 5, 6, 7] rfl)
            · have hf := of_f c_19 hf
              refine lv_iconst (v := 0) hx hb dX7_isNamed_58 (by decide) ?_
              exact hret _ _ _ (hRL_3 _ (Option.some.inj hf).symm) rfl dX7_isNamed_59
  obtain ⟨ex_21, hq_20, hf⟩ := of_bd hf
  refine L_3 FU _ _ _ _ hq_20 (lv_sub hl [2, 3, 5, 6, 1, 0] rfl) (fun ret he => by subst he; exact hf) (fun x he ls hl => ?_)
  subst he
  have hf := of_sr hf
  have hl : lv_has ls 9 [] := hl
  refine lv_iconst (v := 1) hx hb dX7_isNamed_100 (by decide) ?_
  exact hret _ _ _ hf rfl dX7_isNamed_101
theorem in_X7_find_X1 : ∀ w ∈ wsX10, w ∈ wsX7_find := by decide +kernel
theorem in_X7_find_X7 : ∀ w ∈ wsX70, w ∈ wsX7_find := by decide +kernel
theorem lk_X7_find_0 : Cond.fieldLink RX7 9 "CamStitch$Rim" "found" "I" ∈ wsX7_find := by decide +kernel
theorem lk_X7_find_1 : Cond.fieldLink RX7 15 "CamStitch$Disc" "stitches" "I" ∈ wsX7_find := by decide +kernel
set_option maxHeartbeats 4000000 in
set_option maxRecDepth 100000 in
theorem c_X7_find (l : Launch) {z : LZ} (hz : IC z) (d1 : Nat) (hd1 : d1 < 6) (x3 : Int32) (x4 : Int32) (w : Mem) {r : Int32} {w' : Mem} (hf : f_X7_find d1 x3 x4 w = some (r, w')) : Met l yX7_find wsX7_find (rm 1 28) (PZ z w [.ref (z.2.1 82), .ref (z.2.1 (48+2*d1)), .ref (z.2.1 70), .int x3, .int x4]) (QW z (some (.int r)) w') 0 0 (az z) := by
  refine mk_Wi (cc := cX7_find) (maxL := 8) (by decide +kernel) rfl (Nat.le_of_ble_eq_true rfl) ?_
  intro p e s m args below meth c hx hb hml hts hown hK hW Q hret ls hl
  have hl : lv_has ls 8 [(0, .ref (z.2.1 82)), (1, .ref (z.2.1 (48+2*d1))), (2, .ref (z.2.1 70)), (3, .int x3), (4, .int x4)] := hl
  unfold f_X7_find at hf
  have START : ∀ (H : Heap) (locs : List Loc), hd z w H → va_S (az z) s.heap H locs → W p l e (rm 1 28) s m args below meth c H locs 0 0 Q (F0 m 0 ls []) := by
    intro H locs hW hS
    refine lv_aload_n hx hb dX7_find_0 rfl (lv_at hl 0 rfl) ?_
    refine lv_iconst (v := 0) hx hb dX7_find_1 (by decide) ?_
    refine put_X7_0 hx hb hts in_X7_find_X7 hown hK hz hW hS lk_X7_find_0 dX7_find_2 (fun H locs hW hS => ?_)
    obtain ⟨w_1, ew_1⟩ : ∃ y : Mem, y = mS w 82 0 0 := ⟨_, rfl⟩
    have hW : hd z w_1 H := by rw [ew_1]; exact hW
    have hf := of_lt ew_1 hf
    refine lv_iconst (v := 0) hx hb dX7_find_5 (by decide) ?_
    refine lv_istore (lv' := [(5, .int 0), (0, .ref (z.2.1 82)), (1, .ref (z.2.1 (48+2*d1))), (2, .ref (z.2.1 70)), (3, .int x3), (4, .int x4)]) hx hb dX7_find_6 hl (by decide) rfl (fun ls hl => ?_)
    have L_4 : ∀ (n : Nat) (x5_2 : Int32) (w_3 : Mem) (exL_4 : Sum (Int32 × Mem) (Mem)) (H : Heap) (locs : List Loc) (ls : Array Slot), f_X7_find_L8 d1 x3 x4 n x5_2 w_3 = some exL_4 → hd z w_3 H → va_S (az z) s.heap H locs → lv_has ls 8 [(0, .ref (z.2.1 82)), (1, .ref (z.2.1 (48+2*d1))), (2, .ref (z.2.1 70)), (3, .int x3), (4, .int x4), (5, .int x5_2)] → (∀ ret, exL_4 = .inl ret → some (ret) = some (r, w')) → (∀ x, exL_4 = .inr x → ∀ (H : Heap) (locs : List Loc) (ls : Array Slot), hd z (x) H → va_S (az z) s.heap H locs → lv_has ls 8 [] → W p l e (rm 1 28) s m args below meth c H locs 0 0 Q (F0 m 114 ls [])) → W p l e (rm 1 28) s m args below meth c H locs 0 0 Q (F0 m 8 ls []) := by
      intro n
      induction n with
      | zero =>
        intro x5_2 w_3 exL_4 H locs ls hf
        have hf : (none : Option (Sum (Int32 × Mem) (Mem))) = some exL_4 := hf
        cases hf
      | succ n ihL_4 =>
        intro x5_2 w_3 exL_4 H locs ls hf hW hS hl hRL_4 hEL_4
        rw [f_X7_find_L8_s] at hf
        refine lv_iload hx hb dX7_find_8 (lv_at hl 5 rfl) ?_
        refine lv_bipush (v := 8) hx hb dX7_find_10 (by decide) ?_
        refine lv_icmp_ge (tgt := 114) hx hb dX7_find_12 (by decide) (fun c_5 => ?_) (fun c_5 => ?_)
        · have hf := of_t c_5 hf
          exact hEL_4 _ (Option.some.inj hf).symm _ _ _ hW hS (lv_sub hl [] rfl)
        · have hf := of_f c_5 hf
          refine lv_iconst (v := 1) hx hb dX7_find_15 (by decide) ?_
          refine lv_istore (lv' := [(6, .int 1), (0, .ref (z.2.1 82)), (1, .ref (z.2.1 (48+2*d1))), (2, .ref (z.2.1 70)), (3, .int x3), (4, .int x4), (5, .int x5_2)]) hx hb dX7_find_16 hl (by decide) rfl (fun ls hl => ?_)
          have L_8 : ∀ (n : Nat) (x6_6 : Int32) (w_7 : Mem) (exL_8 : Sum (Int32 × Mem) (Mem)) (H : Heap) (locs : List Loc) (ls : Array Slot), f_X7_find_L18 d1 x3 x4 x5_2 n x6_6 w_7 = some exL_8 → hd z w_7 H → va_S (az z) s.heap H locs → lv_has ls 8 [(0, .ref (z.2.1 82)), (1, .ref (z.2.1 (48+2*d1))), (2, .ref (z.2.1 70)), (3, .int x3), (4, .int x4), (5, .int x5_2), (6, .int x6_6)] → (∀ ret, exL_8 = .inl ret → some (.inl ret) = some exL_4) → (∀ x, exL_8 = .inr x → ∀ (H : Heap) (locs : List Loc) (ls : Array Slot), hd z (x) H → va_S (az z) s.heap H locs → lv_has ls 8 [(0, .ref (z.2.1 82)), (1, .ref (z.2.1 (48+2*d1))), (2, .ref (z.2.1 70)), (3, .int x3), (4, .int x4), (5, .int x5_2)] → W p l e (rm 1 28) s m args below meth c H locs 0 0 Q (F0 m 108 ls [])) → W p l e (rm 1 28) s m args below meth c H locs 0 0 Q (F0 m 18 ls []) := by
            intro n
            induction n with
            | zero =>
              intro x6_6 w_7 exL_8 H locs ls hf
              have hf : (none : Option (Sum (Int32 × Mem) (Mem))) = some exL_8 := hf
              cases hf
            | succ n ihL_8 =>
              intro x6_6 w_7 exL_8 H locs ls hf hW hS hl hRL_8 hEL_8
              rw [f_X7_find_L18_s] at hf
              refine lv_iload hx hb dX7_find_18 (lv_at hl 6 rfl) ?_
              refine lv_iconst (v := (-1)) hx hb dX7_find_20 (by decide) ?_
              refine lv_icmp_lt (tgt := 108) hx hb dX7_find_21 (by decide) (fun c_9 => ?_) (fun c_9 => ?_)
              · have hf := of_t c_9 hf
                exact hEL_8 _ (Option.some.inj hf).symm _ _ _ hW hS (lv_sub hl [0, 1, 2, 3, 4, 5] rfl)
              · have hf := of_f c_9 hf
                refine lv_iconst (v := 0) hx hb dX7_find_24 (by decide) ?_
                refine lv_istore (lv' := [(7, .int 0), (0, .ref (z.2.1 82)), (1, .ref (z.2.1 (48+2*d1))), (2, .ref (z.2.1 70)), (3, .int x3), (4, .int x4), (5, .int x5_2), (6, .int x6_6)]) hx hb dX7_find_25 hl (by decide) rfl (fun ls hl => ?_)
                have L_12 : ∀ (n : Nat) (x7_10 : Int32) (w_11 : Mem) (exL_12 : Sum (Int32 × Mem) (Mem)) (H : Heap) (locs : List Loc) (ls : Array Slot), f_X7_find_L27 d1 x3 x4 x5_2 x6_6 n x7_10 w_11 = some exL_12 → hd z w_11 H → va_S (az z) s.heap H locs → lv_has ls 8 [(0, .ref (z.2.1 82)), (1, .ref (z.2.1 (48+2*d1))), (2, .ref (z.2.1 70)), (3, .int x3), (4, .int x4), (5, .int x5_2), (6, .int x6_6), (7, .int x7_10)] → (∀ ret, exL_12 = .inl ret → some (.inl ret) = some exL_8) → (∀ x, exL_12 = .inr x → ∀ (H : Heap) (locs : List Loc) (ls : Array Slot), hd z (x) H → va_S (az z) s.heap H locs → lv_has ls 8 [(0, .ref (z.2.1 82)), (1, .ref (z.2.1 (48+2*d1))), (2, .ref (z.2.1 70)), (3, .int x3), (4, .int x4), (5, .int x5_2), (6, .int x6_6)] → W p l e (rm 1 28) s m args below meth c H locs 0 0 Q (F0 m 102 ls [])) → W p l e (rm 1 28) s m args below meth c H locs 0 0 Q (F0 m 27 ls []) := by
                  intro n
                  induction n with
                  | zero =>
                    intro x7_10 w_11 exL_12 H locs ls hf
                    have hf : (none : Option (Sum (Int32 × Mem) (Mem))) = some exL_12 := hf
                    cases hf
                  | succ n ihL_12 =>
                    intro x7_10 w_11 exL_12 H locs ls hf hW hS hl hRL_12 hEL_12
                    rw [f_X7_find_L27_s] at hf
                    refine lv_iload hx hb dX7_find_27 (lv_at hl 7 rfl) ?_
                    refine lv_aload_n hx hb dX7_find_29 rfl (lv_at hl 2 rfl) ?_
                    refine lv_iload hx hb dX7_find_30 (lv_at hl 5 rfl) ?_
                    obtain ⟨g_13, hf⟩ := of_gd hf
                    refine ld_AD hx hb hK hz hW g_13 dX7_find_32 ?_
                    refine get_X1_2 hx hb hts in_X7_find_X1 hown hK hz hW (p8_16 (inb_lt g_13)) lk_X7_find_1 dX7_find_33 ?_
                    refine lv_topi (fun v_14 ev_14 => ?_)
                    have hf := of_lt ev_14 hf
                    refine lv_icmp_ge (tgt := 102) hx hb dX7_find_36 (by decide) (fun c_15 => ?_) (fun c_15 => ?_)
                    · have hf := of_t c_15 hf
                      exact hEL_12 _ (Option.some.inj hf).symm _ _ _ hW hS (lv_sub hl [0, 1, 2, 3, 4, 5, 6] rfl)
                    · have hf := of_f c_15 hf
                      refine lv_aload_n hx hb dX7_find_39 rfl (lv_at hl 1 rfl) ?_
                      refine lv_aload_n hx hb dX7_find_40 rfl (lv_at hl 2 rfl) ?_
                      refine lv_iload hx hb dX7_find_41 (lv_at hl 5 rfl) ?_
                      refine ld_AD hx hb hK hz hW g_13 dX7_find_43 ?_
                      refine lv_iload hx hb dX7_find_44 (lv_at hl 7 rfl) ?_
                      refine lv_iload hx hb dX7_find_46 (lv_at hl 6 rfl) ?_
                      refine lv_iload_n hx hb dX7_find_48 rfl (lv_at hl 3 rfl) ?_
                      obtain ⟨r_16, hq_17, hf⟩ := of_bd hf
                      refine m_goRi (va_runS (As := [.ref (z.2.1 (48+2*d1)), .ref (z.2.1 (3*x5_2.toNatClampNeg)), .int x7_10, .int x6_6, .int x3]) (rest := []) ⟨hx, hb, hml, hown, hts⟩ (c_X7_isNamed l hz d1 hd1 x5_2.toNatClampNeg (p8_16 (inb_lt g_13)) x7_10 x6_6 x3 w_11 hq_17) (va_cwS 5 hts gX7_find_X7_isNamed rfl rfl rfl (by decide +kernel) ⟨Nat.le_of_ble_eq_true rfl, Nat.le_of_ble_eq_true rfl⟩) (m_preS hK hW _) rfl rfl hl.1 rfl (lv_room (Nat.le_of_ble_eq_true rfl)) dX7_find_49 ⟨Nat.le_refl _, Nat.le_refl _⟩) ?_
                      refine lv_if_eq (tgt := 96) hx hb dX7_find_52 (by decide) (fun c_18 => ?_) (fun c_18 => ?_)
                      · have hf := of_t c_18 hf
                        obtain ⟨x7_19, ex7_19⟩ : ∃ y : Int32, y = x7_10 + 1 := ⟨_, rfl⟩
                        have hf := of_lt ex7_19 hf
                        refine lv_iinc (v := x7_19) (lv' := [(7, .int x7_19), (0, .ref (z.2.1 82)), (1, .ref (z.2.1 (48+2*d1))), (2, .ref (z.2.1 70)), (3, .int x3), (4, .int x4), (5, .int x5_2), (6, .int x6_6)]) hx hb dX7_find_96 hl (k := 7) rfl (by rw [ex7_19]; rfl) (by decide) rfl (fun ls hl => ?_)
                        refine lv_goto (tgt := 27) hx hb dX7_find_99 (by decide) ?_
                        exact ihL_12 _ _ _ _ _ _ hf hW hS (lv_sub hl [1, 2, 3, 4, 5, 6, 7, 0] rfl) hRL_12 hEL_12
                      · have hf := of_f c_18 hf
                        refine lv_aload_n hx hb dX7_find_55 rfl (lv_at hl 0 rfl) ?_
                        refine get_X7_0 hx hb hts in_X7_find_X7 hown hK hz hW lk_X7_find_0 dX7_find_56 ?_
                        refine lv_iload hx hb dX7_find_59 (lv_at hl 4 rfl) ?_
                        refine lv_icmp_ne (tgt := 86) hx hb dX7_find_61 (by decide) (fun c_20 => ?_) (fun c_20 => ?_)
                        · have hf := of_f c_20 hf
                          refine lv_aload_n hx hb dX7_find_86 rfl (lv_at hl 0 rfl) ?_
                          refine lv_dup hx hb dX7_find_87 rfl ?_
                          refine get_X7_0 hx hb hts in_X7_find_X7 hown hK hz hW lk_X7_find_0 dX7_find_88 ?_
                          refine lv_iconst (v := 1) hx hb dX7_find_91 (by decide) ?_
                          refine lv_iadd hx hb dX7_find_92 ?_
                          refine put_X7_0 hx hb hts in_X7_find_X7 hown hK hz hW hS lk_X7_find_0 dX7_find_93 (fun H locs hW hS => ?_)
                          obtain ⟨w_21, ew_21⟩ : ∃ y : Mem, y = mS w_11 82 0 ((w_11.1 82 0) + 1) := ⟨_, rfl⟩
                          have hW : hd z w_21 H := by rw [ew_21]; exact hW
                          have hf := of_lt ew_21 hf
                          obtain ⟨x7_22, ex7_22⟩ : ∃ y : Int32, y = x7_10 + 1 := ⟨_, rfl⟩
                          have hf := of_lt ex7_22 hf
                          refine lv_iinc (v := x7_22) (lv' := [(7, .int x7_22), (0, .ref (z.2.1 82)), (1, .ref (z.2.1 (48+2*d1))), (2, .ref (z.2.1 70)), (3, .int x3), (4, .int x4), (5, .int x5_2), (6, .int x6_6)]) hx hb dX7_find_96 hl (k := 7) rfl (by rw [ex7_22]; rfl) (by decide) rfl (fun ls hl => ?_)
                          refine lv_goto (tgt := 27) hx hb dX7_find_99 (by decide) ?_
                          exact ihL_12 _ _ _ _ _ _ hf hW hS (lv_sub hl [1, 2, 3, 4, 5, 6, 7, 0] rfl) hRL_12 hEL_12
                        · have hf := of_t c_20 hf
                          refine lv_sipush (v := 1000) hx hb dX7_find_64 (by decide) ?_
                          refine lv_iload hx hb dX7_find_67 (lv_at hl 5 rfl) ?_
                          refine lv_imul hx hb dX7_find_69 ?_
                          refine lv_iload hx hb dX7_find_70 (lv_at hl 6 rfl) ?_
                          have J_24 : ∀ (v_23 : Int32) (ls : Array Slot), v_23 = (if 0 ≤ x6_6 then 0 else 100) → lv_has ls 8 [(7, .int x7_10)] → W p l e (rm 1 28) s m args below meth c H locs 0 0 Q (F0 m 81 ls [.int v_23, .int (1000 * x5_2)]) := by
                            intro v_23 ls ev_23 hl
                            have hf := of_lt ev_23 hf
                            refine lv_iadd hx hb dX7_find_81 ?_
                            refine lv_iload hx hb dX7_find_82 (lv_at hl 0 rfl) ?_
                            refine lv_iadd hx hb dX7_find_84 ?_
                            refine lv_topi (fun v_25 ev_25 => ?_)
                            have hf := of_lt ev_25 hf
                            exact hret _ _ _ _ _ _ (hRL_4 _ (Option.some.inj (hRL_8 _ (Option.some.inj (hRL_12 _ (Option.some.inj hf).symm)).symm)).symm) hW hS dX7_find_85
                          refine lv_if_ge (tgt := 80) hx hb dX7_find_72 (by decide) (fun c_26 => ?_) (fun c_26 => ?_)
                          · refine lv_iconst (v := 0) hx hb dX7_find_80 (by decide) ?_
                            exact J_24 _ _ (by rw [if_pos c_26]) (lv_sub hl [7] rfl)
                          · refine lv_bipush (v := 100) hx hb dX7_find_75 (by decide) ?_
                            refine lv_goto (tgt := 81) hx hb dX7_find_77 (by decide) ?_
                            exact J_24 _ _ (by rw [if_neg c_26]) (lv_sub hl [7] rfl)
                obtain ⟨ex_28, hq_27, hf⟩ := of_bd hf
                refine L_12 FU _ _ _ _ _ _ hq_27 hW hS (lv_sub hl [1, 2, 3, 4, 5, 6, 7, 0] rfl) (fun ret he => by subst he; exact hf) (fun x he H locs ls hW hS hl => ?_)
                subst he
                obtain ⟨w_29, ew_29⟩ : ∃ y, y = x := ⟨_, rfl⟩
                subst ew_29
                have hf := of_sr hf
                have hW : hd z w_29 H := hW
                have hl : lv_has ls 8 [(0, .ref (z.2.1 82)), (1, .ref (z.2.1 (48+2*d1))), (2, .ref (z.2.1 70)), (3, .int x3), (4, .int x4), (5, .int x5_2), (6, .int x6_6)] := hl
                obtain ⟨x6_30, ex6_30⟩ : ∃ y : Int32, y = x6_6 + (-2) := ⟨_, rfl⟩
                have hf := of_lt ex6_30 hf
                refine lv_iinc (v := x6_30) (lv' := [(6, .int x6_30), (0, .ref (z.2.1 82)), (1, .ref (z.2.1 (48+2*d1))), (2, .ref (z.2.1 70)), (3, .int x3), (4, .int x4), (5, .int x5_2)]) hx hb dX7_find_102 hl (k := 6) rfl (by rw [ex6_30]; rfl) (by decide) rfl (fun ls hl => ?_)
                refine lv_goto (tgt := 18) hx hb dX7_find_105 (by decide) ?_
                exact ihL_8 _ _ _ _ _ _ hf hW hS (lv_sub hl [1, 2, 3, 4, 5, 6, 0] rfl) hRL_8 hEL_8
          obtain ⟨ex_32, hq_31, hf⟩ := of_bd hf
          refine L_8 FU _ _ _ _ _ _ hq_31 hW hS (lv_sub hl [1, 2, 3, 4, 5, 6, 0] rfl) (fun ret he => by subst he; exact hf) (fun x he H locs ls hW hS hl => ?_)
          subst he
          obtain ⟨w_33, ew_33⟩ : ∃ y, y = x := ⟨_, rfl⟩
          subst ew_33
          have hf := of_sr hf
          have hW : hd z w_33 H := hW
          have hl : lv_has ls 8 [(0, .ref (z.2.1 82)), (1, .ref (z.2.1 (48+2*d1))), (2, .ref (z.2.1 70)), (3, .int x3), (4, .int x4), (5, .int x5_2)] := hl
          obtain ⟨x5_34, ex5_34⟩ : ∃ y : Int32, y = x5_2 + 1 := ⟨_, rfl⟩
          have hf := of_lt ex5_34 hf
          refine lv_iinc (v := x5_34) (lv' := [(5, .int x5_34), (0, .ref (z.2.1 82)), (1, .ref (z.2.1 (48+2*d1))), (2, .ref (z.2.1 70)), (3, .int x3), (4, .int x4)]) hx hb dX7_find_108 hl (k := 5) rfl (by rw [ex5_34]; rfl) (by decide) rfl (fun ls hl => ?_)
          refine lv_goto (tgt := 8) hx hb dX7_find_111 (by decide) ?_
          exact ihL_4 _ _ _ _ _ _ hf hW hS (lv_sub hl [1, 2, 3, 4, 5, 0] rfl) hRL_4 hEL_4
    obtain ⟨ex_36, hq_35, hf⟩ := of_bd hf
    refine L_4 FU _ _ _ _ _ _ hq_35 hW hS (lv_sub hl [1, 2, 3, 4, 5, 0] rfl) (fun ret he => by subst he; exact hf) (fun x he H locs ls hW hS hl => ?_)
    subst he
    obtain ⟨w_37, ew_37⟩ : ∃ y, y = x := ⟨_, rfl⟩
    subst ew_37
    have hf := of_sr hf
    have hW : hd z w_37 H := hW
    have hl : lv_has ls 8 [] := hl
    refine lv_iconst (v := (-1)) hx hb dX7_find_114 (by decide) ?_
    exact hret _ _ _ _ _ _ hf hW hS dX7_find_115
  exact START _ _ hW va_S.rf
theorem in_X8_forget_X8 : ∀ w ∈ wsX80, w ∈ wsX8_forget := by decide +kernel
theorem lk_X8_forget_0 : Cond.fieldLink RX8 18 "CamStitch$Seam" "isSewn" "Z" ∈ wsX8_forget := by decide +kernel
theorem lk_X8_forget_1 : Cond.fieldLink RX8 22 "CamStitch$Seam" "stitches" "I" ∈ wsX8_forget := by decide +kernel
set_option maxHeartbeats 4000000 in
set_option maxRecDepth 100000 in
theorem c_X8_forget (l : Launch) {z : LZ} (hz : IC z)  (w : Mem) {w' : Mem} (hf : f_X8_forget w = some w') : Met l yX8_forget wsX8_forget (rm 0 0) (PZ z w [.ref (z.2.1 79)]) (QW z none w') 0 0 (az z) := by
  refine mk_Wv (cc := cX8_forget) (maxL := 1) (by decide +kernel) rfl (Nat.le_of_ble_eq_true rfl) ?_
  intro p e s m args below meth c hx hb hml hts hown hK hW Q hret ls hl
  have hl : lv_has ls 1 [(0, .ref (z.2.1 79))] := hl
  unfold f_X8_forget at hf
  have START : ∀ (H : Heap) (locs : List Loc), hd z w H → va_S (az z) s.heap H locs → W p l e (rm 0 0) s m args below meth c H locs 0 0 Q (F0 m 0 ls []) := by
    intro H locs hW hS
    refine lv_aload_n hx hb dX8_forget_0 rfl (lv_at hl 0 rfl) ?_
    refine lv_iconst (v := 0) hx hb dX8_forget_1 (by decide) ?_
    refine put_X8_2 hx hb hts in_X8_forget_X8 hown hK hz hW hS (Or.inl rfl) lk_X8_forget_0 dX8_forget_2 (fun H locs hW hS => ?_)
    obtain ⟨w_1, ew_1⟩ : ∃ y : Mem, y = mS w 79 2 0 := ⟨_, rfl⟩
    have hW : hd z w_1 H := by rw [ew_1]; exact hW
    have hf := of_lt ew_1 hf
    refine lv_aload_n hx hb dX8_forget_5 rfl (lv_at hl 0 rfl) ?_
    refine lv_iconst (v := 0) hx hb dX8_forget_6 (by decide) ?_
    refine put_X8_3 hx hb hts in_X8_forget_X8 hown hK hz hW hS lk_X8_forget_1 dX8_forget_7 (fun H locs hW hS => ?_)
    obtain ⟨w_2, ew_2⟩ : ∃ y : Mem, y = mS w_1 79 3 0 := ⟨_, rfl⟩
    have hW : hd z w_2 H := by rw [ew_2]; exact hW
    have hf := of_lt ew_2 hf
    exact hret _ _ _ _ _ hf hW hS dX8_forget_10
  exact START _ _ hW va_S.rf
theorem in_X8_start_X8 : ∀ w ∈ wsX80, w ∈ wsX8_start := by decide +kernel
theorem lk_X8_start_0 : Cond.fieldLink RX8 18 "CamStitch$Seam" "isSewn" "Z" ∈ wsX8_start := by decide +kernel
theorem lk_X8_start_1 : Cond.fieldLink RX8 22 "CamStitch$Seam" "stitches" "I" ∈ wsX8_start := by decide +kernel
theorem lk_X8_start_2 : Cond.fieldLink RX8 26 "CamStitch$Seam" "x" "I" ∈ wsX8_start := by decide +kernel
theorem lk_X8_start_3 : Cond.fieldLink RX8 29 "CamStitch$Seam" "y" "I" ∈ wsX8_start := by decide +kernel
theorem lk_X8_start_4 : Cond.fieldLink RX8 32 "CamStitch$Seam" "quarter" "I" ∈ wsX8_start := by decide +kernel
theorem lk_X8_start_5 : Cond.fieldLink RX8 35 "CamStitch$Seam" "isBack" "Z" ∈ wsX8_start := by decide +kernel
theorem lk_X8_start_6 : Cond.fieldLink RX8 38 "CamStitch$Seam" "why" "I" ∈ wsX8_start := by decide +kernel
theorem lk_X8_start_7 : Cond.fieldLink RX8 41 "CamStitch$Seam" "upperThread" "I" ∈ wsX8_start := by decide +kernel
theorem lk_X8_start_8 : Cond.fieldLink RX8 44 "CamStitch$Seam" "lowerThread" "I" ∈ wsX8_start := by decide +kernel
theorem lk_X8_start_9 : Cond.fieldLink RX8 47 "CamStitch$Seam" "stepsEnded" "I" ∈ wsX8_start := by decide +kernel
theorem lk_X8_start_10 : Cond.fieldLink RX8 50 "CamStitch$Seam" "next" "I" ∈ wsX8_start := by decide +kernel
theorem lk_X8_start_11 : Cond.fieldLink RX8 53 "CamStitch$Seam" "needle" "I" ∈ wsX8_start := by decide +kernel
set_option maxHeartbeats 4000000 in
set_option maxRecDepth 100000 in
theorem c_X8_start (l : Launch) {z : LZ} (hz : IC z) (x1 : Int32) (w : Mem) {w' : Mem} (hf : f_X8_start x1 w = some w') : Met l yX8_start wsX8_start (rm 0 0) (PZ z w [.ref (z.2.1 79), .int x1]) (QW z none w') 0 0 (az z) := by
  refine mk_Wv (cc := cX8_start) (maxL := 2) (by decide +kernel) rfl (Nat.le_of_ble_eq_true rfl) ?_
  intro p e s m args below meth c hx hb hml hts hown hK hW Q hret ls hl
  have hl : lv_has ls 2 [(0, .ref (z.2.1 79)), (1, .int x1)] := hl
  unfold f_X8_start at hf
  have START : ∀ (H : Heap) (locs : List Loc), hd z w H → va_S (az z) s.heap H locs → W p l e (rm 0 0) s m args below meth c H locs 0 0 Q (F0 m 0 ls []) := by
    intro H locs hW hS
    refine lv_aload_n hx hb dX8_start_0 rfl (lv_at hl 0 rfl) ?_
    refine lv_iconst (v := 1) hx hb dX8_start_1 (by decide) ?_
    refine put_X8_2 hx hb hts in_X8_start_X8 hown hK hz hW hS (Or.inr rfl) lk_X8_start_0 dX8_start_2 (fun H locs hW hS => ?_)
    obtain ⟨w_1, ew_1⟩ : ∃ y : Mem, y = mS w 79 2 1 := ⟨_, rfl⟩
    have hW : hd z w_1 H := by rw [ew_1]; exact hW
    have hf := of_lt ew_1 hf
    refine lv_aload_n hx hb dX8_start_5 rfl (lv_at hl 0 rfl) ?_
    refine lv_iconst (v := 0) hx hb dX8_start_6 (by decide) ?_
    refine put_X8_3 hx hb hts in_X8_start_X8 hown hK hz hW hS lk_X8_start_1 dX8_start_7 (fun H locs hW hS => ?_)
    obtain ⟨w_2, ew_2⟩ : ∃ y : Mem, y = mS w_1 79 3 0 := ⟨_, rfl⟩
    have hW : hd z w_2 H := by rw [ew_2]; exact hW
    have hf := of_lt ew_2 hf
    refine lv_aload_n hx hb dX8_start_10 rfl (lv_at hl 0 rfl) ?_
    refine lv_iconst (v := 0) hx hb dX8_start_11 (by decide) ?_
    refine put_X8_4 hx hb hts in_X8_start_X8 hown hK hz hW hS lk_X8_start_2 dX8_start_12 (fun H locs hW hS => ?_)
    obtain ⟨w_3, ew_3⟩ : ∃ y : Mem, y = mS w_2 79 4 0 := ⟨_, rfl⟩
    have hW : hd z w_3 H := by rw [ew_3]; exact hW
    have hf := of_lt ew_3 hf
    refine lv_aload_n hx hb dX8_start_15 rfl (lv_at hl 0 rfl) ?_
    refine lv_iconst (v := 0) hx hb dX8_start_16 (by decide) ?_
    refine put_X8_5 hx hb hts in_X8_start_X8 hown hK hz hW hS lk_X8_start_3 dX8_start_17 (fun H locs hW hS => ?_)
    obtain ⟨w_4, ew_4⟩ : ∃ y : Mem, y = mS w_3 79 5 0 := ⟨_, rfl⟩
    have hW : hd z w_4 H := by rw [ew_4]; exact hW
    have hf := of_lt ew_4 hf
    refine lv_aload_n hx hb dX8_start_20 rfl (lv_at hl 0 rfl) ?_
    refine lv_iconst (v := 0) hx hb dX8_start_21 (by decide) ?_
    refine put_X8_6 hx hb hts in_X8_start_X8 hown hK hz hW hS lk_X8_start_4 dX8_start_22 (fun H locs hW hS => ?_)
    obtain ⟨w_5, ew_5⟩ : ∃ y : Mem, y = mS w_4 79 6 0 := ⟨_, rfl⟩
    have hW : hd z w_5 H := by rw [ew_5]; exact hW
    have hf := of_lt ew_5 hf
    refine lv_aload_n hx hb dX8_start_25 rfl (lv_at hl 0 rfl) ?_
    refine lv_iconst (v := 0) hx hb dX8_start_26 (by decide) ?_
    refine put_X8_7 hx hb hts in_X8_start_X8 hown hK hz hW hS (Or.inl rfl) lk_X8_start_5 dX8_start_27 (fun H locs hW hS => ?_)
    obtain ⟨w_6, ew_6⟩ : ∃ y : Mem, y = mS w_5 79 7 0 := ⟨_, rfl⟩
    have hW : hd z w_6 H := by rw [ew_6]; exact hW
    have hf := of_lt ew_6 hf
    refine lv_aload_n hx hb dX8_start_30 rfl (lv_at hl 0 rfl) ?_
    refine lv_iconst (v := 0) hx hb dX8_start_31 (by decide) ?_
    refine put_X8_8 hx hb hts in_X8_start_X8 hown hK hz hW hS lk_X8_start_6 dX8_start_32 (fun H locs hW hS => ?_)
    obtain ⟨w_7, ew_7⟩ : ∃ y : Mem, y = mS w_6 79 8 0 := ⟨_, rfl⟩
    have hW : hd z w_7 H := by rw [ew_7]; exact hW
    have hf := of_lt ew_7 hf
    refine lv_aload_n hx hb dX8_start_35 rfl (lv_at hl 0 rfl) ?_
    refine lv_iconst (v := 0) hx hb dX8_start_36 (by decide) ?_
    refine put_X8_9 hx hb hts in_X8_start_X8 hown hK hz hW hS lk_X8_start_7 dX8_start_37 (fun H locs hW hS => ?_)
    obtain ⟨w_8, ew_8⟩ : ∃ y : Mem, y = mS w_7 79 9 0 := ⟨_, rfl⟩
    have hW : hd z w_8 H := by rw [ew_8]; exact hW
    have hf := of_lt ew_8 hf
    refine lv_aload_n hx hb dX8_start_40 rfl (lv_at hl 0 rfl) ?_
    refine lv_iconst (v := 0) hx hb dX8_start_41 (by decide) ?_
    refine put_X8_10 hx hb hts in_X8_start_X8 hown hK hz hW hS lk_X8_start_8 dX8_start_42 (fun H locs hW hS => ?_)
    obtain ⟨w_9, ew_9⟩ : ∃ y : Mem, y = mS w_8 79 10 0 := ⟨_, rfl⟩
    have hW : hd z w_9 H := by rw [ew_9]; exact hW
    have hf := of_lt ew_9 hf
    refine lv_aload_n hx hb dX8_start_45 rfl (lv_at hl 0 rfl) ?_
    refine lv_iconst (v := 0) hx hb dX8_start_46 (by decide) ?_
    refine put_X8_11 hx hb hts in_X8_start_X8 hown hK hz hW hS lk_X8_start_9 dX8_start_47 (fun H locs hW hS => ?_)
    obtain ⟨w_10, ew_10⟩ : ∃ y : Mem, y = mS w_9 79 11 0 := ⟨_, rfl⟩
    have hW : hd z w_10 H := by rw [ew_10]; exact hW
    have hf := of_lt ew_10 hf
    refine lv_aload_n hx hb dX8_start_50 rfl (lv_at hl 0 rfl) ?_
    refine lv_iconst (v := 0) hx hb dX8_start_51 (by decide) ?_
    refine put_X8_12 hx hb hts in_X8_start_X8 hown hK hz hW hS lk_X8_start_10 dX8_start_52 (fun H locs hW hS => ?_)
    obtain ⟨w_11, ew_11⟩ : ∃ y : Mem, y = mS w_10 79 12 0 := ⟨_, rfl⟩
    have hW : hd z w_11 H := by rw [ew_11]; exact hW
    have hf := of_lt ew_11 hf
    refine lv_aload_n hx hb dX8_start_55 rfl (lv_at hl 0 rfl) ?_
    refine lv_iload_n hx hb dX8_start_56 rfl (lv_at hl 1 rfl) ?_
    refine put_X8_13 hx hb hts in_X8_start_X8 hown hK hz hW hS lk_X8_start_11 dX8_start_57 (fun H locs hW hS => ?_)
    obtain ⟨w_12, ew_12⟩ : ∃ y : Mem, y = mS w_11 79 13 x1 := ⟨_, rfl⟩
    have hW : hd z w_12 H := by rw [ew_12]; exact hW
    have hf := of_lt ew_12 hf
    exact hret _ _ _ _ _ hf hW hS dX8_start_60
  exact START _ _ hW va_S.rf
theorem in_X8_takesThread_X0 : ∀ w ∈ wsX00, w ∈ wsX8_takesThread := by decide +kernel
theorem in_X8_takesThread_X8 : ∀ w ∈ wsX80, w ∈ wsX8_takesThread := by decide +kernel
theorem lk_X8_takesThread_0 : Cond.fieldLink RX8 83 "CamStitch$Bench" "upper" "I" ∈ wsX8_takesThread := by decide +kernel
theorem lk_X8_takesThread_1 : Cond.fieldLink RX8 88 "CamStitch$Bench" "lower" "I" ∈ wsX8_takesThread := by decide +kernel
theorem lk_X8_takesThread_2 : Cond.fieldLink RX8 99 "CamStitch$Bench" "spool" "I" ∈ wsX8_takesThread := by decide +kernel
theorem lk_X8_takesThread_3 : Cond.fieldLink RX8 38 "CamStitch$Seam" "why" "I" ∈ wsX8_takesThread := by decide +kernel
theorem lk_X8_takesThread_4 : Cond.fieldLink RX8 102 "CamStitch$Bench" "bobbin" "I" ∈ wsX8_takesThread := by decide +kernel
theorem lk_X8_takesThread_5 : Cond.fieldLink RX8 41 "CamStitch$Seam" "upperThread" "I" ∈ wsX8_takesThread := by decide +kernel
theorem lk_X8_takesThread_6 : Cond.fieldLink RX8 44 "CamStitch$Seam" "lowerThread" "I" ∈ wsX8_takesThread := by decide +kernel
set_option maxHeartbeats 4000000 in
set_option maxRecDepth 100000 in
theorem c_X8_takesThread (l : Launch) {z : LZ} (hz : IC z) (x1 : Int32) (w : Mem) {r : Int32} {w' : Mem} (hf : f_X8_takesThread x1 w = some (r, w')) : Met l yX8_takesThread wsX8_takesThread (rm 2 42) (PZ z w [.ref (z.2.1 79), .int x1, .ref (z.2.1 74)]) (QW z (some (.int r)) w') 0 0 (az z) := by
  refine mk_Wz (cc := cX8_takesThread) (maxL := 6) (by decide +kernel) rfl (Nat.le_of_ble_eq_true rfl) ?_
  intro p e s m args below meth c hx hb hml hts hown hK hW Q hret ls hl
  have hl : lv_has ls 6 [(0, .ref (z.2.1 79)), (1, .int x1), (2, .ref (z.2.1 74))] := hl
  unfold f_X8_takesThread at hf
  have START : ∀ (H : Heap) (locs : List Loc), hd z w H → va_S (az z) s.heap H locs → W p l e (rm 2 42) s m args below meth c H locs 0 0 Q (F0 m 0 ls []) := by
    intro H locs hW hS
    refine lv_aload_n hx hb dX8_takesThread_0 rfl (lv_at hl 2 rfl) ?_
    refine lv_aload_n hx hb dX8_takesThread_1 rfl (lv_at hl 2 rfl) ?_
    refine get_X0_1 hx hb hts in_X8_takesThread_X0 hown hK hz hW lk_X8_takesThread_0 dX8_takesThread_2 ?_
    refine lv_aload_n hx hb dX8_takesThread_5 rfl (lv_at hl 2 rfl) ?_
    refine get_X0_2 hx hb hts in_X8_takesThread_X0 hown hK hz hW lk_X8_takesThread_1 dX8_takesThread_6 ?_
    obtain ⟨r_1, hq_2, hf⟩ := of_bd hf
    refine m_goRi (va_runV (As := [.int (w.1 74 1), .int (w.1 74 2)]) (rest := []) ⟨hx, hb, hml, hown, hts⟩ (c_X0_depth l hz (w.1 74 1) (w.1 74 2) w hq_2) (cwV 2 hts gX8_takesThread_X0_depth rfl rfl rfl (by decide +kernel) ⟨Nat.le_of_ble_eq_true rfl, Nat.le_of_ble_eq_true rfl⟩) (pre_X0 hK hz hW _) rfl rfl hl.1 rfl (lv_room (Nat.le_of_ble_eq_true rfl)) dX8_takesThread_9 ⟨Nat.le_refl _, Nat.le_refl _⟩) ?_
    refine lv_istore_n (lv' := [(3, .int r_1), (0, .ref (z.2.1 79)), (1, .int x1), (2, .ref (z.2.1 74))]) hx hb dX8_takesThread_12 rfl hl (by decide) rfl (fun ls hl => ?_)
    refine lv_iload_n hx hb dX8_takesThread_13 rfl (lv_at hl 2 rfl) ?_
    refine lv_iconst (v := 2) hx hb dX8_takesThread_14 (by decide) ?_
    refine lv_iload_n hx hb dX8_takesThread_15 rfl (lv_at hl 0 rfl) ?_
    refine lv_imul hx hb dX8_takesThread_16 ?_
    refine lv_iadd hx hb dX8_takesThread_17 ?_
    refine lv_topi (fun v_3 ev_3 => ?_)
    have hf := of_lt ev_3 hf
    refine lv_istore (lv' := [(4, .int v_3), (3, .int r_1), (0, .ref (z.2.1 79)), (1, .int x1), (2, .ref (z.2.1 74))]) hx hb dX8_takesThread_18 hl (by decide) rfl (fun ls hl => ?_)
    refine lv_iload_n hx hb dX8_takesThread_20 rfl (lv_at hl 3 rfl) ?_
    refine lv_iconst (v := 2) hx hb dX8_takesThread_21 (by decide) ?_
    refine lv_aload_n hx hb dX8_takesThread_22 rfl (lv_at hl 4 rfl) ?_
    obtain ⟨r_4, hq_5, hf⟩ := of_bd hf
    refine m_goRi (va_runV (As := []) (rest := [.int 2, .int x1]) ⟨hx, hb, hml, hown, hts⟩ (c_X0_bothThicks l hz w hq_5) (cwV 0 hts gX8_takesThread_X0_bothThicks rfl rfl rfl (by decide +kernel) ⟨Nat.le_of_ble_eq_true rfl, Nat.le_of_ble_eq_true rfl⟩) (pre_X0 hK hz hW _) rfl rfl hl.1 rfl (lv_room (Nat.le_of_ble_eq_true rfl)) dX8_takesThread_23 ⟨Nat.le_refl _, Nat.le_refl _⟩) ?_
    refine lv_iload_n hx hb dX8_takesThread_26 rfl (lv_at hl 1 rfl) ?_
    refine lv_isub hx hb dX8_takesThread_27 ?_
    refine lv_imul hx hb dX8_takesThread_28 ?_
    refine lv_iadd hx hb dX8_takesThread_29 ?_
    refine lv_topi (fun v_6 ev_6 => ?_)
    have hf := of_lt ev_6 hf
    refine lv_istore (lv' := [(5, .int v_6), (4, .int v_3), (3, .int r_1), (0, .ref (z.2.1 79)), (1, .int x1), (2, .ref (z.2.1 74))]) hx hb dX8_takesThread_30 hl (by decide) rfl (fun ls hl => ?_)
    refine lv_iload hx hb dX8_takesThread_32 (lv_at hl 1 rfl) ?_
    refine lv_aload_n hx hb dX8_takesThread_34 rfl (lv_at hl 5 rfl) ?_
    refine get_X0_3 hx hb hts in_X8_takesThread_X0 hown hK hz hW lk_X8_takesThread_2 dX8_takesThread_35 ?_
    refine lv_icmp_gt (tgt := 50) hx hb dX8_takesThread_38 (by decide) (fun c_7 => ?_) (fun c_7 => ?_)
    · have hf := of_t c_7 hf
      refine lv_aload_n hx hb dX8_takesThread_50 rfl (lv_at hl 3 rfl) ?_
      refine lv_iload hx hb dX8_takesThread_51 (lv_at hl 1 rfl) ?_
      refine lv_aload_n hx hb dX8_takesThread_53 rfl (lv_at hl 5 rfl) ?_
      refine get_X0_3 hx hb hts in_X8_takesThread_X0 hown hK hz hW lk_X8_takesThread_2 dX8_takesThread_54 ?_
      have J_9 : ∀ (v_8 : Int32) (ls : Array Slot), v_8 = (if v_3 ≤ (w.1 74 3) then 2 else 1) → lv_has ls 6 [] → W p l e (rm 2 42) s m args below meth c H locs 0 0 Q (F0 m 65 ls [.int v_8, .ref (z.2.1 79)]) := by
        intro v_8 ls ev_8 hl
        have hf := of_lt ev_8 hf
        refine put_X8_8 hx hb hts in_X8_takesThread_X8 hown hK hz hW hS lk_X8_takesThread_3 dX8_takesThread_65 (fun H locs hW hS => ?_)
        obtain ⟨w_10, ew_10⟩ : ∃ y : Mem, y = mS w 79 8 v_8 := ⟨_, rfl⟩
        have hW : hd z w_10 H := by rw [ew_10]; exact hW
        have hf := of_lt ew_10 hf
        refine lv_iconst (v := 0) hx hb dX8_takesThread_68 (by decide) ?_
        exact hret _ _ _ _ _ _ hf rfl hW hS dX8_takesThread_69
      refine lv_icmp_le (tgt := 64) hx hb dX8_takesThread_57 (by decide) (fun c_11 => ?_) (fun c_11 => ?_)
      · refine lv_iconst (v := 2) hx hb dX8_takesThread_64 (by decide) ?_
        exact J_9 _ _ (by rw [if_pos c_11]) (lv_sub hl [] rfl)
      · refine lv_iconst (v := 1) hx hb dX8_takesThread_60 (by decide) ?_
        refine lv_goto (tgt := 65) hx hb dX8_takesThread_61 (by decide) ?_
        exact J_9 _ _ (by rw [if_neg c_11]) (lv_sub hl [] rfl)
    · have hf := of_f c_7 hf
      refine lv_iload hx hb dX8_takesThread_41 (lv_at hl 0 rfl) ?_
      refine lv_aload_n hx hb dX8_takesThread_43 rfl (lv_at hl 5 rfl) ?_
      refine get_X0_4 hx hb hts in_X8_takesThread_X0 hown hK hz hW lk_X8_takesThread_4 dX8_takesThread_44 ?_
      refine lv_icmp_le (tgt := 70) hx hb dX8_takesThread_47 (by decide) (fun c_12 => ?_) (fun c_12 => ?_)
      · have hf := of_t c_12 hf
        refine lv_aload_n hx hb dX8_takesThread_70 rfl (lv_at hl 5 rfl) ?_
        refine lv_dup hx hb dX8_takesThread_71 rfl ?_
        refine get_X0_3 hx hb hts in_X8_takesThread_X0 hown hK hz hW lk_X8_takesThread_2 dX8_takesThread_72 ?_
        refine lv_iload hx hb dX8_takesThread_75 (lv_at hl 1 rfl) ?_
        refine lv_isub hx hb dX8_takesThread_77 ?_
        refine put_X0_3 hx hb hts in_X8_takesThread_X0 hown hK hz hW hS lk_X8_takesThread_2 dX8_takesThread_78 (fun H locs hW hS => ?_)
        obtain ⟨w_13, ew_13⟩ : ∃ y : Mem, y = mS w 74 3 ((w.1 74 3) - v_3) := ⟨_, rfl⟩
        have hW : hd z w_13 H := by rw [ew_13]; exact hW
        have hf := of_lt ew_13 hf
        refine lv_aload_n hx hb dX8_takesThread_81 rfl (lv_at hl 5 rfl) ?_
        refine lv_dup hx hb dX8_takesThread_82 rfl ?_
        refine get_X0_4 hx hb hts in_X8_takesThread_X0 hown hK hz hW lk_X8_takesThread_4 dX8_takesThread_83 ?_
        refine lv_iload hx hb dX8_takesThread_86 (lv_at hl 0 rfl) ?_
        refine lv_isub hx hb dX8_takesThread_88 ?_
        refine put_X0_4 hx hb hts in_X8_takesThread_X0 hown hK hz hW hS lk_X8_takesThread_4 dX8_takesThread_89 (fun H locs hW hS => ?_)
        obtain ⟨w_14, ew_14⟩ : ∃ y : Mem, y = mS w_13 74 4 ((w_13.1 74 4) - v_6) := ⟨_, rfl⟩
        have hW : hd z w_14 H := by rw [ew_14]; exact hW
        have hf := of_lt ew_14 hf
        refine lv_aload_n hx hb dX8_takesThread_92 rfl (lv_at hl 3 rfl) ?_
        refine lv_dup hx hb dX8_takesThread_93 rfl ?_
        refine get_X8_9 hx hb hts in_X8_takesThread_X8 hown hK hz hW lk_X8_takesThread_5 dX8_takesThread_94 ?_
        refine lv_iload hx hb dX8_takesThread_97 (lv_at hl 1 rfl) ?_
        refine lv_iadd hx hb dX8_takesThread_99 ?_
        refine put_X8_9 hx hb hts in_X8_takesThread_X8 hown hK hz hW hS lk_X8_takesThread_5 dX8_takesThread_100 (fun H locs hW hS => ?_)
        obtain ⟨w_15, ew_15⟩ : ∃ y : Mem, y = mS w_14 79 9 ((w_14.1 79 9) + v_3) := ⟨_, rfl⟩
        have hW : hd z w_15 H := by rw [ew_15]; exact hW
        have hf := of_lt ew_15 hf
        refine lv_aload_n hx hb dX8_takesThread_103 rfl (lv_at hl 3 rfl) ?_
        refine lv_dup hx hb dX8_takesThread_104 rfl ?_
        refine get_X8_10 hx hb hts in_X8_takesThread_X8 hown hK hz hW lk_X8_takesThread_6 dX8_takesThread_105 ?_
        refine lv_iload hx hb dX8_takesThread_108 (lv_at hl 0 rfl) ?_
        refine lv_iadd hx hb dX8_takesThread_110 ?_
        refine put_X8_10 hx hb hts in_X8_takesThread_X8 hown hK hz hW hS lk_X8_takesThread_6 dX8_takesThread_111 (fun H locs hW hS => ?_)
        obtain ⟨w_16, ew_16⟩ : ∃ y : Mem, y = mS w_15 79 10 ((w_15.1 79 10) + v_6) := ⟨_, rfl⟩
        have hW : hd z w_16 H := by rw [ew_16]; exact hW
        have hf := of_lt ew_16 hf
        refine lv_iconst (v := 1) hx hb dX8_takesThread_114 (by decide) ?_
        exact hret _ _ _ _ _ _ hf rfl hW hS dX8_takesThread_115
      · have hf := of_f c_12 hf
        refine lv_aload_n hx hb dX8_takesThread_50 rfl (lv_at hl 3 rfl) ?_
        refine lv_iload hx hb dX8_takesThread_51 (lv_at hl 1 rfl) ?_
        refine lv_aload_n hx hb dX8_takesThread_53 rfl (lv_at hl 5 rfl) ?_
        refine get_X0_3 hx hb hts in_X8_takesThread_X0 hown hK hz hW lk_X8_takesThread_2 dX8_takesThread_54 ?_
        have J_18 : ∀ (v_17 : Int32) (ls : Array Slot), v_17 = (if v_3 ≤ (w.1 74 3) then 2 else 1) → lv_has ls 6 [] → W p l e (rm 2 42) s m args below meth c H locs 0 0 Q (F0 m 65 ls [.int v_17, .ref (z.2.1 79)]) := by
          intro v_17 ls ev_17 hl
          have hf := of_lt ev_17 hf
          refine put_X8_8 hx hb hts in_X8_takesThread_X8 hown hK hz hW hS lk_X8_takesThread_3 dX8_takesThread_65 (fun H locs hW hS => ?_)
          obtain ⟨w_19, ew_19⟩ : ∃ y : Mem, y = mS w 79 8 v_17 := ⟨_, rfl⟩
          have hW : hd z w_19 H := by rw [ew_19]; exact hW
          have hf := of_lt ew_19 hf
          refine lv_iconst (v := 0) hx hb dX8_takesThread_68 (by decide) ?_
          exact hret _ _ _ _ _ _ hf rfl hW hS dX8_takesThread_69
        refine lv_icmp_le (tgt := 64) hx hb dX8_takesThread_57 (by decide) (fun c_20 => ?_) (fun c_20 => ?_)
        · refine lv_iconst (v := 2) hx hb dX8_takesThread_64 (by decide) ?_
          exact J_18 _ _ (by rw [if_pos c_20]) (lv_sub hl [] rfl)
        · refine lv_iconst (v := 1) hx hb dX8_takesThread_60 (by decide) ?_
          refine lv_goto (tgt := 65) hx hb dX8_takesThread_61 (by decide) ?_
          exact J_18 _ _ (by rw [if_neg c_20]) (lv_sub hl [] rfl)
  exact START _ _ hW va_S.rf
theorem in_X8_moves_X8 : ∀ w ∈ wsX80, w ∈ wsX8_moves := by decide +kernel
theorem lk_X8_moves_0 : Cond.fieldLink RX8 32 "CamStitch$Seam" "quarter" "I" ∈ wsX8_moves := by decide +kernel
theorem lk_X8_moves_1 : Cond.fieldLink RX8 26 "CamStitch$Seam" "x" "I" ∈ wsX8_moves := by decide +kernel
theorem lk_X8_moves_2 : Cond.fieldLink RX8 29 "CamStitch$Seam" "y" "I" ∈ wsX8_moves := by decide +kernel
set_option maxHeartbeats 4000000 in
set_option maxRecDepth 100000 in
theorem c_X8_moves (l : Launch) {z : LZ} (hz : IC z) (x1 : Int32) (x2 : Int32) (w : Mem) {w' : Mem} (hf : f_X8_moves x1 x2 w = some w') : Met l yX8_moves wsX8_moves (rm 0 0) (PZ z w [.ref (z.2.1 79), .int x1, .int x2]) (QW z none w') 0 0 (az z) := by
  refine mk_Wv (cc := cX8_moves) (maxL := 3) (by decide +kernel) rfl (Nat.le_of_ble_eq_true rfl) ?_
  intro p e s m args below meth c hx hb hml hts hown hK hW Q hret ls hl
  have hl : lv_has ls 3 [(0, .ref (z.2.1 79)), (1, .int x1), (2, .int x2)] := hl
  unfold f_X8_moves at hf
  have START : ∀ (H : Heap) (locs : List Loc), hd z w H → va_S (az z) s.heap H locs → W p l e (rm 0 0) s m args below meth c H locs 0 0 Q (F0 m 0 ls []) := by
    intro H locs hW hS
    refine lv_aload_n hx hb dX8_moves_0 rfl (lv_at hl 0 rfl) ?_
    refine get_X8_6 hx hb hts in_X8_moves_X8 hown hK hz hW lk_X8_moves_0 dX8_moves_1 ?_
    refine lv_topi (fun v_1 ev_1 => ?_)
    have hf := of_lt ev_1 hf
    by_cases c_2 : v_1 = 0
    · have hf := of_t c_2 hf
      refine lv_tableIn (off := 28) (tgt := 32) hx hb dX8_moves_4 (by rw [c_2]; decide) (by rw [c_2]; decide) (by rw [c_2]; rfl) (by decide) ?_
      refine lv_aload_n hx hb dX8_moves_32 rfl (lv_at hl 0 rfl) ?_
      refine lv_dup hx hb dX8_moves_33 rfl ?_
      refine get_X8_4 hx hb hts in_X8_moves_X8 hown hK hz hW lk_X8_moves_1 dX8_moves_34 ?_
      refine lv_iload_n hx hb dX8_moves_37 rfl (lv_at hl 1 rfl) ?_
      refine lv_iadd hx hb dX8_moves_38 ?_
      refine put_X8_4 hx hb hts in_X8_moves_X8 hown hK hz hW hS lk_X8_moves_1 dX8_moves_39 (fun H locs hW hS => ?_)
      obtain ⟨w_3, ew_3⟩ : ∃ y : Mem, y = mS w 79 4 ((w.1 79 4) + x1) := ⟨_, rfl⟩
      have hW : hd z w_3 H := by rw [ew_3]; exact hW
      have hf := of_lt ew_3 hf
      refine lv_aload_n hx hb dX8_moves_42 rfl (lv_at hl 0 rfl) ?_
      refine lv_dup hx hb dX8_moves_43 rfl ?_
      refine get_X8_5 hx hb hts in_X8_moves_X8 hown hK hz hW lk_X8_moves_2 dX8_moves_44 ?_
      refine lv_iload_n hx hb dX8_moves_47 rfl (lv_at hl 2 rfl) ?_
      refine lv_iadd hx hb dX8_moves_48 ?_
      refine put_X8_5 hx hb hts in_X8_moves_X8 hown hK hz hW hS lk_X8_moves_2 dX8_moves_49 (fun H locs hW hS => ?_)
      obtain ⟨w_4, ew_4⟩ : ∃ y : Mem, y = mS w_3 79 5 ((w_3.1 79 5) + x2) := ⟨_, rfl⟩
      have hW : hd z w_4 H := by rw [ew_4]; exact hW
      have hf := of_lt ew_4 hf
      refine lv_goto (tgt := 121) hx hb dX8_moves_52 (by decide) ?_
      exact hret _ _ _ _ _ hf hW hS dX8_moves_121
    have hf := of_f c_2 hf
    by_cases c_5 : v_1 = 1
    · have hf := of_t c_5 hf
      refine lv_tableIn (off := 51) (tgt := 55) hx hb dX8_moves_4 (by rw [c_5]; decide) (by rw [c_5]; decide) (by rw [c_5]; rfl) (by decide) ?_
      refine lv_aload_n hx hb dX8_moves_55 rfl (lv_at hl 0 rfl) ?_
      refine lv_dup hx hb dX8_moves_56 rfl ?_
      refine get_X8_4 hx hb hts in_X8_moves_X8 hown hK hz hW lk_X8_moves_1 dX8_moves_57 ?_
      refine lv_iload_n hx hb dX8_moves_60 rfl (lv_at hl 2 rfl) ?_
      refine lv_isub hx hb dX8_moves_61 ?_
      refine put_X8_4 hx hb hts in_X8_moves_X8 hown hK hz hW hS lk_X8_moves_1 dX8_moves_62 (fun H locs hW hS => ?_)
      obtain ⟨w_6, ew_6⟩ : ∃ y : Mem, y = mS w 79 4 ((w.1 79 4) - x2) := ⟨_, rfl⟩
      have hW : hd z w_6 H := by rw [ew_6]; exact hW
      have hf := of_lt ew_6 hf
      refine lv_aload_n hx hb dX8_moves_65 rfl (lv_at hl 0 rfl) ?_
      refine lv_dup hx hb dX8_moves_66 rfl ?_
      refine get_X8_5 hx hb hts in_X8_moves_X8 hown hK hz hW lk_X8_moves_2 dX8_moves_67 ?_
      refine lv_iload_n hx hb dX8_moves_70 rfl (lv_at hl 1 rfl) ?_
      refine lv_iadd hx hb dX8_moves_71 ?_
      refine put_X8_5 hx hb hts in_X8_moves_X8 hown hK hz hW hS lk_X8_moves_2 dX8_moves_72 (fun H locs hW hS => ?_)
      obtain ⟨w_7, ew_7⟩ : ∃ y : Mem, y = mS w_6 79 5 ((w_6.1 79 5) + x1) := ⟨_, rfl⟩
      have hW : hd z w_7 H := by rw [ew_7]; exact hW
      have hf := of_lt ew_7 hf
      refine lv_goto (tgt := 121) hx hb dX8_moves_75 (by decide) ?_
      exact hret _ _ _ _ _ hf hW hS dX8_moves_121
    have hf := of_f c_5 hf
    by_cases c_8 : v_1 = 2
    · have hf := of_t c_8 hf
      refine lv_tableIn (off := 74) (tgt := 78) hx hb dX8_moves_4 (by rw [c_8]; decide) (by rw [c_8]; decide) (by rw [c_8]; rfl) (by decide) ?_
      refine lv_aload_n hx hb dX8_moves_78 rfl (lv_at hl 0 rfl) ?_
      refine lv_dup hx hb dX8_moves_79 rfl ?_
      refine get_X8_4 hx hb hts in_X8_moves_X8 hown hK hz hW lk_X8_moves_1 dX8_moves_80 ?_
      refine lv_iload_n hx hb dX8_moves_83 rfl (lv_at hl 1 rfl) ?_
      refine lv_isub hx hb dX8_moves_84 ?_
      refine put_X8_4 hx hb hts in_X8_moves_X8 hown hK hz hW hS lk_X8_moves_1 dX8_moves_85 (fun H locs hW hS => ?_)
      obtain ⟨w_9, ew_9⟩ : ∃ y : Mem, y = mS w 79 4 ((w.1 79 4) - x1) := ⟨_, rfl⟩
      have hW : hd z w_9 H := by rw [ew_9]; exact hW
      have hf := of_lt ew_9 hf
      refine lv_aload_n hx hb dX8_moves_88 rfl (lv_at hl 0 rfl) ?_
      refine lv_dup hx hb dX8_moves_89 rfl ?_
      refine get_X8_5 hx hb hts in_X8_moves_X8 hown hK hz hW lk_X8_moves_2 dX8_moves_90 ?_
      refine lv_iload_n hx hb dX8_moves_93 rfl (lv_at hl 2 rfl) ?_
      refine lv_isub hx hb dX8_moves_94 ?_
      refine put_X8_5 hx hb hts in_X8_moves_X8 hown hK hz hW hS lk_X8_moves_2 dX8_moves_95 (fun H locs hW hS => ?_)
      obtain ⟨w_10, ew_10⟩ : ∃ y : Mem, y = mS w_9 79 5 ((w_9.1 79 5) - x2) := ⟨_, rfl⟩
      have hW : hd z w_10 H := by rw [ew_10]; exact hW
      have hf := of_lt ew_10 hf
      refine lv_goto (tgt := 121) hx hb dX8_moves_98 (by decide) ?_
      exact hret _ _ _ _ _ hf hW hS dX8_moves_121
    have hf := of_f c_8 hf
    refine lv_tableOut (tgt := 101) hx hb dX8_moves_4 (by have qc_2 := lv_neT c_2 (show (0 : Int32).toInt = 0 by decide); have qc_5 := lv_neT c_5 (show (1 : Int32).toInt = 1 by decide); have qc_8 := lv_neT c_8 (show (2 : Int32).toInt = 2 by decide); omega) (by decide) ?_
    refine lv_aload_n hx hb dX8_moves_101 rfl (lv_at hl 0 rfl) ?_
    refine lv_dup hx hb dX8_moves_102 rfl ?_
    refine get_X8_4 hx hb hts in_X8_moves_X8 hown hK hz hW lk_X8_moves_1 dX8_moves_103 ?_
    refine lv_iload_n hx hb dX8_moves_106 rfl (lv_at hl 2 rfl) ?_
    refine lv_iadd hx hb dX8_moves_107 ?_
    refine put_X8_4 hx hb hts in_X8_moves_X8 hown hK hz hW hS lk_X8_moves_1 dX8_moves_108 (fun H locs hW hS => ?_)
    obtain ⟨w_11, ew_11⟩ : ∃ y : Mem, y = mS w 79 4 ((w.1 79 4) + x2) := ⟨_, rfl⟩
    have hW : hd z w_11 H := by rw [ew_11]; exact hW
    have hf := of_lt ew_11 hf
    refine lv_aload_n hx hb dX8_moves_111 rfl (lv_at hl 0 rfl) ?_
    refine lv_dup hx hb dX8_moves_112 rfl ?_
    refine get_X8_5 hx hb hts in_X8_moves_X8 hown hK hz hW lk_X8_moves_2 dX8_moves_113 ?_
    refine lv_iload_n hx hb dX8_moves_116 rfl (lv_at hl 1 rfl) ?_
    refine lv_isub hx hb dX8_moves_117 ?_
    refine put_X8_5 hx hb hts in_X8_moves_X8 hown hK hz hW hS lk_X8_moves_2 dX8_moves_118 (fun H locs hW hS => ?_)
    obtain ⟨w_12, ew_12⟩ : ∃ y : Mem, y = mS w_11 79 5 ((w_11.1 79 5) - x1) := ⟨_, rfl⟩
    have hW : hd z w_12 H := by rw [ew_12]; exact hW
    have hf := of_lt ew_12 hf
    exact hret _ _ _ _ _ hf hW hS dX8_moves_121
  exact START _ _ hW va_S.rf
theorem in_X8_sewsOne_X1 : ∀ w ∈ wsX10, w ∈ wsX8_sewsOne := by decide +kernel
theorem in_X8_sewsOne_X8 : ∀ w ∈ wsX80, w ∈ wsX8_sewsOne := by decide +kernel
theorem lk_X8_sewsOne_0 : Cond.fieldLink RX8 22 "CamStitch$Seam" "stitches" "I" ∈ wsX8_sewsOne := by decide +kernel
theorem lk_X8_sewsOne_1 : Cond.fieldLink RX8 63 "CamStitch$Disc" "swings" "[I" ∈ wsX8_sewsOne := by decide +kernel
theorem lk_X8_sewsOne_2 : Cond.fieldLink RX8 50 "CamStitch$Seam" "next" "I" ∈ wsX8_sewsOne := by decide +kernel
theorem lk_X8_sewsOne_3 : Cond.fieldLink RX8 53 "CamStitch$Seam" "needle" "I" ∈ wsX8_sewsOne := by decide +kernel
theorem lk_X8_sewsOne_4 : Cond.fieldLink RX8 35 "CamStitch$Seam" "isBack" "Z" ∈ wsX8_sewsOne := by decide +kernel
theorem lk_X8_sewsOne_5 : Cond.fieldLink RX8 66 "CamStitch$Disc" "feeds" "[I" ∈ wsX8_sewsOne := by decide +kernel
theorem lk_X8_sewsOne_6 : Cond.methodLink RX8 69 Lib.Math.abs.name ∈ wsX8_sewsOne := by decide +kernel
theorem lk_X8_sewsOne_7 : Cond.static Lib.Math.abs.name ∈ wsX8_sewsOne := by decide +kernel
theorem lk_X8_sewsOne_8 : Cond.initialized "java/lang/Math" ∈ wsX8_sewsOne := by decide +kernel
theorem lk_X8_sewsOne_9 : Cond.code Lib.Math.abs.name Lib.Math.abs.code 1 (some .int) ∈ wsX8_sewsOne := by decide +kernel
theorem lk_X8_sewsOne_10 : Cond.fieldLink RX8 56 "CamStitch$Disc" "stitches" "I" ∈ wsX8_sewsOne := by decide +kernel
theorem lk_X8_sewsOne_11 : Cond.fieldLink RX8 9 "CamStitch$Seam" "xs" "[I" ∈ wsX8_sewsOne := by decide +kernel
theorem lk_X8_sewsOne_12 : Cond.fieldLink RX8 26 "CamStitch$Seam" "x" "I" ∈ wsX8_sewsOne := by decide +kernel
theorem lk_X8_sewsOne_13 : Cond.fieldLink RX8 15 "CamStitch$Seam" "ys" "[I" ∈ wsX8_sewsOne := by decide +kernel
theorem lk_X8_sewsOne_14 : Cond.fieldLink RX8 29 "CamStitch$Seam" "y" "I" ∈ wsX8_sewsOne := by decide +kernel
theorem lk_X8_sewsOne_15 : Cond.fieldLink RX8 38 "CamStitch$Seam" "why" "I" ∈ wsX8_sewsOne := by decide +kernel
set_option maxHeartbeats 4000000 in
set_option maxRecDepth 100000 in
theorem c_X8_sewsOne (l : Launch) {z : LZ} (hz : IC z) (d1 : Nat) (hd1 : d1 < 16) (w : Mem) {r : Int32} {w' : Mem} (hf : f_X8_sewsOne d1 w = some (r, w')) : Met l yX8_sewsOne wsX8_sewsOne (rm 3 67) (PZ z w [.ref (z.2.1 79), .ref (z.2.1 (3*d1)), .ref (z.2.1 74)]) (QW z (some (.int r)) w') 0 0 (az z) := by
  refine mk_Wz (cc := cX8_sewsOne) (maxL := 5) (by decide +kernel) rfl (Nat.le_of_ble_eq_true rfl) ?_
  intro p e s m args below meth c hx hb hml hts hown hK hW Q hret ls hl
  have hl : lv_has ls 5 [(0, .ref (z.2.1 79)), (1, .ref (z.2.1 (3*d1))), (2, .ref (z.2.1 74))] := hl
  unfold f_X8_sewsOne at hf
  have START : ∀ (H : Heap) (locs : List Loc), hd z w H → va_S (az z) s.heap H locs → W p l e (rm 3 67) s m args below meth c H locs 0 0 Q (F0 m 0 ls []) := by
    intro H locs hW hS
    refine lv_aload_n hx hb dX8_sewsOne_0 rfl (lv_at hl 0 rfl) ?_
    refine get_X8_3 hx hb hts in_X8_sewsOne_X8 hown hK hz hW lk_X8_sewsOne_0 dX8_sewsOne_1 ?_
    refine lv_sipush (v := 600) hx hb dX8_sewsOne_4 (by decide) ?_
    refine lv_icmp_lt (tgt := 17) hx hb dX8_sewsOne_7 (by decide) (fun c_1 => ?_) (fun c_1 => ?_)
    · have hf := of_t c_1 hf
      refine lv_aload_n hx hb dX8_sewsOne_17 rfl (lv_at hl 1 rfl) ?_
      refine get_X1_0 hx hb hts in_X8_sewsOne_X1 hown hK hz hW hd1 lk_X8_sewsOne_1 dX8_sewsOne_18 ?_
      refine lv_aload_n hx hb dX8_sewsOne_21 rfl (lv_at hl 0 rfl) ?_
      refine get_X8_12 hx hb hts in_X8_sewsOne_X8 hown hK hz hW lk_X8_sewsOne_2 dX8_sewsOne_22 ?_
      obtain ⟨g_2, hf⟩ := of_gd hf
      refine ld_AI48 hx hb hK hz hW (p48_1 hd1) g_2 dX8_sewsOne_25 ?_
      refine lv_topi (fun v_3 ev_3 => ?_)
      have hf := of_lt ev_3 hf
      refine lv_aload_n hx hb dX8_sewsOne_26 rfl (lv_at hl 0 rfl) ?_
      refine get_X8_13 hx hb hts in_X8_sewsOne_X8 hown hK hz hW lk_X8_sewsOne_3 dX8_sewsOne_27 ?_
      refine lv_isub hx hb dX8_sewsOne_30 ?_
      refine lv_topi (fun v_4 ev_4 => ?_)
      have hf := of_lt ev_4 hf
      refine lv_istore_n (lv' := [(3, .int v_4), (0, .ref (z.2.1 79)), (1, .ref (z.2.1 (3*d1))), (2, .ref (z.2.1 74))]) hx hb dX8_sewsOne_31 rfl hl (by decide) rfl (fun ls hl => ?_)
      refine lv_aload_n hx hb dX8_sewsOne_32 rfl (lv_at hl 1 rfl) ?_
      refine get_X8_7 hx hb hts in_X8_sewsOne_X8 hown hK hz hW lk_X8_sewsOne_4 dX8_sewsOne_33 ?_
      have J_6 : ∀ (v_5 : Int32) (ls : Array Slot), v_5 = (if (w.1 79 7) = 0 then (w.1 (3*d1+2) (w.1 79 12).toNatClampNeg) else (-(w.1 (3*d1+2) (w.1 79 12).toNatClampNeg))) → lv_has ls 5 [(0, .ref (z.2.1 79)), (1, .ref (z.2.1 (3*d1))), (2, .ref (z.2.1 74)), (3, .int v_4)] → W p l e (rm 3 67) s m args below meth c H locs 0 0 Q (F0 m 61 ls [.int v_5]) := by
        intro v_5 ls ev_5 hl
        have hf := of_lt ev_5 hf
        refine lv_istore (lv' := [(4, .int v_5), (0, .ref (z.2.1 79)), (1, .ref (z.2.1 (3*d1))), (2, .ref (z.2.1 74)), (3, .int v_4)]) hx hb dX8_sewsOne_61 hl (by decide) rfl (fun ls hl => ?_)
        refine lv_aload_n hx hb dX8_sewsOne_63 rfl (lv_at hl 1 rfl) ?_
        refine lv_iload_n hx hb dX8_sewsOne_64 rfl (lv_at hl 4 rfl) ?_
        refine va_mabs hx hb (hml.trans hl.1.symm) hown (hts _ lk_X8_sewsOne_6) (hts _ lk_X8_sewsOne_7) (hts _ lk_X8_sewsOne_8) (hts _ lk_X8_sewsOne_9) (Nat.le_of_ble_eq_true rfl) (Nat.le_of_ble_eq_true rfl) (Nat.le_refl _) (Nat.le_refl _) dX8_sewsOne_65 ?_
        refine lv_topi (fun v_7 ev_7 => ?_)
        have hf := of_lt (e := iabs v_4) ev_7 hf
        refine lv_iload hx hb dX8_sewsOne_68 (lv_at hl 0 rfl) ?_
        refine va_mabs hx hb (hml.trans hl.1.symm) hown (hts _ lk_X8_sewsOne_6) (hts _ lk_X8_sewsOne_7) (hts _ lk_X8_sewsOne_8) (hts _ lk_X8_sewsOne_9) (Nat.le_of_ble_eq_true rfl) (Nat.le_of_ble_eq_true rfl) (Nat.le_refl _) (Nat.le_refl _) dX8_sewsOne_70 ?_
        refine lv_topi (fun v_8 ev_8 => ?_)
        have hf := of_lt (e := iabs v_5) ev_8 hf
        refine lv_iadd hx hb dX8_sewsOne_73 ?_
        refine lv_aload_n hx hb dX8_sewsOne_74 rfl (lv_at hl 3 rfl) ?_
        obtain ⟨r_9, w_11, hq_10, hf⟩ := of_b2 hf
        refine m_goWi (va_runV (As := [.int (v_7 + v_8), .ref (z.2.1 74)]) (rest := []) ⟨hx, hb, hml, hown, hts⟩ (c_X8_takesThread l hz (v_7 + v_8) w hq_10) (cwV 2 hts gX8_sewsOne_X8_takesThread rfl rfl rfl (by decide +kernel) ⟨Nat.le_of_ble_eq_true rfl, Nat.le_of_ble_eq_true rfl⟩) (pre_X8 hK hz hW _) rfl rfl hl.1 rfl (lv_room (Nat.le_of_ble_eq_true rfl)) dX8_sewsOne_75 ⟨Nat.le_refl _, Nat.le_refl _⟩) hS (fun H locs hW hS => ?_)
        refine lv_if_ne (tgt := 83) hx hb dX8_sewsOne_78 (by decide) (fun c_12 => ?_) (fun c_12 => ?_)
        · have hf := of_f c_12 hf
          refine lv_aload_n hx hb dX8_sewsOne_83 rfl (lv_at hl 1 rfl) ?_
          refine lv_aload_n hx hb dX8_sewsOne_84 rfl (lv_at hl 2 rfl) ?_
          refine get_X1_0 hx hb hts in_X8_sewsOne_X1 hown hK hz hW hd1 lk_X8_sewsOne_1 dX8_sewsOne_85 ?_
          refine lv_aload_n hx hb dX8_sewsOne_88 rfl (lv_at hl 1 rfl) ?_
          refine get_X8_12 hx hb hts in_X8_sewsOne_X8 hown hK hz hW lk_X8_sewsOne_2 dX8_sewsOne_89 ?_
          obtain ⟨g_13, hf⟩ := of_gd hf
          refine ld_AI48 hx hb hK hz hW (p48_1 hd1) g_13 dX8_sewsOne_92 ?_
          refine lv_topi (fun v_14 ev_14 => ?_)
          have hf := of_lt ev_14 hf
          refine put_X8_13 hx hb hts in_X8_sewsOne_X8 hown hK hz hW hS lk_X8_sewsOne_3 dX8_sewsOne_93 (fun H locs hW hS => ?_)
          obtain ⟨w_15, ew_15⟩ : ∃ y : Mem, y = mS w_11 79 13 v_14 := ⟨_, rfl⟩
          have hW : hd z w_15 H := by rw [ew_15]; exact hW
          have hf := of_lt ew_15 hf
          refine lv_aload_n hx hb dX8_sewsOne_96 rfl (lv_at hl 1 rfl) ?_
          refine lv_aload_n hx hb dX8_sewsOne_97 rfl (lv_at hl 1 rfl) ?_
          refine get_X8_12 hx hb hts in_X8_sewsOne_X8 hown hK hz hW lk_X8_sewsOne_2 dX8_sewsOne_98 ?_
          refine lv_iconst (v := 1) hx hb dX8_sewsOne_101 (by decide) ?_
          refine lv_iadd hx hb dX8_sewsOne_102 ?_
          refine lv_aload_n hx hb dX8_sewsOne_103 rfl (lv_at hl 2 rfl) ?_
          refine get_X1_2 hx hb hts in_X8_sewsOne_X1 hown hK hz hW hd1 lk_X8_sewsOne_10 dX8_sewsOne_104 ?_
          have J_17 : ∀ (v_16 : Int32) (ls : Array Slot), v_16 = (if (w_15.1 (3*d1) 2) ≤ ((w_15.1 79 12) + 1) then 0 else ((w_15.1 79 12) + 1)) → lv_has ls 5 [(0, .ref (z.2.1 79)), (3, .int v_4), (4, .int v_5)] → W p l e (rm 3 67) s m args below meth c H locs 0 0 Q (F0 m 120 ls [.int v_16, .ref (z.2.1 79)]) := by
            intro v_16 ls ev_16 hl
            have hf := of_lt ev_16 hf
            refine put_X8_12 hx hb hts in_X8_sewsOne_X8 hown hK hz hW hS lk_X8_sewsOne_2 dX8_sewsOne_120 (fun H locs hW hS => ?_)
            obtain ⟨w_18, ew_18⟩ : ∃ y : Mem, y = mS w_15 79 12 v_16 := ⟨_, rfl⟩
            have hW : hd z w_18 H := by rw [ew_18]; exact hW
            have hf := of_lt ew_18 hf
            refine lv_aload_n hx hb dX8_sewsOne_123 rfl (lv_at hl 0 rfl) ?_
            refine lv_iload_n hx hb dX8_sewsOne_124 rfl (lv_at hl 1 rfl) ?_
            refine lv_iload hx hb dX8_sewsOne_125 (lv_at hl 2 rfl) ?_
            obtain ⟨w_21, hq_20, hf⟩ := of_bd hf
            refine m_goWv (va_runV (As := [.int v_4, .int v_5]) (rest := []) ⟨hx, hb, hml, hown, hts⟩ (c_X8_moves l hz v_4 v_5 w_18 hq_20) (cwV 2 hts gX8_sewsOne_X8_moves rfl rfl rfl (by decide +kernel) ⟨Nat.le_of_ble_eq_true rfl, Nat.le_of_ble_eq_true rfl⟩) (pre_X8 hK hz hW _) rfl rfl hl.1 rfl (lv_room (Nat.le_of_ble_eq_true rfl)) dX8_sewsOne_127 ⟨Nat.le_refl _, Nat.le_refl _⟩) hS (fun H locs hW hS => ?_)
            refine lv_aload_n hx hb dX8_sewsOne_130 rfl (lv_at hl 0 rfl) ?_
            refine get_X8_0 hx hb hts in_X8_sewsOne_X8 hown hK hz hW lk_X8_sewsOne_11 dX8_sewsOne_131 ?_
            refine lv_aload_n hx hb dX8_sewsOne_134 rfl (lv_at hl 0 rfl) ?_
            refine get_X8_3 hx hb hts in_X8_sewsOne_X8 hown hK hz hW lk_X8_sewsOne_0 dX8_sewsOne_135 ?_
            refine lv_aload_n hx hb dX8_sewsOne_138 rfl (lv_at hl 0 rfl) ?_
            refine get_X8_4 hx hb hts in_X8_sewsOne_X8 hown hK hz hW lk_X8_sewsOne_12 dX8_sewsOne_139 ?_
            obtain ⟨g_22, hf⟩ := of_gd hf
            refine st_A80 hx hb hK hz hW hS g_22 dX8_sewsOne_142 (fun H locs hW hS => ?_)
            obtain ⟨w_23, ew_23⟩ : ∃ y : Mem, y = mS w_21 80 ((w_21.1 79 3).toNatClampNeg) (w_21.1 79 4) := ⟨_, rfl⟩
            have hW : hd z w_23 H := by rw [ew_23]; exact hW
            have hf := of_lt ew_23 hf
            refine lv_aload_n hx hb dX8_sewsOne_143 rfl (lv_at hl 0 rfl) ?_
            refine get_X8_1 hx hb hts in_X8_sewsOne_X8 hown hK hz hW lk_X8_sewsOne_13 dX8_sewsOne_144 ?_
            refine lv_aload_n hx hb dX8_sewsOne_147 rfl (lv_at hl 0 rfl) ?_
            refine get_X8_3 hx hb hts in_X8_sewsOne_X8 hown hK hz hW lk_X8_sewsOne_0 dX8_sewsOne_148 ?_
            refine lv_aload_n hx hb dX8_sewsOne_151 rfl (lv_at hl 0 rfl) ?_
            refine get_X8_5 hx hb hts in_X8_sewsOne_X8 hown hK hz hW lk_X8_sewsOne_14 dX8_sewsOne_152 ?_
            obtain ⟨g_24, hf⟩ := of_gd hf
            refine st_A81 hx hb hK hz hW hS g_24 dX8_sewsOne_155 (fun H locs hW hS => ?_)
            obtain ⟨w_25, ew_25⟩ : ∃ y : Mem, y = mS w_23 81 ((w_23.1 79 3).toNatClampNeg) (w_23.1 79 5) := ⟨_, rfl⟩
            have hW : hd z w_25 H := by rw [ew_25]; exact hW
            have hf := of_lt ew_25 hf
            refine lv_aload_n hx hb dX8_sewsOne_156 rfl (lv_at hl 0 rfl) ?_
            refine lv_dup hx hb dX8_sewsOne_157 rfl ?_
            refine get_X8_3 hx hb hts in_X8_sewsOne_X8 hown hK hz hW lk_X8_sewsOne_0 dX8_sewsOne_158 ?_
            refine lv_iconst (v := 1) hx hb dX8_sewsOne_161 (by decide) ?_
            refine lv_iadd hx hb dX8_sewsOne_162 ?_
            refine put_X8_3 hx hb hts in_X8_sewsOne_X8 hown hK hz hW hS lk_X8_sewsOne_0 dX8_sewsOne_163 (fun H locs hW hS => ?_)
            obtain ⟨w_26, ew_26⟩ : ∃ y : Mem, y = mS w_25 79 3 ((w_25.1 79 3) + 1) := ⟨_, rfl⟩
            have hW : hd z w_26 H := by rw [ew_26]; exact hW
            have hf := of_lt ew_26 hf
            refine lv_iconst (v := 1) hx hb dX8_sewsOne_166 (by decide) ?_
            exact hret _ _ _ _ _ _ hf rfl hW hS dX8_sewsOne_167
          refine lv_icmp_ge (tgt := 119) hx hb dX8_sewsOne_107 (by decide) (fun c_27 => ?_) (fun c_27 => ?_)
          · refine lv_iconst (v := 0) hx hb dX8_sewsOne_119 (by decide) ?_
            exact J_17 _ _ (by rw [if_pos c_27]) (lv_sub hl [1, 4, 0] rfl)
          · refine lv_aload_n hx hb dX8_sewsOne_110 rfl (lv_at hl 1 rfl) ?_
            refine get_X8_12 hx hb hts in_X8_sewsOne_X8 hown hK hz hW lk_X8_sewsOne_2 dX8_sewsOne_111 ?_
            refine lv_iconst (v := 1) hx hb dX8_sewsOne_114 (by decide) ?_
            refine lv_iadd hx hb dX8_sewsOne_115 ?_
            refine lv_goto (tgt := 120) hx hb dX8_sewsOne_116 (by decide) ?_
            exact J_17 _ _ (by rw [if_neg c_27]) (lv_sub hl [1, 4, 0] rfl)
        · have hf := of_t c_12 hf
          refine lv_iconst (v := 0) hx hb dX8_sewsOne_81 (by decide) ?_
          exact hret _ _ _ _ _ _ hf rfl hW hS dX8_sewsOne_82
      refine lv_if_eq (tgt := 52) hx hb dX8_sewsOne_36 (by decide) (fun c_28 => ?_) (fun c_28 => ?_)
      · refine lv_aload_n hx hb dX8_sewsOne_52 rfl (lv_at hl 2 rfl) ?_
        refine get_X1_1 hx hb hts in_X8_sewsOne_X1 hown hK hz hW hd1 lk_X8_sewsOne_5 dX8_sewsOne_53 ?_
        refine lv_aload_n hx hb dX8_sewsOne_56 rfl (lv_at hl 1 rfl) ?_
        refine get_X8_12 hx hb hts in_X8_sewsOne_X8 hown hK hz hW lk_X8_sewsOne_2 dX8_sewsOne_57 ?_
        refine ld_AI48 hx hb hK hz hW (p48_2 hd1) g_2 dX8_sewsOne_60 ?_
        exact J_6 _ _ (by rw [if_pos c_28]) (lv_sub hl [1, 2, 3, 0] rfl)
      · refine lv_aload_n hx hb dX8_sewsOne_39 rfl (lv_at hl 2 rfl) ?_
        refine get_X1_1 hx hb hts in_X8_sewsOne_X1 hown hK hz hW hd1 lk_X8_sewsOne_5 dX8_sewsOne_40 ?_
        refine lv_aload_n hx hb dX8_sewsOne_43 rfl (lv_at hl 1 rfl) ?_
        refine get_X8_12 hx hb hts in_X8_sewsOne_X8 hown hK hz hW lk_X8_sewsOne_2 dX8_sewsOne_44 ?_
        refine ld_AI48 hx hb hK hz hW (p48_2 hd1) g_2 dX8_sewsOne_47 ?_
        refine lv_ineg hx hb dX8_sewsOne_48 ?_
        refine lv_goto (tgt := 61) hx hb dX8_sewsOne_49 (by decide) ?_
        exact J_6 _ _ (by rw [if_neg c_28]) (lv_sub hl [1, 2, 3, 0] rfl)
    · have hf := of_f c_1 hf
      refine lv_aload_n hx hb dX8_sewsOne_10 rfl (lv_at hl 0 rfl) ?_
      refine lv_iconst (v := 3) hx hb dX8_sewsOne_11 (by decide) ?_
      refine put_X8_8 hx hb hts in_X8_sewsOne_X8 hown hK hz hW hS lk_X8_sewsOne_15 dX8_sewsOne_12 (fun H locs hW hS => ?_)
      obtain ⟨w_29, ew_29⟩ : ∃ y : Mem, y = mS w 79 8 3 := ⟨_, rfl⟩
      have hW : hd z w_29 H := by rw [ew_29]; exact hW
      have hf := of_lt ew_29 hf
      refine lv_iconst (v := 0) hx hb dX8_sewsOne_15 (by decide) ?_
      exact hret _ _ _ _ _ _ hf rfl hW hS dX8_sewsOne_16
  exact START _ _ hW va_S.rf
theorem in_X8_sews_X1 : ∀ w ∈ wsX10, w ∈ wsX8_sews := by decide +kernel
theorem in_X8_sews_X8 : ∀ w ∈ wsX80, w ∈ wsX8_sews := by decide +kernel
theorem lk_X8_sews_0 : Cond.fieldLink RX8 56 "CamStitch$Disc" "stitches" "I" ∈ wsX8_sews := by decide +kernel
theorem lk_X8_sews_1 : Cond.fieldLink RX8 38 "CamStitch$Seam" "why" "I" ∈ wsX8_sews := by decide +kernel
set_option maxHeartbeats 4000000 in
set_option maxRecDepth 100000 in
theorem c_X8_sews (l : Launch) {z : LZ} (hz : IC z) (d1 : Nat) (hd1 : d1 < 16) (x3 : Int32) (w : Mem) {r : Int32} {w' : Mem} (hf : f_X8_sews d1 x3 w = some (r, w')) : Met l yX8_sews wsX8_sews (rm 4 91) (PZ z w [.ref (z.2.1 79), .ref (z.2.1 (3*d1)), .ref (z.2.1 74), .int x3]) (QW z (some (.int r)) w') 0 0 (az z) := by
  refine mk_Wz (cc := cX8_sews) (maxL := 5) (by decide +kernel) rfl (Nat.le_of_ble_eq_true rfl) ?_
  intro p e s m args below meth c hx hb hml hts hown hK hW Q hret ls hl
  have hl : lv_has ls 5 [(0, .ref (z.2.1 79)), (1, .ref (z.2.1 (3*d1))), (2, .ref (z.2.1 74)), (3, .int x3)] := hl
  unfold f_X8_sews at hf
  have START : ∀ (H : Heap) (locs : List Loc), hd z w H → va_S (az z) s.heap H locs → W p l e (rm 4 91) s m args below meth c H locs 0 0 Q (F0 m 0 ls []) := by
    intro H locs hW hS
    refine lv_aload_n hx hb dX8_sews_0 rfl (lv_at hl 1 rfl) ?_
    refine get_X1_2 hx hb hts in_X8_sews_X1 hown hK hz hW hd1 lk_X8_sews_0 dX8_sews_1 ?_
    refine lv_if_ne (tgt := 14) hx hb dX8_sews_4 (by decide) (fun c_1 => ?_) (fun c_1 => ?_)
    · have hf := of_f c_1 hf
      refine lv_iconst (v := 0) hx hb dX8_sews_14 (by decide) ?_
      refine lv_istore (lv' := [(4, .int 0), (0, .ref (z.2.1 79)), (1, .ref (z.2.1 (3*d1))), (2, .ref (z.2.1 74)), (3, .int x3)]) hx hb dX8_sews_15 hl (by decide) rfl (fun ls hl => ?_)
      have L_4 : ∀ (n : Nat) (x4_2 : Int32) (w_3 : Mem) (exL_4 : Sum (Int32 × Mem) (Mem)) (H : Heap) (locs : List Loc) (ls : Array Slot), f_X8_sews_L17 d1 x3 n x4_2 w_3 = some exL_4 → hd z w_3 H → va_S (az z) s.heap H locs → lv_has ls 5 [(0, .ref (z.2.1 79)), (1, .ref (z.2.1 (3*d1))), (2, .ref (z.2.1 74)), (3, .int x3), (4, .int x4_2)] → (∀ ret, exL_4 = .inl ret → some (ret) = some (r, w')) → (∀ x, exL_4 = .inr x → ∀ (H : Heap) (locs : List Loc) (ls : Array Slot), hd z (x) H → va_S (az z) s.heap H locs → lv_has ls 5 [] → W p l e (rm 4 91) s m args below meth c H locs 0 0 Q (F0 m 40 ls [])) → W p l e (rm 4 91) s m args below meth c H locs 0 0 Q (F0 m 17 ls []) := by
        intro n
        induction n with
        | zero =>
          intro x4_2 w_3 exL_4 H locs ls hf
          have hf : (none : Option (Sum (Int32 × Mem) (Mem))) = some exL_4 := hf
          cases hf
        | succ n ihL_4 =>
          intro x4_2 w_3 exL_4 H locs ls hf hW hS hl hRL_4 hEL_4
          rw [f_X8_sews_L17_s] at hf
          refine lv_iload hx hb dX8_sews_17 (lv_at hl 4 rfl) ?_
          refine lv_iload_n hx hb dX8_sews_19 rfl (lv_at hl 3 rfl) ?_
          refine lv_icmp_ge (tgt := 40) hx hb dX8_sews_20 (by decide) (fun c_5 => ?_) (fun c_5 => ?_)
          · have hf := of_t c_5 hf
            exact hEL_4 _ (Option.some.inj hf).symm _ _ _ hW hS (lv_sub hl [] rfl)
          · have hf := of_f c_5 hf
            refine lv_aload_n hx hb dX8_sews_23 rfl (lv_at hl 0 rfl) ?_
            refine lv_aload_n hx hb dX8_sews_24 rfl (lv_at hl 1 rfl) ?_
            refine lv_aload_n hx hb dX8_sews_25 rfl (lv_at hl 2 rfl) ?_
            obtain ⟨r_6, w_8, hq_7, hf⟩ := of_b2 hf
            refine m_goWi (va_runV (As := [.ref (z.2.1 (3*d1)), .ref (z.2.1 74)]) (rest := []) ⟨hx, hb, hml, hown, hts⟩ (c_X8_sewsOne l hz d1 hd1 w_3 hq_7) (cwV 2 hts gX8_sews_X8_sewsOne rfl rfl rfl (by decide +kernel) ⟨Nat.le_of_ble_eq_true rfl, Nat.le_of_ble_eq_true rfl⟩) (pre_X8 hK hz hW _) rfl rfl hl.1 rfl (lv_room (Nat.le_of_ble_eq_true rfl)) dX8_sews_26 ⟨Nat.le_refl _, Nat.le_refl _⟩) hS (fun H locs hW hS => ?_)
            refine lv_if_ne (tgt := 34) hx hb dX8_sews_29 (by decide) (fun c_9 => ?_) (fun c_9 => ?_)
            · have hf := of_f c_9 hf
              obtain ⟨x4_10, ex4_10⟩ : ∃ y : Int32, y = x4_2 + 1 := ⟨_, rfl⟩
              have hf := of_lt ex4_10 hf
              refine lv_iinc (v := x4_10) (lv' := [(4, .int x4_10), (0, .ref (z.2.1 79)), (1, .ref (z.2.1 (3*d1))), (2, .ref (z.2.1 74)), (3, .int x3)]) hx hb dX8_sews_34 hl (k := 4) rfl (by rw [ex4_10]; rfl) (by decide) rfl (fun ls hl => ?_)
              refine lv_goto (tgt := 17) hx hb dX8_sews_37 (by decide) ?_
              exact ihL_4 _ _ _ _ _ _ hf hW hS (lv_sub hl [1, 2, 3, 4, 0] rfl) hRL_4 hEL_4
            · have hf := of_t c_9 hf
              refine lv_iconst (v := 0) hx hb dX8_sews_32 (by decide) ?_
              exact hret _ _ _ _ _ _ (hRL_4 _ (Option.some.inj hf).symm) rfl hW hS dX8_sews_33
      obtain ⟨ex_12, hq_11, hf⟩ := of_bd hf
      refine L_4 FU _ _ _ _ _ _ hq_11 hW hS (lv_sub hl [1, 2, 3, 4, 0] rfl) (fun ret he => by subst he; exact hf) (fun x he H locs ls hW hS hl => ?_)
      subst he
      obtain ⟨w_13, ew_13⟩ : ∃ y, y = x := ⟨_, rfl⟩
      subst ew_13
      have hf := of_sr hf
      have hW : hd z w_13 H := hW
      have hl : lv_has ls 5 [] := hl
      refine lv_iconst (v := 1) hx hb dX8_sews_40 (by decide) ?_
      exact hret _ _ _ _ _ _ hf rfl hW hS dX8_sews_41
    · have hf := of_t c_1 hf
      refine lv_aload_n hx hb dX8_sews_7 rfl (lv_at hl 0 rfl) ?_
      refine lv_iconst (v := 4) hx hb dX8_sews_8 (by decide) ?_
      refine put_X8_8 hx hb hts in_X8_sews_X8 hown hK hz hW hS lk_X8_sews_1 dX8_sews_9 (fun H locs hW hS => ?_)
      obtain ⟨w_14, ew_14⟩ : ∃ y : Mem, y = mS w 79 8 4 := ⟨_, rfl⟩
      have hW : hd z w_14 H := by rw [ew_14]; exact hW
      have hf := of_lt ew_14 hf
      refine lv_iconst (v := 0) hx hb dX8_sews_12 (by decide) ?_
      exact hret _ _ _ _ _ _ hf rfl hW hS dX8_sews_13
  exact START _ _ hW va_S.rf
theorem in_X8_wasAt_X8 : ∀ w ∈ wsX80, w ∈ wsX8_wasAt := by decide +kernel
theorem lk_X8_wasAt_0 : Cond.fieldLink RX8 9 "CamStitch$Seam" "xs" "[I" ∈ wsX8_wasAt := by decide +kernel
theorem lk_X8_wasAt_1 : Cond.fieldLink RX8 15 "CamStitch$Seam" "ys" "[I" ∈ wsX8_wasAt := by decide +kernel
set_option maxHeartbeats 4000000 in
set_option maxRecDepth 100000 in
theorem c_X8_wasAt (l : Launch) {z : LZ} (hz : IC z) (x1 : Int32) (x2 : Int32) (x3 : Int32) (w : Mem) {r : Int32} (hf : f_X8_wasAt x1 x2 x3 w = some r) : Met l yX8_wasAt wsX8_wasAt (rm 0 0) (PZ z w [.ref (z.2.1 79), .int x1, .int x2, .int x3]) (QR (some (.int r))) 0 0 (fun _ => False) := by
  refine mk_Rz (cc := cX8_wasAt) (maxL := 5) (by decide +kernel) rfl (Nat.le_of_ble_eq_true rfl) ?_
  intro p e s m args below meth c hx hb hml hts hown hK hW Q hret ls hl
  have hl : lv_has ls 5 [(0, .ref (z.2.1 79)), (1, .int x1), (2, .int x2), (3, .int x3)] := hl
  unfold f_X8_wasAt at hf
  refine lv_iload_n hx hb dX8_wasAt_0 rfl (lv_at hl 1 rfl) ?_
  obtain ⟨k_1, ek_1, hf⟩ := of_lz hf
  have Jk_1 : ∀ (ls : Array Slot), k_1 () = some r → lv_has ls 5 [(0, .ref (z.2.1 79)), (1, .int x1), (2, .int x2), (3, .int x3)] → W p l e (rm 0 0) s m args below meth c s.heap [] 0 0 Q (F0 m 10 ls []) := by
    intro ls hf hl
    have hf := of_j1 ek_1 hf
    refine lv_iconst (v := 0) hx hb dX8_wasAt_10 (by decide) ?_
    refine lv_istore (lv' := [(4, .int 0), (0, .ref (z.2.1 79)), (1, .int x1), (2, .int x2), (3, .int x3)]) hx hb dX8_wasAt_11 hl (by decide) rfl (fun ls hl => ?_)
    have L_3 : ∀ (n : Nat) (x4_2 : Int32) (exL_3 : Sum (Int32) (Unit)) (ls : Array Slot), f_X8_wasAt_L13 w x1 x2 x3 n x4_2 = some exL_3 → lv_has ls 5 [(0, .ref (z.2.1 79)), (1, .int x1), (2, .int x2), (3, .int x3), (4, .int x4_2)] → (∀ ret, exL_3 = .inl ret → some (ret) = some r) → (∀ x, exL_3 = .inr x → ∀ (ls : Array Slot), lv_has ls 5 [] → W p l e (rm 0 0) s m args below meth c s.heap [] 0 0 Q (F0 m 49 ls [])) → W p l e (rm 0 0) s m args below meth c s.heap [] 0 0 Q (F0 m 13 ls []) := by
      intro n
      induction n with
      | zero =>
        intro x4_2 exL_3 ls hf
        have hf : (none : Option (Sum (Int32) (Unit))) = some exL_3 := hf
        cases hf
      | succ n ihL_3 =>
        intro x4_2 exL_3 ls hf hl hRL_3 hEL_3
        rw [f_X8_wasAt_L13_s] at hf
        refine lv_iload hx hb dX8_wasAt_13 (lv_at hl 4 rfl) ?_
        refine lv_iload_n hx hb dX8_wasAt_15 rfl (lv_at hl 3 rfl) ?_
        refine lv_icmp_ge (tgt := 49) hx hb dX8_wasAt_16 (by decide) (fun c_4 => ?_) (fun c_4 => ?_)
        · have hf := of_t c_4 hf
          exact hEL_3 _ (Option.some.inj hf).symm _ (lv_sub hl [] rfl)
        · have hf := of_f c_4 hf
          refine lv_aload_n hx hb dX8_wasAt_19 rfl (lv_at hl 0 rfl) ?_
          refine get_X8_0 hx hb hts in_X8_wasAt_X8 hown hK hz hW lk_X8_wasAt_0 dX8_wasAt_20 ?_
          refine lv_iload hx hb dX8_wasAt_23 (lv_at hl 4 rfl) ?_
          obtain ⟨g_5, hf⟩ := of_gd hf
          refine ld_A80 hx hb hK hz hW g_5 dX8_wasAt_25 ?_
          refine lv_topi (fun v_6 ev_6 => ?_)
          have hf := of_lt ev_6 hf
          refine lv_iload_n hx hb dX8_wasAt_26 rfl (lv_at hl 1 rfl) ?_
          refine lv_icmp_ne (tgt := 43) hx hb dX8_wasAt_27 (by decide) (fun c_7 => ?_) (fun c_7 => ?_)
          · have hf := of_f c_7 hf
            obtain ⟨x4_8, ex4_8⟩ : ∃ y : Int32, y = x4_2 + 1 := ⟨_, rfl⟩
            have hf := of_lt ex4_8 hf
            refine lv_iinc (v := x4_8) (lv' := [(4, .int x4_8), (0, .ref (z.2.1 79)), (1, .int x1), (2, .int x2), (3, .int x3)]) hx hb dX8_wasAt_43 hl (k := 4) rfl (by rw [ex4_8]; rfl) (by decide) rfl (fun ls hl => ?_)
            refine lv_goto (tgt := 13) hx hb dX8_wasAt_46 (by decide) ?_
            exact ihL_3 _ _ _ hf (lv_sub hl [1, 2, 3, 4, 0] rfl) hRL_3 hEL_3
          · have hf := of_t c_7 hf
            refine lv_aload_n hx hb dX8_wasAt_30 rfl (lv_at hl 0 rfl) ?_
            refine get_X8_1 hx hb hts in_X8_wasAt_X8 hown hK hz hW lk_X8_wasAt_1 dX8_wasAt_31 ?_
            refine lv_iload hx hb dX8_wasAt_34 (lv_at hl 4 rfl) ?_
            refine ld_A81 hx hb hK hz hW g_5 dX8_wasAt_36 ?_
            refine lv_topi (fun v_9 ev_9 => ?_)
            have hf := of_lt ev_9 hf
            refine lv_iload_n hx hb dX8_wasAt_37 rfl (lv_at hl 2 rfl) ?_
            refine lv_icmp_ne (tgt := 43) hx hb dX8_wasAt_38 (by decide) (fun c_10 => ?_) (fun c_10 => ?_)
            · have hf := of_f c_10 hf
              obtain ⟨x4_11, ex4_11⟩ : ∃ y : Int32, y = x4_2 + 1 := ⟨_, rfl⟩
              have hf := of_lt ex4_11 hf
              refine lv_iinc (v := x4_11) (lv' := [(4, .int x4_11), (0, .ref (z.2.1 79)), (1, .int x1), (2, .int x2), (3, .int x3)]) hx hb dX8_wasAt_43 hl (k := 4) rfl (by rw [ex4_11]; rfl) (by decide) rfl (fun ls hl => ?_)
              refine lv_goto (tgt := 13) hx hb dX8_wasAt_46 (by decide) ?_
              exact ihL_3 _ _ _ hf (lv_sub hl [1, 2, 3, 4, 0] rfl) hRL_3 hEL_3
            · have hf := of_t c_10 hf
              refine lv_iconst (v := 1) hx hb dX8_wasAt_41 (by decide) ?_
              exact hret _ _ _ (hRL_3 _ (Option.some.inj hf).symm) rfl dX8_wasAt_42
    obtain ⟨ex_13, hq_12, hf⟩ := of_bd hf
    refine L_3 FU _ _ _ hq_12 (lv_sub hl [1, 2, 3, 4, 0] rfl) (fun ret he => by subst he; exact hf) (fun x he ls hl => ?_)
    subst he
    have hf := of_sr hf
    have hl : lv_has ls 5 [] := hl
    refine lv_iconst (v := 0) hx hb dX8_wasAt_49 (by decide) ?_
    exact hret _ _ _ hf rfl dX8_wasAt_50
  refine lv_if_ne (tgt := 10) hx hb dX8_wasAt_1 (by decide) (fun c_14 => ?_) (fun c_14 => ?_)
  · have hf := of_f c_14 hf
    exact Jk_1  _ hf (lv_sub hl [0, 1, 2, 3] rfl)
  · have hf := of_t c_14 hf
    refine lv_iload_n hx hb dX8_wasAt_4 rfl (lv_at hl 2 rfl) ?_
    refine lv_if_ne (tgt := 10) hx hb dX8_wasAt_5 (by decide) (fun c_15 => ?_) (fun c_15 => ?_)
    · have hf := of_f c_15 hf
      exact Jk_1  _ hf (lv_sub hl [0, 1, 2, 3] rfl)
    · have hf := of_t c_15 hf
      refine lv_iconst (v := 1) hx hb dX8_wasAt_8 (by decide) ?_
      exact hret _ _ _ hf rfl dX8_wasAt_9
theorem in_X8_returns_X8 : ∀ w ∈ wsX80, w ∈ wsX8_returns := by decide +kernel
theorem lk_X8_returns_0 : Cond.fieldLink RX8 22 "CamStitch$Seam" "stitches" "I" ∈ wsX8_returns := by decide +kernel
theorem lk_X8_returns_1 : Cond.fieldLink RX8 9 "CamStitch$Seam" "xs" "[I" ∈ wsX8_returns := by decide +kernel
theorem lk_X8_returns_2 : Cond.fieldLink RX8 15 "CamStitch$Seam" "ys" "[I" ∈ wsX8_returns := by decide +kernel
set_option maxHeartbeats 4000000 in
set_option maxRecDepth 100000 in
theorem c_X8_returns (l : Launch) {z : LZ} (hz : IC z)  (w : Mem) {r : Int32} (hf : f_X8_returns w = some r) : Met l yX8_returns wsX8_returns (rm 1 24) (PZ z w [.ref (z.2.1 79)]) (QR (some (.int r))) 0 0 (fun _ => False) := by
  refine mk_Ri (cc := cX8_returns) (maxL := 3) (by decide +kernel) rfl (Nat.le_of_ble_eq_true rfl) ?_
  intro p e s m args below meth c hx hb hml hts hown hK hW Q hret ls hl
  have hl : lv_has ls 3 [(0, .ref (z.2.1 79))] := hl
  unfold f_X8_returns at hf
  refine lv_iconst (v := 0) hx hb dX8_returns_0 (by decide) ?_
  refine lv_istore_n (lv' := [(1, .int 0), (0, .ref (z.2.1 79))]) hx hb dX8_returns_1 rfl hl (by decide) rfl (fun ls hl => ?_)
  refine lv_iconst (v := 0) hx hb dX8_returns_2 (by decide) ?_
  refine lv_istore_n (lv' := [(2, .int 0), (1, .int 0), (0, .ref (z.2.1 79))]) hx hb dX8_returns_3 rfl hl (by decide) rfl (fun ls hl => ?_)
  have L_3 : ∀ (n : Nat) (x1_1 : Int32) (x2_2 : Int32) (exL_3 : Int32) (ls : Array Slot), f_X8_returns_L4 w n x1_1 x2_2 = some exL_3 → lv_has ls 3 [(0, .ref (z.2.1 79)), (1, .int x1_1), (2, .int x2_2)] → (∀ (ls : Array Slot), lv_has ls 3 [(1, .int exL_3)] → W p l e (rm 1 24) s m args below meth c s.heap [] 0 0 Q (F0 m 41 ls [])) → W p l e (rm 1 24) s m args below meth c s.heap [] 0 0 Q (F0 m 4 ls []) := by
    intro n
    induction n with
    | zero =>
      intro x1_1 x2_2 exL_3 ls hf
      have hf : (none : Option (Int32)) = some exL_3 := hf
      cases hf
    | succ n ihL_3 =>
      intro x1_1 x2_2 exL_3 ls hf hl hEL_3
      rw [f_X8_returns_L4_s] at hf
      refine lv_iload_n hx hb dX8_returns_4 rfl (lv_at hl 2 rfl) ?_
      refine lv_aload_n hx hb dX8_returns_5 rfl (lv_at hl 0 rfl) ?_
      refine get_X8_3 hx hb hts in_X8_returns_X8 hown hK hz hW lk_X8_returns_0 dX8_returns_6 ?_
      refine lv_icmp_ge (tgt := 41) hx hb dX8_returns_9 (by decide) (fun c_4 => ?_) (fun c_4 => ?_)
      · have hf := of_t c_4 hf
        have hf := Option.some.inj hf
        subst hf
        exact hEL_3 _ (lv_sub hl [1] rfl)
      · have hf := of_f c_4 hf
        refine lv_aload_n hx hb dX8_returns_12 rfl (lv_at hl 0 rfl) ?_
        refine lv_aload_n hx hb dX8_returns_13 rfl (lv_at hl 0 rfl) ?_
        refine get_X8_0 hx hb hts in_X8_returns_X8 hown hK hz hW lk_X8_returns_1 dX8_returns_14 ?_
        refine lv_iload_n hx hb dX8_returns_17 rfl (lv_at hl 2 rfl) ?_
        obtain ⟨g_5, hf⟩ := of_gd hf
        refine ld_A80 hx hb hK hz hW g_5 dX8_returns_18 ?_
        refine lv_topi (fun v_6 ev_6 => ?_)
        have hf := of_lt ev_6 hf
        refine lv_aload_n hx hb dX8_returns_19 rfl (lv_at hl 0 rfl) ?_
        refine get_X8_1 hx hb hts in_X8_returns_X8 hown hK hz hW lk_X8_returns_2 dX8_returns_20 ?_
        refine lv_iload_n hx hb dX8_returns_23 rfl (lv_at hl 2 rfl) ?_
        refine ld_A81 hx hb hK hz hW g_5 dX8_returns_24 ?_
        refine lv_topi (fun v_7 ev_7 => ?_)
        have hf := of_lt ev_7 hf
        refine lv_iload_n hx hb dX8_returns_25 rfl (lv_at hl 2 rfl) ?_
        obtain ⟨r_8, hq_9, hf⟩ := of_bd hf
        refine m_goRi (va_runV (As := [.int v_6, .int v_7, .int x2_2]) (rest := []) ⟨hx, hb, hml, hown, hts⟩ (c_X8_wasAt l hz v_6 v_7 x2_2 w hq_9) (cwV 3 hts gX8_returns_X8_wasAt rfl rfl rfl (by decide +kernel) ⟨Nat.le_of_ble_eq_true rfl, Nat.le_of_ble_eq_true rfl⟩) (pre_X8 hK hz hW _) rfl rfl hl.1 rfl (lv_room (Nat.le_of_ble_eq_true rfl)) dX8_returns_26 ⟨Nat.le_refl _, Nat.le_refl _⟩) ?_
        refine lv_if_eq (tgt := 35) hx hb dX8_returns_29 (by decide) (fun c_10 => ?_) (fun c_10 => ?_)
        · have hf := of_t c_10 hf
          obtain ⟨x2_11, ex2_11⟩ : ∃ y : Int32, y = x2_2 + 1 := ⟨_, rfl⟩
          have hf := of_lt ex2_11 hf
          refine lv_iinc (v := x2_11) (lv' := [(2, .int x2_11), (0, .ref (z.2.1 79)), (1, .int x1_1)]) hx hb dX8_returns_35 hl (k := 2) rfl (by rw [ex2_11]; rfl) (by decide) rfl (fun ls hl => ?_)
          refine lv_goto (tgt := 4) hx hb dX8_returns_38 (by decide) ?_
          exact ihL_3 _ _ _ _ hf (lv_sub hl [1, 2, 0] rfl) hEL_3
        · have hf := of_f c_10 hf
          obtain ⟨x1_12, ex1_12⟩ : ∃ y : Int32, y = x1_1 + 1 := ⟨_, rfl⟩
          have hf := of_lt ex1_12 hf
          refine lv_iinc (v := x1_12) (lv' := [(1, .int x1_12), (0, .ref (z.2.1 79)), (2, .int x2_2)]) hx hb dX8_returns_32 hl (k := 1) rfl (by rw [ex1_12]; rfl) (by decide) rfl (fun ls hl => ?_)
          obtain ⟨x2_13, ex2_13⟩ : ∃ y : Int32, y = x2_2 + 1 := ⟨_, rfl⟩
          have hf := of_lt ex2_13 hf
          refine lv_iinc (v := x2_13) (lv' := [(2, .int x2_13), (1, .int x1_12), (0, .ref (z.2.1 79))]) hx hb dX8_returns_35 hl (k := 2) rfl (by rw [ex2_13]; rfl) (by decide) rfl (fun ls hl => ?_)
          refine lv_goto (tgt := 4) hx hb dX8_returns_38 (by decide) ?_
          exact ihL_3 _ _ _ _ hf (lv_sub hl [2, 1, 0] rfl) hEL_3
  obtain ⟨ex_15, hq_14, hf⟩ := of_bd hf
  obtain ⟨x1_16, ex1_16⟩ : ∃ y, y = ex_15 := ⟨_, rfl⟩
  rw [← ex1_16] at hf
  rw [← ex1_16] at hq_14
  refine L_3 FU _ _ _ _ hq_14 (lv_sub hl [2, 1, 0] rfl) (fun ls hl => ?_)
  have hl : lv_has ls 3 [(1, .int x1_16)] := hl
  refine lv_iload_n hx hb dX8_returns_41 rfl (lv_at hl 0 rfl) ?_
  exact hret _ _ _ hf dX8_returns_42
set_option maxHeartbeats 4000000 in
set_option maxRecDepth 100000 in
theorem c_J7_fill_d0a16 (l : Launch) {z : LZ} (hz : IC z) (d0 : Nat) (hd0 : d0 < 6) (x1 : Int64) (w : Mem) {w' : Mem} (hf : f_J7_fill_d0a16 d0 x1 w = some w') : Met l yJ7_fill_d0a16 wsJ7_fill_d0a16 (rm 0 0) (PZ z w [.ref (z.2.1 (49+2*d0)), .long x1]) (QW z none w') 0 0 (az z) := by
  refine mk_Wv (cc := cJ7_fill_d0a16) (maxL := 5) (by decide +kernel) rfl (Nat.le_of_ble_eq_true rfl) ?_
  intro p e s m args below meth c hx hb hml hts hown hK hW Q hret ls hl
  have hl : lv_has ls 5 [(0, .ref (z.2.1 (49+2*d0))), (1, .long x1)] := hl
  unfold f_J7_fill_d0a16 at hf
  have START : ∀ (H : Heap) (locs : List Loc), hd z w H → va_S (az z) s.heap H locs → W p l e (rm 0 0) s m args below meth c H locs 0 0 Q (F0 m 0 ls []) := by
    intro H locs hW hS
    refine lv_iconst (v := 0) hx hb dJ7_fill_d0a16_0 (by decide) ?_
    refine lv_istore_n (lv' := [(3, .int 0), (0, .ref (z.2.1 (49+2*d0))), (1, .long x1)]) hx hb dJ7_fill_d0a16_1 rfl hl (by decide) rfl (fun ls hl => ?_)
    refine lv_aload_n hx hb dJ7_fill_d0a16_2 rfl (lv_at hl 1 rfl) ?_
    refine len_AL400 hx hb hK hz hW hd0 dJ7_fill_d0a16_3 ?_
    refine lv_istore (lv' := [(4, .int 400), (3, .int 0), (0, .ref (z.2.1 (49+2*d0))), (1, .long x1)]) hx hb dJ7_fill_d0a16_4 hl (by decide) rfl (fun ls hl => ?_)
    have L_3 : ∀ (n : Nat) (x3_1 : Int32) (w_2 : Mem) (exL_3 : Mem) (H : Heap) (locs : List Loc) (ls : Array Slot), f_J7_fill_d0a16_L6 d0 x1 n x3_1 w_2 = some exL_3 → hd z w_2 H → va_S (az z) s.heap H locs → lv_has ls 5 [(0, .ref (z.2.1 (49+2*d0))), (1, .long x1), (3, .int x3_1), (4, .int 400)] → (∀ (H : Heap) (locs : List Loc) (ls : Array Slot), hd z (exL_3) H → va_S (az z) s.heap H locs → lv_has ls 5 [] → W p l e (rm 0 0) s m args below meth c H locs 0 0 Q (F0 m 22 ls [])) → W p l e (rm 0 0) s m args below meth c H locs 0 0 Q (F0 m 6 ls []) := by
      intro n
      induction n with
      | zero =>
        intro x3_1 w_2 exL_3 H locs ls hf
        have hf : (none : Option (Mem)) = some exL_3 := hf
        cases hf
      | succ n ihL_3 =>
        intro x3_1 w_2 exL_3 H locs ls hf hW hS hl hEL_3
        rw [f_J7_fill_d0a16_L6_s] at hf
        refine lv_iload_n hx hb dJ7_fill_d0a16_6 rfl (lv_at hl 2 rfl) ?_
        refine lv_iload hx hb dJ7_fill_d0a16_7 (lv_at hl 3 rfl) ?_
        refine lv_icmp_ge (tgt := 22) hx hb dJ7_fill_d0a16_9 (by decide) (fun c_4 => ?_) (fun c_4 => ?_)
        · have hf := of_t c_4 hf
          have hf := Option.some.inj hf
          subst hf
          exact hEL_3 _ _ _ hW hS (lv_sub hl [] rfl)
        · have hf := of_f c_4 hf
          refine lv_aload_n hx hb dJ7_fill_d0a16_12 rfl (lv_at hl 0 rfl) ?_
          refine lv_iload_n hx hb dJ7_fill_d0a16_13 rfl (lv_at hl 2 rfl) ?_
          refine lv_lload_n hx hb dJ7_fill_d0a16_14 rfl (lv_at hl 1 rfl) ?_
          obtain ⟨g_5, hf⟩ := of_gd hf
          refine st_AL400 hx hb hK hz hW hS hd0 g_5 dJ7_fill_d0a16_15 (fun H locs hW hS => ?_)
          obtain ⟨w_6, ew_6⟩ : ∃ y : Mem, y = mL w_2 (49+2*d0) x3_1.toNatClampNeg x1 := ⟨_, rfl⟩
          have hW : hd z w_6 H := by rw [ew_6]; exact hW
          have hf := of_lt ew_6 hf
          obtain ⟨x3_7, ex3_7⟩ : ∃ y : Int32, y = x3_1 + 1 := ⟨_, rfl⟩
          have hf := of_lt ex3_7 hf
          refine lv_iinc (v := x3_7) (lv' := [(3, .int x3_7), (0, .ref (z.2.1 (49+2*d0))), (1, .long x1), (4, .int 400)]) hx hb dJ7_fill_d0a16_16 hl (k := 2) rfl (by rw [ex3_7]; rfl) (by decide) rfl (fun ls hl => ?_)
          refine lv_goto (tgt := 6) hx hb dJ7_fill_d0a16_19 (by decide) ?_
          exact ihL_3 _ _ _ _ _ _ hf hW hS (lv_sub hl [1, 2, 0, 3] rfl) hEL_3
    obtain ⟨ex_9, hq_8, hf⟩ := of_bd hf
    obtain ⟨w_10, ew_10⟩ : ∃ y, y = ex_9 := ⟨_, rfl⟩
    rw [← ew_10] at hf
    rw [← ew_10] at hq_8
    refine L_3 FU _ _ _ _ _ _ hq_8 hW hS (lv_sub hl [2, 3, 1, 0] rfl) (fun H locs ls hW hS hl => ?_)
    have hW : hd z w_10 H := hW
    have hl : lv_has ls 5 [] := hl
    exact hret _ _ _ _ _ hf hW hS dJ7_fill_d0a16_22
  exact START _ _ hW va_S.rf
theorem in_X9_becomeRow_X9 : ∀ w ∈ wsX90, w ∈ wsX9_becomeRow := by decide +kernel
theorem lk_X9_becomeRow_0 : Cond.fieldLink RX9 22 "CamStitch$Tape" "sort" "I" ∈ wsX9_becomeRow := by decide +kernel
theorem lk_X9_becomeRow_1 : Cond.fieldLink RX9 26 "CamStitch$Tape" "length" "I" ∈ wsX9_becomeRow := by decide +kernel
theorem lk_X9_becomeRow_2 : Cond.fieldLink RX9 9 "CamStitch$Tape" "row" "[J" ∈ wsX9_becomeRow := by decide +kernel
set_option maxHeartbeats 4000000 in
set_option maxRecDepth 100000 in
theorem c_X9_becomeRow (l : Launch) {z : LZ} (hz : IC z) (d0 : Nat) (hd0 : d0 < 6) (x1 : Int32) (x2 : Int32) (w : Mem) {w' : Mem} (hf : f_X9_becomeRow d0 x1 x2 w = some w') : Met l yX9_becomeRow wsX9_becomeRow (rm 1 24) (PZ z w [.ref (z.2.1 (48+2*d0)), .int x1, .int x2]) (QW z none w') 0 0 (az z) := by
  refine mk_Wv (cc := cX9_becomeRow) (maxL := 3) (by decide +kernel) rfl (Nat.le_of_ble_eq_true rfl) ?_
  intro p e s m args below meth c hx hb hml hts hown hK hW Q hret ls hl
  have hl : lv_has ls 3 [(0, .ref (z.2.1 (48+2*d0))), (1, .int x1), (2, .int x2)] := hl
  unfold f_X9_becomeRow at hf
  have START : ∀ (H : Heap) (locs : List Loc), hd z w H → va_S (az z) s.heap H locs → W p l e (rm 1 24) s m args below meth c H locs 0 0 Q (F0 m 0 ls []) := by
    intro H locs hW hS
    refine lv_aload_n hx hb dX9_becomeRow_0 rfl (lv_at hl 0 rfl) ?_
    refine lv_iload_n hx hb dX9_becomeRow_1 rfl (lv_at hl 1 rfl) ?_
    refine put_X9_2 hx hb hts in_X9_becomeRow_X9 hown hK hz hW hS hd0 lk_X9_becomeRow_0 dX9_becomeRow_2 (fun H locs hW hS => ?_)
    obtain ⟨w_1, ew_1⟩ : ∃ y : Mem, y = mS w (48+2*d0) 2 x1 := ⟨_, rfl⟩
    have hW : hd z w_1 H := by rw [ew_1]; exact hW
    have hf := of_lt ew_1 hf
    refine lv_aload_n hx hb dX9_becomeRow_5 rfl (lv_at hl 0 rfl) ?_
    refine lv_iload_n hx hb dX9_becomeRow_6 rfl (lv_at hl 2 rfl) ?_
    refine put_X9_3 hx hb hts in_X9_becomeRow_X9 hown hK hz hW hS hd0 lk_X9_becomeRow_1 dX9_becomeRow_7 (fun H locs hW hS => ?_)
    obtain ⟨w_2, ew_2⟩ : ∃ y : Mem, y = mS w_1 (48+2*d0) 3 x2 := ⟨_, rfl⟩
    have hW : hd z w_2 H := by rw [ew_2]; exact hW
    have hf := of_lt ew_2 hf
    refine lv_aload_n hx hb dX9_becomeRow_10 rfl (lv_at hl 0 rfl) ?_
    refine get_X9_0 hx hb hts in_X9_becomeRow_X9 hown hK hz hW hd0 lk_X9_becomeRow_2 dX9_becomeRow_11 ?_
    refine lv_lconst (v := 0) hx hb dX9_becomeRow_14 (by decide) ?_
    obtain ⟨w_5, hq_4, hf⟩ := of_bd hf
    refine m_goWv (va_runS (As := [.ref (z.2.1 (49+2*d0)), .long 0]) (rest := []) ⟨hx, hb, hml, hown, hts⟩ (c_J7_fill_d0a16 l hz d0 hd0 0 w_2 hq_4) (va_cwS 2 hts gX9_becomeRow_J7_fill_d0a16 rfl rfl rfl (by decide +kernel) ⟨Nat.le_of_ble_eq_true rfl, Nat.le_of_ble_eq_true rfl⟩) (m_preS hK hW _) rfl rfl hl.1 rfl (lv_room (Nat.le_of_ble_eq_true rfl)) dX9_becomeRow_15 ⟨Nat.le_refl _, Nat.le_refl _⟩) hS (fun H locs hW hS => ?_)
    exact hret _ _ _ _ _ hf hW hS dX9_becomeRow_18
  exact START _ _ hW va_S.rf
theorem in_X9_becomeDisc_X9 : ∀ w ∈ wsX90, w ∈ wsX9_becomeDisc := by decide +kernel
theorem lk_X9_becomeDisc_0 : Cond.fieldLink RX9 22 "CamStitch$Tape" "sort" "I" ∈ wsX9_becomeDisc := by decide +kernel
theorem lk_X9_becomeDisc_1 : Cond.fieldLink RX9 18 "CamStitch$Tape" "disc" "LCamStitch$Disc;" ∈ wsX9_becomeDisc := by decide +kernel
set_option maxHeartbeats 4000000 in
set_option maxRecDepth 100000 in
theorem c_X9_becomeDisc (l : Launch) {z : LZ} (hz : IC z) (d0 : Nat) (hd0 : d0 < 6) (d1 : Nat) (hd1 : d1 < 16) (w : Mem) {w' : Mem} (hf : f_X9_becomeDisc d0 d1 w = some w') : Met l yX9_becomeDisc wsX9_becomeDisc (rm 2 81) (PZ z w [.ref (z.2.1 (48+2*d0)), .ref (z.2.1 (3*d1))]) (QW z none w') 0 0 (az z) := by
  refine mk_Wv (cc := cX9_becomeDisc) (maxL := 2) (by decide +kernel) rfl (Nat.le_of_ble_eq_true rfl) ?_
  intro p e s m args below meth c hx hb hml hts hown hK hW Q hret ls hl
  have hl : lv_has ls 2 [(0, .ref (z.2.1 (48+2*d0))), (1, .ref (z.2.1 (3*d1)))] := hl
  unfold f_X9_becomeDisc at hf
  have START : ∀ (H : Heap) (locs : List Loc), hd z w H → va_S (az z) s.heap H locs → W p l e (rm 2 81) s m args below meth c H locs 0 0 Q (F0 m 0 ls []) := by
    intro H locs hW hS
    refine lv_aload_n hx hb dX9_becomeDisc_0 rfl (lv_at hl 0 rfl) ?_
    refine lv_iconst (v := 5) hx hb dX9_becomeDisc_1 (by decide) ?_
    refine put_X9_2 hx hb hts in_X9_becomeDisc_X9 hown hK hz hW hS hd0 lk_X9_becomeDisc_0 dX9_becomeDisc_2 (fun H locs hW hS => ?_)
    obtain ⟨w_1, ew_1⟩ : ∃ y : Mem, y = mS w (48+2*d0) 2 5 := ⟨_, rfl⟩
    have hW : hd z w_1 H := by rw [ew_1]; exact hW
    have hf := of_lt ew_1 hf
    refine lv_aload_n hx hb dX9_becomeDisc_5 rfl (lv_at hl 0 rfl) ?_
    refine get_X9_1 hx hb hts in_X9_becomeDisc_X9 hown hK hz hW hd0 lk_X9_becomeDisc_1 dX9_becomeDisc_6 ?_
    refine lv_aload_n hx hb dX9_becomeDisc_9 rfl (lv_at hl 1 rfl) ?_
    obtain ⟨w_4, hq_3, hf⟩ := of_bd hf
    refine m_goWv (va_runV (As := [.ref (z.2.1 (3*d1))]) (rest := []) ⟨hx, hb, hml, hown, hts⟩ (c_X1_become l hz (8+d0) (p9_d hd0) d1 hd1 w_1 hq_3) (cwV 1 hts gX9_becomeDisc_X1_become rfl rfl rfl (by decide +kernel) ⟨Nat.le_of_ble_eq_true rfl, Nat.le_of_ble_eq_true rfl⟩) (pre_X1 hK hz hW (p9_d hd0) _) rfl rfl hl.1 rfl (lv_room (Nat.le_of_ble_eq_true rfl)) dX9_becomeDisc_10 ⟨Nat.le_refl _, Nat.le_refl _⟩) hS (fun H locs hW hS => ?_)
    exact hret _ _ _ _ _ hf hW hS dX9_becomeDisc_13
  exact START _ _ hW va_S.rf
theorem in_X9_isRow_X9 : ∀ w ∈ wsX90, w ∈ wsX9_isRow := by decide +kernel
theorem lk_X9_isRow_0 : Cond.fieldLink RX9 22 "CamStitch$Tape" "sort" "I" ∈ wsX9_isRow := by decide +kernel
set_option maxHeartbeats 4000000 in
set_option maxRecDepth 100000 in
theorem c_X9_isRow (l : Launch) {z : LZ} (hz : IC z) (d0 : Nat) (hd0 : d0 < 6) (w : Mem) {r : Int32} (hf : f_X9_isRow d0 w = some r) : Met l yX9_isRow wsX9_isRow (rm 0 0) (PZ z w [.ref (z.2.1 (48+2*d0))]) (QR (some (.int r))) 0 0 (fun _ => False) := by
  refine mk_Rz (cc := cX9_isRow) (maxL := 1) (by decide +kernel) rfl (Nat.le_of_ble_eq_true rfl) ?_
  intro p e s m args below meth c hx hb hml hts hown hK hW Q hret ls hl
  have hl : lv_has ls 1 [(0, .ref (z.2.1 (48+2*d0)))] := hl
  unfold f_X9_isRow at hf
  refine lv_aload_n hx hb dX9_isRow_0 rfl (lv_at hl 0 rfl) ?_
  refine get_X9_2 hx hb hts in_X9_isRow_X9 hown hK hz hW hd0 lk_X9_isRow_0 dX9_isRow_1 ?_
  refine lv_iconst (v := 1) hx hb dX9_isRow_4 (by decide) ?_
  have J_2 : ∀ (v_1 : Int32) (ls : Array Slot), v_1 = (if (w.1 (48+2*d0) 2) < 1 then 0 else (if 4 < (w.1 (48+2*d0) 2) then 0 else 1)) → lv_has ls 1 [] → W p l e (rm 0 0) s m args below meth c s.heap [] 0 0 Q (F0 m 21 ls [.int v_1]) := by
    intro v_1 ls ev_1 hl
    have hf := of_lt ev_1 hf
    obtain ⟨g_3, hf⟩ := of_gd hf
    exact hret _ _ _ hf (bz_n g_3) dX9_isRow_21
  refine lv_icmp_lt (tgt := 20) hx hb dX9_isRow_5 (by decide) (fun c_4 => ?_) (fun c_4 => ?_)
  · refine lv_iconst (v := 0) hx hb dX9_isRow_20 (by decide) ?_
    exact J_2 _ _ (by rw [if_pos c_4]) (lv_sub hl [] rfl)
  · refine lv_aload_n hx hb dX9_isRow_8 rfl (lv_at hl 0 rfl) ?_
    refine get_X9_2 hx hb hts in_X9_isRow_X9 hown hK hz hW hd0 lk_X9_isRow_0 dX9_isRow_9 ?_
    refine lv_iconst (v := 4) hx hb dX9_isRow_12 (by decide) ?_
    refine lv_icmp_gt (tgt := 20) hx hb dX9_isRow_13 (by decide) (fun c_5 => ?_) (fun c_5 => ?_)
    · refine lv_iconst (v := 0) hx hb dX9_isRow_20 (by decide) ?_
      exact J_2 _ _ (by rw [if_neg c_4, if_pos c_5]) (lv_sub hl [] rfl)
    · refine lv_iconst (v := 1) hx hb dX9_isRow_16 (by decide) ?_
      refine lv_goto (tgt := 21) hx hb dX9_isRow_17 (by decide) ?_
      exact J_2 _ _ (by rw [if_neg c_4, if_neg c_5]) (lv_sub hl [] rfl)
theorem in_X9_hasPlaces_X9 : ∀ w ∈ wsX90, w ∈ wsX9_hasPlaces := by decide +kernel
theorem lk_X9_hasPlaces_0 : Cond.fieldLink RX9 26 "CamStitch$Tape" "length" "I" ∈ wsX9_hasPlaces := by decide +kernel
set_option maxHeartbeats 4000000 in
set_option maxRecDepth 100000 in
theorem c_X9_hasPlaces (l : Launch) {z : LZ} (hz : IC z) (d0 : Nat) (hd0 : d0 < 6) (x1 : Int32) (x2 : Int32) (w : Mem) {r : Int32} (hf : f_X9_hasPlaces d0 x1 x2 w = some r) : Met l yX9_hasPlaces wsX9_hasPlaces (rm 0 0) (PZ z w [.ref (z.2.1 (48+2*d0)), .int x1, .int x2]) (QR (some (.int r))) 0 0 (fun _ => False) := by
  refine mk_Rz (cc := cX9_hasPlaces) (maxL := 3) (by decide +kernel) rfl (Nat.le_of_ble_eq_true rfl) ?_
  intro p e s m args below meth c hx hb hml hts hown hK hW Q hret ls hl
  have hl : lv_has ls 3 [(0, .ref (z.2.1 (48+2*d0))), (1, .int x1), (2, .int x2)] := hl
  unfold f_X9_hasPlaces at hf
  refine lv_iload_n hx hb dX9_hasPlaces_0 rfl (lv_at hl 1 rfl) ?_
  have J_2 : ∀ (v_1 : Int32) (ls : Array Slot), v_1 = (if x1 < 0 then 0 else (if x2 < 0 then 0 else (if ((w.1 (48+2*d0) 3) - x2) < x1 then 0 else 1))) → lv_has ls 3 [] → W p l e (rm 0 0) s m args below meth c s.heap [] 0 0 Q (F0 m 23 ls [.int v_1]) := by
    intro v_1 ls ev_1 hl
    have hf := of_lt ev_1 hf
    obtain ⟨g_3, hf⟩ := of_gd hf
    exact hret _ _ _ hf (bz_n g_3) dX9_hasPlaces_23
  refine lv_if_lt (tgt := 22) hx hb dX9_hasPlaces_1 (by decide) (fun c_4 => ?_) (fun c_4 => ?_)
  · refine lv_iconst (v := 0) hx hb dX9_hasPlaces_22 (by decide) ?_
    exact J_2 _ _ (by rw [if_pos c_4]) (lv_sub hl [] rfl)
  · refine lv_iload_n hx hb dX9_hasPlaces_4 rfl (lv_at hl 2 rfl) ?_
    refine lv_if_lt (tgt := 22) hx hb dX9_hasPlaces_5 (by decide) (fun c_5 => ?_) (fun c_5 => ?_)
    · refine lv_iconst (v := 0) hx hb dX9_hasPlaces_22 (by decide) ?_
      exact J_2 _ _ (by rw [if_neg c_4, if_pos c_5]) (lv_sub hl [] rfl)
    · refine lv_iload_n hx hb dX9_hasPlaces_8 rfl (lv_at hl 1 rfl) ?_
      refine lv_aload_n hx hb dX9_hasPlaces_9 rfl (lv_at hl 0 rfl) ?_
      refine get_X9_3 hx hb hts in_X9_hasPlaces_X9 hown hK hz hW hd0 lk_X9_hasPlaces_0 dX9_hasPlaces_10 ?_
      refine lv_iload_n hx hb dX9_hasPlaces_13 rfl (lv_at hl 2 rfl) ?_
      refine lv_isub hx hb dX9_hasPlaces_14 ?_
      refine lv_icmp_gt (tgt := 22) hx hb dX9_hasPlaces_15 (by decide) (fun c_6 => ?_) (fun c_6 => ?_)
      · refine lv_iconst (v := 0) hx hb dX9_hasPlaces_22 (by decide) ?_
        exact J_2 _ _ (by rw [if_neg c_4, if_neg c_5, if_pos c_6]) (lv_sub hl [] rfl)
      · refine lv_iconst (v := 1) hx hb dX9_hasPlaces_18 (by decide) ?_
        refine lv_goto (tgt := 23) hx hb dX9_hasPlaces_19 (by decide) ?_
        exact J_2 _ _ (by rw [if_neg c_4, if_neg c_5, if_neg c_6]) (lv_sub hl [] rfl)
theorem in_X9_narrowed_X9 : ∀ w ∈ wsX90, w ∈ wsX9_narrowed := by decide +kernel
theorem lk_X9_narrowed_0 : Cond.fieldLink RX9 22 "CamStitch$Tape" "sort" "I" ∈ wsX9_narrowed := by decide +kernel
set_option maxHeartbeats 4000000 in
set_option maxRecDepth 100000 in
theorem c_X9_narrowed (l : Launch) {z : LZ} (hz : IC z) (d0 : Nat) (hd0 : d0 < 6) (x1 : Int64) (w : Mem) {r : Int64} (hf : f_X9_narrowed d0 x1 w = some r) : Met l yX9_narrowed wsX9_narrowed (rm 0 0) (PZ z w [.ref (z.2.1 (48+2*d0)), .long x1]) (QR (some (.long r))) 0 0 (fun _ => False) := by
  refine mk_Rl (cc := cX9_narrowed) (maxL := 3) (by decide +kernel) rfl (Nat.le_of_ble_eq_true rfl) ?_
  intro p e s m args below meth c hx hb hml hts hown hK hW Q hret ls hl
  have hl : lv_has ls 3 [(0, .ref (z.2.1 (48+2*d0))), (1, .long x1)] := hl
  unfold f_X9_narrowed at hf
  refine lv_aload_n hx hb dX9_narrowed_0 rfl (lv_at hl 0 rfl) ?_
  refine get_X9_2 hx hb hts in_X9_narrowed_X9 hown hK hz hW hd0 lk_X9_narrowed_0 dX9_narrowed_1 ?_
  refine lv_topi (fun v_1 ev_1 => ?_)
  have hf := of_lt ev_1 hf
  by_cases c_2 : v_1 = 1
  · have hf := of_t c_2 hf
    refine lv_tableIn (off := 28) (tgt := 32) hx hb dX9_narrowed_4 (by rw [c_2]; decide) (by rw [c_2]; decide) (by rw [c_2]; rfl) (by decide) ?_
    refine lv_lload_n hx hb dX9_narrowed_32 rfl (lv_at hl 1 rfl) ?_
    refine lv_l2i hx hb dX9_narrowed_33 rfl ?_
    refine lv_i2b hx hb dX9_narrowed_34 rfl ?_
    refine lv_topi (fun v_3 ev_3 => ?_)
    have hf := of_lt ev_3 hf
    refine lv_i2l hx hb dX9_narrowed_35 rfl ?_
    exact hret _ _ _ hf dX9_narrowed_36
  have hf := of_f c_2 hf
  by_cases c_4 : v_1 = 2
  · have hf := of_t c_4 hf
    refine lv_tableIn (off := 33) (tgt := 37) hx hb dX9_narrowed_4 (by rw [c_4]; decide) (by rw [c_4]; decide) (by rw [c_4]; rfl) (by decide) ?_
    refine lv_lload_n hx hb dX9_narrowed_37 rfl (lv_at hl 1 rfl) ?_
    refine lv_l2i hx hb dX9_narrowed_38 rfl ?_
    refine lv_i2s hx hb dX9_narrowed_39 rfl ?_
    refine lv_topi (fun v_5 ev_5 => ?_)
    have hf := of_lt ev_5 hf
    refine lv_i2l hx hb dX9_narrowed_40 rfl ?_
    exact hret _ _ _ hf dX9_narrowed_41
  have hf := of_f c_4 hf
  by_cases c_6 : v_1 = 3
  · have hf := of_t c_6 hf
    refine lv_tableIn (off := 38) (tgt := 42) hx hb dX9_narrowed_4 (by rw [c_6]; decide) (by rw [c_6]; decide) (by rw [c_6]; rfl) (by decide) ?_
    refine lv_lload_n hx hb dX9_narrowed_42 rfl (lv_at hl 1 rfl) ?_
    refine lv_l2i hx hb dX9_narrowed_43 rfl ?_
    refine lv_i2l hx hb dX9_narrowed_44 rfl ?_
    exact hret _ _ _ hf dX9_narrowed_45
  have hf := of_f c_6 hf
  refine lv_tableOut (tgt := 46) hx hb dX9_narrowed_4 (by have qc_2 := lv_neT c_2 (show (1 : Int32).toInt = 1 by decide); have qc_4 := lv_neT c_4 (show (2 : Int32).toInt = 2 by decide); have qc_6 := lv_neT c_6 (show (3 : Int32).toInt = 3 by decide); omega) (by decide) ?_
  refine lv_lload_n hx hb dX9_narrowed_46 rfl (lv_at hl 1 rfl) ?_
  exact hret _ _ _ hf dX9_narrowed_47
theorem in_X10_begin_X10 : ∀ w ∈ wsX100, w ∈ wsX10_begin := by decide +kernel
theorem in_X10_begin_X2 : ∀ w ∈ wsX20, w ∈ wsX10_begin := by decide +kernel
theorem in_X10_begin_X3 : ∀ w ∈ wsX30, w ∈ wsX10_begin := by decide +kernel
theorem in_X10_begin_X4 : ∀ w ∈ wsX40, w ∈ wsX10_begin := by decide +kernel
theorem lk_X10_begin_0 : Cond.fieldLink RX10 10 "CamStitch" "pattern" "LCamStitch$Pattern;" ∈ wsX10_begin := by decide +kernel
theorem lk_X10_begin_1 : Cond.fieldLink RX10 26 "CamStitch" "work" "LCamStitch$Disc;" ∈ wsX10_begin := by decide +kernel
theorem lk_X10_begin_2 : Cond.fieldLink RX10 33 "CamStitch" "shelves" "[LCamStitch$Disc;" ∈ wsX10_begin := by decide +kernel
theorem lk_X10_begin_3 : Cond.fieldLink RX10 40 "CamStitch" "hem" "LCamStitch$Hem;" ∈ wsX10_begin := by decide +kernel
theorem lk_X10_begin_4 : Cond.fieldLink RX10 90 "CamStitch$Hem" "sides" "I" ∈ wsX10_begin := by decide +kernel
theorem lk_X10_begin_5 : Cond.fieldLink RX10 47 "CamStitch" "bench" "LCamStitch$Bench;" ∈ wsX10_begin := by decide +kernel
theorem lk_X10_begin_6 : Cond.fieldLink RX10 54 "CamStitch" "job" "LCamStitch$Job;" ∈ wsX10_begin := by decide +kernel
theorem lk_X10_begin_7 : Cond.fieldLink RX10 97 "CamStitch$Job" "steps" "I" ∈ wsX10_begin := by decide +kernel
theorem lk_X10_begin_8 : Cond.fieldLink RX10 61 "CamStitch" "seam" "LCamStitch$Seam;" ∈ wsX10_begin := by decide +kernel
theorem lk_X10_begin_9 : Cond.fieldLink RX10 75 "CamStitch" "faults" "LCamStitch$Faults;" ∈ wsX10_begin := by decide +kernel
theorem lk_X10_begin_10 : Cond.fieldLink RX10 101 "CamStitch$Faults" "notes" "I" ∈ wsX10_begin := by decide +kernel
theorem lk_X10_begin_11 : Cond.fieldLink RX10 104 "CamStitch" "refusals" "I" ∈ wsX10_begin := by decide +kernel
set_option maxHeartbeats 4000000 in
set_option maxRecDepth 100000 in
theorem c_X10_begin (l : Launch) {z : LZ} (hz : IC z)  (w : Mem) {r : Int32} {w' : Mem} (hf : f_X10_begin w = some (r, w')) : Met l yX10_begin wsX10_begin (rm 1 20) (PZ z w [.ref (z.2.1 66)]) (QW z (some (.int r)) w') 0 0 (az z) := by
  refine mk_Wi (cc := cX10_begin) (maxL := 2) (by decide +kernel) rfl (Nat.le_of_ble_eq_true rfl) ?_
  intro p e s m args below meth c hx hb hml hts hown hK hW Q hret ls hl
  have hl : lv_has ls 2 [(0, .ref (z.2.1 66))] := hl
  unfold f_X10_begin at hf
  have START : ∀ (H : Heap) (locs : List Loc), hd z w H → va_S (az z) s.heap H locs → W p l e (rm 1 20) s m args below meth c H locs 0 0 Q (F0 m 0 ls []) := by
    intro H locs hW hS
    refine lv_aload_n hx hb dX10_begin_0 rfl (lv_at hl 0 rfl) ?_
    refine get_X10_0 hx hb hts in_X10_begin_X10 hown hK hz hW lk_X10_begin_0 dX10_begin_1 ?_
    obtain ⟨w_3, hq_2, hf⟩ := of_bd hf
    refine m_goWv (va_runV (As := []) (rest := []) ⟨hx, hb, hml, hown, hts⟩ (c_X5_forget l hz 0 (Nat.le_of_ble_eq_true rfl) w hq_2) (cwV 0 hts gX10_begin_X5_forget rfl rfl rfl (by decide +kernel) ⟨Nat.le_of_ble_eq_true rfl, Nat.le_of_ble_eq_true rfl⟩) (pre_X5 hK hz hW (Nat.le_of_ble_eq_true rfl) _) rfl rfl hl.1 rfl (lv_room (Nat.le_of_ble_eq_true rfl)) dX10_begin_4 ⟨Nat.le_refl _, Nat.le_refl _⟩) hS (fun H locs hW hS => ?_)
    refine lv_aload_n hx hb dX10_begin_7 rfl (lv_at hl 0 rfl) ?_
    refine get_X10_2 hx hb hts in_X10_begin_X10 hown hK hz hW lk_X10_begin_1 dX10_begin_8 ?_
    obtain ⟨w_6, hq_5, hf⟩ := of_bd hf
    refine m_goWv (va_runV (As := []) (rest := []) ⟨hx, hb, hml, hown, hts⟩ (c_X1_forget l hz 14 (Nat.le_of_ble_eq_true rfl) w_3 hq_5) (cwV 0 hts gX10_begin_X1_forget rfl rfl rfl (by decide +kernel) ⟨Nat.le_of_ble_eq_true rfl, Nat.le_of_ble_eq_true rfl⟩) (pre_X1 hK hz hW (Nat.le_of_ble_eq_true rfl) _) rfl rfl hl.1 rfl (lv_room (Nat.le_of_ble_eq_true rfl)) dX10_begin_11 ⟨Nat.le_refl _, Nat.le_refl _⟩) hS (fun H locs hW hS => ?_)
    refine lv_iconst (v := 0) hx hb dX10_begin_14 (by decide) ?_
    refine lv_istore_n (lv' := [(1, .int 0), (0, .ref (z.2.1 66))]) hx hb dX10_begin_15 rfl hl (by decide) rfl (fun ls hl => ?_)
    have L_9 : ∀ (n : Nat) (x1_7 : Int32) (w_8 : Mem) (exL_9 : Mem) (H : Heap) (locs : List Loc) (ls : Array Slot), f_X10_begin_L16 n x1_7 w_8 = some exL_9 → hd z w_8 H → va_S (az z) s.heap H locs → lv_has ls 2 [(0, .ref (z.2.1 66)), (1, .int x1_7)] → (∀ (H : Heap) (locs : List Loc) (ls : Array Slot), hd z (exL_9) H → va_S (az z) s.heap H locs → lv_has ls 2 [(0, .ref (z.2.1 66))] → W p l e (rm 1 20) s m args below meth c H locs 0 0 Q (F0 m 37 ls [])) → W p l e (rm 1 20) s m args below meth c H locs 0 0 Q (F0 m 16 ls []) := by
      intro n
      induction n with
      | zero =>
        intro x1_7 w_8 exL_9 H locs ls hf
        have hf : (none : Option (Mem)) = some exL_9 := hf
        cases hf
      | succ n ihL_9 =>
        intro x1_7 w_8 exL_9 H locs ls hf hW hS hl hEL_9
        rw [f_X10_begin_L16_s] at hf
        refine lv_iload_n hx hb dX10_begin_16 rfl (lv_at hl 1 rfl) ?_
        refine lv_bipush (v := 8) hx hb dX10_begin_17 (by decide) ?_
        refine lv_icmp_ge (tgt := 37) hx hb dX10_begin_19 (by decide) (fun c_10 => ?_) (fun c_10 => ?_)
        · have hf := of_t c_10 hf
          have hf := Option.some.inj hf
          subst hf
          exact hEL_9 _ _ _ hW hS (lv_sub hl [0] rfl)
        · have hf := of_f c_10 hf
          refine lv_aload_n hx hb dX10_begin_22 rfl (lv_at hl 0 rfl) ?_
          refine get_X10_4 hx hb hts in_X10_begin_X10 hown hK hz hW lk_X10_begin_2 dX10_begin_23 ?_
          refine lv_iload_n hx hb dX10_begin_26 rfl (lv_at hl 1 rfl) ?_
          obtain ⟨g_11, hf⟩ := of_gd hf
          refine ld_AD hx hb hK hz hW g_11 dX10_begin_27 ?_
          obtain ⟨w_14, hq_13, hf⟩ := of_bd hf
          refine m_goWv (va_runV (As := []) (rest := []) ⟨hx, hb, hml, hown, hts⟩ (c_X1_forget l hz x1_7.toNatClampNeg (p8_16 (inb_lt g_11)) w_8 hq_13) (cwV 0 hts gX10_begin_X1_forget rfl rfl rfl (by decide +kernel) ⟨Nat.le_of_ble_eq_true rfl, Nat.le_of_ble_eq_true rfl⟩) (pre_X1 hK hz hW (p8_16 (inb_lt g_11)) _) rfl rfl hl.1 rfl (lv_room (Nat.le_of_ble_eq_true rfl)) dX10_begin_28 ⟨Nat.le_refl _, Nat.le_refl _⟩) hS (fun H locs hW hS => ?_)
          obtain ⟨x1_15, ex1_15⟩ : ∃ y : Int32, y = x1_7 + 1 := ⟨_, rfl⟩
          have hf := of_lt ex1_15 hf
          refine lv_iinc (v := x1_15) (lv' := [(1, .int x1_15), (0, .ref (z.2.1 66))]) hx hb dX10_begin_31 hl (k := 1) rfl (by rw [ex1_15]; rfl) (by decide) rfl (fun ls hl => ?_)
          refine lv_goto (tgt := 16) hx hb dX10_begin_34 (by decide) ?_
          exact ihL_9 _ _ _ _ _ _ hf hW hS (lv_sub hl [1, 0] rfl) hEL_9
    obtain ⟨ex_17, hq_16, hf⟩ := of_bd hf
    obtain ⟨w_18, ew_18⟩ : ∃ y, y = ex_17 := ⟨_, rfl⟩
    rw [← ew_18] at hf
    rw [← ew_18] at hq_16
    refine L_9 FU _ _ _ _ _ _ hq_16 hW hS (lv_sub hl [1, 0] rfl) (fun H locs ls hW hS hl => ?_)
    have hW : hd z w_18 H := hW
    have hl : lv_has ls 2 [(0, .ref (z.2.1 66))] := hl
    refine lv_aload_n hx hb dX10_begin_37 rfl (lv_at hl 0 rfl) ?_
    refine get_X10_5 hx hb hts in_X10_begin_X10 hown hK hz hW lk_X10_begin_3 dX10_begin_38 ?_
    refine lv_iconst (v := 0) hx hb dX10_begin_41 (by decide) ?_
    refine put_X3_1 hx hb hts in_X10_begin_X3 hown hK hz hW hS lk_X10_begin_4 dX10_begin_42 (fun H locs hW hS => ?_)
    obtain ⟨w_19, ew_19⟩ : ∃ y : Mem, y = mS w_18 72 1 0 := ⟨_, rfl⟩
    have hW : hd z w_19 H := by rw [ew_19]; exact hW
    have hf := of_lt ew_19 hf
    refine lv_aload_n hx hb dX10_begin_45 rfl (lv_at hl 0 rfl) ?_
    refine get_X10_6 hx hb hts in_X10_begin_X10 hown hK hz hW lk_X10_begin_5 dX10_begin_46 ?_
    obtain ⟨w_22, hq_21, hf⟩ := of_bd hf
    refine m_goWv (va_runV (As := []) (rest := []) ⟨hx, hb, hml, hown, hts⟩ (c_X0_reset l hz w_19 hq_21) (cwV 0 hts gX10_begin_X0_reset rfl rfl rfl (by decide +kernel) ⟨Nat.le_of_ble_eq_true rfl, Nat.le_of_ble_eq_true rfl⟩) (pre_X0 hK hz hW _) rfl rfl hl.1 rfl (lv_room (Nat.le_of_ble_eq_true rfl)) dX10_begin_49 ⟨Nat.le_refl _, Nat.le_refl _⟩) hS (fun H locs hW hS => ?_)
    refine lv_aload_n hx hb dX10_begin_52 rfl (lv_at hl 0 rfl) ?_
    refine get_X10_7 hx hb hts in_X10_begin_X10 hown hK hz hW lk_X10_begin_6 dX10_begin_53 ?_
    refine lv_iconst (v := 0) hx hb dX10_begin_56 (by decide) ?_
    refine put_X4_2 hx hb hts in_X10_begin_X4 hown hK hz hW hS lk_X10_begin_7 dX10_begin_57 (fun H locs hW hS => ?_)
    obtain ⟨w_23, ew_23⟩ : ∃ y : Mem, y = mS w_22 76 2 0 := ⟨_, rfl⟩
    have hW : hd z w_23 H := by rw [ew_23]; exact hW
    have hf := of_lt ew_23 hf
    refine lv_aload_n hx hb dX10_begin_60 rfl (lv_at hl 0 rfl) ?_
    refine get_X10_8 hx hb hts in_X10_begin_X10 hown hK hz hW lk_X10_begin_8 dX10_begin_61 ?_
    obtain ⟨w_26, hq_25, hf⟩ := of_bd hf
    refine m_goWv (va_runV (As := []) (rest := []) ⟨hx, hb, hml, hown, hts⟩ (c_X8_forget l hz w_23 hq_25) (cwV 0 hts gX10_begin_X8_forget rfl rfl rfl (by decide +kernel) ⟨Nat.le_of_ble_eq_true rfl, Nat.le_of_ble_eq_true rfl⟩) (pre_X8 hK hz hW _) rfl rfl hl.1 rfl (lv_room (Nat.le_of_ble_eq_true rfl)) dX10_begin_64 ⟨Nat.le_refl _, Nat.le_refl _⟩) hS (fun H locs hW hS => ?_)
    refine lv_aload_n hx hb dX10_begin_67 rfl (lv_at hl 0 rfl) ?_
    refine get_X10_10 hx hb hts in_X10_begin_X10 hown hK hz hW lk_X10_begin_9 dX10_begin_68 ?_
    refine lv_iconst (v := 0) hx hb dX10_begin_71 (by decide) ?_
    refine put_X2_2 hx hb hts in_X10_begin_X2 hown hK hz hW hS lk_X10_begin_10 dX10_begin_72 (fun H locs hW hS => ?_)
    obtain ⟨w_27, ew_27⟩ : ∃ y : Mem, y = mS w_26 83 2 0 := ⟨_, rfl⟩
    have hW : hd z w_27 H := by rw [ew_27]; exact hW
    have hf := of_lt ew_27 hf
    refine lv_aload_n hx hb dX10_begin_75 rfl (lv_at hl 0 rfl) ?_
    refine lv_iconst (v := 0) hx hb dX10_begin_76 (by decide) ?_
    refine put_X10_12 hx hb hts in_X10_begin_X10 hown hK hz hW hS lk_X10_begin_11 dX10_begin_77 (fun H locs hW hS => ?_)
    obtain ⟨w_28, ew_28⟩ : ∃ y : Mem, y = mS w_27 66 12 0 := ⟨_, rfl⟩
    have hW : hd z w_28 H := by rw [ew_28]; exact hW
    have hf := of_lt ew_28 hf
    refine lv_iconst (v := 0) hx hb dX10_begin_80 (by decide) ?_
    exact hret _ _ _ _ _ _ hf hW hS dX10_begin_81
  exact START _ _ hW va_S.rf
set_option maxHeartbeats 4000000 in
set_option maxRecDepth 100000 in
theorem c_X10_isTape (l : Launch) {z : LZ} (hz : IC z) (x0 : Int32) (w : Mem) {r : Int32} (hf : f_X10_isTape x0 = some r) : Met l yX10_isTape wsX10_isTape (rm 0 0) (PZ z w [.int x0]) (QR (some (.int r))) 0 0 (fun _ => False) := by
  refine mk_Rz (cc := cX10_isTape) (maxL := 1) (by decide +kernel) rfl (Nat.le_of_ble_eq_true rfl) ?_
  intro p e s m args below meth c hx hb hml hts hown hK hW Q hret ls hl
  have hl : lv_has ls 1 [(0, .int x0)] := hl
  unfold f_X10_isTape at hf
  refine lv_iload_n hx hb dX10_isTape_0 rfl (lv_at hl 0 rfl) ?_
  have J_2 : ∀ (v_1 : Int32) (ls : Array Slot), v_1 = (if x0 < 0 then 0 else (if 6 ≤ x0 then 0 else 1)) → lv_has ls 1 [] → W p l e (rm 0 0) s m args below meth c s.heap [] 0 0 Q (F0 m 15 ls [.int v_1]) := by
    intro v_1 ls ev_1 hl
    have hf := of_lt ev_1 hf
    obtain ⟨g_3, hf⟩ := of_gd hf
    exact hret _ _ _ hf (bz_n g_3) dX10_isTape_15
  refine lv_if_lt (tgt := 14) hx hb dX10_isTape_1 (by decide) (fun c_4 => ?_) (fun c_4 => ?_)
  · refine lv_iconst (v := 0) hx hb dX10_isTape_14 (by decide) ?_
    exact J_2 _ _ (by rw [if_pos c_4]) (lv_sub hl [] rfl)
  · refine lv_iload_n hx hb dX10_isTape_4 rfl (lv_at hl 0 rfl) ?_
    refine lv_bipush (v := 6) hx hb dX10_isTape_5 (by decide) ?_
    refine lv_icmp_ge (tgt := 14) hx hb dX10_isTape_7 (by decide) (fun c_5 => ?_) (fun c_5 => ?_)
    · refine lv_iconst (v := 0) hx hb dX10_isTape_14 (by decide) ?_
      exact J_2 _ _ (by rw [if_neg c_4, if_pos c_5]) (lv_sub hl [] rfl)
    · refine lv_iconst (v := 1) hx hb dX10_isTape_10 (by decide) ?_
      refine lv_goto (tgt := 15) hx hb dX10_isTape_11 (by decide) ?_
      exact J_2 _ _ (by rw [if_neg c_4, if_neg c_5]) (lv_sub hl [] rfl)
theorem in_X10_againstSort_X10 : ∀ w ∈ wsX100, w ∈ wsX10_againstSort := by decide +kernel
theorem in_X10_againstSort_X9 : ∀ w ∈ wsX90, w ∈ wsX10_againstSort := by decide +kernel
theorem lk_X10_againstSort_0 : Cond.fieldLink RX10 81 "CamStitch" "tapes" "[LCamStitch$Tape;" ∈ wsX10_againstSort := by decide +kernel
theorem lk_X10_againstSort_1 : Cond.fieldLink RX10 388 "CamStitch$Tape" "sort" "I" ∈ wsX10_againstSort := by decide +kernel
set_option maxHeartbeats 4000000 in
set_option maxRecDepth 100000 in
theorem c_X10_againstSort (l : Launch) {z : LZ} (hz : IC z) (x1 : Int32) (x2 : Int32) (w : Mem) {r : Int32} (hf : f_X10_againstSort x1 x2 w = some r) : Met l yX10_againstSort wsX10_againstSort (rm 1 20) (PZ z w [.ref (z.2.1 66), .int x1, .int x2]) (QR (some (.int r))) 0 0 (fun _ => False) := by
  refine mk_Ri (cc := cX10_againstSort) (maxL := 3) (by decide +kernel) rfl (Nat.le_of_ble_eq_true rfl) ?_
  intro p e s m args below meth c hx hb hml hts hown hK hW Q hret ls hl
  have hl : lv_has ls 3 [(0, .ref (z.2.1 66)), (1, .int x1), (2, .int x2)] := hl
  unfold f_X10_againstSort at hf
  refine lv_iload_n hx hb dX10_againstSort_0 rfl (lv_at hl 1 rfl) ?_
  obtain ⟨r_1, hq_2, hf⟩ := of_bd hf
  refine m_goRi (va_runS (As := [.int x1]) (rest := []) ⟨hx, hb, hml, hown, hts⟩ (c_X10_isTape l hz x1 w hq_2) (va_cwS 1 hts gX10_againstSort_X10_isTape rfl rfl rfl (by decide +kernel) ⟨Nat.le_of_ble_eq_true rfl, Nat.le_of_ble_eq_true rfl⟩) (m_preS hK hW _) rfl rfl hl.1 rfl (lv_room (Nat.le_of_ble_eq_true rfl)) dX10_againstSort_1 ⟨Nat.le_refl _, Nat.le_refl _⟩) ?_
  refine lv_if_ne (tgt := 9) hx hb dX10_againstSort_4 (by decide) (fun c_3 => ?_) (fun c_3 => ?_)
  · have hf := of_f c_3 hf
    refine lv_aload_n hx hb dX10_againstSort_9 rfl (lv_at hl 0 rfl) ?_
    refine get_X10_11 hx hb hts in_X10_againstSort_X10 hown hK hz hW lk_X10_againstSort_0 dX10_againstSort_10 ?_
    refine lv_iload_n hx hb dX10_againstSort_13 rfl (lv_at hl 1 rfl) ?_
    obtain ⟨g_4, hf⟩ := of_gd hf
    refine ld_AT hx hb hK hz hW g_4 dX10_againstSort_14 ?_
    refine get_X9_2 hx hb hts in_X10_againstSort_X9 hown hK hz hW (inb_lt g_4) lk_X10_againstSort_1 dX10_againstSort_15 ?_
    refine lv_topi (fun v_5 ev_5 => ?_)
    have hf := of_lt ev_5 hf
    refine lv_if_ne (tgt := 24) hx hb dX10_againstSort_18 (by decide) (fun c_6 => ?_) (fun c_6 => ?_)
    · have hf := of_f c_6 hf
      refine lv_aload_n hx hb dX10_againstSort_24 rfl (lv_at hl 0 rfl) ?_
      refine get_X10_11 hx hb hts in_X10_againstSort_X10 hown hK hz hW lk_X10_againstSort_0 dX10_againstSort_25 ?_
      refine lv_iload_n hx hb dX10_againstSort_28 rfl (lv_at hl 1 rfl) ?_
      refine ld_AT hx hb hK hz hW g_4 dX10_againstSort_29 ?_
      refine get_X9_2 hx hb hts in_X10_againstSort_X9 hown hK hz hW (inb_lt g_4) lk_X10_againstSort_1 dX10_againstSort_30 ?_
      refine lv_topi (fun v_7 ev_7 => ?_)
      have hf := of_lt ev_7 hf
      refine lv_iload_n hx hb dX10_againstSort_33 rfl (lv_at hl 2 rfl) ?_
      have J_9 : ∀ (v_8 : Int32) (ls : Array Slot), v_8 = (if v_7 = x2 then 0 else (-12)) → lv_has ls 3 [] → W p l e (rm 1 20) s m args below meth c s.heap [] 0 0 Q (F0 m 43 ls [.int v_8]) := by
        intro v_8 ls ev_8 hl
        have hf := of_lt ev_8 hf
        exact hret _ _ _ hf dX10_againstSort_43
      refine lv_icmp_ne (tgt := 41) hx hb dX10_againstSort_34 (by decide) (fun c_10 => ?_) (fun c_10 => ?_)
      · refine lv_bipush (v := (-12)) hx hb dX10_againstSort_41 (by decide) ?_
        exact J_9 _ _ (by rw [if_neg c_10]) (lv_sub hl [] rfl)
      · refine lv_iconst (v := 0) hx hb dX10_againstSort_37 (by decide) ?_
        refine lv_goto (tgt := 43) hx hb dX10_againstSort_38 (by decide) ?_
        exact J_9 _ _ (by rw [if_pos c_10]) (lv_sub hl [] rfl)
    · have hf := of_t c_6 hf
      refine lv_bipush (v := (-11)) hx hb dX10_againstSort_21 (by decide) ?_
      exact hret _ _ _ hf dX10_againstSort_23
  · have hf := of_t c_3 hf
    refine lv_iconst (v := (-1)) hx hb dX10_againstSort_7 (by decide) ?_
    exact hret _ _ _ hf dX10_againstSort_8
theorem in_X10_counted_X10 : ∀ w ∈ wsX100, w ∈ wsX10_counted := by decide +kernel
theorem lk_X10_counted_0 : Cond.fieldLink RX10 104 "CamStitch" "refusals" "I" ∈ wsX10_counted := by decide +kernel
set_option maxHeartbeats 4000000 in
set_option maxRecDepth 100000 in
theorem c_X10_counted (l : Launch) {z : LZ} (hz : IC z) (x1 : Int32) (w : Mem) {r : Int32} {w' : Mem} (hf : f_X10_counted x1 w = some (r, w')) : Met l yX10_counted wsX10_counted (rm 0 0) (PZ z w [.ref (z.2.1 66), .int x1]) (QW z (some (.int r)) w') 0 0 (az z) := by
  refine mk_Wi (cc := cX10_counted) (maxL := 2) (by decide +kernel) rfl (Nat.le_of_ble_eq_true rfl) ?_
  intro p e s m args below meth c hx hb hml hts hown hK hW Q hret ls hl
  have hl : lv_has ls 2 [(0, .ref (z.2.1 66)), (1, .int x1)] := hl
  unfold f_X10_counted at hf
  have START : ∀ (H : Heap) (locs : List Loc), hd z w H → va_S (az z) s.heap H locs → W p l e (rm 0 0) s m args below meth c H locs 0 0 Q (F0 m 0 ls []) := by
    intro H locs hW hS
    refine lv_iload_n hx hb dX10_counted_0 rfl (lv_at hl 1 rfl) ?_
    refine lv_bipush (v := (-15)) hx hb dX10_counted_1 (by decide) ?_
    refine lv_icmp_lt (tgt := 22) hx hb dX10_counted_3 (by decide) (fun c_1 => ?_) (fun c_1 => ?_)
    · have hf := of_t c_1 hf
      refine lv_iload_n hx hb dX10_counted_22 rfl (lv_at hl 1 rfl) ?_
      exact hret _ _ _ _ _ _ hf hW hS dX10_counted_23
    · have hf := of_f c_1 hf
      refine lv_iload_n hx hb dX10_counted_6 rfl (lv_at hl 1 rfl) ?_
      refine lv_bipush (v := (-11)) hx hb dX10_counted_7 (by decide) ?_
      refine lv_icmp_gt (tgt := 22) hx hb dX10_counted_9 (by decide) (fun c_2 => ?_) (fun c_2 => ?_)
      · have hf := of_t c_2 hf
        refine lv_iload_n hx hb dX10_counted_22 rfl (lv_at hl 1 rfl) ?_
        exact hret _ _ _ _ _ _ hf hW hS dX10_counted_23
      · have hf := of_f c_2 hf
        refine lv_aload_n hx hb dX10_counted_12 rfl (lv_at hl 0 rfl) ?_
        refine lv_dup hx hb dX10_counted_13 rfl ?_
        refine get_X10_12 hx hb hts in_X10_counted_X10 hown hK hz hW lk_X10_counted_0 dX10_counted_14 ?_
        refine lv_iconst (v := 1) hx hb dX10_counted_17 (by decide) ?_
        refine lv_iadd hx hb dX10_counted_18 ?_
        refine put_X10_12 hx hb hts in_X10_counted_X10 hown hK hz hW hS lk_X10_counted_0 dX10_counted_19 (fun H locs hW hS => ?_)
        obtain ⟨w_3, ew_3⟩ : ∃ y : Mem, y = mS w 66 12 ((w.1 66 12) + 1) := ⟨_, rfl⟩
        have hW : hd z w_3 H := by rw [ew_3]; exact hW
        have hf := of_lt ew_3 hf
        refine lv_iload_n hx hb dX10_counted_22 rfl (lv_at hl 1 rfl) ?_
        exact hret _ _ _ _ _ _ hf hW hS dX10_counted_23
  exact START _ _ hW va_S.rf
theorem in_X10_read_X10 : ∀ w ∈ wsX100, w ∈ wsX10_read := by decide +kernel
theorem in_X10_read_X5 : ∀ w ∈ wsX50, w ∈ wsX10_read := by decide +kernel
theorem in_X10_read_X6 : ∀ w ∈ wsX60, w ∈ wsX10_read := by decide +kernel
theorem lk_X10_read_0 : Cond.fieldLink RX10 19 "CamStitch" "reader" "LCamStitch$Reader;" ∈ wsX10_read := by decide +kernel
theorem lk_X10_read_1 : Cond.fieldLink RX10 81 "CamStitch" "tapes" "[LCamStitch$Tape;" ∈ wsX10_read := by decide +kernel
theorem lk_X10_read_2 : Cond.fieldLink RX10 10 "CamStitch" "pattern" "LCamStitch$Pattern;" ∈ wsX10_read := by decide +kernel
theorem lk_X10_read_3 : Cond.fieldLink RX10 119 "CamStitch$Reader" "draft" "LCamStitch$Pattern;" ∈ wsX10_read := by decide +kernel
theorem lk_X10_read_4 : Cond.fieldLink RX10 126 "CamStitch$Pattern" "points" "I" ∈ wsX10_read := by decide +kernel
set_option maxHeartbeats 4000000 in
set_option maxRecDepth 100000 in
theorem c_X10_read (l : Launch) {z : LZ} (hz : IC z) (x1 : Int32) (w : Mem) {r : Int32} {w' : Mem} (hf : f_X10_read x1 w = some (r, w')) : Met l yX10_read wsX10_read (rm 4 94) (PZ z w [.ref (z.2.1 66), .int x1]) (QW z (some (.int r)) w') 0 0 (az z) := by
  refine mk_Wi (cc := cX10_read) (maxL := 4) (by decide +kernel) rfl (Nat.le_of_ble_eq_true rfl) ?_
  intro p e s m args below meth c hx hb hml hts hown hK hW Q hret ls hl
  have hl : lv_has ls 4 [(0, .ref (z.2.1 66)), (1, .int x1)] := hl
  unfold f_X10_read at hf
  have START : ∀ (H : Heap) (locs : List Loc), hd z w H → va_S (az z) s.heap H locs → W p l e (rm 4 94) s m args below meth c H locs 0 0 Q (F0 m 0 ls []) := by
    intro H locs hW hS
    refine lv_aload_n hx hb dX10_read_0 rfl (lv_at hl 0 rfl) ?_
    refine lv_iload_n hx hb dX10_read_1 rfl (lv_at hl 1 rfl) ?_
    refine lv_iconst (v := 1) hx hb dX10_read_2 (by decide) ?_
    obtain ⟨r_1, hq_2, hf⟩ := of_bd hf
    refine m_goRi (va_runV (As := [.int x1, .int 1]) (rest := []) ⟨hx, hb, hml, hown, hts⟩ (c_X10_againstSort l hz x1 1 w hq_2) (cwV 2 hts gX10_read_X10_againstSort rfl rfl rfl (by decide +kernel) ⟨Nat.le_of_ble_eq_true rfl, Nat.le_of_ble_eq_true rfl⟩) (pre_X10 hK hz hW _) rfl rfl hl.1 rfl (lv_room (Nat.le_of_ble_eq_true rfl)) dX10_read_3 ⟨Nat.le_refl _, Nat.le_refl _⟩) ?_
    refine lv_istore_n (lv' := [(2, .int r_1), (0, .ref (z.2.1 66)), (1, .int x1)]) hx hb dX10_read_6 rfl hl (by decide) rfl (fun ls hl => ?_)
    refine lv_iload_n hx hb dX10_read_7 rfl (lv_at hl 0 rfl) ?_
    refine lv_if_eq (tgt := 17) hx hb dX10_read_8 (by decide) (fun c_3 => ?_) (fun c_3 => ?_)
    · have hf := of_t c_3 hf
      refine lv_aload_n hx hb dX10_read_17 rfl (lv_at hl 1 rfl) ?_
      refine get_X10_1 hx hb hts in_X10_read_X10 hown hK hz hW lk_X10_read_0 dX10_read_18 ?_
      refine lv_aload_n hx hb dX10_read_21 rfl (lv_at hl 1 rfl) ?_
      refine get_X10_11 hx hb hts in_X10_read_X10 hown hK hz hW lk_X10_read_1 dX10_read_22 ?_
      refine lv_iload_n hx hb dX10_read_25 rfl (lv_at hl 2 rfl) ?_
      obtain ⟨g_4, hf⟩ := of_gd hf
      refine ld_AT hx hb hK hz hW g_4 dX10_read_26 ?_
      obtain ⟨r_5, w_7, hq_6, hf⟩ := of_b2 hf
      refine m_goWi (va_runV (As := [.ref (z.2.1 (48+2*x1.toNatClampNeg))]) (rest := []) ⟨hx, hb, hml, hown, hts⟩ (c_X6_firstFault l hz x1.toNatClampNeg (inb_lt g_4) w hq_6) (cwV 1 hts gX10_read_X6_firstFault rfl rfl rfl (by decide +kernel) ⟨Nat.le_of_ble_eq_true rfl, Nat.le_of_ble_eq_true rfl⟩) (pre_X6 hK hz hW _) rfl rfl hl.1 rfl (lv_room (Nat.le_of_ble_eq_true rfl)) dX10_read_27 ⟨Nat.le_refl _, Nat.le_refl _⟩) hS (fun H locs hW hS => ?_)
      refine lv_istore_n (lv' := [(3, .int r_5), (2, .int r_1), (0, .ref (z.2.1 66)), (1, .int x1)]) hx hb dX10_read_30 rfl hl (by decide) rfl (fun ls hl => ?_)
      refine lv_iload_n hx hb dX10_read_31 rfl (lv_at hl 0 rfl) ?_
      refine lv_iconst (v := (-1)) hx hb dX10_read_32 (by decide) ?_
      refine lv_icmp_eq (tgt := 41) hx hb dX10_read_33 (by decide) (fun c_8 => ?_) (fun c_8 => ?_)
      · have hf := of_t c_8 hf
        refine lv_aload_n hx hb dX10_read_41 rfl (lv_at hl 2 rfl) ?_
        refine get_X10_0 hx hb hts in_X10_read_X10 hown hK hz hW lk_X10_read_2 dX10_read_42 ?_
        refine lv_aload_n hx hb dX10_read_45 rfl (lv_at hl 2 rfl) ?_
        refine get_X10_1 hx hb hts in_X10_read_X10 hown hK hz hW lk_X10_read_0 dX10_read_46 ?_
        refine get_X6_0 hx hb hts in_X10_read_X6 hown hK hz hW lk_X10_read_3 dX10_read_49 ?_
        obtain ⟨w_11, hq_10, hf⟩ := of_bd hf
        refine m_goWv (va_runV (As := [.ref (z.2.1 (60+3*1))]) (rest := []) ⟨hx, hb, hml, hown, hts⟩ (c_X5_become l hz 0 (Nat.le_of_ble_eq_true rfl) 1 (Nat.le_of_ble_eq_true rfl) w_7 hq_10) (cwV 1 hts gX10_read_X5_become rfl rfl rfl (by decide +kernel) ⟨Nat.le_of_ble_eq_true rfl, Nat.le_of_ble_eq_true rfl⟩) (pre_X5 hK hz hW (Nat.le_of_ble_eq_true rfl) _) rfl rfl hl.1 rfl (lv_room (Nat.le_of_ble_eq_true rfl)) dX10_read_52 ⟨Nat.le_refl _, Nat.le_refl _⟩) hS (fun H locs hW hS => ?_)
        refine lv_aload_n hx hb dX10_read_55 rfl (lv_at hl 2 rfl) ?_
        refine get_X10_0 hx hb hts in_X10_read_X10 hown hK hz hW lk_X10_read_2 dX10_read_56 ?_
        refine get_X5_2 hx hb hts in_X10_read_X5 hown hK hz hW (Nat.le_of_ble_eq_true rfl) lk_X10_read_4 dX10_read_59 ?_
        exact hret _ _ _ _ _ _ hf hW hS dX10_read_62
      · have hf := of_f c_8 hf
        refine lv_bipush (v := (-100)) hx hb dX10_read_36 (by decide) ?_
        refine lv_iload_n hx hb dX10_read_38 rfl (lv_at hl 0 rfl) ?_
        refine lv_isub hx hb dX10_read_39 ?_
        exact hret _ _ _ _ _ _ hf hW hS dX10_read_40
    · have hf := of_f c_3 hf
      refine lv_aload_n hx hb dX10_read_11 rfl (lv_at hl 1 rfl) ?_
      refine lv_iload_n hx hb dX10_read_12 rfl (lv_at hl 0 rfl) ?_
      obtain ⟨r_12, w_14, hq_13, hf⟩ := of_b2 hf
      refine m_goWi (va_runV (As := [.int r_1]) (rest := []) ⟨hx, hb, hml, hown, hts⟩ (c_X10_counted l hz r_1 w hq_13) (cwV 1 hts gX10_read_X10_counted rfl rfl rfl (by decide +kernel) ⟨Nat.le_of_ble_eq_true rfl, Nat.le_of_ble_eq_true rfl⟩) (pre_X10 hK hz hW _) rfl rfl hl.1 rfl (lv_room (Nat.le_of_ble_eq_true rfl)) dX10_read_13 ⟨Nat.le_refl _, Nat.le_refl _⟩) hS (fun H locs hW hS => ?_)
      exact hret _ _ _ _ _ _ hf hW hS dX10_read_16
  exact START _ _ hW va_S.rf
