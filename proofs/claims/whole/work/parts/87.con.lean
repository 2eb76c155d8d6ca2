/-! ===== contracts (by program: wip/gen/gen.py): X11_sews X11_ends X11_sew X11_seam X11_sewn X11_lacksRim X11_isNamed X11_namesOf X11_names X11_name X11_wear X11_outcomeOf X11_causes X11_outcome X11_note X11_noteless ===== -/
theorem in_X11_sews_X11 : ∀ w ∈ wsX110, w ∈ wsX11_sews := by decide +kernel
theorem lk_X11_sews_0 : Cond.fieldLink RX11 255 "CamStitchModel" "next" "I" ∈ wsX11_sews := by decide +kernel
theorem lk_X11_sews_1 : Cond.fieldLink RX11 19 "CamStitchModel" "swing" "[I" ∈ wsX11_sews := by decide +kernel
theorem lk_X11_sews_2 : Cond.fieldLink RX11 258 "CamStitchModel" "needle" "I" ∈ wsX11_sews := by decide +kernel
theorem lk_X11_sews_3 : Cond.fieldLink RX11 261 "CamStitchModel" "isBack" "Z" ∈ wsX11_sews := by decide +kernel
theorem lk_X11_sews_4 : Cond.fieldLink RX11 22 "CamStitchModel" "feed" "[I" ∈ wsX11_sews := by decide +kernel
theorem lk_X11_sews_5 : Cond.fieldLink RX11 31 "CamStitchModel" "upper" "I" ∈ wsX11_sews := by decide +kernel
theorem lk_X11_sews_6 : Cond.fieldLink RX11 35 "CamStitchModel" "lower" "I" ∈ wsX11_sews := by decide +kernel
theorem lk_X11_sews_7 : Cond.fieldLink RX11 28 "CamStitchModel" "thick" "[I" ∈ wsX11_sews := by decide +kernel
theorem lk_X11_sews_8 : Cond.fieldLink RX11 264 "CamStitchModel" "sewn" "I" ∈ wsX11_sews := by decide +kernel
theorem lk_X11_sews_9 : Cond.fieldLink RX11 39 "CamStitchModel" "spool" "I" ∈ wsX11_sews := by decide +kernel
theorem lk_X11_sews_10 : Cond.fieldLink RX11 42 "CamStitchModel" "bobbin" "I" ∈ wsX11_sews := by decide +kernel
theorem lk_X11_sews_11 : Cond.fieldLink RX11 267 "CamStitchModel" "why" "I" ∈ wsX11_sews := by decide +kernel
theorem lk_X11_sews_12 : Cond.fieldLink RX11 270 "CamStitchModel" "upperUsed" "I" ∈ wsX11_sews := by decide +kernel
theorem lk_X11_sews_13 : Cond.fieldLink RX11 273 "CamStitchModel" "lowerUsed" "I" ∈ wsX11_sews := by decide +kernel
theorem lk_X11_sews_14 : Cond.fieldLink RX11 276 "CamStitchModel" "x" "I" ∈ wsX11_sews := by decide +kernel
theorem lk_X11_sews_15 : Cond.fieldLink RX11 279 "CamStitchModel" "quarter" "I" ∈ wsX11_sews := by decide +kernel
theorem lk_X11_sews_16 : Cond.fieldLink RX11 282 "CamStitchModel" "y" "I" ∈ wsX11_sews := by decide +kernel
theorem lk_X11_sews_17 : Cond.fieldLink RX11 54 "CamStitchModel" "endX" "[I" ∈ wsX11_sews := by decide +kernel
theorem lk_X11_sews_18 : Cond.fieldLink RX11 57 "CamStitchModel" "endY" "[I" ∈ wsX11_sews := by decide +kernel
theorem lk_X11_sews_19 : Cond.fieldLink RX11 285 "CamStitchModel" "met" "I" ∈ wsX11_sews := by decide +kernel
theorem lk_X11_sews_20 : Cond.fieldLink RX11 16 "CamStitchModel" "many" "[I" ∈ wsX11_sews := by decide +kernel
set_option maxHeartbeats 4000000 in
set_option maxRecDepth 100000 in
theorem c_X11_sews (l : Launch) {z : LZ} (hz : IM z)  (w : Mem) {r : Int32} {w' : Mem} (hf : f_X11_sews w = some (r, w')) : Met l yX11_sews wsX11_sews (rm 1 22) (PZ z w [.ref (z.2.1 0)]) (QW z (some (.int r)) w') 0 0 (az z) := by
  refine mk_Wz (cc := cX11_sews) (maxL := 9) (by decide +kernel) rfl (Nat.le_of_ble_eq_true rfl) ?_
  intro p e s m args below meth c hx hb hml hts hown hK hW Q hret ls hl
  have hl : lv_has ls 9 [(0, .ref (z.2.1 0))] := hl
  unfold f_X11_sews at hf
  have START : ∀ (H : Heap) (locs : List Loc), hd z w H → va_S (az z) s.heap H locs → W p l e (rm 1 22) s m args below meth c H locs 0 0 Q (F0 m 0 ls []) := by
    intro H locs hW hS
    refine lv_sipush (v := 672) hx hb dX11_sews_0 (by decide) ?_
    refine lv_aload_n hx hb dX11_sews_3 rfl (lv_at hl 0 rfl) ?_
    refine get_X11_52 hx hb hts in_X11_sews_X11 hown hK hz hW lk_X11_sews_0 dX11_sews_4 ?_
    refine lv_iadd hx hb dX11_sews_7 ?_
    refine lv_topi (fun v_1 ev_1 => ?_)
    have hf := of_lt ev_1 hf
    refine lv_istore_n (lv' := [(1, .int v_1), (0, .ref (z.2.1 0))]) hx hb dX11_sews_8 rfl hl (by decide) rfl (fun ls hl => ?_)
    refine lv_aload_n hx hb dX11_sews_9 rfl (lv_at hl 1 rfl) ?_
    refine get_X11_6 hx hb hts in_X11_sews_X11 hown hK hz hW lk_X11_sews_1 dX11_sews_10 ?_
    refine lv_iload_n hx hb dX11_sews_13 rfl (lv_at hl 0 rfl) ?_
    obtain ⟨g_2, hf⟩ := of_gd hf
    refine ld_M4 hx hb hK hz hW g_2 dX11_sews_14 ?_
    refine lv_aload_n hx hb dX11_sews_15 rfl (lv_at hl 1 rfl) ?_
    refine get_X11_51 hx hb hts in_X11_sews_X11 hown hK hz hW lk_X11_sews_2 dX11_sews_16 ?_
    refine lv_isub hx hb dX11_sews_19 ?_
    refine lv_topi (fun v_3 ev_3 => ?_)
    have hf := of_lt ev_3 hf
    refine lv_istore_n (lv' := [(2, .int v_3), (1, .int v_1), (0, .ref (z.2.1 0))]) hx hb dX11_sews_20 rfl hl (by decide) rfl (fun ls hl => ?_)
    refine lv_aload_n hx hb dX11_sews_21 rfl (lv_at hl 2 rfl) ?_
    refine get_X11_50 hx hb hts in_X11_sews_X11 hown hK hz hW lk_X11_sews_3 dX11_sews_22 ?_
    have J_5 : ∀ (v_4 : Int32) (ls : Array Slot), v_4 = (if (w.1 0 50) = 0 then (w.1 5 v_1.toNatClampNeg) else (-(w.1 5 v_1.toNatClampNeg))) → lv_has ls 9 [(0, .ref (z.2.1 0)), (1, .int v_1), (2, .int v_3)] → W p l e (rm 1 22) s m args below meth c H locs 0 0 Q (F0 m 44 ls [.int v_4]) := by
      intro v_4 ls ev_4 hl
      have hf := of_lt ev_4 hf
      refine lv_istore_n (lv' := [(3, .int v_4), (0, .ref (z.2.1 0)), (1, .int v_1), (2, .int v_3)]) hx hb dX11_sews_44 rfl hl (by decide) rfl (fun ls hl => ?_)
      refine lv_aload_n hx hb dX11_sews_45 rfl (lv_at hl 1 rfl) ?_
      refine lv_aload_n hx hb dX11_sews_46 rfl (lv_at hl 1 rfl) ?_
      refine get_X11_11 hx hb hts in_X11_sews_X11 hown hK hz hW lk_X11_sews_5 dX11_sews_47 ?_
      refine lv_aload_n hx hb dX11_sews_50 rfl (lv_at hl 1 rfl) ?_
      refine get_X11_12 hx hb hts in_X11_sews_X11 hown hK hz hW lk_X11_sews_6 dX11_sews_51 ?_
      obtain ⟨r_6, hq_7, hf⟩ := of_bd hf
      refine m_goRi (va_runV (As := [.int (w.1 0 11), .int (w.1 0 12)]) (rest := []) ⟨hx, hb, hml, hown, hts⟩ (c_X11_lockOf l hz (w.1 0 11) (w.1 0 12) w hq_7) (cwV 2 hts gX11_sews_X11_lockOf rfl rfl rfl (by decide +kernel) ⟨Nat.le_of_ble_eq_true rfl, Nat.le_of_ble_eq_true rfl⟩) (pre_X11 hK hz hW _) rfl rfl hl.1 rfl (lv_room (Nat.le_of_ble_eq_true rfl)) dX11_sews_54 ⟨Nat.le_refl _, Nat.le_refl _⟩) ?_
      refine lv_istore (lv' := [(4, .int r_6), (3, .int v_4), (0, .ref (z.2.1 0)), (1, .int v_1), (2, .int v_3)]) hx hb dX11_sews_57 hl (by decide) rfl (fun ls hl => ?_)
      refine lv_iload_n hx hb dX11_sews_59 rfl (lv_at hl 4 rfl) ?_
      obtain ⟨r_8, hq_9, hf⟩ := of_bd hf
      refine m_goRi (va_runS (As := [.int v_3]) (rest := []) ⟨hx, hb, hml, hown, hts⟩ (c_X11_away l hz v_3 w hq_9) (va_cwS 1 hts gX11_sews_X11_away rfl rfl rfl (by decide +kernel) ⟨Nat.le_of_ble_eq_true rfl, Nat.le_of_ble_eq_true rfl⟩) (m_preS hK hW _) rfl rfl hl.1 rfl (lv_room (Nat.le_of_ble_eq_true rfl)) dX11_sews_60 ⟨Nat.le_refl _, Nat.le_refl _⟩) ?_
      refine lv_iload_n hx hb dX11_sews_63 rfl (lv_at hl 1 rfl) ?_
      obtain ⟨r_10, hq_11, hf⟩ := of_bd hf
      refine m_goRi (va_runS (As := [.int v_4]) (rest := [.int r_8]) ⟨hx, hb, hml, hown, hts⟩ (c_X11_away l hz v_4 w hq_11) (va_cwS 1 hts gX11_sews_X11_away rfl rfl rfl (by decide +kernel) ⟨Nat.le_of_ble_eq_true rfl, Nat.le_of_ble_eq_true rfl⟩) (m_preS hK hW _) rfl rfl hl.1 rfl (lv_room (Nat.le_of_ble_eq_true rfl)) dX11_sews_64 ⟨Nat.le_refl _, Nat.le_refl _⟩) ?_
      refine lv_iadd hx hb dX11_sews_67 ?_
      refine lv_iconst (v := 2) hx hb dX11_sews_68 (by decide) ?_
      refine lv_iload hx hb dX11_sews_69 (lv_at hl 0 rfl) ?_
      refine lv_imul hx hb dX11_sews_71 ?_
      refine lv_iadd hx hb dX11_sews_72 ?_
      refine lv_topi (fun v_12 ev_12 => ?_)
      have hf := of_lt ev_12 hf
      refine lv_istore (lv' := [(5, .int v_12), (4, .int r_6), (3, .int v_4), (0, .ref (z.2.1 0)), (1, .int v_1), (2, .int v_3)]) hx hb dX11_sews_73 hl (by decide) rfl (fun ls hl => ?_)
      refine lv_iload_n hx hb dX11_sews_75 rfl (lv_at hl 5 rfl) ?_
      obtain ⟨r_13, hq_14, hf⟩ := of_bd hf
      refine m_goRi (va_runS (As := [.int v_3]) (rest := []) ⟨hx, hb, hml, hown, hts⟩ (c_X11_away l hz v_3 w hq_14) (va_cwS 1 hts gX11_sews_X11_away rfl rfl rfl (by decide +kernel) ⟨Nat.le_of_ble_eq_true rfl, Nat.le_of_ble_eq_true rfl⟩) (m_preS hK hW _) rfl rfl hl.1 rfl (lv_room (Nat.le_of_ble_eq_true rfl)) dX11_sews_76 ⟨Nat.le_refl _, Nat.le_refl _⟩) ?_
      refine lv_iload_n hx hb dX11_sews_79 rfl (lv_at hl 2 rfl) ?_
      obtain ⟨r_15, hq_16, hf⟩ := of_bd hf
      refine m_goRi (va_runS (As := [.int v_4]) (rest := [.int r_13]) ⟨hx, hb, hml, hown, hts⟩ (c_X11_away l hz v_4 w hq_16) (va_cwS 1 hts gX11_sews_X11_away rfl rfl rfl (by decide +kernel) ⟨Nat.le_of_ble_eq_true rfl, Nat.le_of_ble_eq_true rfl⟩) (m_preS hK hW _) rfl rfl hl.1 rfl (lv_room (Nat.le_of_ble_eq_true rfl)) dX11_sews_80 ⟨Nat.le_refl _, Nat.le_refl _⟩) ?_
      refine lv_iadd hx hb dX11_sews_83 ?_
      refine lv_iconst (v := 2) hx hb dX11_sews_84 (by decide) ?_
      refine lv_aload_n hx hb dX11_sews_85 rfl (lv_at hl 3 rfl) ?_
      refine get_X11_10 hx hb hts in_X11_sews_X11 hown hK hz hW lk_X11_sews_7 dX11_sews_86 ?_
      refine lv_iconst (v := 0) hx hb dX11_sews_89 (by decide) ?_
      obtain ⟨g_17, hf⟩ := of_gd hf
      refine ld_M7 hx hb hK hz hW g_17 dX11_sews_90 ?_
      refine lv_topi (fun v_18 ev_18 => ?_)
      have hf := of_lt ev_18 hf
      refine lv_aload_n hx hb dX11_sews_91 rfl (lv_at hl 3 rfl) ?_
      refine get_X11_10 hx hb hts in_X11_sews_X11 hown hK hz hW lk_X11_sews_7 dX11_sews_92 ?_
      refine lv_iconst (v := 1) hx hb dX11_sews_95 (by decide) ?_
      obtain ⟨g_19, hf⟩ := of_gd hf
      refine ld_M7 hx hb hK hz hW g_19 dX11_sews_96 ?_
      refine lv_topi (fun v_20 ev_20 => ?_)
      have hf := of_lt ev_20 hf
      refine lv_iadd hx hb dX11_sews_97 ?_
      refine lv_iload hx hb dX11_sews_98 (lv_at hl 1 rfl) ?_
      refine lv_isub hx hb dX11_sews_100 ?_
      refine lv_imul hx hb dX11_sews_101 ?_
      refine lv_topi (fun v_21 ev_21 => ?_)
      have hf := of_lt ev_21 hf
      refine lv_iadd hx hb dX11_sews_102 ?_
      refine lv_topi (fun v_22 ev_22 => ?_)
      have hf := of_lt ev_22 hf
      refine lv_istore (lv' := [(6, .int v_22), (5, .int v_12), (4, .int r_6), (3, .int v_4), (0, .ref (z.2.1 0)), (1, .int v_1), (2, .int v_3)]) hx hb dX11_sews_103 hl (by decide) rfl (fun ls hl => ?_)
      refine lv_aload_n hx hb dX11_sews_105 rfl (lv_at hl 4 rfl) ?_
      refine lv_aload_n hx hb dX11_sews_106 rfl (lv_at hl 4 rfl) ?_
      refine get_X11_46 hx hb hts in_X11_sews_X11 hown hK hz hW lk_X11_sews_8 dX11_sews_107 ?_
      refine lv_sipush (v := 600) hx hb dX11_sews_110 (by decide) ?_
      have J_24 : ∀ (v_23 : Int32) (ls : Array Slot), v_23 = (if (w.1 0 46) = 600 then 3 else (if v_12 ≤ (w.1 0 13) then (if v_22 ≤ (w.1 0 14) then 0 else 2) else 1)) → lv_has ls 9 [(0, .ref (z.2.1 0)), (1, .int v_1), (2, .int v_3), (3, .int v_4), (5, .int v_12), (6, .int v_22)] → W p l e (rm 1 22) s m args below meth c H locs 0 0 Q (F0 m 147 ls [.int v_23, .ref (z.2.1 0)]) := by
        intro v_23 ls ev_23 hl
        have hf := of_lt ev_23 hf
        refine put_X11_53 hx hb hts in_X11_sews_X11 hown hK hz hW hS lk_X11_sews_11 dX11_sews_147 (fun H locs hW hS => ?_)
        obtain ⟨w_25, ew_25⟩ : ∃ y : Mem, y = mS w 0 53 v_23 := ⟨_, rfl⟩
        have hW : hd z w_25 H := by rw [ew_25]; exact hW
        have hf := of_lt ew_25 hf
        refine lv_aload_n hx hb dX11_sews_150 rfl (lv_at hl 0 rfl) ?_
        refine get_X11_53 hx hb hts in_X11_sews_X11 hown hK hz hW lk_X11_sews_11 dX11_sews_151 ?_
        refine lv_if_eq (tgt := 159) hx hb dX11_sews_154 (by decide) (fun c_26 => ?_) (fun c_26 => ?_)
        · have hf := of_t c_26 hf
          refine lv_aload_n hx hb dX11_sews_159 rfl (lv_at hl 0 rfl) ?_
          refine lv_dup hx hb dX11_sews_160 rfl ?_
          refine get_X11_13 hx hb hts in_X11_sews_X11 hown hK hz hW lk_X11_sews_9 dX11_sews_161 ?_
          refine lv_iload hx hb dX11_sews_164 (lv_at hl 4 rfl) ?_
          refine lv_isub hx hb dX11_sews_166 ?_
          refine put_X11_13 hx hb hts in_X11_sews_X11 hown hK hz hW hS lk_X11_sews_9 dX11_sews_167 (fun H locs hW hS => ?_)
          obtain ⟨w_27, ew_27⟩ : ∃ y : Mem, y = mS w_25 0 13 ((w_25.1 0 13) - v_12) := ⟨_, rfl⟩
          have hW : hd z w_27 H := by rw [ew_27]; exact hW
          have hf := of_lt ew_27 hf
          refine lv_aload_n hx hb dX11_sews_170 rfl (lv_at hl 0 rfl) ?_
          refine lv_dup hx hb dX11_sews_171 rfl ?_
          refine get_X11_14 hx hb hts in_X11_sews_X11 hown hK hz hW lk_X11_sews_10 dX11_sews_172 ?_
          refine lv_iload hx hb dX11_sews_175 (lv_at hl 5 rfl) ?_
          refine lv_isub hx hb dX11_sews_177 ?_
          refine put_X11_14 hx hb hts in_X11_sews_X11 hown hK hz hW hS lk_X11_sews_10 dX11_sews_178 (fun H locs hW hS => ?_)
          obtain ⟨w_28, ew_28⟩ : ∃ y : Mem, y = mS w_27 0 14 ((w_27.1 0 14) - v_22) := ⟨_, rfl⟩
          have hW : hd z w_28 H := by rw [ew_28]; exact hW
          have hf := of_lt ew_28 hf
          refine lv_aload_n hx hb dX11_sews_181 rfl (lv_at hl 0 rfl) ?_
          refine lv_dup hx hb dX11_sews_182 rfl ?_
          refine get_X11_55 hx hb hts in_X11_sews_X11 hown hK hz hW lk_X11_sews_12 dX11_sews_183 ?_
          refine lv_iload hx hb dX11_sews_186 (lv_at hl 4 rfl) ?_
          refine lv_iadd hx hb dX11_sews_188 ?_
          refine put_X11_55 hx hb hts in_X11_sews_X11 hown hK hz hW hS lk_X11_sews_12 dX11_sews_189 (fun H locs hW hS => ?_)
          obtain ⟨w_29, ew_29⟩ : ∃ y : Mem, y = mS w_28 0 55 ((w_28.1 0 55) + v_12) := ⟨_, rfl⟩
          have hW : hd z w_29 H := by rw [ew_29]; exact hW
          have hf := of_lt ew_29 hf
          refine lv_aload_n hx hb dX11_sews_192 rfl (lv_at hl 0 rfl) ?_
          refine lv_dup hx hb dX11_sews_193 rfl ?_
          refine get_X11_56 hx hb hts in_X11_sews_X11 hown hK hz hW lk_X11_sews_13 dX11_sews_194 ?_
          refine lv_iload hx hb dX11_sews_197 (lv_at hl 5 rfl) ?_
          refine lv_iadd hx hb dX11_sews_199 ?_
          refine put_X11_56 hx hb hts in_X11_sews_X11 hown hK hz hW hS lk_X11_sews_13 dX11_sews_200 (fun H locs hW hS => ?_)
          obtain ⟨w_30, ew_30⟩ : ∃ y : Mem, y = mS w_29 0 56 ((w_29.1 0 56) + v_22) := ⟨_, rfl⟩
          have hW : hd z w_30 H := by rw [ew_30]; exact hW
          have hf := of_lt ew_30 hf
          refine lv_aload_n hx hb dX11_sews_203 rfl (lv_at hl 0 rfl) ?_
          refine lv_dup hx hb dX11_sews_204 rfl ?_
          refine get_X11_47 hx hb hts in_X11_sews_X11 hown hK hz hW lk_X11_sews_14 dX11_sews_205 ?_
          refine lv_aload_n hx hb dX11_sews_208 rfl (lv_at hl 0 rfl) ?_
          refine get_X11_49 hx hb hts in_X11_sews_X11 hown hK hz hW lk_X11_sews_15 dX11_sews_209 ?_
          have J_32 : ∀ (v_31 : Int32) (ls : Array Slot), v_31 = (if (w_30.1 0 49) = 0 then v_3 else (if (w_30.1 0 49) = 1 then (-v_4) else (if (w_30.1 0 49) = 2 then (-v_3) else v_4))) → lv_has ls 9 [(0, .ref (z.2.1 0)), (1, .int v_1), (2, .int v_3), (3, .int v_4)] → W p l e (rm 1 22) s m args below meth c H locs 0 0 Q (F0 m 246 ls [.int v_31, .int (w_30.1 0 47), .ref (z.2.1 0)]) := by
            intro v_31 ls ev_31 hl
            have hf := of_lt ev_31 hf
            refine lv_iadd hx hb dX11_sews_246 ?_
            refine put_X11_47 hx hb hts in_X11_sews_X11 hown hK hz hW hS lk_X11_sews_14 dX11_sews_247 (fun H locs hW hS => ?_)
            obtain ⟨w_33, ew_33⟩ : ∃ y : Mem, y = mS w_30 0 47 ((w_30.1 0 47) + v_31) := ⟨_, rfl⟩
            have hW : hd z w_33 H := by rw [ew_33]; exact hW
            have hf := of_lt ew_33 hf
            refine lv_aload_n hx hb dX11_sews_250 rfl (lv_at hl 0 rfl) ?_
            refine lv_dup hx hb dX11_sews_251 rfl ?_
            refine get_X11_48 hx hb hts in_X11_sews_X11 hown hK hz hW lk_X11_sews_16 dX11_sews_252 ?_
            refine lv_aload_n hx hb dX11_sews_255 rfl (lv_at hl 0 rfl) ?_
            refine get_X11_49 hx hb hts in_X11_sews_X11 hown hK hz hW lk_X11_sews_15 dX11_sews_256 ?_
            have J_35 : ∀ (v_34 : Int32) (ls : Array Slot), v_34 = (if (w_33.1 0 49) = 0 then v_4 else (if (w_33.1 0 49) = 1 then v_3 else (if (w_33.1 0 49) = 2 then (-v_4) else (-v_3)))) → lv_has ls 9 [(0, .ref (z.2.1 0)), (1, .int v_1)] → W p l e (rm 1 22) s m args below meth c H locs 0 0 Q (F0 m 293 ls [.int v_34, .int (w_33.1 0 48), .ref (z.2.1 0)]) := by
              intro v_34 ls ev_34 hl
              have hf := of_lt ev_34 hf
              refine lv_iadd hx hb dX11_sews_293 ?_
              refine put_X11_48 hx hb hts in_X11_sews_X11 hown hK hz hW hS lk_X11_sews_16 dX11_sews_294 (fun H locs hW hS => ?_)
              obtain ⟨w_36, ew_36⟩ : ∃ y : Mem, y = mS w_33 0 48 ((w_33.1 0 48) + v_34) := ⟨_, rfl⟩
              have hW : hd z w_36 H := by rw [ew_36]; exact hW
              have hf := of_lt ew_36 hf
              refine lv_aload_n hx hb dX11_sews_297 rfl (lv_at hl 0 rfl) ?_
              refine get_X11_47 hx hb hts in_X11_sews_X11 hown hK hz hW lk_X11_sews_14 dX11_sews_298 ?_
              have J_38 : ∀ (v_37 : Int32) (ls : Array Slot), v_37 = (if (w_36.1 0 47) = 0 then (if (w_36.1 0 48) = 0 then 1 else 0) else 0) → lv_has ls 9 [(0, .ref (z.2.1 0)), (1, .int v_1)] → W p l e (rm 1 22) s m args below meth c H locs 0 0 Q (F0 m 316 ls [.int v_37]) := by
                intro v_37 ls ev_37 hl
                have hf := of_lt ev_37 hf
                refine lv_istore (lv' := [(7, .int v_37), (0, .ref (z.2.1 0)), (1, .int v_1)]) hx hb dX11_sews_316 hl (by decide) rfl (fun ls hl => ?_)
                refine lv_iconst (v := 0) hx hb dX11_sews_318 (by decide) ?_
                refine lv_istore (lv' := [(8, .int 0), (7, .int v_37), (0, .ref (z.2.1 0)), (1, .int v_1)]) hx hb dX11_sews_319 hl (by decide) rfl (fun ls hl => ?_)
                have L_41 : ∀ (n : Nat) (x7_39 : Int32) (x8_40 : Int32) (exL_41 : Int32) (ls : Array Slot), f_X11_sews_L321 w_36 n x7_39 x8_40 = some exL_41 → lv_has ls 9 [(0, .ref (z.2.1 0)), (1, .int v_1), (7, .int x7_39), (8, .int x8_40)] → (∀ (ls : Array Slot), lv_has ls 9 [(0, .ref (z.2.1 0)), (1, .int v_1), (7, .int exL_41)] → W p l e (rm 1 22) s m args below meth c H locs 0 0 Q (F0 m 376 ls [])) → W p l e (rm 1 22) s m args below meth c H locs 0 0 Q (F0 m 321 ls []) := by
                  intro n
                  induction n with
                  | zero =>
                    intro x7_39 x8_40 exL_41 ls hf
                    have hf : (none : Option (Int32)) = some exL_41 := hf
                    cases hf
                  | succ n ihL_41 =>
                    intro x7_39 x8_40 exL_41 ls hf hl hEL_41
                    rw [f_X11_sews_L321_s] at hf
                    refine lv_iload hx hb dX11_sews_321 (lv_at hl 3 rfl) ?_
                    refine lv_aload_n hx hb dX11_sews_323 rfl (lv_at hl 0 rfl) ?_
                    refine get_X11_46 hx hb hts in_X11_sews_X11 hown hK hz hW lk_X11_sews_8 dX11_sews_324 ?_
                    refine lv_icmp_ge (tgt := 376) hx hb dX11_sews_327 (by decide) (fun c_42 => ?_) (fun c_42 => ?_)
                    · have hf := of_t c_42 hf
                      have hf := Option.some.inj hf
                      subst hf
                      exact hEL_41 _ (lv_sub hl [0, 1, 2] rfl)
                    · have hf := of_f c_42 hf
                      refine lv_iload hx hb dX11_sews_330 (lv_at hl 2 rfl) ?_
                      refine lv_if_ne (tgt := 363) hx hb dX11_sews_332 (by decide) (fun c_43 => ?_) (fun c_43 => ?_)
                      · have hf := of_f c_43 hf
                        refine lv_iconst (v := 1) hx hb dX11_sews_363 (by decide) ?_
                        refine lv_goto (tgt := 368) hx hb dX11_sews_364 (by decide) ?_
                        refine lv_istore (lv' := [(7, .int 1), (0, .ref (z.2.1 0)), (1, .int v_1), (8, .int x8_40)]) hx hb dX11_sews_368 hl (by decide) rfl (fun ls hl => ?_)
                        obtain ⟨x8_44, ex8_44⟩ : ∃ y : Int32, y = x8_40 + 1 := ⟨_, rfl⟩
                        have hf := of_lt ex8_44 hf
                        refine lv_iinc (v := x8_44) (lv' := [(8, .int x8_44), (7, .int 1), (0, .ref (z.2.1 0)), (1, .int v_1)]) hx hb dX11_sews_370 hl (k := 3) rfl (by rw [ex8_44]; rfl) (by decide) rfl (fun ls hl => ?_)
                        refine lv_goto (tgt := 321) hx hb dX11_sews_373 (by decide) ?_
                        exact ihL_41 _ _ _ _ hf (lv_sub hl [2, 3, 1, 0] rfl) hEL_41
                      · have hf := of_t c_43 hf
                        refine lv_aload_n hx hb dX11_sews_335 rfl (lv_at hl 0 rfl) ?_
                        refine get_X11_20 hx hb hts in_X11_sews_X11 hown hK hz hW lk_X11_sews_17 dX11_sews_336 ?_
                        refine lv_iload hx hb dX11_sews_339 (lv_at hl 3 rfl) ?_
                        obtain ⟨g_45, hf⟩ := of_gd hf
                        refine ld_M11 hx hb hK hz hW g_45 dX11_sews_341 ?_
                        refine lv_topi (fun v_46 ev_46 => ?_)
                        have hf := of_lt ev_46 hf
                        refine lv_aload_n hx hb dX11_sews_342 rfl (lv_at hl 0 rfl) ?_
                        refine get_X11_47 hx hb hts in_X11_sews_X11 hown hK hz hW lk_X11_sews_14 dX11_sews_343 ?_
                        have J_48 : ∀ (v_47 : Int32) (ls : Array Slot), v_47 = (if v_46 = (w_36.1 0 47) then (if (w_36.1 12 x8_40.toNatClampNeg) = (w_36.1 0 48) then 1 else 0) else 0) → lv_has ls 9 [(0, .ref (z.2.1 0)), (1, .int v_1), (8, .int x8_40)] → W p l e (rm 1 22) s m args below meth c H locs 0 0 Q (F0 m 368 ls [.int v_47]) := by
                          intro v_47 ls ev_47 hl
                          have hf := of_lt ev_47 hf
                          refine lv_istore (lv' := [(7, .int v_47), (0, .ref (z.2.1 0)), (1, .int v_1), (8, .int x8_40)]) hx hb dX11_sews_368 hl (by decide) rfl (fun ls hl => ?_)
                          obtain ⟨x8_49, ex8_49⟩ : ∃ y : Int32, y = x8_40 + 1 := ⟨_, rfl⟩
                          have hf := of_lt ex8_49 hf
                          refine lv_iinc (v := x8_49) (lv' := [(8, .int x8_49), (7, .int v_47), (0, .ref (z.2.1 0)), (1, .int v_1)]) hx hb dX11_sews_370 hl (k := 3) rfl (by rw [ex8_49]; rfl) (by decide) rfl (fun ls hl => ?_)
                          refine lv_goto (tgt := 321) hx hb dX11_sews_373 (by decide) ?_
                          exact ihL_41 _ _ _ _ hf (lv_sub hl [2, 3, 1, 0] rfl) hEL_41
                        refine lv_icmp_ne (tgt := 367) hx hb dX11_sews_346 (by decide) (fun c_50 => ?_) (fun c_50 => ?_)
                        · refine lv_iconst (v := 0) hx hb dX11_sews_367 (by decide) ?_
                          exact J_48 _ _ (by rw [if_neg c_50]) (lv_sub hl [0, 1, 3] rfl)
                        · refine lv_aload_n hx hb dX11_sews_349 rfl (lv_at hl 0 rfl) ?_
                          refine get_X11_21 hx hb hts in_X11_sews_X11 hown hK hz hW lk_X11_sews_18 dX11_sews_350 ?_
                          refine lv_iload hx hb dX11_sews_353 (lv_at hl 3 rfl) ?_
                          refine ld_M12 hx hb hK hz hW g_45 dX11_sews_355 ?_
                          refine lv_aload_n hx hb dX11_sews_356 rfl (lv_at hl 0 rfl) ?_
                          refine get_X11_48 hx hb hts in_X11_sews_X11 hown hK hz hW lk_X11_sews_16 dX11_sews_357 ?_
                          refine lv_icmp_ne (tgt := 367) hx hb dX11_sews_360 (by decide) (fun c_51 => ?_) (fun c_51 => ?_)
                          · refine lv_iconst (v := 0) hx hb dX11_sews_367 (by decide) ?_
                            exact J_48 _ _ (by rw [if_pos c_50, if_neg c_51]) (lv_sub hl [0, 1, 3] rfl)
                          · refine lv_iconst (v := 1) hx hb dX11_sews_363 (by decide) ?_
                            refine lv_goto (tgt := 368) hx hb dX11_sews_364 (by decide) ?_
                            exact J_48 _ _ (by rw [if_pos c_50, if_pos c_51]) (lv_sub hl [0, 1, 3] rfl)
                obtain ⟨ex_53, hq_52, hf⟩ := of_bd hf
                obtain ⟨x7_54, ex7_54⟩ : ∃ y, y = ex_53 := ⟨_, rfl⟩
                rw [← ex7_54] at hf
                rw [← ex7_54] at hq_52
                refine L_41 FU _ _ _ _ hq_52 (lv_sub hl [2, 3, 1, 0] rfl) (fun ls hl => ?_)
                have hl : lv_has ls 9 [(0, .ref (z.2.1 0)), (1, .int v_1), (7, .int x7_54)] := hl
                refine lv_aload_n hx hb dX11_sews_376 rfl (lv_at hl 0 rfl) ?_
                refine lv_dup hx hb dX11_sews_377 rfl ?_
                refine get_X11_54 hx hb hts in_X11_sews_X11 hown hK hz hW lk_X11_sews_19 dX11_sews_378 ?_
                refine lv_iload hx hb dX11_sews_381 (lv_at hl 2 rfl) ?_
                have J_56 : ∀ (v_55 : Int32) (ls : Array Slot), v_55 = (if x7_54 = 0 then 0 else 1) → lv_has ls 9 [(0, .ref (z.2.1 0)), (1, .int v_1)] → W p l e (rm 1 22) s m args below meth c H locs 0 0 Q (F0 m 391 ls [.int v_55, .int (w_36.1 0 54), .ref (z.2.1 0)]) := by
                  intro v_55 ls ev_55 hl
                  have hf := of_lt ev_55 hf
                  refine lv_iadd hx hb dX11_sews_391 ?_
                  refine put_X11_54 hx hb hts in_X11_sews_X11 hown hK hz hW hS lk_X11_sews_19 dX11_sews_392 (fun H locs hW hS => ?_)
                  obtain ⟨w_57, ew_57⟩ : ∃ y : Mem, y = mS w_36 0 54 ((w_36.1 0 54) + v_55) := ⟨_, rfl⟩
                  have hW : hd z w_57 H := by rw [ew_57]; exact hW
                  have hf := of_lt ew_57 hf
                  refine lv_aload_n hx hb dX11_sews_395 rfl (lv_at hl 0 rfl) ?_
                  refine get_X11_20 hx hb hts in_X11_sews_X11 hown hK hz hW lk_X11_sews_17 dX11_sews_396 ?_
                  refine lv_aload_n hx hb dX11_sews_399 rfl (lv_at hl 0 rfl) ?_
                  refine get_X11_46 hx hb hts in_X11_sews_X11 hown hK hz hW lk_X11_sews_8 dX11_sews_400 ?_
                  refine lv_aload_n hx hb dX11_sews_403 rfl (lv_at hl 0 rfl) ?_
                  refine get_X11_47 hx hb hts in_X11_sews_X11 hown hK hz hW lk_X11_sews_14 dX11_sews_404 ?_
                  obtain ⟨g_58, hf⟩ := of_gd hf
                  refine st_M11 hx hb hK hz hW hS g_58 dX11_sews_407 (fun H locs hW hS => ?_)
                  obtain ⟨w_59, ew_59⟩ : ∃ y : Mem, y = mS w_57 11 ((w_57.1 0 46).toNatClampNeg) (w_57.1 0 47) := ⟨_, rfl⟩
                  have hW : hd z w_59 H := by rw [ew_59]; exact hW
                  have hf := of_lt ew_59 hf
                  refine lv_aload_n hx hb dX11_sews_408 rfl (lv_at hl 0 rfl) ?_
                  refine get_X11_21 hx hb hts in_X11_sews_X11 hown hK hz hW lk_X11_sews_18 dX11_sews_409 ?_
                  refine lv_aload_n hx hb dX11_sews_412 rfl (lv_at hl 0 rfl) ?_
                  refine get_X11_46 hx hb hts in_X11_sews_X11 hown hK hz hW lk_X11_sews_8 dX11_sews_413 ?_
                  refine lv_aload_n hx hb dX11_sews_416 rfl (lv_at hl 0 rfl) ?_
                  refine get_X11_48 hx hb hts in_X11_sews_X11 hown hK hz hW lk_X11_sews_16 dX11_sews_417 ?_
                  obtain ⟨g_60, hf⟩ := of_gd hf
                  refine st_M12 hx hb hK hz hW hS g_60 dX11_sews_420 (fun H locs hW hS => ?_)
                  obtain ⟨w_61, ew_61⟩ : ∃ y : Mem, y = mS w_59 12 ((w_59.1 0 46).toNatClampNeg) (w_59.1 0 48) := ⟨_, rfl⟩
                  have hW : hd z w_61 H := by rw [ew_61]; exact hW
                  have hf := of_lt ew_61 hf
                  refine lv_aload_n hx hb dX11_sews_421 rfl (lv_at hl 0 rfl) ?_
                  refine lv_dup hx hb dX11_sews_422 rfl ?_
                  refine get_X11_46 hx hb hts in_X11_sews_X11 hown hK hz hW lk_X11_sews_8 dX11_sews_423 ?_
                  refine lv_iconst (v := 1) hx hb dX11_sews_426 (by decide) ?_
                  refine lv_iadd hx hb dX11_sews_427 ?_
                  refine put_X11_46 hx hb hts in_X11_sews_X11 hown hK hz hW hS lk_X11_sews_8 dX11_sews_428 (fun H locs hW hS => ?_)
                  obtain ⟨w_62, ew_62⟩ : ∃ y : Mem, y = mS w_61 0 46 ((w_61.1 0 46) + 1) := ⟨_, rfl⟩
                  have hW : hd z w_62 H := by rw [ew_62]; exact hW
                  have hf := of_lt ew_62 hf
                  refine lv_aload_n hx hb dX11_sews_431 rfl (lv_at hl 0 rfl) ?_
                  refine lv_aload_n hx hb dX11_sews_432 rfl (lv_at hl 0 rfl) ?_
                  refine get_X11_6 hx hb hts in_X11_sews_X11 hown hK hz hW lk_X11_sews_1 dX11_sews_433 ?_
                  refine lv_iload_n hx hb dX11_sews_436 rfl (lv_at hl 1 rfl) ?_
                  refine ld_M4 hx hb hK hz hW g_2 dX11_sews_437 ?_
                  refine lv_topi (fun v_63 ev_63 => ?_)
                  have hf := of_lt ev_63 hf
                  refine put_X11_51 hx hb hts in_X11_sews_X11 hown hK hz hW hS lk_X11_sews_2 dX11_sews_438 (fun H locs hW hS => ?_)
                  obtain ⟨w_64, ew_64⟩ : ∃ y : Mem, y = mS w_62 0 51 v_63 := ⟨_, rfl⟩
                  have hW : hd z w_64 H := by rw [ew_64]; exact hW
                  have hf := of_lt ew_64 hf
                  refine lv_aload_n hx hb dX11_sews_441 rfl (lv_at hl 0 rfl) ?_
                  refine lv_aload_n hx hb dX11_sews_442 rfl (lv_at hl 0 rfl) ?_
                  refine get_X11_52 hx hb hts in_X11_sews_X11 hown hK hz hW lk_X11_sews_0 dX11_sews_443 ?_
                  refine lv_iconst (v := 1) hx hb dX11_sews_446 (by decide) ?_
                  refine lv_iadd hx hb dX11_sews_447 ?_
                  refine lv_aload_n hx hb dX11_sews_448 rfl (lv_at hl 0 rfl) ?_
                  refine get_X11_5 hx hb hts in_X11_sews_X11 hown hK hz hW lk_X11_sews_20 dX11_sews_449 ?_
                  refine lv_bipush (v := 14) hx hb dX11_sews_452 (by decide) ?_
                  obtain ⟨g_65, hf⟩ := of_gd hf
                  refine ld_M3 hx hb hK hz hW g_65 dX11_sews_454 ?_
                  refine lv_topi (fun v_66 ev_66 => ?_)
                  have hf := of_lt ev_66 hf
                  obtain ⟨g_67, hf⟩ := of_gd hf
                  refine lv_irem hx hb dX11_sews_455 g_67 ?_
                  refine lv_topi (fun v_68 ev_68 => ?_)
                  have hf := of_lt (e := irm ((w_64.1 0 52) + 1) v_66) ev_68 hf
                  refine put_X11_52 hx hb hts in_X11_sews_X11 hown hK hz hW hS lk_X11_sews_0 dX11_sews_456 (fun H locs hW hS => ?_)
                  obtain ⟨w_69, ew_69⟩ : ∃ y : Mem, y = mS w_64 0 52 v_68 := ⟨_, rfl⟩
                  have hW : hd z w_69 H := by rw [ew_69]; exact hW
                  have hf := of_lt ew_69 hf
                  refine lv_iconst (v := 1) hx hb dX11_sews_459 (by decide) ?_
                  exact hret _ _ _ _ _ _ hf rfl hW hS dX11_sews_460
                refine lv_if_eq (tgt := 390) hx hb dX11_sews_383 (by decide) (fun c_70 => ?_) (fun c_70 => ?_)
                · refine lv_iconst (v := 0) hx hb dX11_sews_390 (by decide) ?_
                  exact J_56 _ _ (by rw [if_pos c_70]) (lv_sub hl [0, 1] rfl)
                · refine lv_iconst (v := 1) hx hb dX11_sews_386 (by decide) ?_
                  refine lv_goto (tgt := 391) hx hb dX11_sews_387 (by decide) ?_
                  exact J_56 _ _ (by rw [if_neg c_70]) (lv_sub hl [0, 1] rfl)
              refine lv_if_ne (tgt := 315) hx hb dX11_sews_301 (by decide) (fun c_71 => ?_) (fun c_71 => ?_)
              · refine lv_iconst (v := 0) hx hb dX11_sews_315 (by decide) ?_
                exact J_38 _ _ (by rw [if_neg c_71]) (lv_sub hl [0, 1] rfl)
              · refine lv_aload_n hx hb dX11_sews_304 rfl (lv_at hl 0 rfl) ?_
                refine get_X11_48 hx hb hts in_X11_sews_X11 hown hK hz hW lk_X11_sews_16 dX11_sews_305 ?_
                refine lv_if_ne (tgt := 315) hx hb dX11_sews_308 (by decide) (fun c_72 => ?_) (fun c_72 => ?_)
                · refine lv_iconst (v := 0) hx hb dX11_sews_315 (by decide) ?_
                  exact J_38 _ _ (by rw [if_pos c_71, if_neg c_72]) (lv_sub hl [0, 1] rfl)
                · refine lv_iconst (v := 1) hx hb dX11_sews_311 (by decide) ?_
                  refine lv_goto (tgt := 316) hx hb dX11_sews_312 (by decide) ?_
                  exact J_38 _ _ (by rw [if_pos c_71, if_pos c_72]) (lv_sub hl [0, 1] rfl)
            refine lv_if_ne (tgt := 266) hx hb dX11_sews_259 (by decide) (fun c_73 => ?_) (fun c_73 => ?_)
            · refine lv_aload_n hx hb dX11_sews_266 rfl (lv_at hl 0 rfl) ?_
              refine get_X11_49 hx hb hts in_X11_sews_X11 hown hK hz hW lk_X11_sews_15 dX11_sews_267 ?_
              refine lv_iconst (v := 1) hx hb dX11_sews_270 (by decide) ?_
              refine lv_icmp_ne (tgt := 278) hx hb dX11_sews_271 (by decide) (fun c_74 => ?_) (fun c_74 => ?_)
              · refine lv_aload_n hx hb dX11_sews_278 rfl (lv_at hl 0 rfl) ?_
                refine get_X11_49 hx hb hts in_X11_sews_X11 hown hK hz hW lk_X11_sews_15 dX11_sews_279 ?_
                refine lv_iconst (v := 2) hx hb dX11_sews_282 (by decide) ?_
                refine lv_icmp_ne (tgt := 291) hx hb dX11_sews_283 (by decide) (fun c_75 => ?_) (fun c_75 => ?_)
                · refine lv_iload_n hx hb dX11_sews_291 rfl (lv_at hl 2 rfl) ?_
                  refine lv_ineg hx hb dX11_sews_292 ?_
                  exact J_35 _ _ (by rw [if_neg c_73, if_neg c_74, if_neg c_75]) (lv_sub hl [0, 1] rfl)
                · refine lv_iload_n hx hb dX11_sews_286 rfl (lv_at hl 3 rfl) ?_
                  refine lv_ineg hx hb dX11_sews_287 ?_
                  refine lv_goto (tgt := 293) hx hb dX11_sews_288 (by decide) ?_
                  exact J_35 _ _ (by rw [if_neg c_73, if_neg c_74, if_pos c_75]) (lv_sub hl [0, 1] rfl)
              · refine lv_iload_n hx hb dX11_sews_274 rfl (lv_at hl 2 rfl) ?_
                refine lv_goto (tgt := 293) hx hb dX11_sews_275 (by decide) ?_
                exact J_35 _ _ (by rw [if_neg c_73, if_pos c_74]) (lv_sub hl [0, 1] rfl)
            · refine lv_iload_n hx hb dX11_sews_262 rfl (lv_at hl 3 rfl) ?_
              refine lv_goto (tgt := 293) hx hb dX11_sews_263 (by decide) ?_
              exact J_35 _ _ (by rw [if_pos c_73]) (lv_sub hl [0, 1] rfl)
          refine lv_if_ne (tgt := 219) hx hb dX11_sews_212 (by decide) (fun c_76 => ?_) (fun c_76 => ?_)
          · refine lv_aload_n hx hb dX11_sews_219 rfl (lv_at hl 0 rfl) ?_
            refine get_X11_49 hx hb hts in_X11_sews_X11 hown hK hz hW lk_X11_sews_15 dX11_sews_220 ?_
            refine lv_iconst (v := 1) hx hb dX11_sews_223 (by decide) ?_
            refine lv_icmp_ne (tgt := 232) hx hb dX11_sews_224 (by decide) (fun c_77 => ?_) (fun c_77 => ?_)
            · refine lv_aload_n hx hb dX11_sews_232 rfl (lv_at hl 0 rfl) ?_
              refine get_X11_49 hx hb hts in_X11_sews_X11 hown hK hz hW lk_X11_sews_15 dX11_sews_233 ?_
              refine lv_iconst (v := 2) hx hb dX11_sews_236 (by decide) ?_
              refine lv_icmp_ne (tgt := 245) hx hb dX11_sews_237 (by decide) (fun c_78 => ?_) (fun c_78 => ?_)
              · refine lv_iload_n hx hb dX11_sews_245 rfl (lv_at hl 3 rfl) ?_
                exact J_32 _ _ (by rw [if_neg c_76, if_neg c_77, if_neg c_78]) (lv_sub hl [0, 1, 2, 3] rfl)
              · refine lv_iload_n hx hb dX11_sews_240 rfl (lv_at hl 2 rfl) ?_
                refine lv_ineg hx hb dX11_sews_241 ?_
                refine lv_goto (tgt := 246) hx hb dX11_sews_242 (by decide) ?_
                exact J_32 _ _ (by rw [if_neg c_76, if_neg c_77, if_pos c_78]) (lv_sub hl [0, 1, 2, 3] rfl)
            · refine lv_iload_n hx hb dX11_sews_227 rfl (lv_at hl 3 rfl) ?_
              refine lv_ineg hx hb dX11_sews_228 ?_
              refine lv_goto (tgt := 246) hx hb dX11_sews_229 (by decide) ?_
              exact J_32 _ _ (by rw [if_neg c_76, if_pos c_77]) (lv_sub hl [0, 1, 2, 3] rfl)
          · refine lv_iload_n hx hb dX11_sews_215 rfl (lv_at hl 2 rfl) ?_
            refine lv_goto (tgt := 246) hx hb dX11_sews_216 (by decide) ?_
            exact J_32 _ _ (by rw [if_pos c_76]) (lv_sub hl [0, 1, 2, 3] rfl)
        · have hf := of_f c_26 hf
          refine lv_iconst (v := 0) hx hb dX11_sews_157 (by decide) ?_
          exact hret _ _ _ _ _ _ hf rfl hW hS dX11_sews_158
      refine lv_icmp_ne (tgt := 120) hx hb dX11_sews_113 (by decide) (fun c_79 => ?_) (fun c_79 => ?_)
      · refine lv_iload hx hb dX11_sews_120 (lv_at hl 1 rfl) ?_
        refine lv_aload_n hx hb dX11_sews_122 rfl (lv_at hl 4 rfl) ?_
        refine get_X11_13 hx hb hts in_X11_sews_X11 hown hK hz hW lk_X11_sews_9 dX11_sews_123 ?_
        refine lv_icmp_le (tgt := 133) hx hb dX11_sews_126 (by decide) (fun c_80 => ?_) (fun c_80 => ?_)
        · refine lv_iload hx hb dX11_sews_133 (lv_at hl 0 rfl) ?_
          refine lv_aload_n hx hb dX11_sews_135 rfl (lv_at hl 4 rfl) ?_
          refine get_X11_14 hx hb hts in_X11_sews_X11 hown hK hz hW lk_X11_sews_10 dX11_sews_136 ?_
          refine lv_icmp_le (tgt := 146) hx hb dX11_sews_139 (by decide) (fun c_81 => ?_) (fun c_81 => ?_)
          · refine lv_iconst (v := 0) hx hb dX11_sews_146 (by decide) ?_
            exact J_24 _ _ (by rw [if_neg c_79, if_pos c_80, if_pos c_81]) (lv_sub hl [4, 5, 6, 3, 1, 0] rfl)
          · refine lv_iconst (v := 2) hx hb dX11_sews_142 (by decide) ?_
            refine lv_goto (tgt := 147) hx hb dX11_sews_143 (by decide) ?_
            exact J_24 _ _ (by rw [if_neg c_79, if_pos c_80, if_neg c_81]) (lv_sub hl [4, 5, 6, 3, 1, 0] rfl)
        · refine lv_iconst (v := 1) hx hb dX11_sews_129 (by decide) ?_
          refine lv_goto (tgt := 147) hx hb dX11_sews_130 (by decide) ?_
          exact J_24 _ _ (by rw [if_neg c_79, if_neg c_80]) (lv_sub hl [4, 5, 6, 3, 1, 0] rfl)
      · refine lv_iconst (v := 3) hx hb dX11_sews_116 (by decide) ?_
        refine lv_goto (tgt := 147) hx hb dX11_sews_117 (by decide) ?_
        exact J_24 _ _ (by rw [if_pos c_79]) (lv_sub hl [4, 5, 6, 3, 1, 0] rfl)
    refine lv_if_eq (tgt := 38) hx hb dX11_sews_25 (by decide) (fun c_82 => ?_) (fun c_82 => ?_)
    · refine lv_aload_n hx hb dX11_sews_38 rfl (lv_at hl 2 rfl) ?_
      refine get_X11_7 hx hb hts in_X11_sews_X11 hown hK hz hW lk_X11_sews_4 dX11_sews_39 ?_
      refine lv_iload_n hx hb dX11_sews_42 rfl (lv_at hl 1 rfl) ?_
      refine ld_M5 hx hb hK hz hW g_2 dX11_sews_43 ?_
      exact J_5 _ _ (by rw [if_pos c_82]) (lv_sub hl [2, 1, 0] rfl)
    · refine lv_aload_n hx hb dX11_sews_28 rfl (lv_at hl 2 rfl) ?_
      refine get_X11_7 hx hb hts in_X11_sews_X11 hown hK hz hW lk_X11_sews_4 dX11_sews_29 ?_
      refine lv_iload_n hx hb dX11_sews_32 rfl (lv_at hl 1 rfl) ?_
      refine ld_M5 hx hb hK hz hW g_2 dX11_sews_33 ?_
      refine lv_ineg hx hb dX11_sews_34 ?_
      refine lv_goto (tgt := 44) hx hb dX11_sews_35 (by decide) ?_
      exact J_5 _ _ (by rw [if_neg c_82]) (lv_sub hl [2, 1, 0] rfl)
  exact START _ _ hW va_S.rf
theorem in_X11_ends_X11 : ∀ w ∈ wsX110, w ∈ wsX11_ends := by decide +kernel
theorem lk_X11_ends_0 : Cond.fieldLink RX11 261 "CamStitchModel" "isBack" "Z" ∈ wsX11_ends := by decide +kernel
theorem lk_X11_ends_1 : Cond.fieldLink RX11 279 "CamStitchModel" "quarter" "I" ∈ wsX11_ends := by decide +kernel
theorem lk_X11_ends_2 : Cond.fieldLink RX11 16 "CamStitchModel" "many" "[I" ∈ wsX11_ends := by decide +kernel
theorem lk_X11_ends_3 : Cond.fieldLink RX11 267 "CamStitchModel" "why" "I" ∈ wsX11_ends := by decide +kernel
theorem lk_X11_ends_4 : Cond.fieldLink RX11 255 "CamStitchModel" "next" "I" ∈ wsX11_ends := by decide +kernel
set_option maxHeartbeats 4000000 in
set_option maxRecDepth 100000 in
theorem c_X11_ends (l : Launch) {z : LZ} (hz : IM z) (x1 : Int32) (x2 : Int32) (w : Mem) {r : Int32} {w' : Mem} (hf : f_X11_ends x1 x2 w = some (r, w')) : Met l yX11_ends wsX11_ends (rm 2 50) (PZ z w [.ref (z.2.1 0), .int x1, .int x2]) (QW z (some (.int r)) w') 0 0 (az z) := by
  refine mk_Wz (cc := cX11_ends) (maxL := 4) (by decide +kernel) rfl (Nat.le_of_ble_eq_true rfl) ?_
  intro p e s m args below meth c hx hb hml hts hown hK hW Q hret ls hl
  have hl : lv_has ls 4 [(0, .ref (z.2.1 0)), (1, .int x1), (2, .int x2)] := hl
  unfold f_X11_ends at hf
  have START : ∀ (H : Heap) (locs : List Loc), hd z w H → va_S (az z) s.heap H locs → W p l e (rm 2 50) s m args below meth c H locs 0 0 Q (F0 m 0 ls []) := by
    intro H locs hW hS
    refine lv_iload_n hx hb dX11_ends_0 rfl (lv_at hl 1 rfl) ?_
    refine lv_if_ne (tgt := 35) hx hb dX11_ends_1 (by decide) (fun c_1 => ?_) (fun c_1 => ?_)
    · have hf := of_f c_1 hf
      refine lv_iload_n hx hb dX11_ends_35 rfl (lv_at hl 1 rfl) ?_
      refine lv_iconst (v := 1) hx hb dX11_ends_36 (by decide) ?_
      refine lv_icmp_ne (tgt := 82) hx hb dX11_ends_37 (by decide) (fun c_2 => ?_) (fun c_2 => ?_)
      · have hf := of_f c_2 hf
        refine lv_iload_n hx hb dX11_ends_82 rfl (lv_at hl 1 rfl) ?_
        refine lv_iconst (v := 2) hx hb dX11_ends_83 (by decide) ?_
        refine lv_icmp_ne (tgt := 102) hx hb dX11_ends_84 (by decide) (fun c_3 => ?_) (fun c_3 => ?_)
        · have hf := of_f c_3 hf
          refine lv_aload_n hx hb dX11_ends_102 rfl (lv_at hl 0 rfl) ?_
          refine lv_aload_n hx hb dX11_ends_103 rfl (lv_at hl 0 rfl) ?_
          refine get_X11_50 hx hb hts in_X11_ends_X11 hown hK hz hW lk_X11_ends_0 dX11_ends_104 ?_
          have J_5 : ∀ (v_4 : Int32) (ls : Array Slot), v_4 = (if (w.1 0 50) = 0 then 1 else 0) → lv_has ls 4 [] → W p l e (rm 2 50) s m args below meth c H locs 0 0 Q (F0 m 115 ls [.int v_4, .ref (z.2.1 0)]) := by
            intro v_4 ls ev_4 hl
            have hf := of_lt ev_4 hf
            obtain ⟨g_6, hf⟩ := of_gd hf
            refine put_X11_50 hx hb hts in_X11_ends_X11 hown hK hz hW hS (bz_s g_6) lk_X11_ends_0 dX11_ends_115 (fun H locs hW hS => ?_)
            obtain ⟨w_7, ew_7⟩ : ∃ y : Mem, y = mS w 0 50 v_4 := ⟨_, rfl⟩
            have hW : hd z w_7 H := by rw [ew_7]; exact hW
            have hf := of_lt ew_7 hf
            refine lv_iconst (v := 1) hx hb dX11_ends_118 (by decide) ?_
            exact hret _ _ _ _ _ _ hf rfl hW hS dX11_ends_119
          refine lv_if_ne (tgt := 114) hx hb dX11_ends_107 (by decide) (fun c_8 => ?_) (fun c_8 => ?_)
          · refine lv_iconst (v := 0) hx hb dX11_ends_114 (by decide) ?_
            exact J_5 _ _ (by rw [if_neg c_8]) (lv_sub hl [] rfl)
          · refine lv_iconst (v := 1) hx hb dX11_ends_110 (by decide) ?_
            refine lv_goto (tgt := 115) hx hb dX11_ends_111 (by decide) ?_
            exact J_5 _ _ (by rw [if_pos c_8]) (lv_sub hl [] rfl)
        · have hf := of_t c_3 hf
          refine lv_aload_n hx hb dX11_ends_87 rfl (lv_at hl 0 rfl) ?_
          refine lv_aload_n hx hb dX11_ends_88 rfl (lv_at hl 0 rfl) ?_
          refine get_X11_49 hx hb hts in_X11_ends_X11 hown hK hz hW lk_X11_ends_1 dX11_ends_89 ?_
          refine lv_iload_n hx hb dX11_ends_92 rfl (lv_at hl 2 rfl) ?_
          refine lv_iadd hx hb dX11_ends_93 ?_
          refine lv_iconst (v := 4) hx hb dX11_ends_94 (by decide) ?_
          refine lv_irem hx hb dX11_ends_95 (by decide) ?_
          refine lv_topi (fun v_9 ev_9 => ?_)
          have hf := of_lt (e := irm ((w.1 0 49) + x2) 4) ev_9 hf
          refine put_X11_49 hx hb hts in_X11_ends_X11 hown hK hz hW hS lk_X11_ends_1 dX11_ends_96 (fun H locs hW hS => ?_)
          obtain ⟨w_10, ew_10⟩ : ∃ y : Mem, y = mS w 0 49 v_9 := ⟨_, rfl⟩
          have hW : hd z w_10 H := by rw [ew_10]; exact hW
          have hf := of_lt ew_10 hf
          refine lv_goto (tgt := 118) hx hb dX11_ends_99 (by decide) ?_
          refine lv_iconst (v := 1) hx hb dX11_ends_118 (by decide) ?_
          exact hret _ _ _ _ _ _ hf rfl hW hS dX11_ends_119
      · have hf := of_t c_2 hf
        refine lv_aload_n hx hb dX11_ends_40 rfl (lv_at hl 0 rfl) ?_
        refine get_X11_5 hx hb hts in_X11_ends_X11 hown hK hz hW lk_X11_ends_2 dX11_ends_41 ?_
        refine lv_bipush (v := 14) hx hb dX11_ends_44 (by decide) ?_
        obtain ⟨g_11, hf⟩ := of_gd hf
        refine ld_M3 hx hb hK hz hW g_11 dX11_ends_46 ?_
        refine lv_topi (fun v_12 ev_12 => ?_)
        have hf := of_lt ev_12 hf
        refine lv_if_ne (tgt := 57) hx hb dX11_ends_47 (by decide) (fun c_13 => ?_) (fun c_13 => ?_)
        · have hf := of_f c_13 hf
          refine lv_iconst (v := 0) hx hb dX11_ends_57 (by decide) ?_
          refine lv_istore_n (lv' := [(3, .int 0), (0, .ref (z.2.1 0)), (1, .int x1), (2, .int x2)]) hx hb dX11_ends_58 rfl hl (by decide) rfl (fun ls hl => ?_)
          have L_16 : ∀ (n : Nat) (x3_14 : Int32) (w_15 : Mem) (exL_16 : Sum (Int32 × Mem) (Mem)) (H : Heap) (locs : List Loc) (ls : Array Slot), f_X11_ends_L59 x2 n x3_14 w_15 = some exL_16 → hd z w_15 H → va_S (az z) s.heap H locs → lv_has ls 4 [(0, .ref (z.2.1 0)), (2, .int x2), (3, .int x3_14)] → (∀ ret, exL_16 = .inl ret → some (ret) = some (r, w')) → (∀ x, exL_16 = .inr x → ∀ (H : Heap) (locs : List Loc) (ls : Array Slot), hd z (x) H → va_S (az z) s.heap H locs → lv_has ls 4 [] → W p l e (rm 2 50) s m args below meth c H locs 0 0 Q (F0 m 79 ls [])) → W p l e (rm 2 50) s m args below meth c H locs 0 0 Q (F0 m 59 ls []) := by
            intro n
            induction n with
            | zero =>
              intro x3_14 w_15 exL_16 H locs ls hf
              have hf : (none : Option (Sum (Int32 × Mem) (Mem))) = some exL_16 := hf
              cases hf
            | succ n ihL_16 =>
              intro x3_14 w_15 exL_16 H locs ls hf hW hS hl hRL_16 hEL_16
              rw [f_X11_ends_L59_s] at hf
              refine lv_iload_n hx hb dX11_ends_59 rfl (lv_at hl 2 rfl) ?_
              refine lv_iload_n hx hb dX11_ends_60 rfl (lv_at hl 1 rfl) ?_
              refine lv_icmp_ge (tgt := 79) hx hb dX11_ends_61 (by decide) (fun c_17 => ?_) (fun c_17 => ?_)
              · have hf := of_t c_17 hf
                exact hEL_16 _ (Option.some.inj hf).symm _ _ _ hW hS (lv_sub hl [] rfl)
              · have hf := of_f c_17 hf
                refine lv_aload_n hx hb dX11_ends_64 rfl (lv_at hl 0 rfl) ?_
                obtain ⟨r_18, w_20, hq_19, hf⟩ := of_b2 hf
                refine m_goWi (va_runV (As := []) (rest := []) ⟨hx, hb, hml, hown, hts⟩ (c_X11_sews l hz w_15 hq_19) (cwV 0 hts gX11_ends_X11_sews rfl rfl rfl (by decide +kernel) ⟨Nat.le_of_ble_eq_true rfl, Nat.le_of_ble_eq_true rfl⟩) (pre_X11 hK hz hW _) rfl rfl hl.1 rfl (lv_room (Nat.le_of_ble_eq_true rfl)) dX11_ends_65 ⟨Nat.le_refl _, Nat.le_refl _⟩) hS (fun H locs hW hS => ?_)
                refine lv_if_ne (tgt := 73) hx hb dX11_ends_68 (by decide) (fun c_21 => ?_) (fun c_21 => ?_)
                · have hf := of_f c_21 hf
                  obtain ⟨x3_22, ex3_22⟩ : ∃ y : Int32, y = x3_14 + 1 := ⟨_, rfl⟩
                  have hf := of_lt ex3_22 hf
                  refine lv_iinc (v := x3_22) (lv' := [(3, .int x3_22), (0, .ref (z.2.1 0)), (2, .int x2)]) hx hb dX11_ends_73 hl (k := 2) rfl (by rw [ex3_22]; rfl) (by decide) rfl (fun ls hl => ?_)
                  refine lv_goto (tgt := 59) hx hb dX11_ends_76 (by decide) ?_
                  exact ihL_16 _ _ _ _ _ _ hf hW hS (lv_sub hl [1, 2, 0] rfl) hRL_16 hEL_16
                · have hf := of_t c_21 hf
                  refine lv_iconst (v := 0) hx hb dX11_ends_71 (by decide) ?_
                  exact hret _ _ _ _ _ _ (hRL_16 _ (Option.some.inj hf).symm) rfl hW hS dX11_ends_72
          obtain ⟨ex_24, hq_23, hf⟩ := of_bd hf
          refine L_16 FU _ _ _ _ _ _ hq_23 hW hS (lv_sub hl [1, 3, 0] rfl) (fun ret he => by subst he; exact hf) (fun x he H locs ls hW hS hl => ?_)
          subst he
          obtain ⟨w_25, ew_25⟩ : ∃ y, y = x := ⟨_, rfl⟩
          subst ew_25
          have hf := of_sr hf
          have hW : hd z w_25 H := hW
          have hl : lv_has ls 4 [] := hl
          refine lv_goto (tgt := 118) hx hb dX11_ends_79 (by decide) ?_
          refine lv_iconst (v := 1) hx hb dX11_ends_118 (by decide) ?_
          exact hret _ _ _ _ _ _ hf rfl hW hS dX11_ends_119
        · have hf := of_t c_13 hf
          refine lv_aload_n hx hb dX11_ends_50 rfl (lv_at hl 0 rfl) ?_
          refine lv_iconst (v := 4) hx hb dX11_ends_51 (by decide) ?_
          refine put_X11_53 hx hb hts in_X11_ends_X11 hown hK hz hW hS lk_X11_ends_3 dX11_ends_52 (fun H locs hW hS => ?_)
          obtain ⟨w_26, ew_26⟩ : ∃ y : Mem, y = mS w 0 53 4 := ⟨_, rfl⟩
          have hW : hd z w_26 H := by rw [ew_26]; exact hW
          have hf := of_lt ew_26 hf
          refine lv_iconst (v := 0) hx hb dX11_ends_55 (by decide) ?_
          exact hret _ _ _ _ _ _ hf rfl hW hS dX11_ends_56
    · have hf := of_t c_1 hf
      refine lv_aload_n hx hb dX11_ends_4 rfl (lv_at hl 0 rfl) ?_
      refine get_X11_5 hx hb hts in_X11_ends_X11 hown hK hz hW lk_X11_ends_2 dX11_ends_5 ?_
      refine lv_iload_n hx hb dX11_ends_8 rfl (lv_at hl 2 rfl) ?_
      obtain ⟨g_27, hf⟩ := of_gd hf
      refine ld_M3 hx hb hK hz hW g_27 dX11_ends_9 ?_
      refine lv_if_ne (tgt := 20) hx hb dX11_ends_10 (by decide) (fun c_28 => ?_) (fun c_28 => ?_)
      · have hf := of_f c_28 hf
        refine lv_aload_n hx hb dX11_ends_20 rfl (lv_at hl 0 rfl) ?_
        refine lv_iload_n hx hb dX11_ends_21 rfl (lv_at hl 2 rfl) ?_
        refine lv_bipush (v := 14) hx hb dX11_ends_22 (by decide) ?_
        obtain ⟨w_31, hq_30, hf⟩ := of_bd hf
        refine m_goWv (va_runV (As := [.int x2, .int 14]) (rest := []) ⟨hx, hb, hml, hown, hts⟩ (c_X11_copies l hz x2 14 w hq_30) (cwV 2 hts gX11_ends_X11_copies rfl rfl rfl (by decide +kernel) ⟨Nat.le_of_ble_eq_true rfl, Nat.le_of_ble_eq_true rfl⟩) (pre_X11 hK hz hW _) rfl rfl hl.1 rfl (lv_room (Nat.le_of_ble_eq_true rfl)) dX11_ends_24 ⟨Nat.le_refl _, Nat.le_refl _⟩) hS (fun H locs hW hS => ?_)
        refine lv_aload_n hx hb dX11_ends_27 rfl (lv_at hl 0 rfl) ?_
        refine lv_iconst (v := 0) hx hb dX11_ends_28 (by decide) ?_
        refine put_X11_52 hx hb hts in_X11_ends_X11 hown hK hz hW hS lk_X11_ends_4 dX11_ends_29 (fun H locs hW hS => ?_)
        obtain ⟨w_32, ew_32⟩ : ∃ y : Mem, y = mS w_31 0 52 0 := ⟨_, rfl⟩
        have hW : hd z w_32 H := by rw [ew_32]; exact hW
        have hf := of_lt ew_32 hf
        refine lv_goto (tgt := 118) hx hb dX11_ends_32 (by decide) ?_
        refine lv_iconst (v := 1) hx hb dX11_ends_118 (by decide) ?_
        exact hret _ _ _ _ _ _ hf rfl hW hS dX11_ends_119
      · have hf := of_t c_28 hf
        refine lv_aload_n hx hb dX11_ends_13 rfl (lv_at hl 0 rfl) ?_
        refine lv_iconst (v := 4) hx hb dX11_ends_14 (by decide) ?_
        refine put_X11_53 hx hb hts in_X11_ends_X11 hown hK hz hW hS lk_X11_ends_3 dX11_ends_15 (fun H locs hW hS => ?_)
        obtain ⟨w_33, ew_33⟩ : ∃ y : Mem, y = mS w 0 53 4 := ⟨_, rfl⟩
        have hW : hd z w_33 H := by rw [ew_33]; exact hW
        have hf := of_lt ew_33 hf
        refine lv_iconst (v := 0) hx hb dX11_ends_18 (by decide) ?_
        exact hret _ _ _ _ _ _ hf rfl hW hS dX11_ends_19
  exact START _ _ hW va_S.rf
theorem in_X11_sew_X11 : ∀ w ∈ wsX110, w ∈ wsX11_sew := by decide +kernel
theorem lk_X11_sew_0 : Cond.fieldLink RX11 264 "CamStitchModel" "sewn" "I" ∈ wsX11_sew := by decide +kernel
theorem lk_X11_sew_1 : Cond.fieldLink RX11 276 "CamStitchModel" "x" "I" ∈ wsX11_sew := by decide +kernel
theorem lk_X11_sew_2 : Cond.fieldLink RX11 282 "CamStitchModel" "y" "I" ∈ wsX11_sew := by decide +kernel
theorem lk_X11_sew_3 : Cond.fieldLink RX11 279 "CamStitchModel" "quarter" "I" ∈ wsX11_sew := by decide +kernel
theorem lk_X11_sew_4 : Cond.fieldLink RX11 261 "CamStitchModel" "isBack" "Z" ∈ wsX11_sew := by decide +kernel
theorem lk_X11_sew_5 : Cond.fieldLink RX11 16 "CamStitchModel" "many" "[I" ∈ wsX11_sew := by decide +kernel
theorem lk_X11_sew_6 : Cond.fieldLink RX11 19 "CamStitchModel" "swing" "[I" ∈ wsX11_sew := by decide +kernel
theorem lk_X11_sew_7 : Cond.fieldLink RX11 258 "CamStitchModel" "needle" "I" ∈ wsX11_sew := by decide +kernel
theorem lk_X11_sew_8 : Cond.fieldLink RX11 255 "CamStitchModel" "next" "I" ∈ wsX11_sew := by decide +kernel
theorem lk_X11_sew_9 : Cond.fieldLink RX11 267 "CamStitchModel" "why" "I" ∈ wsX11_sew := by decide +kernel
theorem lk_X11_sew_10 : Cond.fieldLink RX11 285 "CamStitchModel" "met" "I" ∈ wsX11_sew := by decide +kernel
theorem lk_X11_sew_11 : Cond.fieldLink RX11 270 "CamStitchModel" "upperUsed" "I" ∈ wsX11_sew := by decide +kernel
theorem lk_X11_sew_12 : Cond.fieldLink RX11 273 "CamStitchModel" "lowerUsed" "I" ∈ wsX11_sew := by decide +kernel
theorem lk_X11_sew_13 : Cond.fieldLink RX11 115 "CamStitchModel" "steps" "I" ∈ wsX11_sew := by decide +kernel
theorem lk_X11_sew_14 : Cond.fieldLink RX11 45 "CamStitchModel" "stepKind" "[I" ∈ wsX11_sew := by decide +kernel
theorem lk_X11_sew_15 : Cond.fieldLink RX11 48 "CamStitchModel" "stepN" "[I" ∈ wsX11_sew := by decide +kernel
theorem lk_X11_sew_16 : Cond.fieldLink RX11 118 "CamStitchModel" "isSewn" "Z" ∈ wsX11_sew := by decide +kernel
theorem lk_X11_sew_17 : Cond.fieldLink RX11 51 "CamStitchModel" "seam" "[I" ∈ wsX11_sew := by decide +kernel
set_option maxHeartbeats 4000000 in
set_option maxRecDepth 100000 in
theorem c_X11_sew (l : Launch) {z : LZ} (hz : IM z)  (w : Mem) {r : Int32} {w' : Mem} (hf : f_X11_sew w = some (r, w')) : Met l yX11_sew wsX11_sew (rm 3 73) (PZ z w [.ref (z.2.1 0)]) (QW z (some (.int r)) w') 0 0 (az z) := by
  refine mk_Wi (cc := cX11_sew) (maxL := 2) (by decide +kernel) rfl (Nat.le_of_ble_eq_true rfl) ?_
  intro p e s m args below meth c hx hb hml hts hown hK hW Q hret ls hl
  have hl : lv_has ls 2 [(0, .ref (z.2.1 0))] := hl
  unfold f_X11_sew at hf
  have START : ∀ (H : Heap) (locs : List Loc), hd z w H → va_S (az z) s.heap H locs → W p l e (rm 3 73) s m args below meth c H locs 0 0 Q (F0 m 0 ls []) := by
    intro H locs hW hS
    refine lv_aload_n hx hb dX11_sew_0 rfl (lv_at hl 0 rfl) ?_
    refine lv_iconst (v := 0) hx hb dX11_sew_1 (by decide) ?_
    refine put_X11_46 hx hb hts in_X11_sew_X11 hown hK hz hW hS lk_X11_sew_0 dX11_sew_2 (fun H locs hW hS => ?_)
    obtain ⟨w_1, ew_1⟩ : ∃ y : Mem, y = mS w 0 46 0 := ⟨_, rfl⟩
    have hW : hd z w_1 H := by rw [ew_1]; exact hW
    have hf := of_lt ew_1 hf
    refine lv_aload_n hx hb dX11_sew_5 rfl (lv_at hl 0 rfl) ?_
    refine lv_iconst (v := 0) hx hb dX11_sew_6 (by decide) ?_
    refine put_X11_47 hx hb hts in_X11_sew_X11 hown hK hz hW hS lk_X11_sew_1 dX11_sew_7 (fun H locs hW hS => ?_)
    obtain ⟨w_2, ew_2⟩ : ∃ y : Mem, y = mS w_1 0 47 0 := ⟨_, rfl⟩
    have hW : hd z w_2 H := by rw [ew_2]; exact hW
    have hf := of_lt ew_2 hf
    refine lv_aload_n hx hb dX11_sew_10 rfl (lv_at hl 0 rfl) ?_
    refine lv_iconst (v := 0) hx hb dX11_sew_11 (by decide) ?_
    refine put_X11_48 hx hb hts in_X11_sew_X11 hown hK hz hW hS lk_X11_sew_2 dX11_sew_12 (fun H locs hW hS => ?_)
    obtain ⟨w_3, ew_3⟩ : ∃ y : Mem, y = mS w_2 0 48 0 := ⟨_, rfl⟩
    have hW : hd z w_3 H := by rw [ew_3]; exact hW
    have hf := of_lt ew_3 hf
    refine lv_aload_n hx hb dX11_sew_15 rfl (lv_at hl 0 rfl) ?_
    refine lv_iconst (v := 0) hx hb dX11_sew_16 (by decide) ?_
    refine put_X11_49 hx hb hts in_X11_sew_X11 hown hK hz hW hS lk_X11_sew_3 dX11_sew_17 (fun H locs hW hS => ?_)
    obtain ⟨w_4, ew_4⟩ : ∃ y : Mem, y = mS w_3 0 49 0 := ⟨_, rfl⟩
    have hW : hd z w_4 H := by rw [ew_4]; exact hW
    have hf := of_lt ew_4 hf
    refine lv_aload_n hx hb dX11_sew_20 rfl (lv_at hl 0 rfl) ?_
    refine lv_iconst (v := 0) hx hb dX11_sew_21 (by decide) ?_
    refine put_X11_50 hx hb hts in_X11_sew_X11 hown hK hz hW hS (Or.inl rfl) lk_X11_sew_4 dX11_sew_22 (fun H locs hW hS => ?_)
    obtain ⟨w_5, ew_5⟩ : ∃ y : Mem, y = mS w_4 0 50 0 := ⟨_, rfl⟩
    have hW : hd z w_5 H := by rw [ew_5]; exact hW
    have hf := of_lt ew_5 hf
    refine lv_aload_n hx hb dX11_sew_25 rfl (lv_at hl 0 rfl) ?_
    refine lv_aload_n hx hb dX11_sew_26 rfl (lv_at hl 0 rfl) ?_
    refine get_X11_5 hx hb hts in_X11_sew_X11 hown hK hz hW lk_X11_sew_5 dX11_sew_27 ?_
    refine lv_bipush (v := 14) hx hb dX11_sew_30 (by decide) ?_
    obtain ⟨g_6, hf⟩ := of_gd hf
    refine ld_M3 hx hb hK hz hW g_6 dX11_sew_32 ?_
    refine lv_topi (fun v_7 ev_7 => ?_)
    have hf := of_lt ev_7 hf
    obtain ⟨k_8, ek_8, hf⟩ := of_lz hf
    have Jk_8 : ∀ (t_9 : Int32) (ls : Array Slot), k_8 t_9 = some (r, w') → lv_has ls 2 [(0, .ref (z.2.1 0))] → W p l e (rm 3 73) s m args below meth c H locs 0 0 Q (F0 m 58 ls [.int t_9, .ref (z.2.1 0)]) := by
      intro t_9 ls hf hl
      have hf := of_j1 ek_8 hf
      refine put_X11_51 hx hb hts in_X11_sew_X11 hown hK hz hW hS lk_X11_sew_7 dX11_sew_58 (fun H locs hW hS => ?_)
      obtain ⟨w_10, ew_10⟩ : ∃ y : Mem, y = mS w_5 0 51 t_9 := ⟨_, rfl⟩
      have hW : hd z w_10 H := by rw [ew_10]; exact hW
      have hf := of_lt ew_10 hf
      refine lv_aload_n hx hb dX11_sew_61 rfl (lv_at hl 0 rfl) ?_
      refine lv_iconst (v := 0) hx hb dX11_sew_62 (by decide) ?_
      refine put_X11_52 hx hb hts in_X11_sew_X11 hown hK hz hW hS lk_X11_sew_8 dX11_sew_63 (fun H locs hW hS => ?_)
      obtain ⟨w_11, ew_11⟩ : ∃ y : Mem, y = mS w_10 0 52 0 := ⟨_, rfl⟩
      have hW : hd z w_11 H := by rw [ew_11]; exact hW
      have hf := of_lt ew_11 hf
      refine lv_aload_n hx hb dX11_sew_66 rfl (lv_at hl 0 rfl) ?_
      refine lv_iconst (v := 0) hx hb dX11_sew_67 (by decide) ?_
      refine put_X11_53 hx hb hts in_X11_sew_X11 hown hK hz hW hS lk_X11_sew_9 dX11_sew_68 (fun H locs hW hS => ?_)
      obtain ⟨w_12, ew_12⟩ : ∃ y : Mem, y = mS w_11 0 53 0 := ⟨_, rfl⟩
      have hW : hd z w_12 H := by rw [ew_12]; exact hW
      have hf := of_lt ew_12 hf
      refine lv_aload_n hx hb dX11_sew_71 rfl (lv_at hl 0 rfl) ?_
      refine lv_iconst (v := 0) hx hb dX11_sew_72 (by decide) ?_
      refine put_X11_54 hx hb hts in_X11_sew_X11 hown hK hz hW hS lk_X11_sew_10 dX11_sew_73 (fun H locs hW hS => ?_)
      obtain ⟨w_13, ew_13⟩ : ∃ y : Mem, y = mS w_12 0 54 0 := ⟨_, rfl⟩
      have hW : hd z w_13 H := by rw [ew_13]; exact hW
      have hf := of_lt ew_13 hf
      refine lv_aload_n hx hb dX11_sew_76 rfl (lv_at hl 0 rfl) ?_
      refine lv_iconst (v := 0) hx hb dX11_sew_77 (by decide) ?_
      refine put_X11_55 hx hb hts in_X11_sew_X11 hown hK hz hW hS lk_X11_sew_11 dX11_sew_78 (fun H locs hW hS => ?_)
      obtain ⟨w_14, ew_14⟩ : ∃ y : Mem, y = mS w_13 0 55 0 := ⟨_, rfl⟩
      have hW : hd z w_14 H := by rw [ew_14]; exact hW
      have hf := of_lt ew_14 hf
      refine lv_aload_n hx hb dX11_sew_81 rfl (lv_at hl 0 rfl) ?_
      refine lv_iconst (v := 0) hx hb dX11_sew_82 (by decide) ?_
      refine put_X11_56 hx hb hts in_X11_sew_X11 hown hK hz hW hS lk_X11_sew_12 dX11_sew_83 (fun H locs hW hS => ?_)
      obtain ⟨w_15, ew_15⟩ : ∃ y : Mem, y = mS w_14 0 56 0 := ⟨_, rfl⟩
      have hW : hd z w_15 H := by rw [ew_15]; exact hW
      have hf := of_lt ew_15 hf
      refine lv_iconst (v := 0) hx hb dX11_sew_86 (by decide) ?_
      refine lv_istore_n (lv' := [(1, .int 0), (0, .ref (z.2.1 0))]) hx hb dX11_sew_87 rfl hl (by decide) rfl (fun ls hl => ?_)
      have L_18 : ∀ (n : Nat) (x1_16 : Int32) (w_17 : Mem) (exL_18 : Int32 × Mem) (H : Heap) (locs : List Loc) (ls : Array Slot), f_X11_sew_L88 n x1_16 w_17 = some exL_18 → hd z w_17 H → va_S (az z) s.heap H locs → lv_has ls 2 [(0, .ref (z.2.1 0)), (1, .int x1_16)] → (∀ (H : Heap) (locs : List Loc) (ls : Array Slot), hd z (exL_18.2) H → va_S (az z) s.heap H locs → lv_has ls 2 [(0, .ref (z.2.1 0)), (1, .int exL_18.1)] → W p l e (rm 3 73) s m args below meth c H locs 0 0 Q (F0 m 121 ls [])) → W p l e (rm 3 73) s m args below meth c H locs 0 0 Q (F0 m 88 ls []) := by
        intro n
        induction n with
        | zero =>
          intro x1_16 w_17 exL_18 H locs ls hf
          have hf : (none : Option (Int32 × Mem)) = some exL_18 := hf
          cases hf
        | succ n ihL_18 =>
          intro x1_16 w_17 exL_18 H locs ls hf hW hS hl hEL_18
          rw [f_X11_sew_L88_s] at hf
          refine lv_iload_n hx hb dX11_sew_88 rfl (lv_at hl 1 rfl) ?_
          refine lv_aload_n hx hb dX11_sew_89 rfl (lv_at hl 0 rfl) ?_
          refine get_X11_15 hx hb hts in_X11_sew_X11 hown hK hz hW lk_X11_sew_13 dX11_sew_90 ?_
          refine lv_icmp_ge (tgt := 121) hx hb dX11_sew_93 (by decide) (fun c_19 => ?_) (fun c_19 => ?_)
          · have hf := of_t c_19 hf
            have hf := Option.some.inj hf
            subst hf
            exact hEL_18 _ _ _ hW hS (lv_sub hl [0, 1] rfl)
          · have hf := of_f c_19 hf
            refine lv_aload_n hx hb dX11_sew_96 rfl (lv_at hl 0 rfl) ?_
            refine lv_aload_n hx hb dX11_sew_97 rfl (lv_at hl 0 rfl) ?_
            refine get_X11_16 hx hb hts in_X11_sew_X11 hown hK hz hW lk_X11_sew_14 dX11_sew_98 ?_
            refine lv_iload_n hx hb dX11_sew_101 rfl (lv_at hl 1 rfl) ?_
            obtain ⟨g_20, hf⟩ := of_gd hf
            refine ld_M8 hx hb hK hz hW g_20 dX11_sew_102 ?_
            refine lv_topi (fun v_21 ev_21 => ?_)
            have hf := of_lt ev_21 hf
            refine lv_aload_n hx hb dX11_sew_103 rfl (lv_at hl 0 rfl) ?_
            refine get_X11_17 hx hb hts in_X11_sew_X11 hown hK hz hW lk_X11_sew_15 dX11_sew_104 ?_
            refine lv_iload_n hx hb dX11_sew_107 rfl (lv_at hl 1 rfl) ?_
            refine ld_M9 hx hb hK hz hW g_20 dX11_sew_108 ?_
            refine lv_topi (fun v_22 ev_22 => ?_)
            have hf := of_lt ev_22 hf
            obtain ⟨r_23, w_25, hq_24, hf⟩ := of_b2 hf
            refine m_goWi (va_runV (As := [.int v_21, .int v_22]) (rest := []) ⟨hx, hb, hml, hown, hts⟩ (c_X11_ends l hz v_21 v_22 w_17 hq_24) (cwV 2 hts gX11_sew_X11_ends rfl rfl rfl (by decide +kernel) ⟨Nat.le_of_ble_eq_true rfl, Nat.le_of_ble_eq_true rfl⟩) (pre_X11 hK hz hW _) rfl rfl hl.1 rfl (lv_room (Nat.le_of_ble_eq_true rfl)) dX11_sew_109 ⟨Nat.le_refl _, Nat.le_refl _⟩) hS (fun H locs hW hS => ?_)
            refine lv_if_eq (tgt := 121) hx hb dX11_sew_112 (by decide) (fun c_26 => ?_) (fun c_26 => ?_)
            · have hf := of_t c_26 hf
              have hf := Option.some.inj hf
              subst hf
              exact hEL_18 _ _ _ hW hS (lv_sub hl [0, 1] rfl)
            · have hf := of_f c_26 hf
              obtain ⟨x1_27, ex1_27⟩ : ∃ y : Int32, y = x1_16 + 1 := ⟨_, rfl⟩
              have hf := of_lt ex1_27 hf
              refine lv_iinc (v := x1_27) (lv' := [(1, .int x1_27), (0, .ref (z.2.1 0))]) hx hb dX11_sew_115 hl (k := 1) rfl (by rw [ex1_27]; rfl) (by decide) rfl (fun ls hl => ?_)
              refine lv_goto (tgt := 88) hx hb dX11_sew_118 (by decide) ?_
              exact ihL_18 _ _ _ _ _ _ hf hW hS (lv_sub hl [1, 0] rfl) hEL_18
      obtain ⟨ex_29, hq_28, hf⟩ := of_bd hf
      obtain ⟨x1_30, w_31⟩ := ex_29
      have hf := of_tp2 hf
      refine L_18 FU _ _ _ _ _ _ hq_28 hW hS (lv_sub hl [1, 0] rfl) (fun H locs ls hW hS hl => ?_)
      have hW : hd z w_31 H := hW
      have hl : lv_has ls 2 [(0, .ref (z.2.1 0)), (1, .int x1_30)] := hl
      refine lv_aload_n hx hb dX11_sew_121 rfl (lv_at hl 0 rfl) ?_
      refine lv_iconst (v := 1) hx hb dX11_sew_122 (by decide) ?_
      refine put_X11_18 hx hb hts in_X11_sew_X11 hown hK hz hW hS (Or.inr rfl) lk_X11_sew_16 dX11_sew_123 (fun H locs hW hS => ?_)
      obtain ⟨w_32, ew_32⟩ : ∃ y : Mem, y = mS w_31 0 18 1 := ⟨_, rfl⟩
      have hW : hd z w_32 H := by rw [ew_32]; exact hW
      have hf := of_lt ew_32 hf
      refine lv_aload_n hx hb dX11_sew_126 rfl (lv_at hl 0 rfl) ?_
      refine get_X11_19 hx hb hts in_X11_sew_X11 hown hK hz hW lk_X11_sew_17 dX11_sew_127 ?_
      refine lv_iconst (v := 0) hx hb dX11_sew_130 (by decide) ?_
      refine lv_aload_n hx hb dX11_sew_131 rfl (lv_at hl 0 rfl) ?_
      refine get_X11_46 hx hb hts in_X11_sew_X11 hown hK hz hW lk_X11_sew_0 dX11_sew_132 ?_
      obtain ⟨g_33, hf⟩ := of_gd hf
      refine st_M10 hx hb hK hz hW hS g_33 dX11_sew_135 (fun H locs hW hS => ?_)
      obtain ⟨w_34, ew_34⟩ : ∃ y : Mem, y = mS w_32 10 ((0 : Int32).toNatClampNeg) (w_32.1 0 46) := ⟨_, rfl⟩
      have hW : hd z w_34 H := by rw [ew_34]; exact hW
      have hf := of_lt ew_34 hf
      refine lv_aload_n hx hb dX11_sew_136 rfl (lv_at hl 0 rfl) ?_
      refine get_X11_19 hx hb hts in_X11_sew_X11 hown hK hz hW lk_X11_sew_17 dX11_sew_137 ?_
      refine lv_iconst (v := 1) hx hb dX11_sew_140 (by decide) ?_
      refine lv_aload_n hx hb dX11_sew_141 rfl (lv_at hl 0 rfl) ?_
      refine get_X11_47 hx hb hts in_X11_sew_X11 hown hK hz hW lk_X11_sew_1 dX11_sew_142 ?_
      obtain ⟨g_35, hf⟩ := of_gd hf
      refine st_M10 hx hb hK hz hW hS g_35 dX11_sew_145 (fun H locs hW hS => ?_)
      obtain ⟨w_36, ew_36⟩ : ∃ y : Mem, y = mS w_34 10 ((1 : Int32).toNatClampNeg) (w_34.1 0 47) := ⟨_, rfl⟩
      have hW : hd z w_36 H := by rw [ew_36]; exact hW
      have hf := of_lt ew_36 hf
      refine lv_aload_n hx hb dX11_sew_146 rfl (lv_at hl 0 rfl) ?_
      refine get_X11_19 hx hb hts in_X11_sew_X11 hown hK hz hW lk_X11_sew_17 dX11_sew_147 ?_
      refine lv_iconst (v := 2) hx hb dX11_sew_150 (by decide) ?_
      refine lv_aload_n hx hb dX11_sew_151 rfl (lv_at hl 0 rfl) ?_
      refine get_X11_48 hx hb hts in_X11_sew_X11 hown hK hz hW lk_X11_sew_2 dX11_sew_152 ?_
      obtain ⟨g_37, hf⟩ := of_gd hf
      refine st_M10 hx hb hK hz hW hS g_37 dX11_sew_155 (fun H locs hW hS => ?_)
      obtain ⟨w_38, ew_38⟩ : ∃ y : Mem, y = mS w_36 10 ((2 : Int32).toNatClampNeg) (w_36.1 0 48) := ⟨_, rfl⟩
      have hW : hd z w_38 H := by rw [ew_38]; exact hW
      have hf := of_lt ew_38 hf
      refine lv_aload_n hx hb dX11_sew_156 rfl (lv_at hl 0 rfl) ?_
      refine get_X11_19 hx hb hts in_X11_sew_X11 hown hK hz hW lk_X11_sew_17 dX11_sew_157 ?_
      refine lv_iconst (v := 3) hx hb dX11_sew_160 (by decide) ?_
      refine lv_aload_n hx hb dX11_sew_161 rfl (lv_at hl 0 rfl) ?_
      refine get_X11_49 hx hb hts in_X11_sew_X11 hown hK hz hW lk_X11_sew_3 dX11_sew_162 ?_
      obtain ⟨g_39, hf⟩ := of_gd hf
      refine st_M10 hx hb hK hz hW hS g_39 dX11_sew_165 (fun H locs hW hS => ?_)
      obtain ⟨w_40, ew_40⟩ : ∃ y : Mem, y = mS w_38 10 ((3 : Int32).toNatClampNeg) (w_38.1 0 49) := ⟨_, rfl⟩
      have hW : hd z w_40 H := by rw [ew_40]; exact hW
      have hf := of_lt ew_40 hf
      refine lv_aload_n hx hb dX11_sew_166 rfl (lv_at hl 0 rfl) ?_
      refine get_X11_19 hx hb hts in_X11_sew_X11 hown hK hz hW lk_X11_sew_17 dX11_sew_167 ?_
      refine lv_iconst (v := 4) hx hb dX11_sew_170 (by decide) ?_
      refine lv_aload_n hx hb dX11_sew_171 rfl (lv_at hl 0 rfl) ?_
      refine get_X11_50 hx hb hts in_X11_sew_X11 hown hK hz hW lk_X11_sew_4 dX11_sew_172 ?_
      have J_42 : ∀ (v_41 : Int32) (ls : Array Slot), v_41 = (if (w_40.1 0 50) = 0 then 0 else 1) → lv_has ls 2 [(0, .ref (z.2.1 0)), (1, .int x1_30)] → W p l e (rm 3 73) s m args below meth c H locs 0 0 Q (F0 m 183 ls [.int v_41, .int 4, .ref (z.2.1 10)]) := by
        intro v_41 ls ev_41 hl
        have hf := of_lt ev_41 hf
        obtain ⟨g_43, hf⟩ := of_gd hf
        refine st_M10 hx hb hK hz hW hS g_43 dX11_sew_183 (fun H locs hW hS => ?_)
        obtain ⟨w_44, ew_44⟩ : ∃ y : Mem, y = mS w_40 10 ((4 : Int32).toNatClampNeg) v_41 := ⟨_, rfl⟩
        have hW : hd z w_44 H := by rw [ew_44]; exact hW
        have hf := of_lt ew_44 hf
        refine lv_aload_n hx hb dX11_sew_184 rfl (lv_at hl 0 rfl) ?_
        refine get_X11_19 hx hb hts in_X11_sew_X11 hown hK hz hW lk_X11_sew_17 dX11_sew_185 ?_
        refine lv_iconst (v := 5) hx hb dX11_sew_188 (by decide) ?_
        refine lv_aload_n hx hb dX11_sew_189 rfl (lv_at hl 0 rfl) ?_
        refine get_X11_53 hx hb hts in_X11_sew_X11 hown hK hz hW lk_X11_sew_9 dX11_sew_190 ?_
        obtain ⟨g_45, hf⟩ := of_gd hf
        refine st_M10 hx hb hK hz hW hS g_45 dX11_sew_193 (fun H locs hW hS => ?_)
        obtain ⟨w_46, ew_46⟩ : ∃ y : Mem, y = mS w_44 10 ((5 : Int32).toNatClampNeg) (w_44.1 0 53) := ⟨_, rfl⟩
        have hW : hd z w_46 H := by rw [ew_46]; exact hW
        have hf := of_lt ew_46 hf
        refine lv_aload_n hx hb dX11_sew_194 rfl (lv_at hl 0 rfl) ?_
        refine get_X11_19 hx hb hts in_X11_sew_X11 hown hK hz hW lk_X11_sew_17 dX11_sew_195 ?_
        refine lv_bipush (v := 6) hx hb dX11_sew_198 (by decide) ?_
        refine lv_aload_n hx hb dX11_sew_200 rfl (lv_at hl 0 rfl) ?_
        refine get_X11_54 hx hb hts in_X11_sew_X11 hown hK hz hW lk_X11_sew_10 dX11_sew_201 ?_
        obtain ⟨g_47, hf⟩ := of_gd hf
        refine st_M10 hx hb hK hz hW hS g_47 dX11_sew_204 (fun H locs hW hS => ?_)
        obtain ⟨w_48, ew_48⟩ : ∃ y : Mem, y = mS w_46 10 ((6 : Int32).toNatClampNeg) (w_46.1 0 54) := ⟨_, rfl⟩
        have hW : hd z w_48 H := by rw [ew_48]; exact hW
        have hf := of_lt ew_48 hf
        refine lv_aload_n hx hb dX11_sew_205 rfl (lv_at hl 0 rfl) ?_
        refine get_X11_19 hx hb hts in_X11_sew_X11 hown hK hz hW lk_X11_sew_17 dX11_sew_206 ?_
        refine lv_bipush (v := 7) hx hb dX11_sew_209 (by decide) ?_
        refine lv_aload_n hx hb dX11_sew_211 rfl (lv_at hl 0 rfl) ?_
        refine get_X11_55 hx hb hts in_X11_sew_X11 hown hK hz hW lk_X11_sew_11 dX11_sew_212 ?_
        obtain ⟨g_49, hf⟩ := of_gd hf
        refine st_M10 hx hb hK hz hW hS g_49 dX11_sew_215 (fun H locs hW hS => ?_)
        obtain ⟨w_50, ew_50⟩ : ∃ y : Mem, y = mS w_48 10 ((7 : Int32).toNatClampNeg) (w_48.1 0 55) := ⟨_, rfl⟩
        have hW : hd z w_50 H := by rw [ew_50]; exact hW
        have hf := of_lt ew_50 hf
        refine lv_aload_n hx hb dX11_sew_216 rfl (lv_at hl 0 rfl) ?_
        refine get_X11_19 hx hb hts in_X11_sew_X11 hown hK hz hW lk_X11_sew_17 dX11_sew_217 ?_
        refine lv_bipush (v := 8) hx hb dX11_sew_220 (by decide) ?_
        refine lv_aload_n hx hb dX11_sew_222 rfl (lv_at hl 0 rfl) ?_
        refine get_X11_56 hx hb hts in_X11_sew_X11 hown hK hz hW lk_X11_sew_12 dX11_sew_223 ?_
        obtain ⟨g_51, hf⟩ := of_gd hf
        refine st_M10 hx hb hK hz hW hS g_51 dX11_sew_226 (fun H locs hW hS => ?_)
        obtain ⟨w_52, ew_52⟩ : ∃ y : Mem, y = mS w_50 10 ((8 : Int32).toNatClampNeg) (w_50.1 0 56) := ⟨_, rfl⟩
        have hW : hd z w_52 H := by rw [ew_52]; exact hW
        have hf := of_lt ew_52 hf
        refine lv_aload_n hx hb dX11_sew_227 rfl (lv_at hl 0 rfl) ?_
        refine get_X11_19 hx hb hts in_X11_sew_X11 hown hK hz hW lk_X11_sew_17 dX11_sew_228 ?_
        refine lv_bipush (v := 9) hx hb dX11_sew_231 (by decide) ?_
        refine lv_iload_n hx hb dX11_sew_233 rfl (lv_at hl 1 rfl) ?_
        obtain ⟨g_53, hf⟩ := of_gd hf
        refine st_M10 hx hb hK hz hW hS g_53 dX11_sew_234 (fun H locs hW hS => ?_)
        obtain ⟨w_54, ew_54⟩ : ∃ y : Mem, y = mS w_52 10 ((9 : Int32).toNatClampNeg) x1_30 := ⟨_, rfl⟩
        have hW : hd z w_54 H := by rw [ew_54]; exact hW
        have hf := of_lt ew_54 hf
        refine lv_aload_n hx hb dX11_sew_235 rfl (lv_at hl 0 rfl) ?_
        refine get_X11_46 hx hb hts in_X11_sew_X11 hown hK hz hW lk_X11_sew_0 dX11_sew_236 ?_
        exact hret _ _ _ _ _ _ hf hW hS dX11_sew_239
      refine lv_if_eq (tgt := 182) hx hb dX11_sew_175 (by decide) (fun c_55 => ?_) (fun c_55 => ?_)
      · refine lv_iconst (v := 0) hx hb dX11_sew_182 (by decide) ?_
        exact J_42 _ _ (by rw [if_pos c_55]) (lv_sub hl [0, 1] rfl)
      · refine lv_iconst (v := 1) hx hb dX11_sew_178 (by decide) ?_
        refine lv_goto (tgt := 183) hx hb dX11_sew_179 (by decide) ?_
        exact J_42 _ _ (by rw [if_neg c_55]) (lv_sub hl [0, 1] rfl)
    refine lv_if_ne (tgt := 40) hx hb dX11_sew_33 (by decide) (fun c_56 => ?_) (fun c_56 => ?_)
    · have hf := of_f c_56 hf
      refine lv_aload_n hx hb dX11_sew_40 rfl (lv_at hl 0 rfl) ?_
      refine get_X11_6 hx hb hts in_X11_sew_X11 hown hK hz hW lk_X11_sew_6 dX11_sew_41 ?_
      refine lv_sipush (v := 672) hx hb dX11_sew_44 (by decide) ?_
      refine lv_aload_n hx hb dX11_sew_47 rfl (lv_at hl 0 rfl) ?_
      refine get_X11_5 hx hb hts in_X11_sew_X11 hown hK hz hW lk_X11_sew_5 dX11_sew_48 ?_
      refine lv_bipush (v := 14) hx hb dX11_sew_51 (by decide) ?_
      refine ld_M3 hx hb hK hz hW g_6 dX11_sew_53 ?_
      refine lv_topi (fun v_57 ev_57 => ?_)
      have hf := of_lt ev_57 hf
      refine lv_iadd hx hb dX11_sew_54 ?_
      refine lv_iconst (v := 1) hx hb dX11_sew_55 (by decide) ?_
      refine lv_isub hx hb dX11_sew_56 ?_
      obtain ⟨g_58, hf⟩ := of_gd hf
      refine ld_M4 hx hb hK hz hW g_58 dX11_sew_57 ?_
      refine lv_topi (fun v_59 ev_59 => ?_)
      have hf := of_lt ev_59 hf
      exact Jk_8 _ _ hf (lv_sub hl [0] rfl)
    · have hf := of_t c_56 hf
      refine lv_iconst (v := 0) hx hb dX11_sew_36 (by decide) ?_
      refine lv_goto (tgt := 58) hx hb dX11_sew_37 (by decide) ?_
      exact Jk_8 _ _ hf (lv_sub hl [0] rfl)
  exact START _ _ hW va_S.rf
theorem in_X11_seam_X11 : ∀ w ∈ wsX110, w ∈ wsX11_seam := by decide +kernel
theorem lk_X11_seam_0 : Cond.fieldLink RX11 118 "CamStitchModel" "isSewn" "Z" ∈ wsX11_seam := by decide +kernel
theorem lk_X11_seam_1 : Cond.fieldLink RX11 103 "CamStitchModel" "thrown" "I" ∈ wsX11_seam := by decide +kernel
theorem lk_X11_seam_2 : Cond.fieldLink RX11 51 "CamStitchModel" "seam" "[I" ∈ wsX11_seam := by decide +kernel
set_option maxHeartbeats 4000000 in
set_option maxRecDepth 100000 in
theorem c_X11_seam (l : Launch) {z : LZ} (hz : IM z) (x1 : Int32) (w : Mem) {r : Int32} {w' : Mem} (hf : f_X11_seam x1 w = some (r, w')) : Met l yX11_seam wsX11_seam (rm 1 22) (PZ z w [.ref (z.2.1 0), .int x1]) (QW z (some (.int r)) w') 0 0 (az z) := by
  refine mk_Wi (cc := cX11_seam) (maxL := 2) (by decide +kernel) rfl (Nat.le_of_ble_eq_true rfl) ?_
  intro p e s m args below meth c hx hb hml hts hown hK hW Q hret ls hl
  have hl : lv_has ls 2 [(0, .ref (z.2.1 0)), (1, .int x1)] := hl
  unfold f_X11_seam at hf
  have START : ∀ (H : Heap) (locs : List Loc), hd z w H → va_S (az z) s.heap H locs → W p l e (rm 1 22) s m args below meth c H locs 0 0 Q (F0 m 0 ls []) := by
    intro H locs hW hS
    refine lv_aload_n hx hb dX11_seam_0 rfl (lv_at hl 0 rfl) ?_
    refine lv_iload_n hx hb dX11_seam_1 rfl (lv_at hl 1 rfl) ?_
    refine lv_iconst (v := 0) hx hb dX11_seam_2 (by decide) ?_
    refine lv_bipush (v := 9) hx hb dX11_seam_3 (by decide) ?_
    obtain ⟨r_1, hq_2, hf⟩ := of_bd hf
    refine m_goRi (va_runS (As := [.int x1, .int 0, .int 9]) (rest := [.ref (z.2.1 0)]) ⟨hx, hb, hml, hown, hts⟩ (c_X11_in l hz x1 0 9 w hq_2) (va_cwS 3 hts gX11_seam_X11_in rfl rfl rfl (by decide +kernel) ⟨Nat.le_of_ble_eq_true rfl, Nat.le_of_ble_eq_true rfl⟩) (m_preS hK hW _) rfl rfl hl.1 rfl (lv_room (Nat.le_of_ble_eq_true rfl)) dX11_seam_5 ⟨Nat.le_refl _, Nat.le_refl _⟩) ?_
    have J_4 : ∀ (v_3 : Int32) (ls : Array Slot), v_3 = (if r_1 = 0 then 1 else (if (w.1 0 18) = 0 then 2 else 0)) → lv_has ls 2 [(0, .ref (z.2.1 0)), (1, .int x1)] → W p l e (rm 1 22) s m args below meth c H locs 0 0 Q (F0 m 27 ls [.int v_3, .ref (z.2.1 0)]) := by
      intro v_3 ls ev_3 hl
      have hf := of_lt ev_3 hf
      refine put_X11_0 hx hb hts in_X11_seam_X11 hown hK hz hW hS lk_X11_seam_1 dX11_seam_27 (fun H locs hW hS => ?_)
      obtain ⟨w_5, ew_5⟩ : ∃ y : Mem, y = mS w 0 0 v_3 := ⟨_, rfl⟩
      have hW : hd z w_5 H := by rw [ew_5]; exact hW
      have hf := of_lt ew_5 hf
      refine lv_aload_n hx hb dX11_seam_30 rfl (lv_at hl 0 rfl) ?_
      refine get_X11_0 hx hb hts in_X11_seam_X11 hown hK hz hW lk_X11_seam_1 dX11_seam_31 ?_
      refine lv_if_eq (tgt := 41) hx hb dX11_seam_34 (by decide) (fun c_6 => ?_) (fun c_6 => ?_)
      · have hf := of_t c_6 hf
        refine lv_aload_n hx hb dX11_seam_41 rfl (lv_at hl 0 rfl) ?_
        refine get_X11_19 hx hb hts in_X11_seam_X11 hown hK hz hW lk_X11_seam_2 dX11_seam_42 ?_
        refine lv_iload_n hx hb dX11_seam_45 rfl (lv_at hl 1 rfl) ?_
        obtain ⟨g_7, hf⟩ := of_gd hf
        refine ld_M10 hx hb hK hz hW g_7 dX11_seam_46 ?_
        refine lv_topi (fun v_8 ev_8 => ?_)
        have hf := of_lt ev_8 hf
        exact hret _ _ _ _ _ _ hf hW hS dX11_seam_47
      · have hf := of_f c_6 hf
        refine lv_iconst (v := 0) hx hb dX11_seam_37 (by decide) ?_
        refine lv_goto (tgt := 47) hx hb dX11_seam_38 (by decide) ?_
        exact hret _ _ _ _ _ _ hf hW hS dX11_seam_47
    refine lv_if_ne (tgt := 15) hx hb dX11_seam_8 (by decide) (fun c_9 => ?_) (fun c_9 => ?_)
    · refine lv_aload_n hx hb dX11_seam_15 rfl (lv_at hl 0 rfl) ?_
      refine get_X11_18 hx hb hts in_X11_seam_X11 hown hK hz hW lk_X11_seam_0 dX11_seam_16 ?_
      refine lv_if_ne (tgt := 26) hx hb dX11_seam_19 (by decide) (fun c_10 => ?_) (fun c_10 => ?_)
      · refine lv_iconst (v := 0) hx hb dX11_seam_26 (by decide) ?_
        exact J_4 _ _ (by rw [if_neg c_9, if_neg c_10]) (lv_sub hl [0, 1] rfl)
      · refine lv_iconst (v := 2) hx hb dX11_seam_22 (by decide) ?_
        refine lv_goto (tgt := 27) hx hb dX11_seam_23 (by decide) ?_
        exact J_4 _ _ (by rw [if_neg c_9, if_pos c_10]) (lv_sub hl [0, 1] rfl)
    · refine lv_iconst (v := 1) hx hb dX11_seam_11 (by decide) ?_
      refine lv_goto (tgt := 27) hx hb dX11_seam_12 (by decide) ?_
      exact J_4 _ _ (by rw [if_pos c_9]) (lv_sub hl [0, 1] rfl)
  exact START _ _ hW va_S.rf
theorem in_X11_sewn_X11 : ∀ w ∈ wsX110, w ∈ wsX11_sewn := by decide +kernel
theorem lk_X11_sewn_0 : Cond.fieldLink RX11 118 "CamStitchModel" "isSewn" "Z" ∈ wsX11_sewn := by decide +kernel
theorem lk_X11_sewn_1 : Cond.fieldLink RX11 51 "CamStitchModel" "seam" "[I" ∈ wsX11_sewn := by decide +kernel
theorem lk_X11_sewn_2 : Cond.fieldLink RX11 103 "CamStitchModel" "thrown" "I" ∈ wsX11_sewn := by decide +kernel
theorem lk_X11_sewn_3 : Cond.fieldLink RX11 57 "CamStitchModel" "endY" "[I" ∈ wsX11_sewn := by decide +kernel
theorem lk_X11_sewn_4 : Cond.fieldLink RX11 54 "CamStitchModel" "endX" "[I" ∈ wsX11_sewn := by decide +kernel
set_option maxHeartbeats 4000000 in
set_option maxRecDepth 100000 in
theorem c_X11_sewn (l : Launch) {z : LZ} (hz : IM z) (x1 : Int32) (x2 : Int32) (w : Mem) {r : Int32} {w' : Mem} (hf : f_X11_sewn x1 x2 w = some (r, w')) : Met l yX11_sewn wsX11_sewn (rm 1 22) (PZ z w [.ref (z.2.1 0), .int x1, .int x2]) (QW z (some (.int r)) w') 0 0 (az z) := by
  refine mk_Wi (cc := cX11_sewn) (maxL := 3) (by decide +kernel) rfl (Nat.le_of_ble_eq_true rfl) ?_
  intro p e s m args below meth c hx hb hml hts hown hK hW Q hret ls hl
  have hl : lv_has ls 3 [(0, .ref (z.2.1 0)), (1, .int x1), (2, .int x2)] := hl
  unfold f_X11_sewn at hf
  have START : ∀ (H : Heap) (locs : List Loc), hd z w H → va_S (az z) s.heap H locs → W p l e (rm 1 22) s m args below meth c H locs 0 0 Q (F0 m 0 ls []) := by
    intro H locs hW hS
    refine lv_aload_n hx hb dX11_sewn_0 rfl (lv_at hl 0 rfl) ?_
    refine lv_iload_n hx hb dX11_sewn_1 rfl (lv_at hl 2 rfl) ?_
    refine lv_iconst (v := 0) hx hb dX11_sewn_2 (by decide) ?_
    refine lv_iconst (v := 1) hx hb dX11_sewn_3 (by decide) ?_
    obtain ⟨r_1, hq_2, hf⟩ := of_bd hf
    refine m_goRi (va_runS (As := [.int x2, .int 0, .int 1]) (rest := [.ref (z.2.1 0)]) ⟨hx, hb, hml, hown, hts⟩ (c_X11_in l hz x2 0 1 w hq_2) (va_cwS 3 hts gX11_sewn_X11_in rfl rfl rfl (by decide +kernel) ⟨Nat.le_of_ble_eq_true rfl, Nat.le_of_ble_eq_true rfl⟩) (m_preS hK hW _) rfl rfl hl.1 rfl (lv_room (Nat.le_of_ble_eq_true rfl)) dX11_sewn_4 ⟨Nat.le_refl _, Nat.le_refl _⟩) ?_
    obtain ⟨k_3, ek_3, hf⟩ := of_lz hf
    have Jk_3 : ∀ (t_4 : Int32) (ls : Array Slot), k_3 t_4 = some (r, w') → lv_has ls 3 [(0, .ref (z.2.1 0)), (1, .int x1), (2, .int x2)] → W p l e (rm 1 22) s m args below meth c H locs 0 0 Q (F0 m 42 ls [.int t_4, .ref (z.2.1 0)]) := by
      intro t_4 ls hf hl
      have hf := of_j1 ek_3 hf
      refine put_X11_0 hx hb hts in_X11_sewn_X11 hown hK hz hW hS lk_X11_sewn_2 dX11_sewn_42 (fun H locs hW hS => ?_)
      obtain ⟨w_5, ew_5⟩ : ∃ y : Mem, y = mS w 0 0 t_4 := ⟨_, rfl⟩
      have hW : hd z w_5 H := by rw [ew_5]; exact hW
      have hf := of_lt ew_5 hf
      refine lv_aload_n hx hb dX11_sewn_45 rfl (lv_at hl 0 rfl) ?_
      refine get_X11_0 hx hb hts in_X11_sewn_X11 hown hK hz hW lk_X11_sewn_2 dX11_sewn_46 ?_
      refine lv_if_eq (tgt := 56) hx hb dX11_sewn_49 (by decide) (fun c_6 => ?_) (fun c_6 => ?_)
      · have hf := of_t c_6 hf
        refine lv_iload_n hx hb dX11_sewn_56 rfl (lv_at hl 2 rfl) ?_
        refine lv_if_ne (tgt := 69) hx hb dX11_sewn_57 (by decide) (fun c_7 => ?_) (fun c_7 => ?_)
        · have hf := of_f c_7 hf
          refine lv_aload_n hx hb dX11_sewn_69 rfl (lv_at hl 0 rfl) ?_
          refine get_X11_21 hx hb hts in_X11_sewn_X11 hown hK hz hW lk_X11_sewn_3 dX11_sewn_70 ?_
          refine lv_iload_n hx hb dX11_sewn_73 rfl (lv_at hl 1 rfl) ?_
          obtain ⟨g_8, hf⟩ := of_gd hf
          refine ld_M12 hx hb hK hz hW g_8 dX11_sewn_74 ?_
          refine lv_topi (fun v_9 ev_9 => ?_)
          have hf := of_lt ev_9 hf
          exact hret _ _ _ _ _ _ hf hW hS dX11_sewn_75
        · have hf := of_t c_7 hf
          refine lv_aload_n hx hb dX11_sewn_60 rfl (lv_at hl 0 rfl) ?_
          refine get_X11_20 hx hb hts in_X11_sewn_X11 hown hK hz hW lk_X11_sewn_4 dX11_sewn_61 ?_
          refine lv_iload_n hx hb dX11_sewn_64 rfl (lv_at hl 1 rfl) ?_
          obtain ⟨g_10, hf⟩ := of_gd hf
          refine ld_M11 hx hb hK hz hW g_10 dX11_sewn_65 ?_
          refine lv_topi (fun v_11 ev_11 => ?_)
          have hf := of_lt ev_11 hf
          refine lv_goto (tgt := 75) hx hb dX11_sewn_66 (by decide) ?_
          exact hret _ _ _ _ _ _ hf hW hS dX11_sewn_75
      · have hf := of_f c_6 hf
        refine lv_iconst (v := 0) hx hb dX11_sewn_52 (by decide) ?_
        refine lv_goto (tgt := 75) hx hb dX11_sewn_53 (by decide) ?_
        exact hret _ _ _ _ _ _ hf hW hS dX11_sewn_75
    refine lv_if_ne (tgt := 14) hx hb dX11_sewn_7 (by decide) (fun c_12 => ?_) (fun c_12 => ?_)
    · have hf := of_f c_12 hf
      refine lv_aload_n hx hb dX11_sewn_14 rfl (lv_at hl 0 rfl) ?_
      refine get_X11_18 hx hb hts in_X11_sewn_X11 hown hK hz hW lk_X11_sewn_0 dX11_sewn_15 ?_
      refine lv_if_eq (tgt := 37) hx hb dX11_sewn_18 (by decide) (fun c_13 => ?_) (fun c_13 => ?_)
      · have hf := of_t c_13 hf
        refine lv_iconst (v := 2) hx hb dX11_sewn_37 (by decide) ?_
        refine lv_goto (tgt := 42) hx hb dX11_sewn_38 (by decide) ?_
        exact Jk_3 _ _ hf (lv_sub hl [0, 1, 2] rfl)
      · have hf := of_f c_13 hf
        refine lv_iload_n hx hb dX11_sewn_21 rfl (lv_at hl 1 rfl) ?_
        refine lv_iconst (v := 0) hx hb dX11_sewn_22 (by decide) ?_
        refine lv_aload_n hx hb dX11_sewn_23 rfl (lv_at hl 0 rfl) ?_
        refine get_X11_19 hx hb hts in_X11_sewn_X11 hown hK hz hW lk_X11_sewn_1 dX11_sewn_24 ?_
        refine lv_iconst (v := 0) hx hb dX11_sewn_27 (by decide) ?_
        obtain ⟨g_14, hf⟩ := of_gd hf
        refine ld_M10 hx hb hK hz hW g_14 dX11_sewn_28 ?_
        refine lv_topi (fun v_15 ev_15 => ?_)
        have hf := of_lt ev_15 hf
        refine lv_iconst (v := 1) hx hb dX11_sewn_29 (by decide) ?_
        refine lv_isub hx hb dX11_sewn_30 ?_
        obtain ⟨r_16, hq_17, hf⟩ := of_bd hf
        refine m_goRi (va_runS (As := [.int x1, .int 0, .int (v_15 - 1)]) (rest := [.ref (z.2.1 0)]) ⟨hx, hb, hml, hown, hts⟩ (c_X11_in l hz x1 0 (v_15 - 1) w hq_17) (va_cwS 3 hts gX11_sewn_X11_in rfl rfl rfl (by decide +kernel) ⟨Nat.le_of_ble_eq_true rfl, Nat.le_of_ble_eq_true rfl⟩) (m_preS hK hW _) rfl rfl hl.1 rfl (lv_room (Nat.le_of_ble_eq_true rfl)) dX11_sewn_31 ⟨Nat.le_refl _, Nat.le_refl _⟩) ?_
        refine lv_if_ne (tgt := 41) hx hb dX11_sewn_34 (by decide) (fun c_18 => ?_) (fun c_18 => ?_)
        · have hf := of_f c_18 hf
          refine lv_iconst (v := 0) hx hb dX11_sewn_41 (by decide) ?_
          exact Jk_3 _ _ hf (lv_sub hl [0, 1, 2] rfl)
        · have hf := of_t c_18 hf
          refine lv_iconst (v := 2) hx hb dX11_sewn_37 (by decide) ?_
          refine lv_goto (tgt := 42) hx hb dX11_sewn_38 (by decide) ?_
          exact Jk_3 _ _ hf (lv_sub hl [0, 1, 2] rfl)
    · have hf := of_t c_12 hf
      refine lv_iconst (v := 1) hx hb dX11_sewn_10 (by decide) ?_
      refine lv_goto (tgt := 42) hx hb dX11_sewn_11 (by decide) ?_
      exact Jk_3 _ _ hf (lv_sub hl [0, 1, 2] rfl)
  exact START _ _ hW va_S.rf
theorem in_X11_lacksRim_X11 : ∀ w ∈ wsX110, w ∈ wsX11_lacksRim := by decide +kernel
theorem lk_X11_lacksRim_0 : Cond.fieldLink RX11 66 "CamStitchModel" "sort" "[I" ∈ wsX11_lacksRim := by decide +kernel
theorem lk_X11_lacksRim_1 : Cond.fieldLink RX11 69 "CamStitchModel" "size" "[I" ∈ wsX11_lacksRim := by decide +kernel
set_option maxHeartbeats 4000000 in
set_option maxRecDepth 100000 in
theorem c_X11_lacksRim (l : Launch) {z : LZ} (hz : IM z) (x1 : Int32) (x2 : Int32) (w : Mem) {r : Int32} {w' : Mem} (hf : f_X11_lacksRim x1 x2 w = some (r, w')) : Met l yX11_lacksRim wsX11_lacksRim (rm 2 42) (PZ z w [.ref (z.2.1 0), .int x1, .int x2]) (QW z (some (.int r)) w') 0 0 (az z) := by
  refine mk_Wi (cc := cX11_lacksRim) (maxL := 3) (by decide +kernel) rfl (Nat.le_of_ble_eq_true rfl) ?_
  intro p e s m args below meth c hx hb hml hts hown hK hW Q hret ls hl
  have hl : lv_has ls 3 [(0, .ref (z.2.1 0)), (1, .int x1), (2, .int x2)] := hl
  unfold f_X11_lacksRim at hf
  have START : ∀ (H : Heap) (locs : List Loc), hd z w H → va_S (az z) s.heap H locs → W p l e (rm 2 42) s m args below meth c H locs 0 0 Q (F0 m 0 ls []) := by
    intro H locs hW hS
    refine lv_iload_n hx hb dX11_lacksRim_0 rfl (lv_at hl 1 rfl) ?_
    obtain ⟨r_1, hq_2, hf⟩ := of_bd hf
    refine m_goRi (va_runS (As := [.int x1]) (rest := []) ⟨hx, hb, hml, hown, hts⟩ (c_X11_isTape l hz x1 w hq_2) (va_cwS 1 hts gX11_lacksRim_X11_isTape rfl rfl rfl (by decide +kernel) ⟨Nat.le_of_ble_eq_true rfl, Nat.le_of_ble_eq_true rfl⟩) (m_preS hK hW _) rfl rfl hl.1 rfl (lv_room (Nat.le_of_ble_eq_true rfl)) dX11_lacksRim_1 ⟨Nat.le_refl _, Nat.le_refl _⟩) ?_
    refine lv_if_eq (tgt := 11) hx hb dX11_lacksRim_4 (by decide) (fun c_3 => ?_) (fun c_3 => ?_)
    · have hf := of_t c_3 hf
      refine lv_iconst (v := (-1)) hx hb dX11_lacksRim_11 (by decide) ?_
      refine lv_goto (tgt := 73) hx hb dX11_lacksRim_12 (by decide) ?_
      exact hret _ _ _ _ _ _ hf hW hS dX11_lacksRim_73
    · have hf := of_f c_3 hf
      refine lv_iload_n hx hb dX11_lacksRim_7 rfl (lv_at hl 2 rfl) ?_
      refine lv_if_ne (tgt := 15) hx hb dX11_lacksRim_8 (by decide) (fun c_4 => ?_) (fun c_4 => ?_)
      · have hf := of_f c_4 hf
        refine lv_aload_n hx hb dX11_lacksRim_15 rfl (lv_at hl 0 rfl) ?_
        refine get_X11_26 hx hb hts in_X11_lacksRim_X11 hown hK hz hW lk_X11_lacksRim_0 dX11_lacksRim_16 ?_
        refine lv_iload_n hx hb dX11_lacksRim_19 rfl (lv_at hl 1 rfl) ?_
        obtain ⟨g_5, hf⟩ := of_gd hf
        refine ld_M15 hx hb hK hz hW g_5 dX11_lacksRim_20 ?_
        refine lv_if_ne (tgt := 33) hx hb dX11_lacksRim_21 (by decide) (fun c_6 => ?_) (fun c_6 => ?_)
        · have hf := of_f c_6 hf
          refine lv_aload_n hx hb dX11_lacksRim_33 rfl (lv_at hl 0 rfl) ?_
          refine get_X11_26 hx hb hts in_X11_lacksRim_X11 hown hK hz hW lk_X11_lacksRim_0 dX11_lacksRim_34 ?_
          refine lv_iload_n hx hb dX11_lacksRim_37 rfl (lv_at hl 1 rfl) ?_
          refine ld_M15 hx hb hK hz hW g_5 dX11_lacksRim_38 ?_
          refine lv_iconst (v := 1) hx hb dX11_lacksRim_39 (by decide) ?_
          refine lv_icmp_eq (tgt := 52) hx hb dX11_lacksRim_40 (by decide) (fun c_7 => ?_) (fun c_7 => ?_)
          · have hf := of_t c_7 hf
            refine lv_aload_n hx hb dX11_lacksRim_52 rfl (lv_at hl 0 rfl) ?_
            refine get_X11_27 hx hb hts in_X11_lacksRim_X11 hown hK hz hW lk_X11_lacksRim_1 dX11_lacksRim_53 ?_
            refine lv_iload_n hx hb dX11_lacksRim_56 rfl (lv_at hl 1 rfl) ?_
            refine ld_M16 hx hb hK hz hW g_5 dX11_lacksRim_57 ?_
            refine lv_iconst (v := 1) hx hb dX11_lacksRim_58 (by decide) ?_
            refine lv_bipush (v := 48) hx hb dX11_lacksRim_59 (by decide) ?_
            obtain ⟨r_8, hq_9, hf⟩ := of_bd hf
            refine m_goRi (va_runS (As := [.int (w.1 16 x1.toNatClampNeg), .int 1, .int 48]) (rest := []) ⟨hx, hb, hml, hown, hts⟩ (c_X11_in l hz (w.1 16 x1.toNatClampNeg) 1 48 w hq_9) (va_cwS 3 hts gX11_lacksRim_X11_in rfl rfl rfl (by decide +kernel) ⟨Nat.le_of_ble_eq_true rfl, Nat.le_of_ble_eq_true rfl⟩) (m_preS hK hW _) rfl rfl hl.1 rfl (lv_room (Nat.le_of_ble_eq_true rfl)) dX11_lacksRim_61 ⟨Nat.le_refl _, Nat.le_refl _⟩) ?_
            have J_11 : ∀ (v_10 : Int32) (ls : Array Slot), v_10 = (if r_8 = 0 then (-4) else 0) → lv_has ls 3 [] → W p l e (rm 2 42) s m args below meth c H locs 0 0 Q (F0 m 73 ls [.int v_10]) := by
              intro v_10 ls ev_10 hl
              have hf := of_lt ev_10 hf
              exact hret _ _ _ _ _ _ hf hW hS dX11_lacksRim_73
            refine lv_if_ne (tgt := 72) hx hb dX11_lacksRim_64 (by decide) (fun c_12 => ?_) (fun c_12 => ?_)
            · refine lv_iconst (v := 0) hx hb dX11_lacksRim_72 (by decide) ?_
              exact J_11 _ _ (by rw [if_neg c_12]) (lv_sub hl [] rfl)
            · refine lv_bipush (v := (-4)) hx hb dX11_lacksRim_67 (by decide) ?_
              refine lv_goto (tgt := 73) hx hb dX11_lacksRim_69 (by decide) ?_
              exact J_11 _ _ (by rw [if_pos c_12]) (lv_sub hl [] rfl)
          · have hf := of_f c_7 hf
            refine lv_aload_n hx hb dX11_lacksRim_43 rfl (lv_at hl 0 rfl) ?_
            refine lv_bipush (v := (-12)) hx hb dX11_lacksRim_44 (by decide) ?_
            obtain ⟨r_13, w_15, hq_14, hf⟩ := of_b2 hf
            refine m_goWi (va_runV (As := [.int (-12)]) (rest := []) ⟨hx, hb, hml, hown, hts⟩ (c_X11_refuse l hz (-12) w hq_14) (cwV 1 hts gX11_lacksRim_X11_refuse rfl rfl rfl (by decide +kernel) ⟨Nat.le_of_ble_eq_true rfl, Nat.le_of_ble_eq_true rfl⟩) (pre_X11 hK hz hW _) rfl rfl hl.1 rfl (lv_room (Nat.le_of_ble_eq_true rfl)) dX11_lacksRim_46 ⟨Nat.le_refl _, Nat.le_refl _⟩) hS (fun H locs hW hS => ?_)
            refine lv_goto (tgt := 73) hx hb dX11_lacksRim_49 (by decide) ?_
            exact hret _ _ _ _ _ _ hf hW hS dX11_lacksRim_73
        · have hf := of_t c_6 hf
          refine lv_aload_n hx hb dX11_lacksRim_24 rfl (lv_at hl 0 rfl) ?_
          refine lv_bipush (v := (-11)) hx hb dX11_lacksRim_25 (by decide) ?_
          obtain ⟨r_16, w_18, hq_17, hf⟩ := of_b2 hf
          refine m_goWi (va_runV (As := [.int (-11)]) (rest := []) ⟨hx, hb, hml, hown, hts⟩ (c_X11_refuse l hz (-11) w hq_17) (cwV 1 hts gX11_lacksRim_X11_refuse rfl rfl rfl (by decide +kernel) ⟨Nat.le_of_ble_eq_true rfl, Nat.le_of_ble_eq_true rfl⟩) (pre_X11 hK hz hW _) rfl rfl hl.1 rfl (lv_room (Nat.le_of_ble_eq_true rfl)) dX11_lacksRim_27 ⟨Nat.le_refl _, Nat.le_refl _⟩) hS (fun H locs hW hS => ?_)
          refine lv_goto (tgt := 73) hx hb dX11_lacksRim_30 (by decide) ?_
          exact hret _ _ _ _ _ _ hf hW hS dX11_lacksRim_73
      · have hf := of_t c_4 hf
        refine lv_iconst (v := (-1)) hx hb dX11_lacksRim_11 (by decide) ?_
        refine lv_goto (tgt := 73) hx hb dX11_lacksRim_12 (by decide) ?_
        exact hret _ _ _ _ _ _ hf hW hS dX11_lacksRim_73
  exact START _ _ hW va_S.rf
theorem in_X11_isNamed_X11 : ∀ w ∈ wsX110, w ∈ wsX11_isNamed := by decide +kernel
theorem lk_X11_isNamed_0 : Cond.fieldLink RX11 16 "CamStitchModel" "many" "[I" ∈ wsX11_isNamed := by decide +kernel
theorem lk_X11_isNamed_1 : Cond.fieldLink RX11 69 "CamStitchModel" "size" "[I" ∈ wsX11_isNamed := by decide +kernel
theorem lk_X11_isNamed_2 : Cond.fieldLink RX11 72 "CamStitchModel" "cells" "[J" ∈ wsX11_isNamed := by decide +kernel
theorem lk_X11_isNamed_3 : Cond.fieldLink RX11 19 "CamStitchModel" "swing" "[I" ∈ wsX11_isNamed := by decide +kernel
set_option maxHeartbeats 4000000 in
set_option maxRecDepth 100000 in
theorem c_X11_isNamed (l : Launch) {z : LZ} (hz : IM z) (x1 : Int32) (x2 : Int32) (x3 : Int32) (x4 : Int32) (x5 : Int32) (w : Mem) {r : Int32} (hf : f_X11_isNamed x1 x2 x3 x4 x5 w = some r) : Met l yX11_isNamed wsX11_isNamed (rm 1 22) (PZ z w [.ref (z.2.1 0), .int x1, .int x2, .int x3, .int x4, .int x5]) (QR (some (.int r))) 0 0 (fun _ => False) := by
  refine mk_Rz (cc := cX11_isNamed) (maxL := 11) (by decide +kernel) rfl (Nat.le_of_ble_eq_true rfl) ?_
  intro p e s m args below meth c hx hb hml hts hown hK hW Q hret ls hl
  have hl : lv_has ls 11 [(0, .ref (z.2.1 0)), (1, .int x1), (2, .int x2), (3, .int x3), (4, .int x4), (5, .int x5)] := hl
  unfold f_X11_isNamed at hf
  refine lv_aload_n hx hb dX11_isNamed_0 rfl (lv_at hl 0 rfl) ?_
  refine get_X11_5 hx hb hts in_X11_isNamed_X11 hown hK hz hW lk_X11_isNamed_0 dX11_isNamed_1 ?_
  refine lv_iload_n hx hb dX11_isNamed_4 rfl (lv_at hl 3 rfl) ?_
  obtain ⟨g_1, hf⟩ := of_gd hf
  refine ld_M3 hx hb hK hz hW g_1 dX11_isNamed_5 ?_
  refine lv_topi (fun v_2 ev_2 => ?_)
  have hf := of_lt ev_2 hf
  refine lv_istore (lv' := [(6, .int v_2), (0, .ref (z.2.1 0)), (1, .int x1), (2, .int x2), (3, .int x3), (4, .int x4), (5, .int x5)]) hx hb dX11_isNamed_6 hl (by decide) rfl (fun ls hl => ?_)
  refine lv_iconst (v := 0) hx hb dX11_isNamed_8 (by decide) ?_
  refine lv_istore (lv' := [(7, .int 0), (6, .int v_2), (0, .ref (z.2.1 0)), (1, .int x1), (2, .int x2), (3, .int x3), (4, .int x4), (5, .int x5)]) hx hb dX11_isNamed_9 hl (by decide) rfl (fun ls hl => ?_)
  have L_4 : ∀ (n : Nat) (x7_3 : Int32) (exL_4 : Sum (Int32) (Unit)) (ls : Array Slot), f_X11_isNamed_L11 w x1 x2 x3 x4 x5 v_2 n x7_3 = some exL_4 → lv_has ls 11 [(0, .ref (z.2.1 0)), (1, .int x1), (2, .int x2), (3, .int x3), (4, .int x4), (5, .int x5), (6, .int v_2), (7, .int x7_3)] → (∀ ret, exL_4 = .inl ret → some (ret) = some r) → (∀ x, exL_4 = .inr x → ∀ (ls : Array Slot), lv_has ls 11 [] → W p l e (rm 1 22) s m args below meth c s.heap [] 0 0 Q (F0 m 107 ls [])) → W p l e (rm 1 22) s m args below meth c s.heap [] 0 0 Q (F0 m 11 ls []) := by
    intro n
    induction n with
    | zero =>
      intro x7_3 exL_4 ls hf
      have hf : (none : Option (Sum (Int32) (Unit))) = some exL_4 := hf
      cases hf
    | succ n ihL_4 =>
      intro x7_3 exL_4 ls hf hl hRL_4 hEL_4
      rw [f_X11_isNamed_L11_s] at hf
      refine lv_iload hx hb dX11_isNamed_11 (lv_at hl 7 rfl) ?_
      refine lv_aload_n hx hb dX11_isNamed_13 rfl (lv_at hl 0 rfl) ?_
      refine get_X11_27 hx hb hts in_X11_isNamed_X11 hown hK hz hW lk_X11_isNamed_1 dX11_isNamed_14 ?_
      refine lv_iload_n hx hb dX11_isNamed_17 rfl (lv_at hl 1 rfl) ?_
      obtain ⟨g_5, hf⟩ := of_gd hf
      refine ld_M16 hx hb hK hz hW g_5 dX11_isNamed_18 ?_
      refine lv_icmp_ge (tgt := 107) hx hb dX11_isNamed_19 (by decide) (fun c_6 => ?_) (fun c_6 => ?_)
      · have hf := of_t c_6 hf
        exact hEL_4 _ (Option.some.inj hf).symm _ (lv_sub hl [] rfl)
      · have hf := of_f c_6 hf
        refine lv_aload_n hx hb dX11_isNamed_22 rfl (lv_at hl 0 rfl) ?_
        refine get_X11_28 hx hb hts in_X11_isNamed_X11 hown hK hz hW lk_X11_isNamed_2 dX11_isNamed_23 ?_
        refine lv_sipush (v := 400) hx hb dX11_isNamed_26 (by decide) ?_
        refine lv_iload_n hx hb dX11_isNamed_29 rfl (lv_at hl 1 rfl) ?_
        refine lv_imul hx hb dX11_isNamed_30 ?_
        refine lv_iload hx hb dX11_isNamed_31 (lv_at hl 7 rfl) ?_
        refine lv_iadd hx hb dX11_isNamed_33 ?_
        obtain ⟨g_7, hf⟩ := of_gd hf
        refine ld_M17 hx hb hK hz hW g_7 dX11_isNamed_34 ?_
        refine lv_topl (fun v_8 ev_8 => ?_)
        have hf := of_lt ev_8 hf
        refine lv_l2i hx hb dX11_isNamed_35 rfl ?_
        refine lv_topi (fun v_9 ev_9 => ?_)
        have hf := of_lt ev_9 hf
        refine lv_istore (lv' := [(8, .int v_9), (0, .ref (z.2.1 0)), (1, .int x1), (2, .int x2), (3, .int x3), (4, .int x4), (5, .int x5), (6, .int v_2), (7, .int x7_3)]) hx hb dX11_isNamed_36 hl (by decide) rfl (fun ls hl => ?_)
        refine lv_iload hx hb dX11_isNamed_38 (lv_at hl 6 rfl) ?_
        refine lv_iload hx hb dX11_isNamed_40 (lv_at hl 5 rfl) ?_
        refine lv_iload hx hb dX11_isNamed_42 (lv_at hl 8 rfl) ?_
        refine lv_imul hx hb dX11_isNamed_44 ?_
        refine lv_iadd hx hb dX11_isNamed_45 ?_
        refine lv_iload hx hb dX11_isNamed_46 (lv_at hl 7 rfl) ?_
        obtain ⟨g_10, hf⟩ := of_gd hf
        refine lv_irem hx hb dX11_isNamed_48 g_10 ?_
        refine lv_topi (fun v_11 ev_11 => ?_)
        have hf := of_lt (e := irm (x5 + (x4 * x7_3)) v_2) ev_11 hf
        refine lv_istore (lv' := [(9, .int v_11), (8, .int v_9), (0, .ref (z.2.1 0)), (1, .int x1), (2, .int x2), (3, .int x3), (4, .int x4), (5, .int x5), (6, .int v_2), (7, .int x7_3)]) hx hb dX11_isNamed_49 hl (by decide) rfl (fun ls hl => ?_)
        refine lv_aload_n hx hb dX11_isNamed_51 rfl (lv_at hl 2 rfl) ?_
        refine get_X11_6 hx hb hts in_X11_isNamed_X11 hown hK hz hW lk_X11_isNamed_3 dX11_isNamed_52 ?_
        refine lv_bipush (v := 48) hx hb dX11_isNamed_55 (by decide) ?_
        refine lv_iload_n hx hb dX11_isNamed_57 rfl (lv_at hl 5 rfl) ?_
        refine lv_imul hx hb dX11_isNamed_58 ?_
        refine lv_iload hx hb dX11_isNamed_59 (lv_at hl 0 rfl) ?_
        have J_13 : ∀ (v_12 : Int32) (ls : Array Slot), v_12 = (if 0 ≤ v_11 then v_11 else (v_11 + v_2)) → lv_has ls 11 [(0, .ref (z.2.1 0)), (1, .int x1), (2, .int x2), (3, .int x3), (4, .int x4), (5, .int x5), (6, .int v_2), (7, .int x7_3), (8, .int v_9)] → W p l e (rm 1 22) s m args below meth c s.heap [] 0 0 Q (F0 m 74 ls [.int v_12, .int (48 * x3), .ref (z.2.1 4)]) := by
          intro v_12 ls ev_12 hl
          have hf := of_lt ev_12 hf
          refine lv_iadd hx hb dX11_isNamed_74 ?_
          obtain ⟨g_14, hf⟩ := of_gd hf
          refine ld_M4 hx hb hK hz hW g_14 dX11_isNamed_75 ?_
          refine lv_topi (fun v_15 ev_15 => ?_)
          have hf := of_lt ev_15 hf
          refine lv_istore (lv' := [(10, .int v_15), (0, .ref (z.2.1 0)), (1, .int x1), (2, .int x2), (3, .int x3), (4, .int x4), (5, .int x5), (6, .int v_2), (7, .int x7_3), (8, .int v_9)]) hx hb dX11_isNamed_76 hl (by decide) rfl (fun ls hl => ?_)
          refine lv_iload hx hb dX11_isNamed_78 (lv_at hl 9 rfl) ?_
          refine lv_bipush (v := (-128)) hx hb dX11_isNamed_80 (by decide) ?_
          refine lv_icmp_eq (tgt := 101) hx hb dX11_isNamed_82 (by decide) (fun c_16 => ?_) (fun c_16 => ?_)
          · have hf := of_t c_16 hf
            obtain ⟨x7_17, ex7_17⟩ : ∃ y : Int32, y = x7_3 + 1 := ⟨_, rfl⟩
            have hf := of_lt ex7_17 hf
            refine lv_iinc (v := x7_17) (lv' := [(7, .int x7_17), (10, .int v_15), (0, .ref (z.2.1 0)), (1, .int x1), (2, .int x2), (3, .int x3), (4, .int x4), (5, .int x5), (6, .int v_2), (8, .int v_9)]) hx hb dX11_isNamed_101 hl (k := 8) rfl (by rw [ex7_17]; rfl) (by decide) rfl (fun ls hl => ?_)
            refine lv_goto (tgt := 11) hx hb dX11_isNamed_104 (by decide) ?_
            exact ihL_4 _ _ _ hf (lv_sub hl [2, 3, 4, 5, 6, 7, 8, 0] rfl) hRL_4 hEL_4
          · have hf := of_f c_16 hf
            refine lv_iload hx hb dX11_isNamed_85 (lv_at hl 9 rfl) ?_
            refine lv_iload hx hb dX11_isNamed_87 (lv_at hl 0 rfl) ?_
            refine lv_iload_n hx hb dX11_isNamed_89 rfl (lv_at hl 3 rfl) ?_
            refine lv_isub hx hb dX11_isNamed_90 ?_
            refine lv_iload hx hb dX11_isNamed_91 (lv_at hl 0 rfl) ?_
            obtain ⟨r_18, hq_19, hf⟩ := of_bd hf
            refine m_goRi (va_runS (As := [.int v_9, .int (v_15 - x2), .int v_15]) (rest := []) ⟨hx, hb, hml, hown, hts⟩ (c_X11_in l hz v_9 (v_15 - x2) v_15 w hq_19) (va_cwS 3 hts gX11_isNamed_X11_in rfl rfl rfl (by decide +kernel) ⟨Nat.le_of_ble_eq_true rfl, Nat.le_of_ble_eq_true rfl⟩) (m_preS hK hW _) rfl rfl hl.1 rfl (lv_room (Nat.le_of_ble_eq_true rfl)) dX11_isNamed_93 ⟨Nat.le_refl _, Nat.le_refl _⟩) ?_
            refine lv_if_ne (tgt := 101) hx hb dX11_isNamed_96 (by decide) (fun c_20 => ?_) (fun c_20 => ?_)
            · have hf := of_f c_20 hf
              obtain ⟨x7_21, ex7_21⟩ : ∃ y : Int32, y = x7_3 + 1 := ⟨_, rfl⟩
              have hf := of_lt ex7_21 hf
              refine lv_iinc (v := x7_21) (lv' := [(7, .int x7_21), (10, .int v_15), (0, .ref (z.2.1 0)), (1, .int x1), (2, .int x2), (3, .int x3), (4, .int x4), (5, .int x5), (6, .int v_2), (8, .int v_9)]) hx hb dX11_isNamed_101 hl (k := 8) rfl (by rw [ex7_21]; rfl) (by decide) rfl (fun ls hl => ?_)
              refine lv_goto (tgt := 11) hx hb dX11_isNamed_104 (by decide) ?_
              exact ihL_4 _ _ _ hf (lv_sub hl [2, 3, 4, 5, 6, 7, 8, 0] rfl) hRL_4 hEL_4
            · have hf := of_t c_20 hf
              refine lv_iconst (v := 0) hx hb dX11_isNamed_99 (by decide) ?_
              exact hret _ _ _ (hRL_4 _ (Option.some.inj hf).symm) rfl dX11_isNamed_100
        refine lv_if_ge (tgt := 72) hx hb dX11_isNamed_61 (by decide) (fun c_22 => ?_) (fun c_22 => ?_)
        · refine lv_iload hx hb dX11_isNamed_72 (lv_at hl 0 rfl) ?_
          exact J_13 _ _ (by rw [if_pos c_22]) (lv_sub hl [2, 3, 4, 5, 6, 7, 8, 9, 1] rfl)
        · refine lv_iload hx hb dX11_isNamed_64 (lv_at hl 0 rfl) ?_
          refine lv_iload hx hb dX11_isNamed_66 (lv_at hl 8 rfl) ?_
          refine lv_iadd hx hb dX11_isNamed_68 ?_
          refine lv_goto (tgt := 74) hx hb dX11_isNamed_69 (by decide) ?_
          exact J_13 _ _ (by rw [if_neg c_22]) (lv_sub hl [2, 3, 4, 5, 6, 7, 8, 9, 1] rfl)
  obtain ⟨ex_24, hq_23, hf⟩ := of_bd hf
  refine L_4 FU _ _ _ hq_23 (lv_sub hl [2, 3, 4, 5, 6, 7, 1, 0] rfl) (fun ret he => by subst he; exact hf) (fun x he ls hl => ?_)
  subst he
  have hf := of_sr hf
  have hl : lv_has ls 11 [] := hl
  refine lv_iconst (v := 1) hx hb dX11_isNamed_107 (by decide) ?_
  exact hret _ _ _ hf rfl dX11_isNamed_108
theorem in_X11_namesOf_X11 : ∀ w ∈ wsX110, w ∈ wsX11_namesOf := by decide +kernel
theorem lk_X11_namesOf_0 : Cond.fieldLink RX11 295 "CamStitchModel" "nameAt" "I" ∈ wsX11_namesOf := by decide +kernel
theorem lk_X11_namesOf_1 : Cond.fieldLink RX11 16 "CamStitchModel" "many" "[I" ∈ wsX11_namesOf := by decide +kernel
set_option maxHeartbeats 4000000 in
set_option maxRecDepth 100000 in
theorem c_X11_namesOf (l : Launch) {z : LZ} (hz : IM z) (x1 : Int32) (x2 : Int32) (x3 : Int32) (w : Mem) {r : Int32} {w' : Mem} (hf : f_X11_namesOf x1 x2 x3 w = some (r, w')) : Met l yX11_namesOf wsX11_namesOf (rm 2 52) (PZ z w [.ref (z.2.1 0), .int x1, .int x2, .int x3]) (QW z (some (.int r)) w') 0 0 (az z) := by
  refine mk_Wi (cc := cX11_namesOf) (maxL := 8) (by decide +kernel) rfl (Nat.le_of_ble_eq_true rfl) ?_
  intro p e s m args below meth c hx hb hml hts hown hK hW Q hret ls hl
  have hl : lv_has ls 8 [(0, .ref (z.2.1 0)), (1, .int x1), (2, .int x2), (3, .int x3)] := hl
  unfold f_X11_namesOf at hf
  have START : ∀ (H : Heap) (locs : List Loc), hd z w H → va_S (az z) s.heap H locs → W p l e (rm 2 52) s m args below meth c H locs 0 0 Q (F0 m 0 ls []) := by
    intro H locs hW hS
    refine lv_iconst (v := 0) hx hb dX11_namesOf_0 (by decide) ?_
    refine lv_istore (lv' := [(4, .int 0), (0, .ref (z.2.1 0)), (1, .int x1), (2, .int x2), (3, .int x3)]) hx hb dX11_namesOf_1 hl (by decide) rfl (fun ls hl => ?_)
    refine lv_aload_n hx hb dX11_namesOf_3 rfl (lv_at hl 1 rfl) ?_
    refine lv_iconst (v := (-1)) hx hb dX11_namesOf_4 (by decide) ?_
    refine put_X11_57 hx hb hts in_X11_namesOf_X11 hown hK hz hW hS lk_X11_namesOf_0 dX11_namesOf_5 (fun H locs hW hS => ?_)
    obtain ⟨w_1, ew_1⟩ : ∃ y : Mem, y = mS w 0 57 (-1) := ⟨_, rfl⟩
    have hW : hd z w_1 H := by rw [ew_1]; exact hW
    have hf := of_lt ew_1 hf
    refine lv_iconst (v := 0) hx hb dX11_namesOf_8 (by decide) ?_
    refine lv_istore (lv' := [(5, .int 0), (4, .int 0), (0, .ref (z.2.1 0)), (1, .int x1), (2, .int x2), (3, .int x3)]) hx hb dX11_namesOf_9 hl (by decide) rfl (fun ls hl => ?_)
    have L_5 : ∀ (n : Nat) (x4_2 : Int32) (x5_3 : Int32) (w_4 : Mem) (exL_5 : Int32 × Mem) (H : Heap) (locs : List Loc) (ls : Array Slot), f_X11_namesOf_L11 x1 x2 x3 n x4_2 x5_3 w_4 = some exL_5 → hd z w_4 H → va_S (az z) s.heap H locs → lv_has ls 8 [(0, .ref (z.2.1 0)), (1, .int x1), (2, .int x2), (3, .int x3), (4, .int x4_2), (5, .int x5_3)] → (∀ (H : Heap) (locs : List Loc) (ls : Array Slot), hd z (exL_5.2) H → va_S (az z) s.heap H locs → lv_has ls 8 [(4, .int exL_5.1)] → W p l e (rm 2 52) s m args below meth c H locs 0 0 Q (F0 m 118 ls [])) → W p l e (rm 2 52) s m args below meth c H locs 0 0 Q (F0 m 11 ls []) := by
      intro n
      induction n with
      | zero =>
        intro x4_2 x5_3 w_4 exL_5 H locs ls hf
        have hf : (none : Option (Int32 × Mem)) = some exL_5 := hf
        cases hf
      | succ n ihL_5 =>
        intro x4_2 x5_3 w_4 exL_5 H locs ls hf hW hS hl hEL_5
        rw [f_X11_namesOf_L11_s] at hf
        refine lv_iload hx hb dX11_namesOf_11 (lv_at hl 5 rfl) ?_
        refine lv_bipush (v := 8) hx hb dX11_namesOf_13 (by decide) ?_
        refine lv_icmp_ge (tgt := 118) hx hb dX11_namesOf_15 (by decide) (fun c_6 => ?_) (fun c_6 => ?_)
        · have hf := of_t c_6 hf
          have hf := Option.some.inj hf
          subst hf
          exact hEL_5 _ _ _ hW hS (lv_sub hl [4] rfl)
        · have hf := of_f c_6 hf
          refine lv_iconst (v := 0) hx hb dX11_namesOf_18 (by decide) ?_
          refine lv_istore (lv' := [(6, .int 0), (0, .ref (z.2.1 0)), (1, .int x1), (2, .int x2), (3, .int x3), (4, .int x4_2), (5, .int x5_3)]) hx hb dX11_namesOf_19 hl (by decide) rfl (fun ls hl => ?_)
          have L_10 : ∀ (n : Nat) (x4_7 : Int32) (x6_8 : Int32) (w_9 : Mem) (exL_10 : Int32 × Mem) (H : Heap) (locs : List Loc) (ls : Array Slot), f_X11_namesOf_L21 x1 x2 x3 x5_3 n x4_7 x6_8 w_9 = some exL_10 → hd z w_9 H → va_S (az z) s.heap H locs → lv_has ls 8 [(0, .ref (z.2.1 0)), (1, .int x1), (2, .int x2), (3, .int x3), (4, .int x4_7), (5, .int x5_3), (6, .int x6_8)] → (∀ (H : Heap) (locs : List Loc) (ls : Array Slot), hd z (exL_10.2) H → va_S (az z) s.heap H locs → lv_has ls 8 [(0, .ref (z.2.1 0)), (1, .int x1), (2, .int x2), (3, .int x3), (4, .int exL_10.1), (5, .int x5_3)] → W p l e (rm 2 52) s m args below meth c H locs 0 0 Q (F0 m 112 ls [])) → W p l e (rm 2 52) s m args below meth c H locs 0 0 Q (F0 m 21 ls []) := by
            intro n
            induction n with
            | zero =>
              intro x4_7 x6_8 w_9 exL_10 H locs ls hf
              have hf : (none : Option (Int32 × Mem)) = some exL_10 := hf
              cases hf
            | succ n ihL_10 =>
              intro x4_7 x6_8 w_9 exL_10 H locs ls hf hW hS hl hEL_10
              rw [f_X11_namesOf_L21_s] at hf
              refine lv_iload hx hb dX11_namesOf_21 (lv_at hl 6 rfl) ?_
              refine lv_iconst (v := 2) hx hb dX11_namesOf_23 (by decide) ?_
              refine lv_icmp_ge (tgt := 112) hx hb dX11_namesOf_24 (by decide) (fun c_11 => ?_) (fun c_11 => ?_)
              · have hf := of_t c_11 hf
                have hf := Option.some.inj hf
                subst hf
                exact hEL_10 _ _ _ hW hS (lv_sub hl [0, 1, 2, 3, 4, 5] rfl)
              · have hf := of_f c_11 hf
                refine lv_iconst (v := 0) hx hb dX11_namesOf_27 (by decide) ?_
                refine lv_istore (lv' := [(7, .int 0), (0, .ref (z.2.1 0)), (1, .int x1), (2, .int x2), (3, .int x3), (4, .int x4_7), (5, .int x5_3), (6, .int x6_8)]) hx hb dX11_namesOf_28 hl (by decide) rfl (fun ls hl => ?_)
                have L_15 : ∀ (n : Nat) (x4_12 : Int32) (x7_13 : Int32) (w_14 : Mem) (exL_15 : Int32 × Mem) (H : Heap) (locs : List Loc) (ls : Array Slot), f_X11_namesOf_L30 x1 x2 x3 x5_3 x6_8 n x4_12 x7_13 w_14 = some exL_15 → hd z w_14 H → va_S (az z) s.heap H locs → lv_has ls 8 [(0, .ref (z.2.1 0)), (1, .int x1), (2, .int x2), (3, .int x3), (4, .int x4_12), (5, .int x5_3), (6, .int x6_8), (7, .int x7_13)] → (∀ (H : Heap) (locs : List Loc) (ls : Array Slot), hd z (exL_15.2) H → va_S (az z) s.heap H locs → lv_has ls 8 [(0, .ref (z.2.1 0)), (1, .int x1), (2, .int x2), (3, .int x3), (4, .int exL_15.1), (5, .int x5_3), (6, .int x6_8)] → W p l e (rm 2 52) s m args below meth c H locs 0 0 Q (F0 m 106 ls [])) → W p l e (rm 2 52) s m args below meth c H locs 0 0 Q (F0 m 30 ls []) := by
                  intro n
                  induction n with
                  | zero =>
                    intro x4_12 x7_13 w_14 exL_15 H locs ls hf
                    have hf : (none : Option (Int32 × Mem)) = some exL_15 := hf
                    cases hf
                  | succ n ihL_15 =>
                    intro x4_12 x7_13 w_14 exL_15 H locs ls hf hW hS hl hEL_15
                    rw [f_X11_namesOf_L30_s] at hf
                    refine lv_iload hx hb dX11_namesOf_30 (lv_at hl 7 rfl) ?_
                    refine lv_aload_n hx hb dX11_namesOf_32 rfl (lv_at hl 0 rfl) ?_
                    refine get_X11_5 hx hb hts in_X11_namesOf_X11 hown hK hz hW lk_X11_namesOf_1 dX11_namesOf_33 ?_
                    refine lv_iload hx hb dX11_namesOf_36 (lv_at hl 5 rfl) ?_
                    obtain ⟨g_16, hf⟩ := of_gd hf
                    refine ld_M3 hx hb hK hz hW g_16 dX11_namesOf_38 ?_
                    refine lv_topi (fun v_17 ev_17 => ?_)
                    have hf := of_lt ev_17 hf
                    refine lv_icmp_ge (tgt := 106) hx hb dX11_namesOf_39 (by decide) (fun c_18 => ?_) (fun c_18 => ?_)
                    · have hf := of_t c_18 hf
                      have hf := Option.some.inj hf
                      subst hf
                      exact hEL_15 _ _ _ hW hS (lv_sub hl [0, 1, 2, 3, 4, 5, 6] rfl)
                    · have hf := of_f c_18 hf
                      refine lv_aload_n hx hb dX11_namesOf_42 rfl (lv_at hl 0 rfl) ?_
                      refine lv_iload_n hx hb dX11_namesOf_43 rfl (lv_at hl 1 rfl) ?_
                      refine lv_iload_n hx hb dX11_namesOf_44 rfl (lv_at hl 2 rfl) ?_
                      refine lv_iload hx hb dX11_namesOf_45 (lv_at hl 5 rfl) ?_
                      refine lv_iload hx hb dX11_namesOf_47 (lv_at hl 6 rfl) ?_
                      have J_20 : ∀ (v_19 : Int32) (ls : Array Slot), v_19 = (if x6_8 = 0 then 1 else (-1)) → lv_has ls 8 [(0, .ref (z.2.1 0)), (1, .int x1), (2, .int x2), (3, .int x3), (4, .int x4_12), (5, .int x5_3), (6, .int x6_8), (7, .int x7_13)] → W p l e (rm 2 52) s m args below meth c H locs 0 0 Q (F0 m 57 ls [.int v_19, .int x5_3, .int x2, .int x1, .ref (z.2.1 0)]) := by
                        intro v_19 ls ev_19 hl
                        have hf := of_lt ev_19 hf
                        refine lv_iload hx hb dX11_namesOf_57 (lv_at hl 7 rfl) ?_
                        obtain ⟨r_21, hq_22, hf⟩ := of_bd hf
                        refine m_goRi (va_runV (As := [.int x1, .int x2, .int x5_3, .int v_19, .int x7_13]) (rest := []) ⟨hx, hb, hml, hown, hts⟩ (c_X11_isNamed l hz x1 x2 x5_3 v_19 x7_13 w_14 hq_22) (cwV 5 hts gX11_namesOf_X11_isNamed rfl rfl rfl (by decide +kernel) ⟨Nat.le_of_ble_eq_true rfl, Nat.le_of_ble_eq_true rfl⟩) (pre_X11 hK hz hW _) rfl rfl hl.1 rfl (lv_room (Nat.le_of_ble_eq_true rfl)) dX11_namesOf_59 ⟨Nat.le_refl _, Nat.le_refl _⟩) ?_
                        refine lv_if_eq (tgt := 100) hx hb dX11_namesOf_62 (by decide) (fun c_23 => ?_) (fun c_23 => ?_)
                        · have hf := of_t c_23 hf
                          obtain ⟨x7_24, ex7_24⟩ : ∃ y : Int32, y = x7_13 + 1 := ⟨_, rfl⟩
                          have hf := of_lt ex7_24 hf
                          refine lv_iinc (v := x7_24) (lv' := [(7, .int x7_24), (0, .ref (z.2.1 0)), (1, .int x1), (2, .int x2), (3, .int x3), (4, .int x4_12), (5, .int x5_3), (6, .int x6_8)]) hx hb dX11_namesOf_100 hl (k := 7) rfl (by rw [ex7_24]; rfl) (by decide) rfl (fun ls hl => ?_)
                          refine lv_goto (tgt := 30) hx hb dX11_namesOf_103 (by decide) ?_
                          exact ihL_15 _ _ _ _ _ _ _ hf hW hS (lv_sub hl [1, 2, 3, 4, 5, 6, 7, 0] rfl) hEL_15
                        · have hf := of_f c_23 hf
                          refine lv_aload_n hx hb dX11_namesOf_65 rfl (lv_at hl 0 rfl) ?_
                          refine lv_iload hx hb dX11_namesOf_66 (lv_at hl 4 rfl) ?_
                          refine lv_iload_n hx hb dX11_namesOf_68 rfl (lv_at hl 3 rfl) ?_
                          have J_26 : ∀ (v_25 : Int32) (ls : Array Slot), v_25 = (if x4_12 = x3 then (((1000 * x5_3) + (100 * x6_8)) + x7_13) else (w_14.1 0 57)) → lv_has ls 8 [(0, .ref (z.2.1 0)), (1, .int x1), (2, .int x2), (3, .int x3), (4, .int x4_12), (5, .int x5_3), (6, .int x6_8), (7, .int x7_13)] → W p l e (rm 2 52) s m args below meth c H locs 0 0 Q (F0 m 94 ls [.int v_25, .ref (z.2.1 0)]) := by
                            intro v_25 ls ev_25 hl
                            have hf := of_lt ev_25 hf
                            refine put_X11_57 hx hb hts in_X11_namesOf_X11 hown hK hz hW hS lk_X11_namesOf_0 dX11_namesOf_94 (fun H locs hW hS => ?_)
                            obtain ⟨w_27, ew_27⟩ : ∃ y : Mem, y = mS w_14 0 57 v_25 := ⟨_, rfl⟩
                            have hW : hd z w_27 H := by rw [ew_27]; exact hW
                            have hf := of_lt ew_27 hf
                            obtain ⟨x4_28, ex4_28⟩ : ∃ y : Int32, y = x4_12 + 1 := ⟨_, rfl⟩
                            have hf := of_lt ex4_28 hf
                            refine lv_iinc (v := x4_28) (lv' := [(4, .int x4_28), (0, .ref (z.2.1 0)), (1, .int x1), (2, .int x2), (3, .int x3), (5, .int x5_3), (6, .int x6_8), (7, .int x7_13)]) hx hb dX11_namesOf_97 hl (k := 4) rfl (by rw [ex4_28]; rfl) (by decide) rfl (fun ls hl => ?_)
                            obtain ⟨x7_29, ex7_29⟩ : ∃ y : Int32, y = x7_13 + 1 := ⟨_, rfl⟩
                            have hf := of_lt ex7_29 hf
                            refine lv_iinc (v := x7_29) (lv' := [(7, .int x7_29), (4, .int x4_28), (0, .ref (z.2.1 0)), (1, .int x1), (2, .int x2), (3, .int x3), (5, .int x5_3), (6, .int x6_8)]) hx hb dX11_namesOf_100 hl (k := 7) rfl (by rw [ex7_29]; rfl) (by decide) rfl (fun ls hl => ?_)
                            refine lv_goto (tgt := 30) hx hb dX11_namesOf_103 (by decide) ?_
                            exact ihL_15 _ _ _ _ _ _ _ hf hW hS (lv_sub hl [2, 3, 4, 5, 1, 6, 7, 0] rfl) hEL_15
                          refine lv_icmp_ne (tgt := 90) hx hb dX11_namesOf_69 (by decide) (fun c_30 => ?_) (fun c_30 => ?_)
                          · refine lv_aload_n hx hb dX11_namesOf_90 rfl (lv_at hl 0 rfl) ?_
                            refine get_X11_57 hx hb hts in_X11_namesOf_X11 hown hK hz hW lk_X11_namesOf_0 dX11_namesOf_91 ?_
                            exact J_26 _ _ (by rw [if_neg c_30]) (lv_sub hl [0, 1, 2, 3, 4, 5, 6, 7] rfl)
                          · refine lv_sipush (v := 1000) hx hb dX11_namesOf_72 (by decide) ?_
                            refine lv_iload hx hb dX11_namesOf_75 (lv_at hl 5 rfl) ?_
                            refine lv_imul hx hb dX11_namesOf_77 ?_
                            refine lv_bipush (v := 100) hx hb dX11_namesOf_78 (by decide) ?_
                            refine lv_iload hx hb dX11_namesOf_80 (lv_at hl 6 rfl) ?_
                            refine lv_imul hx hb dX11_namesOf_82 ?_
                            refine lv_iadd hx hb dX11_namesOf_83 ?_
                            refine lv_iload hx hb dX11_namesOf_84 (lv_at hl 7 rfl) ?_
                            refine lv_iadd hx hb dX11_namesOf_86 ?_
                            refine lv_goto (tgt := 94) hx hb dX11_namesOf_87 (by decide) ?_
                            exact J_26 _ _ (by rw [if_pos c_30]) (lv_sub hl [0, 1, 2, 3, 4, 5, 6, 7] rfl)
                      refine lv_if_ne (tgt := 56) hx hb dX11_namesOf_49 (by decide) (fun c_31 => ?_) (fun c_31 => ?_)
                      · refine lv_iconst (v := (-1)) hx hb dX11_namesOf_56 (by decide) ?_
                        exact J_20 _ _ (by rw [if_neg c_31]) (lv_sub hl [0, 1, 2, 3, 4, 5, 6, 7] rfl)
                      · refine lv_iconst (v := 1) hx hb dX11_namesOf_52 (by decide) ?_
                        refine lv_goto (tgt := 57) hx hb dX11_namesOf_53 (by decide) ?_
                        exact J_20 _ _ (by rw [if_pos c_31]) (lv_sub hl [0, 1, 2, 3, 4, 5, 6, 7] rfl)
                obtain ⟨ex_33, hq_32, hf⟩ := of_bd hf
                obtain ⟨x4_34, w_35⟩ := ex_33
                have hf := of_tp2 hf
                refine L_15 FU _ _ _ _ _ _ _ hq_32 hW hS (lv_sub hl [1, 2, 3, 4, 5, 6, 7, 0] rfl) (fun H locs ls hW hS hl => ?_)
                have hW : hd z w_35 H := hW
                have hl : lv_has ls 8 [(0, .ref (z.2.1 0)), (1, .int x1), (2, .int x2), (3, .int x3), (4, .int x4_34), (5, .int x5_3), (6, .int x6_8)] := hl
                obtain ⟨x6_36, ex6_36⟩ : ∃ y : Int32, y = x6_8 + 1 := ⟨_, rfl⟩
                have hf := of_lt ex6_36 hf
                refine lv_iinc (v := x6_36) (lv' := [(6, .int x6_36), (0, .ref (z.2.1 0)), (1, .int x1), (2, .int x2), (3, .int x3), (4, .int x4_34), (5, .int x5_3)]) hx hb dX11_namesOf_106 hl (k := 6) rfl (by rw [ex6_36]; rfl) (by decide) rfl (fun ls hl => ?_)
                refine lv_goto (tgt := 21) hx hb dX11_namesOf_109 (by decide) ?_
                exact ihL_10 _ _ _ _ _ _ _ hf hW hS (lv_sub hl [1, 2, 3, 4, 5, 6, 0] rfl) hEL_10
          obtain ⟨ex_38, hq_37, hf⟩ := of_bd hf
          obtain ⟨x4_39, w_40⟩ := ex_38
          have hf := of_tp2 hf
          refine L_10 FU _ _ _ _ _ _ _ hq_37 hW hS (lv_sub hl [1, 2, 3, 4, 5, 6, 0] rfl) (fun H locs ls hW hS hl => ?_)
          have hW : hd z w_40 H := hW
          have hl : lv_has ls 8 [(0, .ref (z.2.1 0)), (1, .int x1), (2, .int x2), (3, .int x3), (4, .int x4_39), (5, .int x5_3)] := hl
          obtain ⟨x5_41, ex5_41⟩ : ∃ y : Int32, y = x5_3 + 1 := ⟨_, rfl⟩
          have hf := of_lt ex5_41 hf
          refine lv_iinc (v := x5_41) (lv' := [(5, .int x5_41), (0, .ref (z.2.1 0)), (1, .int x1), (2, .int x2), (3, .int x3), (4, .int x4_39)]) hx hb dX11_namesOf_112 hl (k := 5) rfl (by rw [ex5_41]; rfl) (by decide) rfl (fun ls hl => ?_)
          refine lv_goto (tgt := 11) hx hb dX11_namesOf_115 (by decide) ?_
          exact ihL_5 _ _ _ _ _ _ _ hf hW hS (lv_sub hl [1, 2, 3, 4, 5, 0] rfl) hEL_5
    obtain ⟨ex_43, hq_42, hf⟩ := of_bd hf
    obtain ⟨x4_44, w_45⟩ := ex_43
    have hf := of_tp2 hf
    refine L_5 FU _ _ _ _ _ _ _ hq_42 hW hS (lv_sub hl [2, 3, 4, 5, 1, 0] rfl) (fun H locs ls hW hS hl => ?_)
    have hW : hd z w_45 H := hW
    have hl : lv_has ls 8 [(4, .int x4_44)] := hl
    refine lv_iload hx hb dX11_namesOf_118 (lv_at hl 0 rfl) ?_
    exact hret _ _ _ _ _ _ hf hW hS dX11_namesOf_120
  exact START _ _ hW va_S.rf
set_option maxHeartbeats 4000000 in
set_option maxRecDepth 100000 in
theorem c_X11_names (l : Launch) {z : LZ} (hz : IM z) (x1 : Int32) (x2 : Int32) (w : Mem) {r : Int32} {w' : Mem} (hf : f_X11_names x1 x2 w = some (r, w')) : Met l yX11_names wsX11_names (rm 3 79) (PZ z w [.ref (z.2.1 0), .int x1, .int x2]) (QW z (some (.int r)) w') 0 0 (az z) := by
  refine mk_Wi (cc := cX11_names) (maxL := 4) (by decide +kernel) rfl (Nat.le_of_ble_eq_true rfl) ?_
  intro p e s m args below meth c hx hb hml hts hown hK hW Q hret ls hl
  have hl : lv_has ls 4 [(0, .ref (z.2.1 0)), (1, .int x1), (2, .int x2)] := hl
  unfold f_X11_names at hf
  have START : ∀ (H : Heap) (locs : List Loc), hd z w H → va_S (az z) s.heap H locs → W p l e (rm 3 79) s m args below meth c H locs 0 0 Q (F0 m 0 ls []) := by
    intro H locs hW hS
    refine lv_aload_n hx hb dX11_names_0 rfl (lv_at hl 0 rfl) ?_
    refine lv_iload_n hx hb dX11_names_1 rfl (lv_at hl 1 rfl) ?_
    refine lv_iload_n hx hb dX11_names_2 rfl (lv_at hl 2 rfl) ?_
    refine lv_iconst (v := 0) hx hb dX11_names_3 (by decide) ?_
    refine lv_bipush (v := 6) hx hb dX11_names_4 (by decide) ?_
    obtain ⟨r_1, hq_2, hf⟩ := of_bd hf
    refine m_goRi (va_runS (As := [.int x2, .int 0, .int 6]) (rest := [.int x1, .ref (z.2.1 0)]) ⟨hx, hb, hml, hown, hts⟩ (c_X11_in l hz x2 0 6 w hq_2) (va_cwS 3 hts gX11_names_X11_in rfl rfl rfl (by decide +kernel) ⟨Nat.le_of_ble_eq_true rfl, Nat.le_of_ble_eq_true rfl⟩) (m_preS hK hW _) rfl rfl hl.1 rfl (lv_room (Nat.le_of_ble_eq_true rfl)) dX11_names_6 ⟨Nat.le_refl _, Nat.le_refl _⟩) ?_
    obtain ⟨r_3, w_5, hq_4, hf⟩ := of_b2 hf
    refine m_goWi (va_runV (As := [.int x1, .int r_1]) (rest := []) ⟨hx, hb, hml, hown, hts⟩ (c_X11_lacksRim l hz x1 r_1 w hq_4) (cwV 2 hts gX11_names_X11_lacksRim rfl rfl rfl (by decide +kernel) ⟨Nat.le_of_ble_eq_true rfl, Nat.le_of_ble_eq_true rfl⟩) (pre_X11 hK hz hW _) rfl rfl hl.1 rfl (lv_room (Nat.le_of_ble_eq_true rfl)) dX11_names_9 ⟨Nat.le_refl _, Nat.le_refl _⟩) hS (fun H locs hW hS => ?_)
    refine lv_istore_n (lv' := [(3, .int r_3), (0, .ref (z.2.1 0)), (1, .int x1), (2, .int x2)]) hx hb dX11_names_12 rfl hl (by decide) rfl (fun ls hl => ?_)
    refine lv_iload_n hx hb dX11_names_13 rfl (lv_at hl 0 rfl) ?_
    refine lv_if_eq (tgt := 21) hx hb dX11_names_14 (by decide) (fun c_6 => ?_) (fun c_6 => ?_)
    · have hf := of_t c_6 hf
      refine lv_aload_n hx hb dX11_names_21 rfl (lv_at hl 1 rfl) ?_
      refine lv_iload_n hx hb dX11_names_22 rfl (lv_at hl 2 rfl) ?_
      refine lv_iload_n hx hb dX11_names_23 rfl (lv_at hl 3 rfl) ?_
      refine lv_iconst (v := (-1)) hx hb dX11_names_24 (by decide) ?_
      obtain ⟨r_7, w_9, hq_8, hf⟩ := of_b2 hf
      refine m_goWi (va_runV (As := [.int x1, .int x2, .int (-1)]) (rest := []) ⟨hx, hb, hml, hown, hts⟩ (c_X11_namesOf l hz x1 x2 (-1) w_5 hq_8) (cwV 3 hts gX11_names_X11_namesOf rfl rfl rfl (by decide +kernel) ⟨Nat.le_of_ble_eq_true rfl, Nat.le_of_ble_eq_true rfl⟩) (pre_X11 hK hz hW _) rfl rfl hl.1 rfl (lv_room (Nat.le_of_ble_eq_true rfl)) dX11_names_25 ⟨Nat.le_refl _, Nat.le_refl _⟩) hS (fun H locs hW hS => ?_)
      exact hret _ _ _ _ _ _ hf hW hS dX11_names_28
    · have hf := of_f c_6 hf
      refine lv_iload_n hx hb dX11_names_17 rfl (lv_at hl 0 rfl) ?_
      refine lv_goto (tgt := 28) hx hb dX11_names_18 (by decide) ?_
      exact hret _ _ _ _ _ _ hf hW hS dX11_names_28
  exact START _ _ hW va_S.rf
theorem in_X11_name_X11 : ∀ w ∈ wsX110, w ∈ wsX11_name := by decide +kernel
theorem lk_X11_name_0 : Cond.fieldLink RX11 295 "CamStitchModel" "nameAt" "I" ∈ wsX11_name := by decide +kernel
set_option maxHeartbeats 4000000 in
set_option maxRecDepth 100000 in
theorem c_X11_name (l : Launch) {z : LZ} (hz : IM z) (x1 : Int32) (x2 : Int32) (x3 : Int32) (w : Mem) {r : Int32} {w' : Mem} (hf : f_X11_name x1 x2 x3 w = some (r, w')) : Met l yX11_name wsX11_name (rm 3 79) (PZ z w [.ref (z.2.1 0), .int x1, .int x2, .int x3]) (QW z (some (.int r)) w') 0 0 (az z) := by
  refine mk_Wi (cc := cX11_name) (maxL := 6) (by decide +kernel) rfl (Nat.le_of_ble_eq_true rfl) ?_
  intro p e s m args below meth c hx hb hml hts hown hK hW Q hret ls hl
  have hl : lv_has ls 6 [(0, .ref (z.2.1 0)), (1, .int x1), (2, .int x2), (3, .int x3)] := hl
  unfold f_X11_name at hf
  have START : ∀ (H : Heap) (locs : List Loc), hd z w H → va_S (az z) s.heap H locs → W p l e (rm 3 79) s m args below meth c H locs 0 0 Q (F0 m 0 ls []) := by
    intro H locs hW hS
    refine lv_aload_n hx hb dX11_name_0 rfl (lv_at hl 0 rfl) ?_
    refine lv_iload_n hx hb dX11_name_1 rfl (lv_at hl 1 rfl) ?_
    refine lv_iload_n hx hb dX11_name_2 rfl (lv_at hl 2 rfl) ?_
    refine lv_iconst (v := 0) hx hb dX11_name_3 (by decide) ?_
    refine lv_bipush (v := 6) hx hb dX11_name_4 (by decide) ?_
    obtain ⟨r_1, hq_2, hf⟩ := of_bd hf
    refine m_goRi (va_runS (As := [.int x2, .int 0, .int 6]) (rest := [.int x1, .ref (z.2.1 0)]) ⟨hx, hb, hml, hown, hts⟩ (c_X11_in l hz x2 0 6 w hq_2) (va_cwS 3 hts gX11_name_X11_in rfl rfl rfl (by decide +kernel) ⟨Nat.le_of_ble_eq_true rfl, Nat.le_of_ble_eq_true rfl⟩) (m_preS hK hW _) rfl rfl hl.1 rfl (lv_room (Nat.le_of_ble_eq_true rfl)) dX11_name_6 ⟨Nat.le_refl _, Nat.le_refl _⟩) ?_
    have J_4 : ∀ (v_3 : Int32) (ls : Array Slot), v_3 = (if r_1 = 0 then 0 else (if x3 < 0 then 0 else 1)) → lv_has ls 6 [(0, .ref (z.2.1 0)), (1, .int x1), (2, .int x2), (3, .int x3)] → W p l e (rm 3 79) s m args below meth c H locs 0 0 Q (F0 m 21 ls [.int v_3, .int x1, .ref (z.2.1 0)]) := by
      intro v_3 ls ev_3 hl
      have hf := of_lt ev_3 hf
      obtain ⟨r_5, w_7, hq_6, hf⟩ := of_b2 hf
      refine m_goWi (va_runV (As := [.int x1, .int v_3]) (rest := []) ⟨hx, hb, hml, hown, hts⟩ (c_X11_lacksRim l hz x1 v_3 w hq_6) (cwV 2 hts gX11_name_X11_lacksRim rfl rfl rfl (by decide +kernel) ⟨Nat.le_of_ble_eq_true rfl, Nat.le_of_ble_eq_true rfl⟩) (pre_X11 hK hz hW _) rfl rfl hl.1 rfl (lv_room (Nat.le_of_ble_eq_true rfl)) dX11_name_21 ⟨Nat.le_refl _, Nat.le_refl _⟩) hS (fun H locs hW hS => ?_)
      refine lv_istore (lv' := [(4, .int r_5), (0, .ref (z.2.1 0)), (1, .int x1), (2, .int x2), (3, .int x3)]) hx hb dX11_name_24 hl (by decide) rfl (fun ls hl => ?_)
      refine lv_iload hx hb dX11_name_26 (lv_at hl 0 rfl) ?_
      refine lv_if_eq (tgt := 34) hx hb dX11_name_28 (by decide) (fun c_8 => ?_) (fun c_8 => ?_)
      · have hf := of_t c_8 hf
        refine lv_aload_n hx hb dX11_name_34 rfl (lv_at hl 1 rfl) ?_
        refine lv_iload_n hx hb dX11_name_35 rfl (lv_at hl 2 rfl) ?_
        refine lv_iload_n hx hb dX11_name_36 rfl (lv_at hl 3 rfl) ?_
        refine lv_iload_n hx hb dX11_name_37 rfl (lv_at hl 4 rfl) ?_
        obtain ⟨r_9, w_11, hq_10, hf⟩ := of_b2 hf
        refine m_goWi (va_runV (As := [.int x1, .int x2, .int x3]) (rest := []) ⟨hx, hb, hml, hown, hts⟩ (c_X11_namesOf l hz x1 x2 x3 w_7 hq_10) (cwV 3 hts gX11_name_X11_namesOf rfl rfl rfl (by decide +kernel) ⟨Nat.le_of_ble_eq_true rfl, Nat.le_of_ble_eq_true rfl⟩) (pre_X11 hK hz hW _) rfl rfl hl.1 rfl (lv_room (Nat.le_of_ble_eq_true rfl)) dX11_name_38 ⟨Nat.le_refl _, Nat.le_refl _⟩) hS (fun H locs hW hS => ?_)
        refine lv_istore (lv' := [(5, .int r_9), (4, .int r_5), (0, .ref (z.2.1 0)), (1, .int x1), (2, .int x2), (3, .int x3)]) hx hb dX11_name_41 hl (by decide) rfl (fun ls hl => ?_)
        refine lv_iload_n hx hb dX11_name_43 rfl (lv_at hl 5 rfl) ?_
        refine lv_iload hx hb dX11_name_44 (lv_at hl 0 rfl) ?_
        have J_13 : ∀ (v_12 : Int32) (ls : Array Slot), v_12 = (if r_9 ≤ x3 then (-1) else (w_11.1 0 57)) → lv_has ls 6 [] → W p l e (rm 3 79) s m args below meth c H locs 0 0 Q (F0 m 57 ls [.int v_12]) := by
          intro v_12 ls ev_12 hl
          have hf := of_lt ev_12 hf
          exact hret _ _ _ _ _ _ hf hW hS dX11_name_57
        refine lv_icmp_ge (tgt := 56) hx hb dX11_name_46 (by decide) (fun c_14 => ?_) (fun c_14 => ?_)
        · refine lv_iconst (v := (-1)) hx hb dX11_name_56 (by decide) ?_
          exact J_13 _ _ (by rw [if_pos c_14]) (lv_sub hl [] rfl)
        · refine lv_aload_n hx hb dX11_name_49 rfl (lv_at hl 2 rfl) ?_
          refine get_X11_57 hx hb hts in_X11_name_X11 hown hK hz hW lk_X11_name_0 dX11_name_50 ?_
          refine lv_goto (tgt := 57) hx hb dX11_name_53 (by decide) ?_
          exact J_13 _ _ (by rw [if_neg c_14]) (lv_sub hl [] rfl)
      · have hf := of_f c_8 hf
        refine lv_iload hx hb dX11_name_31 (lv_at hl 0 rfl) ?_
        exact hret _ _ _ _ _ _ hf hW hS dX11_name_33
    refine lv_if_eq (tgt := 20) hx hb dX11_name_9 (by decide) (fun c_15 => ?_) (fun c_15 => ?_)
    · refine lv_iconst (v := 0) hx hb dX11_name_20 (by decide) ?_
      exact J_4 _ _ (by rw [if_pos c_15]) (lv_sub hl [0, 1, 2, 3] rfl)
    · refine lv_iload_n hx hb dX11_name_12 rfl (lv_at hl 3 rfl) ?_
      refine lv_if_lt (tgt := 20) hx hb dX11_name_13 (by decide) (fun c_16 => ?_) (fun c_16 => ?_)
      · refine lv_iconst (v := 0) hx hb dX11_name_20 (by decide) ?_
        exact J_4 _ _ (by rw [if_neg c_15, if_pos c_16]) (lv_sub hl [0, 1, 2, 3] rfl)
      · refine lv_iconst (v := 1) hx hb dX11_name_16 (by decide) ?_
        refine lv_goto (tgt := 21) hx hb dX11_name_17 (by decide) ?_
        exact J_4 _ _ (by rw [if_neg c_15, if_neg c_16]) (lv_sub hl [0, 1, 2, 3] rfl)
  exact START _ _ hW va_S.rf
set_option maxHeartbeats 4000000 in
set_option maxRecDepth 100000 in
theorem c_X11_wear (l : Launch) {z : LZ} (hz : IM z) (x1 : Int32) (w : Mem) {r : Int32} {w' : Mem} (hf : f_X11_wear x1 w = some (r, w')) : Met l yX11_wear wsX11_wear (rm 3 79) (PZ z w [.ref (z.2.1 0), .int x1]) (QW z (some (.int r)) w') 0 0 (az z) := by
  refine mk_Wi (cc := cX11_wear) (maxL := 4) (by decide +kernel) rfl (Nat.le_of_ble_eq_true rfl) ?_
  intro p e s m args below meth c hx hb hml hts hown hK hW Q hret ls hl
  have hl : lv_has ls 4 [(0, .ref (z.2.1 0)), (1, .int x1)] := hl
  unfold f_X11_wear at hf
  have START : ∀ (H : Heap) (locs : List Loc), hd z w H → va_S (az z) s.heap H locs → W p l e (rm 3 79) s m args below meth c H locs 0 0 Q (F0 m 0 ls []) := by
    intro H locs hW hS
    refine lv_aload_n hx hb dX11_wear_0 rfl (lv_at hl 0 rfl) ?_
    refine lv_iload_n hx hb dX11_wear_1 rfl (lv_at hl 1 rfl) ?_
    refine lv_iconst (v := 1) hx hb dX11_wear_2 (by decide) ?_
    obtain ⟨r_1, w_3, hq_2, hf⟩ := of_b2 hf
    refine m_goWi (va_runV (As := [.int x1, .int 1]) (rest := []) ⟨hx, hb, hml, hown, hts⟩ (c_X11_lacksRim l hz x1 1 w hq_2) (cwV 2 hts gX11_wear_X11_lacksRim rfl rfl rfl (by decide +kernel) ⟨Nat.le_of_ble_eq_true rfl, Nat.le_of_ble_eq_true rfl⟩) (pre_X11 hK hz hW _) rfl rfl hl.1 rfl (lv_room (Nat.le_of_ble_eq_true rfl)) dX11_wear_3 ⟨Nat.le_refl _, Nat.le_refl _⟩) hS (fun H locs hW hS => ?_)
    refine lv_istore_n (lv' := [(2, .int r_1), (0, .ref (z.2.1 0)), (1, .int x1)]) hx hb dX11_wear_6 rfl hl (by decide) rfl (fun ls hl => ?_)
    refine lv_iload_n hx hb dX11_wear_7 rfl (lv_at hl 0 rfl) ?_
    refine lv_if_eq (tgt := 13) hx hb dX11_wear_8 (by decide) (fun c_4 => ?_) (fun c_4 => ?_)
    · have hf := of_t c_4 hf
      refine lv_iconst (v := 0) hx hb dX11_wear_13 (by decide) ?_
      refine lv_istore_n (lv' := [(3, .int 0), (2, .int r_1), (0, .ref (z.2.1 0)), (1, .int x1)]) hx hb dX11_wear_14 rfl hl (by decide) rfl (fun ls hl => ?_)
      have L_7 : ∀ (n : Nat) (x3_5 : Int32) (w_6 : Mem) (exL_7 : Sum (Int32 × Mem) (Mem)) (H : Heap) (locs : List Loc) (ls : Array Slot), f_X11_wear_L15 x1 n x3_5 w_6 = some exL_7 → hd z w_6 H → va_S (az z) s.heap H locs → lv_has ls 4 [(0, .ref (z.2.1 0)), (1, .int x1), (3, .int x3_5)] → (∀ ret, exL_7 = .inl ret → some (ret) = some (r, w')) → (∀ x, exL_7 = .inr x → ∀ (H : Heap) (locs : List Loc) (ls : Array Slot), hd z (x) H → va_S (az z) s.heap H locs → lv_has ls 4 [] → W p l e (rm 3 79) s m args below meth c H locs 0 0 Q (F0 m 39 ls [])) → W p l e (rm 3 79) s m args below meth c H locs 0 0 Q (F0 m 15 ls []) := by
        intro n
        induction n with
        | zero =>
          intro x3_5 w_6 exL_7 H locs ls hf
          have hf : (none : Option (Sum (Int32 × Mem) (Mem))) = some exL_7 := hf
          cases hf
        | succ n ihL_7 =>
          intro x3_5 w_6 exL_7 H locs ls hf hW hS hl hRL_7 hEL_7
          rw [f_X11_wear_L15_s] at hf
          refine lv_iload_n hx hb dX11_wear_15 rfl (lv_at hl 2 rfl) ?_
          refine lv_bipush (v := 6) hx hb dX11_wear_16 (by decide) ?_
          refine lv_icmp_gt (tgt := 39) hx hb dX11_wear_18 (by decide) (fun c_8 => ?_) (fun c_8 => ?_)
          · have hf := of_t c_8 hf
            exact hEL_7 _ (Option.some.inj hf).symm _ _ _ hW hS (lv_sub hl [] rfl)
          · have hf := of_f c_8 hf
            refine lv_aload_n hx hb dX11_wear_21 rfl (lv_at hl 0 rfl) ?_
            refine lv_iload_n hx hb dX11_wear_22 rfl (lv_at hl 1 rfl) ?_
            refine lv_iload_n hx hb dX11_wear_23 rfl (lv_at hl 2 rfl) ?_
            refine lv_iconst (v := (-1)) hx hb dX11_wear_24 (by decide) ?_
            obtain ⟨r_9, w_11, hq_10, hf⟩ := of_b2 hf
            refine m_goWi (va_runV (As := [.int x1, .int x3_5, .int (-1)]) (rest := []) ⟨hx, hb, hml, hown, hts⟩ (c_X11_namesOf l hz x1 x3_5 (-1) w_6 hq_10) (cwV 3 hts gX11_wear_X11_namesOf rfl rfl rfl (by decide +kernel) ⟨Nat.le_of_ble_eq_true rfl, Nat.le_of_ble_eq_true rfl⟩) (pre_X11 hK hz hW _) rfl rfl hl.1 rfl (lv_room (Nat.le_of_ble_eq_true rfl)) dX11_wear_25 ⟨Nat.le_refl _, Nat.le_refl _⟩) hS (fun H locs hW hS => ?_)
            refine lv_if_le (tgt := 33) hx hb dX11_wear_28 (by decide) (fun c_12 => ?_) (fun c_12 => ?_)
            · have hf := of_t c_12 hf
              obtain ⟨x3_13, ex3_13⟩ : ∃ y : Int32, y = x3_5 + 1 := ⟨_, rfl⟩
              have hf := of_lt ex3_13 hf
              refine lv_iinc (v := x3_13) (lv' := [(3, .int x3_13), (0, .ref (z.2.1 0)), (1, .int x1)]) hx hb dX11_wear_33 hl (k := 2) rfl (by rw [ex3_13]; rfl) (by decide) rfl (fun ls hl => ?_)
              refine lv_goto (tgt := 15) hx hb dX11_wear_36 (by decide) ?_
              exact ihL_7 _ _ _ _ _ _ hf hW hS (lv_sub hl [1, 2, 0] rfl) hRL_7 hEL_7
            · have hf := of_f c_12 hf
              refine lv_iload_n hx hb dX11_wear_31 rfl (lv_at hl 2 rfl) ?_
              exact hret _ _ _ _ _ _ (hRL_7 _ (Option.some.inj hf).symm) hW hS dX11_wear_32
      obtain ⟨ex_15, hq_14, hf⟩ := of_bd hf
      refine L_7 FU _ _ _ _ _ _ hq_14 hW hS (lv_sub hl [2, 3, 0] rfl) (fun ret he => by subst he; exact hf) (fun x he H locs ls hW hS hl => ?_)
      subst he
      obtain ⟨w_16, ew_16⟩ : ∃ y, y = x := ⟨_, rfl⟩
      subst ew_16
      have hf := of_sr hf
      have hW : hd z w_16 H := hW
      have hl : lv_has ls 4 [] := hl
      refine lv_bipush (v := (-4)) hx hb dX11_wear_39 (by decide) ?_
      exact hret _ _ _ _ _ _ hf hW hS dX11_wear_41
    · have hf := of_f c_4 hf
      refine lv_iload_n hx hb dX11_wear_11 rfl (lv_at hl 0 rfl) ?_
      exact hret _ _ _ _ _ _ hf hW hS dX11_wear_12
  exact START _ _ hW va_S.rf
set_option maxHeartbeats 4000000 in
set_option maxRecDepth 100000 in
theorem c_X11_outcomeOf (l : Launch) {z : LZ} (hz : IM z) (x0 : Int32) (x1 : Int32) (w : Mem) {r : Int32} (hf : f_X11_outcomeOf x0 x1 = some r) : Met l yX11_outcomeOf wsX11_outcomeOf (rm 1 20) (PZ z w [.int x0, .int x1]) (QR (some (.int r))) 0 0 (fun _ => False) := by
  refine mk_Ri (cc := cX11_outcomeOf) (maxL := 9) (by decide +kernel) rfl (Nat.le_of_ble_eq_true rfl) ?_
  intro p e s m args below meth c hx hb hml hts hown hK hW Q hret ls hl
  have hl : lv_has ls 9 [(0, .int x0), (1, .int x1)] := hl
  unfold f_X11_outcomeOf at hf
  refine lv_iload_n hx hb dX11_outcomeOf_0 rfl (lv_at hl 0 rfl) ?_
  refine lv_sipush (v := 308) hx hb dX11_outcomeOf_1 (by decide) ?_
  refine lv_idiv hx hb dX11_outcomeOf_4 (by decide) ?_
  refine lv_iconst (v := 4) hx hb dX11_outcomeOf_5 (by decide) ?_
  refine lv_isub hx hb dX11_outcomeOf_6 ?_
  refine lv_topi (fun v_1 ev_1 => ?_)
  have hf := of_lt ev_1 hf
  refine lv_istore_n (lv' := [(2, .int v_1), (0, .int x0), (1, .int x1)]) hx hb dX11_outcomeOf_7 rfl hl (by decide) rfl (fun ls hl => ?_)
  refine lv_iload_n hx hb dX11_outcomeOf_8 rfl (lv_at hl 1 rfl) ?_
  refine lv_bipush (v := 44) hx hb dX11_outcomeOf_9 (by decide) ?_
  refine lv_idiv hx hb dX11_outcomeOf_11 (by decide) ?_
  refine lv_bipush (v := 7) hx hb dX11_outcomeOf_12 (by decide) ?_
  refine lv_irem hx hb dX11_outcomeOf_14 (by decide) ?_
  refine lv_topi (fun v_2 ev_2 => ?_)
  have hf := of_lt (e := irm (x0 / 44) 7) ev_2 hf
  refine lv_iconst (v := 3) hx hb dX11_outcomeOf_15 (by decide) ?_
  refine lv_isub hx hb dX11_outcomeOf_16 ?_
  refine lv_topi (fun v_3 ev_3 => ?_)
  have hf := of_lt ev_3 hf
  refine lv_istore_n (lv' := [(3, .int v_3), (2, .int v_1), (0, .int x0), (1, .int x1)]) hx hb dX11_outcomeOf_17 rfl hl (by decide) rfl (fun ls hl => ?_)
  refine lv_iload_n hx hb dX11_outcomeOf_18 rfl (lv_at hl 2 rfl) ?_
  refine lv_bipush (v := 11) hx hb dX11_outcomeOf_19 (by decide) ?_
  refine lv_idiv hx hb dX11_outcomeOf_21 (by decide) ?_
  refine lv_iconst (v := 4) hx hb dX11_outcomeOf_22 (by decide) ?_
  refine lv_irem hx hb dX11_outcomeOf_23 (by decide) ?_
  refine lv_topi (fun v_4 ev_4 => ?_)
  have hf := of_lt (e := irm (x0 / 11) 4) ev_4 hf
  refine lv_istore (lv' := [(4, .int v_4), (3, .int v_3), (2, .int v_1), (0, .int x0), (1, .int x1)]) hx hb dX11_outcomeOf_24 hl (by decide) rfl (fun ls hl => ?_)
  refine lv_iload_n hx hb dX11_outcomeOf_26 rfl (lv_at hl 3 rfl) ?_
  refine lv_bipush (v := 11) hx hb dX11_outcomeOf_27 (by decide) ?_
  refine lv_irem hx hb dX11_outcomeOf_29 (by decide) ?_
  refine lv_topi (fun v_5 ev_5 => ?_)
  have hf := of_lt (e := irm x0 11) ev_5 hf
  refine lv_iconst (v := 5) hx hb dX11_outcomeOf_30 (by decide) ?_
  refine lv_isub hx hb dX11_outcomeOf_31 ?_
  refine lv_topi (fun v_6 ev_6 => ?_)
  have hf := of_lt ev_6 hf
  refine lv_istore (lv' := [(5, .int v_6), (4, .int v_4), (3, .int v_3), (2, .int v_1), (0, .int x0), (1, .int x1)]) hx hb dX11_outcomeOf_32 hl (by decide) rfl (fun ls hl => ?_)
  refine lv_iload_n hx hb dX11_outcomeOf_34 rfl (lv_at hl 5 rfl) ?_
  refine lv_bipush (v := 65) hx hb dX11_outcomeOf_35 (by decide) ?_
  refine lv_idiv hx hb dX11_outcomeOf_37 (by decide) ?_
  refine lv_iconst (v := 1) hx hb dX11_outcomeOf_38 (by decide) ?_
  refine lv_iadd hx hb dX11_outcomeOf_39 ?_
  refine lv_topi (fun v_7 ev_7 => ?_)
  have hf := of_lt ev_7 hf
  refine lv_istore (lv' := [(6, .int v_7), (5, .int v_6), (4, .int v_4), (3, .int v_3), (2, .int v_1), (0, .int x0), (1, .int x1)]) hx hb dX11_outcomeOf_40 hl (by decide) rfl (fun ls hl => ?_)
  refine lv_iload_n hx hb dX11_outcomeOf_42 rfl (lv_at hl 6 rfl) ?_
  refine lv_bipush (v := 13) hx hb dX11_outcomeOf_43 (by decide) ?_
  refine lv_idiv hx hb dX11_outcomeOf_45 (by decide) ?_
  refine lv_iconst (v := 5) hx hb dX11_outcomeOf_46 (by decide) ?_
  refine lv_irem hx hb dX11_outcomeOf_47 (by decide) ?_
  refine lv_topi (fun v_8 ev_8 => ?_)
  have hf := of_lt (e := irm (x1 / 13) 5) ev_8 hf
  refine lv_iconst (v := 1) hx hb dX11_outcomeOf_48 (by decide) ?_
  refine lv_iadd hx hb dX11_outcomeOf_49 ?_
  refine lv_topi (fun v_9 ev_9 => ?_)
  have hf := of_lt ev_9 hf
  refine lv_istore (lv' := [(7, .int v_9), (6, .int v_7), (5, .int v_6), (4, .int v_4), (3, .int v_3), (2, .int v_1), (0, .int x0), (1, .int x1)]) hx hb dX11_outcomeOf_50 hl (by decide) rfl (fun ls hl => ?_)
  refine lv_iload_n hx hb dX11_outcomeOf_52 rfl (lv_at hl 7 rfl) ?_
  refine lv_bipush (v := 13) hx hb dX11_outcomeOf_53 (by decide) ?_
  refine lv_irem hx hb dX11_outcomeOf_55 (by decide) ?_
  refine lv_topi (fun v_10 ev_10 => ?_)
  have hf := of_lt (e := irm x1 13) ev_10 hf
  refine lv_bipush (v := 6) hx hb dX11_outcomeOf_56 (by decide) ?_
  refine lv_isub hx hb dX11_outcomeOf_58 ?_
  refine lv_topi (fun v_11 ev_11 => ?_)
  have hf := of_lt ev_11 hf
  refine lv_istore (lv' := [(8, .int v_11), (7, .int v_9), (6, .int v_7), (5, .int v_6), (4, .int v_4), (3, .int v_3), (2, .int v_1), (0, .int x0), (1, .int x1)]) hx hb dX11_outcomeOf_59 hl (by decide) rfl (fun ls hl => ?_)
  refine lv_iconst (v := 2) hx hb dX11_outcomeOf_61 (by decide) ?_
  refine lv_iload_n hx hb dX11_outcomeOf_62 rfl (lv_at hl 6 rfl) ?_
  refine lv_imul hx hb dX11_outcomeOf_63 ?_
  refine lv_iload_n hx hb dX11_outcomeOf_64 rfl (lv_at hl 5 rfl) ?_
  refine lv_iload hx hb dX11_outcomeOf_65 (lv_at hl 0 rfl) ?_
  refine lv_imul hx hb dX11_outcomeOf_67 ?_
  refine lv_iadd hx hb dX11_outcomeOf_68 ?_
  obtain ⟨r_12, hq_13, hf⟩ := of_bd hf
  refine m_goRi (va_runS (As := [.int ((2 * v_1) + (v_3 * v_11))]) (rest := []) ⟨hx, hb, hml, hown, hts⟩ (c_X11_away l hz ((2 * v_1) + (v_3 * v_11)) w hq_13) (va_cwS 1 hts gX11_outcomeOf_X11_away rfl rfl rfl (by decide +kernel) ⟨Nat.le_of_ble_eq_true rfl, Nat.le_of_ble_eq_true rfl⟩) (m_preS hK hW _) rfl rfl hl.1 rfl (lv_room (Nat.le_of_ble_eq_true rfl)) dX11_outcomeOf_69 ⟨Nat.le_refl _, Nat.le_refl _⟩) ?_
  refine lv_bipush (v := 9) hx hb dX11_outcomeOf_72 (by decide) ?_
  refine lv_iload hx hb dX11_outcomeOf_74 (lv_at hl 4 rfl) ?_
  refine lv_isub hx hb dX11_outcomeOf_76 ?_
  refine lv_iload hx hb dX11_outcomeOf_77 (lv_at hl 2 rfl) ?_
  refine lv_isub hx hb dX11_outcomeOf_79 ?_
  refine lv_icmp_le (tgt := 85) hx hb dX11_outcomeOf_80 (by decide) (fun c_14 => ?_) (fun c_14 => ?_)
  · have hf := of_t c_14 hf
    refine lv_bipush (v := 10) hx hb dX11_outcomeOf_85 (by decide) ?_
    refine lv_iload hx hb dX11_outcomeOf_87 (lv_at hl 3 rfl) ?_
    refine lv_imul hx hb dX11_outcomeOf_89 ?_
    refine lv_bipush (v := 6) hx hb dX11_outcomeOf_90 (by decide) ?_
    refine lv_iload hx hb dX11_outcomeOf_92 (lv_at hl 1 rfl) ?_
    refine lv_imul hx hb dX11_outcomeOf_94 ?_
    refine lv_icmp_le (tgt := 100) hx hb dX11_outcomeOf_95 (by decide) (fun c_15 => ?_) (fun c_15 => ?_)
    · have hf := of_t c_15 hf
      refine lv_bipush (v := 10) hx hb dX11_outcomeOf_100 (by decide) ?_
      refine lv_iload hx hb dX11_outcomeOf_102 (lv_at hl 3 rfl) ?_
      refine lv_imul hx hb dX11_outcomeOf_104 ?_
      refine lv_bipush (v := (-6)) hx hb dX11_outcomeOf_105 (by decide) ?_
      refine lv_iload hx hb dX11_outcomeOf_107 (lv_at hl 1 rfl) ?_
      refine lv_imul hx hb dX11_outcomeOf_109 ?_
      refine lv_icmp_ge (tgt := 115) hx hb dX11_outcomeOf_110 (by decide) (fun c_16 => ?_) (fun c_16 => ?_)
      · have hf := of_t c_16 hf
        refine lv_iload_n hx hb dX11_outcomeOf_115 rfl (lv_at hl 5 rfl) ?_
        obtain ⟨r_17, hq_18, hf⟩ := of_bd hf
        refine m_goRi (va_runS (As := [.int v_3]) (rest := []) ⟨hx, hb, hml, hown, hts⟩ (c_X11_away l hz v_3 w hq_18) (va_cwS 1 hts gX11_outcomeOf_X11_away rfl rfl rfl (by decide +kernel) ⟨Nat.le_of_ble_eq_true rfl, Nat.le_of_ble_eq_true rfl⟩) (m_preS hK hW _) rfl rfl hl.1 rfl (lv_room (Nat.le_of_ble_eq_true rfl)) dX11_outcomeOf_116 ⟨Nat.le_refl _, Nat.le_refl _⟩) ?_
        refine lv_iconst (v := 3) hx hb dX11_outcomeOf_119 (by decide) ?_
        refine lv_icmp_ne (tgt := 142) hx hb dX11_outcomeOf_120 (by decide) (fun c_19 => ?_) (fun c_19 => ?_)
        · have hf := of_f c_19 hf
          refine lv_iconst (v := 0) hx hb dX11_outcomeOf_142 (by decide) ?_
          exact hret _ _ _ hf dX11_outcomeOf_143
        · have hf := of_t c_19 hf
          refine lv_iload hx hb dX11_outcomeOf_123 (lv_at hl 2 rfl) ?_
          refine lv_iconst (v := 4) hx hb dX11_outcomeOf_125 (by decide) ?_
          refine lv_icmp_lt (tgt := 142) hx hb dX11_outcomeOf_126 (by decide) (fun c_20 => ?_) (fun c_20 => ?_)
          · have hf := of_t c_20 hf
            refine lv_iconst (v := 0) hx hb dX11_outcomeOf_142 (by decide) ?_
            exact hret _ _ _ hf dX11_outcomeOf_143
          · have hf := of_f c_20 hf
            refine lv_iload hx hb dX11_outcomeOf_129 (lv_at hl 0 rfl) ?_
            obtain ⟨r_21, hq_22, hf⟩ := of_bd hf
            refine m_goRi (va_runS (As := [.int v_11]) (rest := []) ⟨hx, hb, hml, hown, hts⟩ (c_X11_away l hz v_11 w hq_22) (va_cwS 1 hts gX11_outcomeOf_X11_away rfl rfl rfl (by decide +kernel) ⟨Nat.le_of_ble_eq_true rfl, Nat.le_of_ble_eq_true rfl⟩) (m_preS hK hW _) rfl rfl hl.1 rfl (lv_room (Nat.le_of_ble_eq_true rfl)) dX11_outcomeOf_131 ⟨Nat.le_refl _, Nat.le_refl _⟩) ?_
            refine lv_iconst (v := 4) hx hb dX11_outcomeOf_134 (by decide) ?_
            have J_24 : ∀ (v_23 : Int32) (ls : Array Slot), v_23 = (if r_21 < 4 then 0 else 4) → lv_has ls 9 [] → W p l e (rm 1 20) s m args below meth c s.heap [] 0 0 Q (F0 m 143 ls [.int v_23]) := by
              intro v_23 ls ev_23 hl
              have hf := of_lt ev_23 hf
              exact hret _ _ _ hf dX11_outcomeOf_143
            refine lv_icmp_lt (tgt := 142) hx hb dX11_outcomeOf_135 (by decide) (fun c_25 => ?_) (fun c_25 => ?_)
            · refine lv_iconst (v := 0) hx hb dX11_outcomeOf_142 (by decide) ?_
              exact J_24 _ _ (by rw [if_pos c_25]) (lv_sub hl [] rfl)
            · refine lv_iconst (v := 4) hx hb dX11_outcomeOf_138 (by decide) ?_
              refine lv_goto (tgt := 143) hx hb dX11_outcomeOf_139 (by decide) ?_
              exact J_24 _ _ (by rw [if_neg c_25]) (lv_sub hl [] rfl)
      · have hf := of_f c_16 hf
        refine lv_iconst (v := 2) hx hb dX11_outcomeOf_113 (by decide) ?_
        exact hret _ _ _ hf dX11_outcomeOf_114
    · have hf := of_f c_15 hf
      refine lv_iconst (v := 3) hx hb dX11_outcomeOf_98 (by decide) ?_
      exact hret _ _ _ hf dX11_outcomeOf_99
  · have hf := of_f c_14 hf
    refine lv_iconst (v := 1) hx hb dX11_outcomeOf_83 (by decide) ?_
    exact hret _ _ _ hf dX11_outcomeOf_84
set_option maxHeartbeats 4000000 in
set_option maxRecDepth 100000 in
theorem c_X11_causes (l : Launch) {z : LZ} (hz : IM z) (x0 : Int32) (w : Mem) {r : Int32} (hf : f_X11_causes x0 = some r) : Met l yX11_causes wsX11_causes (rm 0 0) (PZ z w [.int x0]) (QR (some (.int r))) 0 0 (fun _ => False) := by
  refine mk_Ri (cc := cX11_causes) (maxL := 1) (by decide +kernel) rfl (Nat.le_of_ble_eq_true rfl) ?_
  intro p e s m args below meth c hx hb hml hts hown hK hW Q hret ls hl
  have hl : lv_has ls 1 [(0, .int x0)] := hl
  unfold f_X11_causes at hf
  refine lv_iload_n hx hb dX11_causes_0 rfl (lv_at hl 0 rfl) ?_
  refine lv_sipush (v := 308) hx hb dX11_causes_1 (by decide) ?_
  refine lv_idiv hx hb dX11_causes_4 (by decide) ?_
  refine lv_iconst (v := 4) hx hb dX11_causes_5 (by decide) ?_
  have J_2 : ∀ (v_1 : Int32) (ls : Array Slot), v_1 = (if (x0 / 308) = 4 then 0 else 1) → lv_has ls 1 [(0, .int x0)] → W p l e (rm 0 0) s m args below meth c s.heap [] 0 0 Q (F0 m 14 ls [.int v_1]) := by
    intro v_1 ls ev_1 hl
    have hf := of_lt ev_1 hf
    refine lv_iload_n hx hb dX11_causes_14 rfl (lv_at hl 0 rfl) ?_
    refine lv_bipush (v := 44) hx hb dX11_causes_15 (by decide) ?_
    refine lv_idiv hx hb dX11_causes_17 (by decide) ?_
    refine lv_bipush (v := 7) hx hb dX11_causes_18 (by decide) ?_
    refine lv_irem hx hb dX11_causes_20 (by decide) ?_
    refine lv_topi (fun v_3 ev_3 => ?_)
    have hf := of_lt (e := irm (x0 / 44) 7) ev_3 hf
    refine lv_iconst (v := 3) hx hb dX11_causes_21 (by decide) ?_
    have J_5 : ∀ (v_4 : Int32) (ls : Array Slot), v_4 = (if v_3 = 3 then 0 else 1) → lv_has ls 1 [(0, .int x0)] → W p l e (rm 0 0) s m args below meth c s.heap [] 0 0 Q (F0 m 30 ls [.int v_4, .int v_1]) := by
      intro v_4 ls ev_4 hl
      have hf := of_lt ev_4 hf
      refine lv_iadd hx hb dX11_causes_30 ?_
      refine lv_iload_n hx hb dX11_causes_31 rfl (lv_at hl 0 rfl) ?_
      refine lv_bipush (v := 11) hx hb dX11_causes_32 (by decide) ?_
      refine lv_idiv hx hb dX11_causes_34 (by decide) ?_
      refine lv_iconst (v := 4) hx hb dX11_causes_35 (by decide) ?_
      refine lv_irem hx hb dX11_causes_36 (by decide) ?_
      refine lv_topi (fun v_6 ev_6 => ?_)
      have hf := of_lt (e := irm (x0 / 11) 4) ev_6 hf
      have J_8 : ∀ (v_7 : Int32) (ls : Array Slot), v_7 = (if v_6 = 0 then 0 else 1) → lv_has ls 1 [(0, .int x0)] → W p l e (rm 0 0) s m args below meth c s.heap [] 0 0 Q (F0 m 45 ls [.int v_7, .int (v_1 + v_4)]) := by
        intro v_7 ls ev_7 hl
        have hf := of_lt ev_7 hf
        refine lv_iadd hx hb dX11_causes_45 ?_
        refine lv_iload_n hx hb dX11_causes_46 rfl (lv_at hl 0 rfl) ?_
        refine lv_bipush (v := 11) hx hb dX11_causes_47 (by decide) ?_
        refine lv_irem hx hb dX11_causes_49 (by decide) ?_
        refine lv_topi (fun v_9 ev_9 => ?_)
        have hf := of_lt (e := irm x0 11) ev_9 hf
        refine lv_iconst (v := 5) hx hb dX11_causes_50 (by decide) ?_
        have J_11 : ∀ (v_10 : Int32) (ls : Array Slot), v_10 = (if v_9 = 5 then 0 else 1) → lv_has ls 1 [] → W p l e (rm 0 0) s m args below meth c s.heap [] 0 0 Q (F0 m 59 ls [.int v_10, .int ((v_1 + v_4) + v_7)]) := by
          intro v_10 ls ev_10 hl
          have hf := of_lt ev_10 hf
          refine lv_iadd hx hb dX11_causes_59 ?_
          refine lv_topi (fun v_12 ev_12 => ?_)
          have hf := of_lt ev_12 hf
          exact hret _ _ _ hf dX11_causes_60
        refine lv_icmp_eq (tgt := 58) hx hb dX11_causes_51 (by decide) (fun c_13 => ?_) (fun c_13 => ?_)
        · refine lv_iconst (v := 0) hx hb dX11_causes_58 (by decide) ?_
          exact J_11 _ _ (by rw [if_pos c_13]) (lv_sub hl [] rfl)
        · refine lv_iconst (v := 1) hx hb dX11_causes_54 (by decide) ?_
          refine lv_goto (tgt := 59) hx hb dX11_causes_55 (by decide) ?_
          exact J_11 _ _ (by rw [if_neg c_13]) (lv_sub hl [] rfl)
      refine lv_if_eq (tgt := 44) hx hb dX11_causes_37 (by decide) (fun c_14 => ?_) (fun c_14 => ?_)
      · refine lv_iconst (v := 0) hx hb dX11_causes_44 (by decide) ?_
        exact J_8 _ _ (by rw [if_pos c_14]) (lv_sub hl [0] rfl)
      · refine lv_iconst (v := 1) hx hb dX11_causes_40 (by decide) ?_
        refine lv_goto (tgt := 45) hx hb dX11_causes_41 (by decide) ?_
        exact J_8 _ _ (by rw [if_neg c_14]) (lv_sub hl [0] rfl)
    refine lv_icmp_eq (tgt := 29) hx hb dX11_causes_22 (by decide) (fun c_15 => ?_) (fun c_15 => ?_)
    · refine lv_iconst (v := 0) hx hb dX11_causes_29 (by decide) ?_
      exact J_5 _ _ (by rw [if_pos c_15]) (lv_sub hl [0] rfl)
    · refine lv_iconst (v := 1) hx hb dX11_causes_25 (by decide) ?_
      refine lv_goto (tgt := 30) hx hb dX11_causes_26 (by decide) ?_
      exact J_5 _ _ (by rw [if_neg c_15]) (lv_sub hl [0] rfl)
  refine lv_icmp_eq (tgt := 13) hx hb dX11_causes_6 (by decide) (fun c_16 => ?_) (fun c_16 => ?_)
  · refine lv_iconst (v := 0) hx hb dX11_causes_13 (by decide) ?_
    exact J_2 _ _ (by rw [if_pos c_16]) (lv_sub hl [0] rfl)
  · refine lv_iconst (v := 1) hx hb dX11_causes_9 (by decide) ?_
    refine lv_goto (tgt := 14) hx hb dX11_causes_10 (by decide) ?_
    exact J_2 _ _ (by rw [if_neg c_16]) (lv_sub hl [0] rfl)
set_option maxHeartbeats 4000000 in
set_option maxRecDepth 100000 in
theorem c_X11_outcome (l : Launch) {z : LZ} (hz : IM z) (x1 : Int32) (x2 : Int32) (w : Mem) {r : Int32} (hf : f_X11_outcome x1 x2 = some r) : Met l yX11_outcome wsX11_outcome (rm 2 48) (PZ z w [.ref (z.2.1 0), .int x1, .int x2]) (QR (some (.int r))) 0 0 (fun _ => False) := by
  refine mk_Ri (cc := cX11_outcome) (maxL := 3) (by decide +kernel) rfl (Nat.le_of_ble_eq_true rfl) ?_
  intro p e s m args below meth c hx hb hml hts hown hK hW Q hret ls hl
  have hl : lv_has ls 3 [(0, .ref (z.2.1 0)), (1, .int x1), (2, .int x2)] := hl
  unfold f_X11_outcome at hf
  refine lv_iload_n hx hb dX11_outcome_0 rfl (lv_at hl 1 rfl) ?_
  refine lv_iconst (v := 0) hx hb dX11_outcome_1 (by decide) ?_
  refine lv_sipush (v := 2771) hx hb dX11_outcome_2 (by decide) ?_
  obtain ⟨r_1, hq_2, hf⟩ := of_bd hf
  refine m_goRi (va_runS (As := [.int x1, .int 0, .int 2771]) (rest := []) ⟨hx, hb, hml, hown, hts⟩ (c_X11_in l hz x1 0 2771 w hq_2) (va_cwS 3 hts gX11_outcome_X11_in rfl rfl rfl (by decide +kernel) ⟨Nat.le_of_ble_eq_true rfl, Nat.le_of_ble_eq_true rfl⟩) (m_preS hK hW _) rfl rfl hl.1 rfl (lv_room (Nat.le_of_ble_eq_true rfl)) dX11_outcome_5 ⟨Nat.le_refl _, Nat.le_refl _⟩) ?_
  refine lv_if_eq (tgt := 30) hx hb dX11_outcome_8 (by decide) (fun c_3 => ?_) (fun c_3 => ?_)
  · have hf := of_t c_3 hf
    refine lv_iconst (v := (-1)) hx hb dX11_outcome_30 (by decide) ?_
    exact hret _ _ _ hf dX11_outcome_31
  · have hf := of_f c_3 hf
    refine lv_iload_n hx hb dX11_outcome_11 rfl (lv_at hl 2 rfl) ?_
    refine lv_iconst (v := 0) hx hb dX11_outcome_12 (by decide) ?_
    refine lv_sipush (v := 324) hx hb dX11_outcome_13 (by decide) ?_
    obtain ⟨r_4, hq_5, hf⟩ := of_bd hf
    refine m_goRi (va_runS (As := [.int x2, .int 0, .int 324]) (rest := []) ⟨hx, hb, hml, hown, hts⟩ (c_X11_in l hz x2 0 324 w hq_5) (va_cwS 3 hts gX11_outcome_X11_in rfl rfl rfl (by decide +kernel) ⟨Nat.le_of_ble_eq_true rfl, Nat.le_of_ble_eq_true rfl⟩) (m_preS hK hW _) rfl rfl hl.1 rfl (lv_room (Nat.le_of_ble_eq_true rfl)) dX11_outcome_16 ⟨Nat.le_refl _, Nat.le_refl _⟩) ?_
    refine lv_if_eq (tgt := 30) hx hb dX11_outcome_19 (by decide) (fun c_6 => ?_) (fun c_6 => ?_)
    · have hf := of_t c_6 hf
      refine lv_iconst (v := (-1)) hx hb dX11_outcome_30 (by decide) ?_
      exact hret _ _ _ hf dX11_outcome_31
    · have hf := of_f c_6 hf
      refine lv_iload_n hx hb dX11_outcome_22 rfl (lv_at hl 1 rfl) ?_
      refine lv_iload_n hx hb dX11_outcome_23 rfl (lv_at hl 2 rfl) ?_
      obtain ⟨r_7, hq_8, hf⟩ := of_bd hf
      refine m_goRi (va_runS (As := [.int x1, .int x2]) (rest := []) ⟨hx, hb, hml, hown, hts⟩ (c_X11_outcomeOf l hz x1 x2 w hq_8) (va_cwS 2 hts gX11_outcome_X11_outcomeOf rfl rfl rfl (by decide +kernel) ⟨Nat.le_of_ble_eq_true rfl, Nat.le_of_ble_eq_true rfl⟩) (m_preS hK hW _) rfl rfl hl.1 rfl (lv_room (Nat.le_of_ble_eq_true rfl)) dX11_outcome_24 ⟨Nat.le_refl _, Nat.le_refl _⟩) ?_
      refine lv_goto (tgt := 31) hx hb dX11_outcome_27 (by decide) ?_
      exact hret _ _ _ hf dX11_outcome_31
theorem in_X11_note_X11 : ∀ w ∈ wsX110, w ∈ wsX11_note := by decide +kernel
theorem lk_X11_note_0 : Cond.fieldLink RX11 122 "CamStitchModel" "notes" "I" ∈ wsX11_note := by decide +kernel
theorem lk_X11_note_1 : Cond.fieldLink RX11 60 "CamStitchModel" "noteTrial" "[I" ∈ wsX11_note := by decide +kernel
theorem lk_X11_note_2 : Cond.fieldLink RX11 63 "CamStitchModel" "noteOutcome" "[I" ∈ wsX11_note := by decide +kernel
set_option maxHeartbeats 4000000 in
set_option maxRecDepth 100000 in
theorem c_X11_note (l : Launch) {z : LZ} (hz : IM z) (x1 : Int32) (x2 : Int32) (w : Mem) {r : Int32} {w' : Mem} (hf : f_X11_note x1 x2 w = some (r, w')) : Met l yX11_note wsX11_note (rm 1 22) (PZ z w [.ref (z.2.1 0), .int x1, .int x2]) (QW z (some (.int r)) w') 0 0 (az z) := by
  refine mk_Wi (cc := cX11_note) (maxL := 3) (by decide +kernel) rfl (Nat.le_of_ble_eq_true rfl) ?_
  intro p e s m args below meth c hx hb hml hts hown hK hW Q hret ls hl
  have hl : lv_has ls 3 [(0, .ref (z.2.1 0)), (1, .int x1), (2, .int x2)] := hl
  unfold f_X11_note at hf
  have START : ∀ (H : Heap) (locs : List Loc), hd z w H → va_S (az z) s.heap H locs → W p l e (rm 1 22) s m args below meth c H locs 0 0 Q (F0 m 0 ls []) := by
    intro H locs hW hS
    refine lv_iload_n hx hb dX11_note_0 rfl (lv_at hl 1 rfl) ?_
    refine lv_iconst (v := 0) hx hb dX11_note_1 (by decide) ?_
    refine lv_sipush (v := 324) hx hb dX11_note_2 (by decide) ?_
    obtain ⟨r_1, hq_2, hf⟩ := of_bd hf
    refine m_goRi (va_runS (As := [.int x1, .int 0, .int 324]) (rest := []) ⟨hx, hb, hml, hown, hts⟩ (c_X11_in l hz x1 0 324 w hq_2) (va_cwS 3 hts gX11_note_X11_in rfl rfl rfl (by decide +kernel) ⟨Nat.le_of_ble_eq_true rfl, Nat.le_of_ble_eq_true rfl⟩) (m_preS hK hW _) rfl rfl hl.1 rfl (lv_room (Nat.le_of_ble_eq_true rfl)) dX11_note_5 ⟨Nat.le_refl _, Nat.le_refl _⟩) ?_
    refine lv_if_eq (tgt := 20) hx hb dX11_note_8 (by decide) (fun c_3 => ?_) (fun c_3 => ?_)
    · have hf := of_t c_3 hf
      refine lv_iconst (v := (-1)) hx hb dX11_note_20 (by decide) ?_
      exact hret _ _ _ _ _ _ hf hW hS dX11_note_21
    · have hf := of_f c_3 hf
      refine lv_iload_n hx hb dX11_note_11 rfl (lv_at hl 2 rfl) ?_
      refine lv_iconst (v := 0) hx hb dX11_note_12 (by decide) ?_
      refine lv_iconst (v := 4) hx hb dX11_note_13 (by decide) ?_
      obtain ⟨r_4, hq_5, hf⟩ := of_bd hf
      refine m_goRi (va_runS (As := [.int x2, .int 0, .int 4]) (rest := []) ⟨hx, hb, hml, hown, hts⟩ (c_X11_in l hz x2 0 4 w hq_5) (va_cwS 3 hts gX11_note_X11_in rfl rfl rfl (by decide +kernel) ⟨Nat.le_of_ble_eq_true rfl, Nat.le_of_ble_eq_true rfl⟩) (m_preS hK hW _) rfl rfl hl.1 rfl (lv_room (Nat.le_of_ble_eq_true rfl)) dX11_note_14 ⟨Nat.le_refl _, Nat.le_refl _⟩) ?_
      refine lv_if_ne (tgt := 22) hx hb dX11_note_17 (by decide) (fun c_6 => ?_) (fun c_6 => ?_)
      · have hf := of_f c_6 hf
        refine lv_aload_n hx hb dX11_note_22 rfl (lv_at hl 0 rfl) ?_
        refine get_X11_22 hx hb hts in_X11_note_X11 hown hK hz hW lk_X11_note_0 dX11_note_23 ?_
        refine lv_bipush (v := 24) hx hb dX11_note_26 (by decide) ?_
        refine lv_icmp_ne (tgt := 34) hx hb dX11_note_28 (by decide) (fun c_7 => ?_) (fun c_7 => ?_)
        · have hf := of_f c_7 hf
          refine lv_aload_n hx hb dX11_note_34 rfl (lv_at hl 0 rfl) ?_
          refine get_X11_23 hx hb hts in_X11_note_X11 hown hK hz hW lk_X11_note_1 dX11_note_35 ?_
          refine lv_aload_n hx hb dX11_note_38 rfl (lv_at hl 0 rfl) ?_
          refine get_X11_22 hx hb hts in_X11_note_X11 hown hK hz hW lk_X11_note_0 dX11_note_39 ?_
          refine lv_iload_n hx hb dX11_note_42 rfl (lv_at hl 1 rfl) ?_
          obtain ⟨g_8, hf⟩ := of_gd hf
          refine st_M13 hx hb hK hz hW hS g_8 dX11_note_43 (fun H locs hW hS => ?_)
          obtain ⟨w_9, ew_9⟩ : ∃ y : Mem, y = mS w 13 ((w.1 0 22).toNatClampNeg) x1 := ⟨_, rfl⟩
          have hW : hd z w_9 H := by rw [ew_9]; exact hW
          have hf := of_lt ew_9 hf
          refine lv_aload_n hx hb dX11_note_44 rfl (lv_at hl 0 rfl) ?_
          refine get_X11_24 hx hb hts in_X11_note_X11 hown hK hz hW lk_X11_note_2 dX11_note_45 ?_
          refine lv_aload_n hx hb dX11_note_48 rfl (lv_at hl 0 rfl) ?_
          refine get_X11_22 hx hb hts in_X11_note_X11 hown hK hz hW lk_X11_note_0 dX11_note_49 ?_
          refine lv_iload_n hx hb dX11_note_52 rfl (lv_at hl 2 rfl) ?_
          obtain ⟨g_10, hf⟩ := of_gd hf
          refine st_M14 hx hb hK hz hW hS g_10 dX11_note_53 (fun H locs hW hS => ?_)
          obtain ⟨w_11, ew_11⟩ : ∃ y : Mem, y = mS w_9 14 ((w_9.1 0 22).toNatClampNeg) x2 := ⟨_, rfl⟩
          have hW : hd z w_11 H := by rw [ew_11]; exact hW
          have hf := of_lt ew_11 hf
          refine lv_aload_n hx hb dX11_note_54 rfl (lv_at hl 0 rfl) ?_
          refine lv_dup hx hb dX11_note_55 rfl ?_
          refine get_X11_22 hx hb hts in_X11_note_X11 hown hK hz hW lk_X11_note_0 dX11_note_56 ?_
          refine lv_iconst (v := 1) hx hb dX11_note_59 (by decide) ?_
          refine lv_iadd hx hb dX11_note_60 ?_
          refine put_X11_22 hx hb hts in_X11_note_X11 hown hK hz hW hS lk_X11_note_0 dX11_note_61 (fun H locs hW hS => ?_)
          obtain ⟨w_12, ew_12⟩ : ∃ y : Mem, y = mS w_11 0 22 ((w_11.1 0 22) + 1) := ⟨_, rfl⟩
          have hW : hd z w_12 H := by rw [ew_12]; exact hW
          have hf := of_lt ew_12 hf
          refine lv_aload_n hx hb dX11_note_64 rfl (lv_at hl 0 rfl) ?_
          refine get_X11_22 hx hb hts in_X11_note_X11 hown hK hz hW lk_X11_note_0 dX11_note_65 ?_
          exact hret _ _ _ _ _ _ hf hW hS dX11_note_68
        · have hf := of_t c_7 hf
          refine lv_bipush (v := (-2)) hx hb dX11_note_31 (by decide) ?_
          exact hret _ _ _ _ _ _ hf hW hS dX11_note_33
      · have hf := of_t c_6 hf
        refine lv_iconst (v := (-1)) hx hb dX11_note_20 (by decide) ?_
        exact hret _ _ _ _ _ _ hf hW hS dX11_note_21
  exact START _ _ hW va_S.rf
theorem in_X11_noteless_X11 : ∀ w ∈ wsX110, w ∈ wsX11_noteless := by decide +kernel
theorem lk_X11_noteless_0 : Cond.fieldLink RX11 122 "CamStitchModel" "notes" "I" ∈ wsX11_noteless := by decide +kernel
set_option maxHeartbeats 4000000 in
set_option maxRecDepth 100000 in
theorem c_X11_noteless (l : Launch) {z : LZ} (hz : IM z)  (w : Mem) {r : Int32} {w' : Mem} (hf : f_X11_noteless w = some (r, w')) : Met l yX11_noteless wsX11_noteless (rm 0 0) (PZ z w [.ref (z.2.1 0)]) (QW z (some (.int r)) w') 0 0 (az z) := by
  refine mk_Wi (cc := cX11_noteless) (maxL := 2) (by decide +kernel) rfl (Nat.le_of_ble_eq_true rfl) ?_
  intro p e s m args below meth c hx hb hml hts hown hK hW Q hret ls hl
  have hl : lv_has ls 2 [(0, .ref (z.2.1 0))] := hl
  unfold f_X11_noteless at hf
  have START : ∀ (H : Heap) (locs : List Loc), hd z w H → va_S (az z) s.heap H locs → W p l e (rm 0 0) s m args below meth c H locs 0 0 Q (F0 m 0 ls []) := by
    intro H locs hW hS
    refine lv_aload_n hx hb dX11_noteless_0 rfl (lv_at hl 0 rfl) ?_
    refine get_X11_22 hx hb hts in_X11_noteless_X11 hown hK hz hW lk_X11_noteless_0 dX11_noteless_1 ?_
    refine lv_topi (fun v_1 ev_1 => ?_)
    have hf := of_lt ev_1 hf
    refine lv_istore_n (lv' := [(1, .int v_1), (0, .ref (z.2.1 0))]) hx hb dX11_noteless_4 rfl hl (by decide) rfl (fun ls hl => ?_)
    refine lv_aload_n hx hb dX11_noteless_5 rfl (lv_at hl 1 rfl) ?_
    refine lv_iconst (v := 0) hx hb dX11_noteless_6 (by decide) ?_
    refine put_X11_22 hx hb hts in_X11_noteless_X11 hown hK hz hW hS lk_X11_noteless_0 dX11_noteless_7 (fun H locs hW hS => ?_)
    obtain ⟨w_2, ew_2⟩ : ∃ y : Mem, y = mS w 0 22 0 := ⟨_, rfl⟩
    have hW : hd z w_2 H := by rw [ew_2]; exact hW
    have hf := of_lt ew_2 hf
    refine lv_iload_n hx hb dX11_noteless_10 rfl (lv_at hl 0 rfl) ?_
    exact hret _ _ _ _ _ _ hf hW hS dX11_noteless_11
  exact START _ _ hW va_S.rf
