/-! ===== contracts (by program: wip/gen/gen.py): X10_share X10_hunt X10_tape X10_keep X10_back X10_toss X10_clear X10_againstRow X10_put X10_copy X10_shelvesInUse X10_count X11_thrown X11_in X11_refuse X11_begin X11_away X11_floor X11_number X11_isLong X11_standsAt X11_movesTo X11_loops X11_goesRound X11_does X11_isTape ===== -/
theorem in_X10_share_X10 : ∀ w ∈ wsX100, w ∈ wsX10_share := by decide +kernel
theorem lk_X10_share_0 : Cond.fieldLink RX10 75 "CamStitch" "faults" "LCamStitch$Faults;" ∈ wsX10_share := by decide +kernel
set_option maxHeartbeats 4000000 in
set_option maxRecDepth 100000 in
theorem c_X10_share (l : Launch) {z : LZ} (hz : IC z) (x1 : Int32) (x2 : Int32) (w : Mem) {r : Int32} {w' : Mem} (hf : f_X10_share x1 x2 w = some (r, w')) : Met l yX10_share wsX10_share (rm 5 115) (PZ z w [.ref (z.2.1 66), .int x1, .int x2]) (QW z (some (.int r)) w') 0 0 (az z) := by
  refine mk_Wi (cc := cX10_share) (maxL := 3) (by decide +kernel) rfl (Nat.le_of_ble_eq_true rfl) ?_
  intro p e s m args below meth c hx hb hml hts hown hK hW Q hret ls hl
  have hl : lv_has ls 3 [(0, .ref (z.2.1 66)), (1, .int x1), (2, .int x2)] := hl
  unfold f_X10_share at hf
  have START : ∀ (H : Heap) (locs : List Loc), hd z w H → va_S (az z) s.heap H locs → W p l e (rm 5 115) s m args below meth c H locs 0 0 Q (F0 m 0 ls []) := by
    intro H locs hW hS
    refine lv_iload_n hx hb dX10_share_0 rfl (lv_at hl 1 rfl) ?_
    obtain ⟨r_1, hq_2, hf⟩ := of_bd hf
    refine m_goRi (va_runS (As := [.int x1]) (rest := []) ⟨hx, hb, hml, hown, hts⟩ (c_X10_isCauses l hz x1 w hq_2) (va_cwS 1 hts gX10_share_X10_isCauses rfl rfl rfl (by decide +kernel) ⟨Nat.le_of_ble_eq_true rfl, Nat.le_of_ble_eq_true rfl⟩) (m_preS hK hW _) rfl rfl hl.1 rfl (lv_room (Nat.le_of_ble_eq_true rfl)) dX10_share_1 ⟨Nat.le_refl _, Nat.le_refl _⟩) ?_
    refine lv_if_eq (tgt := 14) hx hb dX10_share_4 (by decide) (fun c_3 => ?_) (fun c_3 => ?_)
    · have hf := of_t c_3 hf
      refine lv_iconst (v := (-1)) hx hb dX10_share_14 (by decide) ?_
      exact hret _ _ _ _ _ _ hf hW hS dX10_share_15
    · have hf := of_f c_3 hf
      refine lv_iload_n hx hb dX10_share_7 rfl (lv_at hl 2 rfl) ?_
      obtain ⟨r_4, hq_5, hf⟩ := of_bd hf
      refine m_goRi (va_runS (As := [.int x2]) (rest := []) ⟨hx, hb, hml, hown, hts⟩ (c_X10_isTrial l hz x2 w hq_5) (va_cwS 1 hts gX10_share_X10_isTrial rfl rfl rfl (by decide +kernel) ⟨Nat.le_of_ble_eq_true rfl, Nat.le_of_ble_eq_true rfl⟩) (m_preS hK hW _) rfl rfl hl.1 rfl (lv_room (Nat.le_of_ble_eq_true rfl)) dX10_share_8 ⟨Nat.le_refl _, Nat.le_refl _⟩) ?_
      refine lv_if_ne (tgt := 16) hx hb dX10_share_11 (by decide) (fun c_6 => ?_) (fun c_6 => ?_)
      · have hf := of_f c_6 hf
        refine lv_aload_n hx hb dX10_share_16 rfl (lv_at hl 0 rfl) ?_
        refine get_X10_10 hx hb hts in_X10_share_X10 hown hK hz hW lk_X10_share_0 dX10_share_17 ?_
        refine lv_iload_n hx hb dX10_share_20 rfl (lv_at hl 1 rfl) ?_
        obtain ⟨w_9, hq_8, hf⟩ := of_bd hf
        refine m_goWv (va_runV (As := [.int x1]) (rest := []) ⟨hx, hb, hml, hown, hts⟩ (c_X2_gatherNoted l hz x1 w hq_8) (cwV 1 hts gX10_share_X2_gatherNoted rfl rfl rfl (by decide +kernel) ⟨Nat.le_of_ble_eq_true rfl, Nat.le_of_ble_eq_true rfl⟩) (pre_X2 hK hz hW _) rfl rfl hl.1 rfl (lv_room (Nat.le_of_ble_eq_true rfl)) dX10_share_21 ⟨Nat.le_refl _, Nat.le_refl _⟩) hS (fun H locs hW hS => ?_)
        refine lv_aload_n hx hb dX10_share_24 rfl (lv_at hl 0 rfl) ?_
        refine get_X10_10 hx hb hts in_X10_share_X10 hown hK hz hW lk_X10_share_0 dX10_share_25 ?_
        refine lv_iload_n hx hb dX10_share_28 rfl (lv_at hl 2 rfl) ?_
        obtain ⟨r_10, hq_11, hf⟩ := of_bd hf
        refine m_goRi (va_runV (As := [.int x2]) (rest := []) ⟨hx, hb, hml, hown, hts⟩ (c_X2_greatestShare l hz x2 w_9 hq_11) (cwV 1 hts gX10_share_X2_greatestShare rfl rfl rfl (by decide +kernel) ⟨Nat.le_of_ble_eq_true rfl, Nat.le_of_ble_eq_true rfl⟩) (pre_X2 hK hz hW _) rfl rfl hl.1 rfl (lv_room (Nat.le_of_ble_eq_true rfl)) dX10_share_29 ⟨Nat.le_refl _, Nat.le_refl _⟩) ?_
        exact hret _ _ _ _ _ _ hf hW hS dX10_share_32
      · have hf := of_t c_6 hf
        refine lv_iconst (v := (-1)) hx hb dX10_share_14 (by decide) ?_
        exact hret _ _ _ _ _ _ hf hW hS dX10_share_15
  exact START _ _ hW va_S.rf
theorem in_X10_hunt_X10 : ∀ w ∈ wsX100, w ∈ wsX10_hunt := by decide +kernel
theorem in_X10_hunt_X2 : ∀ w ∈ wsX20, w ∈ wsX10_hunt := by decide +kernel
theorem lk_X10_hunt_0 : Cond.fieldLink RX10 75 "CamStitch" "faults" "LCamStitch$Faults;" ∈ wsX10_hunt := by decide +kernel
theorem lk_X10_hunt_1 : Cond.fieldLink RX10 361 "CamStitch$Faults" "size" "I" ∈ wsX10_hunt := by decide +kernel
theorem lk_X10_hunt_2 : Cond.fieldLink RX10 379 "CamStitch$Faults" "lastTrial" "I" ∈ wsX10_hunt := by decide +kernel
set_option maxHeartbeats 4000000 in
set_option maxRecDepth 100000 in
theorem c_X10_hunt (l : Launch) {z : LZ} (hz : IC z) (x1 : Int32) (x2 : Int32) (x3 : Int32) (w : Mem) {r : Int32} {w' : Mem} (hf : f_X10_hunt x1 x2 x3 w = some (r, w')) : Met l yX10_hunt wsX10_hunt (rm 5 124) (PZ z w [.ref (z.2.1 66), .int x1, .int x2, .int x3]) (QW z (some (.int r)) w') 0 0 (az z) := by
  refine mk_Wi (cc := cX10_hunt) (maxL := 5) (by decide +kernel) rfl (Nat.le_of_ble_eq_true rfl) ?_
  intro p e s m args below meth c hx hb hml hts hown hK hW Q hret ls hl
  have hl : lv_has ls 5 [(0, .ref (z.2.1 66)), (1, .int x1), (2, .int x2), (3, .int x3)] := hl
  unfold f_X10_hunt at hf
  have START : ∀ (H : Heap) (locs : List Loc), hd z w H → va_S (az z) s.heap H locs → W p l e (rm 5 124) s m args below meth c H locs 0 0 Q (F0 m 0 ls []) := by
    intro H locs hW hS
    refine lv_iload_n hx hb dX10_hunt_0 rfl (lv_at hl 1 rfl) ?_
    obtain ⟨r_1, hq_2, hf⟩ := of_bd hf
    refine m_goRi (va_runS (As := [.int x1]) (rest := []) ⟨hx, hb, hml, hown, hts⟩ (c_X10_isState l hz x1 w hq_2) (va_cwS 1 hts gX10_hunt_X10_isState rfl rfl rfl (by decide +kernel) ⟨Nat.le_of_ble_eq_true rfl, Nat.le_of_ble_eq_true rfl⟩) (m_preS hK hW _) rfl rfl hl.1 rfl (lv_room (Nat.le_of_ble_eq_true rfl)) dX10_hunt_1 ⟨Nat.le_refl _, Nat.le_refl _⟩) ?_
    refine lv_if_eq (tgt := 23) hx hb dX10_hunt_4 (by decide) (fun c_3 => ?_) (fun c_3 => ?_)
    · have hf := of_t c_3 hf
      refine lv_iconst (v := (-1)) hx hb dX10_hunt_23 (by decide) ?_
      exact hret _ _ _ _ _ _ hf hW hS dX10_hunt_24
    · have hf := of_f c_3 hf
      refine lv_iload_n hx hb dX10_hunt_7 rfl (lv_at hl 2 rfl) ?_
      obtain ⟨r_4, hq_5, hf⟩ := of_bd hf
      refine m_goRi (va_runS (As := [.int x2]) (rest := []) ⟨hx, hb, hml, hown, hts⟩ (c_X10_isCauses l hz x2 w hq_5) (va_cwS 1 hts gX10_hunt_X10_isCauses rfl rfl rfl (by decide +kernel) ⟨Nat.le_of_ble_eq_true rfl, Nat.le_of_ble_eq_true rfl⟩) (m_preS hK hW _) rfl rfl hl.1 rfl (lv_room (Nat.le_of_ble_eq_true rfl)) dX10_hunt_8 ⟨Nat.le_refl _, Nat.le_refl _⟩) ?_
      refine lv_if_eq (tgt := 23) hx hb dX10_hunt_11 (by decide) (fun c_6 => ?_) (fun c_6 => ?_)
      · have hf := of_t c_6 hf
        refine lv_iconst (v := (-1)) hx hb dX10_hunt_23 (by decide) ?_
        exact hret _ _ _ _ _ _ hf hW hS dX10_hunt_24
      · have hf := of_f c_6 hf
        refine lv_iload_n hx hb dX10_hunt_14 rfl (lv_at hl 3 rfl) ?_
        refine lv_if_lt (tgt := 23) hx hb dX10_hunt_15 (by decide) (fun c_7 => ?_) (fun c_7 => ?_)
        · have hf := of_t c_7 hf
          refine lv_iconst (v := (-1)) hx hb dX10_hunt_23 (by decide) ?_
          exact hret _ _ _ _ _ _ hf hW hS dX10_hunt_24
        · have hf := of_f c_7 hf
          refine lv_iload_n hx hb dX10_hunt_18 rfl (lv_at hl 3 rfl) ?_
          refine lv_iconst (v := 3) hx hb dX10_hunt_19 (by decide) ?_
          refine lv_icmp_le (tgt := 25) hx hb dX10_hunt_20 (by decide) (fun c_8 => ?_) (fun c_8 => ?_)
          · have hf := of_t c_8 hf
            refine lv_aload_n hx hb dX10_hunt_25 rfl (lv_at hl 0 rfl) ?_
            refine get_X10_10 hx hb hts in_X10_hunt_X10 hown hK hz hW lk_X10_hunt_0 dX10_hunt_26 ?_
            refine lv_iload_n hx hb dX10_hunt_29 rfl (lv_at hl 1 rfl) ?_
            refine lv_iload_n hx hb dX10_hunt_30 rfl (lv_at hl 2 rfl) ?_
            obtain ⟨r_9, w_11, hq_10, hf⟩ := of_b2 hf
            refine m_goWi (va_runV (As := [.int x1, .int x2]) (rest := []) ⟨hx, hb, hml, hown, hts⟩ (c_X2_hunted l hz x1 x2 w hq_10) (cwV 2 hts gX10_hunt_X2_hunted rfl rfl rfl (by decide +kernel) ⟨Nat.le_of_ble_eq_true rfl, Nat.le_of_ble_eq_true rfl⟩) (pre_X2 hK hz hW _) rfl rfl hl.1 rfl (lv_room (Nat.le_of_ble_eq_true rfl)) dX10_hunt_31 ⟨Nat.le_refl _, Nat.le_refl _⟩) hS (fun H locs hW hS => ?_)
            refine lv_istore (lv' := [(4, .int r_9), (0, .ref (z.2.1 66)), (1, .int x1), (2, .int x2), (3, .int x3)]) hx hb dX10_hunt_34 hl (by decide) rfl (fun ls hl => ?_)
            refine lv_iload_n hx hb dX10_hunt_36 rfl (lv_at hl 4 rfl) ?_
            by_cases c_12 : x3 = 0
            · have hf := of_t c_12 hf
              refine lv_tableIn (off := 27) (tgt := 64) hx hb dX10_hunt_37 (by rw [c_12]; decide) (by rw [c_12]; decide) (by rw [c_12]; rfl) (by decide) ?_
              refine lv_iload hx hb dX10_hunt_64 (lv_at hl 0 rfl) ?_
              exact hret _ _ _ _ _ _ hf hW hS dX10_hunt_66
            have hf := of_f c_12 hf
            by_cases c_13 : x3 = 1
            · have hf := of_t c_13 hf
              refine lv_tableIn (off := 30) (tgt := 67) hx hb dX10_hunt_37 (by rw [c_13]; decide) (by rw [c_13]; decide) (by rw [c_13]; rfl) (by decide) ?_
              refine lv_aload_n hx hb dX10_hunt_67 rfl (lv_at hl 1 rfl) ?_
              refine get_X10_10 hx hb hts in_X10_hunt_X10 hown hK hz hW lk_X10_hunt_0 dX10_hunt_68 ?_
              refine get_X2_3 hx hb hts in_X10_hunt_X2 hown hK hz hW lk_X10_hunt_1 dX10_hunt_71 ?_
              exact hret _ _ _ _ _ _ hf hW hS dX10_hunt_74
            have hf := of_f c_13 hf
            by_cases c_14 : x3 = 2
            · have hf := of_t c_14 hf
              refine lv_tableIn (off := 38) (tgt := 75) hx hb dX10_hunt_37 (by rw [c_14]; decide) (by rw [c_14]; decide) (by rw [c_14]; rfl) (by decide) ?_
              refine lv_aload_n hx hb dX10_hunt_75 rfl (lv_at hl 1 rfl) ?_
              refine get_X10_10 hx hb hts in_X10_hunt_X10 hown hK hz hW lk_X10_hunt_0 dX10_hunt_76 ?_
              refine lv_iload_n hx hb dX10_hunt_79 rfl (lv_at hl 2 rfl) ?_
              obtain ⟨r_15, hq_16, hf⟩ := of_bd hf
              refine m_goRi (va_runV (As := [.int x1]) (rest := []) ⟨hx, hb, hml, hown, hts⟩ (c_X2_holds l hz x1 w_11 hq_16) (cwV 1 hts gX10_hunt_X2_holds rfl rfl rfl (by decide +kernel) ⟨Nat.le_of_ble_eq_true rfl, Nat.le_of_ble_eq_true rfl⟩) (pre_X2 hK hz hW _) rfl rfl hl.1 rfl (lv_room (Nat.le_of_ble_eq_true rfl)) dX10_hunt_80 ⟨Nat.le_refl _, Nat.le_refl _⟩) ?_
              have J_18 : ∀ (v_17 : Int32) (ls : Array Slot), v_17 = (if r_15 = 0 then 0 else 1) → lv_has ls 5 [] → W p l e (rm 5 124) s m args below meth c H locs 0 0 Q (F0 m 91 ls [.int v_17]) := by
                intro v_17 ls ev_17 hl
                have hf := of_lt ev_17 hf
                exact hret _ _ _ _ _ _ hf hW hS dX10_hunt_91
              refine lv_if_eq (tgt := 90) hx hb dX10_hunt_83 (by decide) (fun c_19 => ?_) (fun c_19 => ?_)
              · refine lv_iconst (v := 0) hx hb dX10_hunt_90 (by decide) ?_
                exact J_18 _ _ (by rw [if_pos c_19]) (lv_sub hl [] rfl)
              · refine lv_iconst (v := 1) hx hb dX10_hunt_86 (by decide) ?_
                refine lv_goto (tgt := 91) hx hb dX10_hunt_87 (by decide) ?_
                exact J_18 _ _ (by rw [if_neg c_19]) (lv_sub hl [] rfl)
            have hf := of_f c_14 hf
            refine lv_tableOut (tgt := 92) hx hb dX10_hunt_37 (by have qc_12 := lv_neT c_12 (show (0 : Int32).toInt = 0 by decide); have qc_13 := lv_neT c_13 (show (1 : Int32).toInt = 1 by decide); have qc_14 := lv_neT c_14 (show (2 : Int32).toInt = 2 by decide); omega) (by decide) ?_
            refine lv_aload_n hx hb dX10_hunt_92 rfl (lv_at hl 1 rfl) ?_
            refine get_X10_10 hx hb hts in_X10_hunt_X10 hown hK hz hW lk_X10_hunt_0 dX10_hunt_93 ?_
            refine get_X2_4 hx hb hts in_X10_hunt_X2 hown hK hz hW lk_X10_hunt_2 dX10_hunt_96 ?_
            exact hret _ _ _ _ _ _ hf hW hS dX10_hunt_99
          · have hf := of_f c_8 hf
            refine lv_iconst (v := (-1)) hx hb dX10_hunt_23 (by decide) ?_
            exact hret _ _ _ _ _ _ hf hW hS dX10_hunt_24
  exact START _ _ hW va_S.rf
theorem in_X10_tape_X10 : ∀ w ∈ wsX100, w ∈ wsX10_tape := by decide +kernel
theorem lk_X10_tape_0 : Cond.fieldLink RX10 81 "CamStitch" "tapes" "[LCamStitch$Tape;" ∈ wsX10_tape := by decide +kernel
set_option maxHeartbeats 4000000 in
set_option maxRecDepth 100000 in
theorem c_X10_tape (l : Launch) {z : LZ} (hz : IC z) (x1 : Int32) (x2 : Int32) (x3 : Int32) (w : Mem) {r : Int32} {w' : Mem} (hf : f_X10_tape x1 x2 x3 w = some (r, w')) : Met l yX10_tape wsX10_tape (rm 2 46) (PZ z w [.ref (z.2.1 66), .int x1, .int x2, .int x3]) (QW z (some (.int r)) w') 0 0 (az z) := by
  refine mk_Wi (cc := cX10_tape) (maxL := 4) (by decide +kernel) rfl (Nat.le_of_ble_eq_true rfl) ?_
  intro p e s m args below meth c hx hb hml hts hown hK hW Q hret ls hl
  have hl : lv_has ls 4 [(0, .ref (z.2.1 66)), (1, .int x1), (2, .int x2), (3, .int x3)] := hl
  unfold f_X10_tape at hf
  have START : ∀ (H : Heap) (locs : List Loc), hd z w H → va_S (az z) s.heap H locs → W p l e (rm 2 46) s m args below meth c H locs 0 0 Q (F0 m 0 ls []) := by
    intro H locs hW hS
    refine lv_iload_n hx hb dX10_tape_0 rfl (lv_at hl 1 rfl) ?_
    obtain ⟨r_1, hq_2, hf⟩ := of_bd hf
    refine m_goRi (va_runS (As := [.int x1]) (rest := []) ⟨hx, hb, hml, hown, hts⟩ (c_X10_isTape l hz x1 w hq_2) (va_cwS 1 hts gX10_tape_X10_isTape rfl rfl rfl (by decide +kernel) ⟨Nat.le_of_ble_eq_true rfl, Nat.le_of_ble_eq_true rfl⟩) (m_preS hK hW _) rfl rfl hl.1 rfl (lv_room (Nat.le_of_ble_eq_true rfl)) dX10_tape_1 ⟨Nat.le_refl _, Nat.le_refl _⟩) ?_
    refine lv_if_eq (tgt := 24) hx hb dX10_tape_4 (by decide) (fun c_3 => ?_) (fun c_3 => ?_)
    · have hf := of_t c_3 hf
      refine lv_iconst (v := (-1)) hx hb dX10_tape_24 (by decide) ?_
      exact hret _ _ _ _ _ _ hf hW hS dX10_tape_25
    · have hf := of_f c_3 hf
      refine lv_iload_n hx hb dX10_tape_7 rfl (lv_at hl 2 rfl) ?_
      refine lv_iconst (v := 1) hx hb dX10_tape_8 (by decide) ?_
      refine lv_icmp_lt (tgt := 24) hx hb dX10_tape_9 (by decide) (fun c_4 => ?_) (fun c_4 => ?_)
      · have hf := of_t c_4 hf
        refine lv_iconst (v := (-1)) hx hb dX10_tape_24 (by decide) ?_
        exact hret _ _ _ _ _ _ hf hW hS dX10_tape_25
      · have hf := of_f c_4 hf
        refine lv_iload_n hx hb dX10_tape_12 rfl (lv_at hl 2 rfl) ?_
        refine lv_iconst (v := 4) hx hb dX10_tape_13 (by decide) ?_
        refine lv_icmp_gt (tgt := 24) hx hb dX10_tape_14 (by decide) (fun c_5 => ?_) (fun c_5 => ?_)
        · have hf := of_t c_5 hf
          refine lv_iconst (v := (-1)) hx hb dX10_tape_24 (by decide) ?_
          exact hret _ _ _ _ _ _ hf hW hS dX10_tape_25
        · have hf := of_f c_5 hf
          refine lv_iload_n hx hb dX10_tape_17 rfl (lv_at hl 3 rfl) ?_
          refine lv_sipush (v := 400) hx hb dX10_tape_18 (by decide) ?_
          refine lv_icmp_le (tgt := 26) hx hb dX10_tape_21 (by decide) (fun c_6 => ?_) (fun c_6 => ?_)
          · have hf := of_t c_6 hf
            refine lv_iload_n hx hb dX10_tape_26 rfl (lv_at hl 3 rfl) ?_
            refine lv_if_ge (tgt := 37) hx hb dX10_tape_27 (by decide) (fun c_7 => ?_) (fun c_7 => ?_)
            · have hf := of_t c_7 hf
              refine lv_aload_n hx hb dX10_tape_37 rfl (lv_at hl 0 rfl) ?_
              refine get_X10_11 hx hb hts in_X10_tape_X10 hown hK hz hW lk_X10_tape_0 dX10_tape_38 ?_
              refine lv_iload_n hx hb dX10_tape_41 rfl (lv_at hl 1 rfl) ?_
              obtain ⟨g_8, hf⟩ := of_gd hf
              refine ld_AT hx hb hK hz hW g_8 dX10_tape_42 ?_
              refine lv_iload_n hx hb dX10_tape_43 rfl (lv_at hl 2 rfl) ?_
              refine lv_iload_n hx hb dX10_tape_44 rfl (lv_at hl 3 rfl) ?_
              obtain ⟨w_11, hq_10, hf⟩ := of_bd hf
              refine m_goWv (va_runV (As := [.int x2, .int x3]) (rest := []) ⟨hx, hb, hml, hown, hts⟩ (c_X9_becomeRow l hz x1.toNatClampNeg (inb_lt g_8) x2 x3 w hq_10) (cwV 2 hts gX10_tape_X9_becomeRow rfl rfl rfl (by decide +kernel) ⟨Nat.le_of_ble_eq_true rfl, Nat.le_of_ble_eq_true rfl⟩) (pre_X9 hK hz hW (inb_lt g_8) _) rfl rfl hl.1 rfl (lv_room (Nat.le_of_ble_eq_true rfl)) dX10_tape_45 ⟨Nat.le_refl _, Nat.le_refl _⟩) hS (fun H locs hW hS => ?_)
              refine lv_iload_n hx hb dX10_tape_48 rfl (lv_at hl 3 rfl) ?_
              exact hret _ _ _ _ _ _ hf hW hS dX10_tape_49
            · have hf := of_f c_7 hf
              refine lv_aload_n hx hb dX10_tape_30 rfl (lv_at hl 0 rfl) ?_
              refine lv_bipush (v := (-14)) hx hb dX10_tape_31 (by decide) ?_
              obtain ⟨r_12, w_14, hq_13, hf⟩ := of_b2 hf
              refine m_goWi (va_runV (As := [.int (-14)]) (rest := []) ⟨hx, hb, hml, hown, hts⟩ (c_X10_counted l hz (-14) w hq_13) (cwV 1 hts gX10_tape_X10_counted rfl rfl rfl (by decide +kernel) ⟨Nat.le_of_ble_eq_true rfl, Nat.le_of_ble_eq_true rfl⟩) (pre_X10 hK hz hW _) rfl rfl hl.1 rfl (lv_room (Nat.le_of_ble_eq_true rfl)) dX10_tape_33 ⟨Nat.le_refl _, Nat.le_refl _⟩) hS (fun H locs hW hS => ?_)
              exact hret _ _ _ _ _ _ hf hW hS dX10_tape_36
          · have hf := of_f c_6 hf
            refine lv_iconst (v := (-1)) hx hb dX10_tape_24 (by decide) ?_
            exact hret _ _ _ _ _ _ hf hW hS dX10_tape_25
  exact START _ _ hW va_S.rf
theorem in_X10_keep_X1 : ∀ w ∈ wsX10, w ∈ wsX10_keep := by decide +kernel
theorem in_X10_keep_X10 : ∀ w ∈ wsX100, w ∈ wsX10_keep := by decide +kernel
theorem lk_X10_keep_0 : Cond.fieldLink RX10 26 "CamStitch" "work" "LCamStitch$Disc;" ∈ wsX10_keep := by decide +kernel
theorem lk_X10_keep_1 : Cond.fieldLink RX10 157 "CamStitch$Disc" "stitches" "I" ∈ wsX10_keep := by decide +kernel
theorem lk_X10_keep_2 : Cond.fieldLink RX10 81 "CamStitch" "tapes" "[LCamStitch$Tape;" ∈ wsX10_keep := by decide +kernel
set_option maxHeartbeats 4000000 in
set_option maxRecDepth 100000 in
theorem c_X10_keep (l : Launch) {z : LZ} (hz : IC z) (x1 : Int32) (w : Mem) {r : Int32} {w' : Mem} (hf : f_X10_keep x1 w = some (r, w')) : Met l yX10_keep wsX10_keep (rm 3 102) (PZ z w [.ref (z.2.1 66), .int x1]) (QW z (some (.int r)) w') 0 0 (az z) := by
  refine mk_Wi (cc := cX10_keep) (maxL := 2) (by decide +kernel) rfl (Nat.le_of_ble_eq_true rfl) ?_
  intro p e s m args below meth c hx hb hml hts hown hK hW Q hret ls hl
  have hl : lv_has ls 2 [(0, .ref (z.2.1 66)), (1, .int x1)] := hl
  unfold f_X10_keep at hf
  have START : ∀ (H : Heap) (locs : List Loc), hd z w H → va_S (az z) s.heap H locs → W p l e (rm 3 102) s m args below meth c H locs 0 0 Q (F0 m 0 ls []) := by
    intro H locs hW hS
    refine lv_iload_n hx hb dX10_keep_0 rfl (lv_at hl 1 rfl) ?_
    obtain ⟨r_1, hq_2, hf⟩ := of_bd hf
    refine m_goRi (va_runS (As := [.int x1]) (rest := []) ⟨hx, hb, hml, hown, hts⟩ (c_X10_isTape l hz x1 w hq_2) (va_cwS 1 hts gX10_keep_X10_isTape rfl rfl rfl (by decide +kernel) ⟨Nat.le_of_ble_eq_true rfl, Nat.le_of_ble_eq_true rfl⟩) (m_preS hK hW _) rfl rfl hl.1 rfl (lv_room (Nat.le_of_ble_eq_true rfl)) dX10_keep_1 ⟨Nat.le_refl _, Nat.le_refl _⟩) ?_
    refine lv_if_ne (tgt := 9) hx hb dX10_keep_4 (by decide) (fun c_3 => ?_) (fun c_3 => ?_)
    · have hf := of_f c_3 hf
      refine lv_aload_n hx hb dX10_keep_9 rfl (lv_at hl 0 rfl) ?_
      refine get_X10_2 hx hb hts in_X10_keep_X10 hown hK hz hW lk_X10_keep_0 dX10_keep_10 ?_
      refine get_X1_2 hx hb hts in_X10_keep_X1 hown hK hz hW (Nat.le_of_ble_eq_true rfl) lk_X10_keep_1 dX10_keep_13 ?_
      refine lv_if_ne (tgt := 22) hx hb dX10_keep_16 (by decide) (fun c_4 => ?_) (fun c_4 => ?_)
      · have hf := of_f c_4 hf
        refine lv_aload_n hx hb dX10_keep_22 rfl (lv_at hl 0 rfl) ?_
        refine get_X10_11 hx hb hts in_X10_keep_X10 hown hK hz hW lk_X10_keep_2 dX10_keep_23 ?_
        refine lv_iload_n hx hb dX10_keep_26 rfl (lv_at hl 1 rfl) ?_
        obtain ⟨g_5, hf⟩ := of_gd hf
        refine ld_AT hx hb hK hz hW g_5 dX10_keep_27 ?_
        refine lv_aload_n hx hb dX10_keep_28 rfl (lv_at hl 0 rfl) ?_
        refine get_X10_2 hx hb hts in_X10_keep_X10 hown hK hz hW lk_X10_keep_0 dX10_keep_29 ?_
        obtain ⟨w_8, hq_7, hf⟩ := of_bd hf
        refine m_goWv (va_runV (As := [.ref (z.2.1 (3*14))]) (rest := []) ⟨hx, hb, hml, hown, hts⟩ (c_X9_becomeDisc l hz x1.toNatClampNeg (inb_lt g_5) 14 (Nat.le_of_ble_eq_true rfl) w hq_7) (cwV 1 hts gX10_keep_X9_becomeDisc rfl rfl rfl (by decide +kernel) ⟨Nat.le_of_ble_eq_true rfl, Nat.le_of_ble_eq_true rfl⟩) (pre_X9 hK hz hW (inb_lt g_5) _) rfl rfl hl.1 rfl (lv_room (Nat.le_of_ble_eq_true rfl)) dX10_keep_32 ⟨Nat.le_refl _, Nat.le_refl _⟩) hS (fun H locs hW hS => ?_)
        refine lv_aload_n hx hb dX10_keep_35 rfl (lv_at hl 0 rfl) ?_
        refine get_X10_2 hx hb hts in_X10_keep_X10 hown hK hz hW lk_X10_keep_0 dX10_keep_36 ?_
        refine get_X1_2 hx hb hts in_X10_keep_X1 hown hK hz hW (Nat.le_of_ble_eq_true rfl) lk_X10_keep_1 dX10_keep_39 ?_
        exact hret _ _ _ _ _ _ hf hW hS dX10_keep_42
      · have hf := of_t c_4 hf
        refine lv_bipush (v := (-3)) hx hb dX10_keep_19 (by decide) ?_
        exact hret _ _ _ _ _ _ hf hW hS dX10_keep_21
    · have hf := of_t c_3 hf
      refine lv_iconst (v := (-1)) hx hb dX10_keep_7 (by decide) ?_
      exact hret _ _ _ _ _ _ hf hW hS dX10_keep_8
  exact START _ _ hW va_S.rf
theorem in_X10_back_X1 : ∀ w ∈ wsX10, w ∈ wsX10_back := by decide +kernel
theorem in_X10_back_X10 : ∀ w ∈ wsX100, w ∈ wsX10_back := by decide +kernel
theorem in_X10_back_X9 : ∀ w ∈ wsX90, w ∈ wsX10_back := by decide +kernel
theorem lk_X10_back_0 : Cond.fieldLink RX10 26 "CamStitch" "work" "LCamStitch$Disc;" ∈ wsX10_back := by decide +kernel
theorem lk_X10_back_1 : Cond.fieldLink RX10 81 "CamStitch" "tapes" "[LCamStitch$Tape;" ∈ wsX10_back := by decide +kernel
theorem lk_X10_back_2 : Cond.fieldLink RX10 385 "CamStitch$Tape" "disc" "LCamStitch$Disc;" ∈ wsX10_back := by decide +kernel
theorem lk_X10_back_3 : Cond.fieldLink RX10 157 "CamStitch$Disc" "stitches" "I" ∈ wsX10_back := by decide +kernel
set_option maxHeartbeats 4000000 in
set_option maxRecDepth 100000 in
theorem c_X10_back (l : Launch) {z : LZ} (hz : IC z) (x1 : Int32) (w : Mem) {r : Int32} {w' : Mem} (hf : f_X10_back x1 w = some (r, w')) : Met l yX10_back wsX10_back (rm 2 81) (PZ z w [.ref (z.2.1 66), .int x1]) (QW z (some (.int r)) w') 0 0 (az z) := by
  refine mk_Wi (cc := cX10_back) (maxL := 3) (by decide +kernel) rfl (Nat.le_of_ble_eq_true rfl) ?_
  intro p e s m args below meth c hx hb hml hts hown hK hW Q hret ls hl
  have hl : lv_has ls 3 [(0, .ref (z.2.1 66)), (1, .int x1)] := hl
  unfold f_X10_back at hf
  have START : ∀ (H : Heap) (locs : List Loc), hd z w H → va_S (az z) s.heap H locs → W p l e (rm 2 81) s m args below meth c H locs 0 0 Q (F0 m 0 ls []) := by
    intro H locs hW hS
    refine lv_aload_n hx hb dX10_back_0 rfl (lv_at hl 0 rfl) ?_
    refine lv_iload_n hx hb dX10_back_1 rfl (lv_at hl 1 rfl) ?_
    refine lv_iconst (v := 5) hx hb dX10_back_2 (by decide) ?_
    obtain ⟨r_1, hq_2, hf⟩ := of_bd hf
    refine m_goRi (va_runV (As := [.int x1, .int 5]) (rest := []) ⟨hx, hb, hml, hown, hts⟩ (c_X10_againstSort l hz x1 5 w hq_2) (cwV 2 hts gX10_back_X10_againstSort rfl rfl rfl (by decide +kernel) ⟨Nat.le_of_ble_eq_true rfl, Nat.le_of_ble_eq_true rfl⟩) (pre_X10 hK hz hW _) rfl rfl hl.1 rfl (lv_room (Nat.le_of_ble_eq_true rfl)) dX10_back_3 ⟨Nat.le_refl _, Nat.le_refl _⟩) ?_
    refine lv_istore_n (lv' := [(2, .int r_1), (0, .ref (z.2.1 66)), (1, .int x1)]) hx hb dX10_back_6 rfl hl (by decide) rfl (fun ls hl => ?_)
    refine lv_iload_n hx hb dX10_back_7 rfl (lv_at hl 0 rfl) ?_
    refine lv_if_eq (tgt := 17) hx hb dX10_back_8 (by decide) (fun c_3 => ?_) (fun c_3 => ?_)
    · have hf := of_t c_3 hf
      refine lv_aload_n hx hb dX10_back_17 rfl (lv_at hl 1 rfl) ?_
      refine get_X10_2 hx hb hts in_X10_back_X10 hown hK hz hW lk_X10_back_0 dX10_back_18 ?_
      refine lv_aload_n hx hb dX10_back_21 rfl (lv_at hl 1 rfl) ?_
      refine get_X10_11 hx hb hts in_X10_back_X10 hown hK hz hW lk_X10_back_1 dX10_back_22 ?_
      refine lv_iload_n hx hb dX10_back_25 rfl (lv_at hl 2 rfl) ?_
      obtain ⟨g_4, hf⟩ := of_gd hf
      refine ld_AT hx hb hK hz hW g_4 dX10_back_26 ?_
      refine get_X9_1 hx hb hts in_X10_back_X9 hown hK hz hW (inb_lt g_4) lk_X10_back_2 dX10_back_27 ?_
      obtain ⟨w_7, hq_6, hf⟩ := of_bd hf
      refine m_goWv (va_runV (As := [.ref (z.2.1 (3*(8+x1.toNatClampNeg)))]) (rest := []) ⟨hx, hb, hml, hown, hts⟩ (c_X1_become l hz 14 (Nat.le_of_ble_eq_true rfl) (8+x1.toNatClampNeg) (p9_d (inb_lt g_4)) w hq_6) (cwV 1 hts gX10_back_X1_become rfl rfl rfl (by decide +kernel) ⟨Nat.le_of_ble_eq_true rfl, Nat.le_of_ble_eq_true rfl⟩) (pre_X1 hK hz hW (Nat.le_of_ble_eq_true rfl) _) rfl rfl hl.1 rfl (lv_room (Nat.le_of_ble_eq_true rfl)) dX10_back_30 ⟨Nat.le_refl _, Nat.le_refl _⟩) hS (fun H locs hW hS => ?_)
      refine lv_aload_n hx hb dX10_back_33 rfl (lv_at hl 1 rfl) ?_
      refine get_X10_2 hx hb hts in_X10_back_X10 hown hK hz hW lk_X10_back_0 dX10_back_34 ?_
      refine get_X1_2 hx hb hts in_X10_back_X1 hown hK hz hW (Nat.le_of_ble_eq_true rfl) lk_X10_back_3 dX10_back_37 ?_
      exact hret _ _ _ _ _ _ hf hW hS dX10_back_40
    · have hf := of_f c_3 hf
      refine lv_aload_n hx hb dX10_back_11 rfl (lv_at hl 1 rfl) ?_
      refine lv_iload_n hx hb dX10_back_12 rfl (lv_at hl 0 rfl) ?_
      obtain ⟨r_8, w_10, hq_9, hf⟩ := of_b2 hf
      refine m_goWi (va_runV (As := [.int r_1]) (rest := []) ⟨hx, hb, hml, hown, hts⟩ (c_X10_counted l hz r_1 w hq_9) (cwV 1 hts gX10_back_X10_counted rfl rfl rfl (by decide +kernel) ⟨Nat.le_of_ble_eq_true rfl, Nat.le_of_ble_eq_true rfl⟩) (pre_X10 hK hz hW _) rfl rfl hl.1 rfl (lv_room (Nat.le_of_ble_eq_true rfl)) dX10_back_13 ⟨Nat.le_refl _, Nat.le_refl _⟩) hS (fun H locs hW hS => ?_)
      exact hret _ _ _ _ _ _ hf hW hS dX10_back_16
  exact START _ _ hW va_S.rf
theorem in_X10_toss_X10 : ∀ w ∈ wsX100, w ∈ wsX10_toss := by decide +kernel
theorem in_X10_toss_X9 : ∀ w ∈ wsX90, w ∈ wsX10_toss := by decide +kernel
theorem lk_X10_toss_0 : Cond.fieldLink RX10 81 "CamStitch" "tapes" "[LCamStitch$Tape;" ∈ wsX10_toss := by decide +kernel
theorem lk_X10_toss_1 : Cond.fieldLink RX10 385 "CamStitch$Tape" "disc" "LCamStitch$Disc;" ∈ wsX10_toss := by decide +kernel
set_option maxHeartbeats 4000000 in
set_option maxRecDepth 100000 in
theorem c_X10_toss (l : Launch) {z : LZ} (hz : IC z) (x1 : Int32) (w : Mem) {r : Int32} {w' : Mem} (hf : f_X10_toss x1 w = some (r, w')) : Met l yX10_toss wsX10_toss (rm 2 44) (PZ z w [.ref (z.2.1 66), .int x1]) (QW z (some (.int r)) w') 0 0 (az z) := by
  refine mk_Wi (cc := cX10_toss) (maxL := 4) (by decide +kernel) rfl (Nat.le_of_ble_eq_true rfl) ?_
  intro p e s m args below meth c hx hb hml hts hown hK hW Q hret ls hl
  have hl : lv_has ls 4 [(0, .ref (z.2.1 66)), (1, .int x1)] := hl
  unfold f_X10_toss at hf
  have START : ∀ (H : Heap) (locs : List Loc), hd z w H → va_S (az z) s.heap H locs → W p l e (rm 2 44) s m args below meth c H locs 0 0 Q (F0 m 0 ls []) := by
    intro H locs hW hS
    refine lv_aload_n hx hb dX10_toss_0 rfl (lv_at hl 0 rfl) ?_
    refine lv_iload_n hx hb dX10_toss_1 rfl (lv_at hl 1 rfl) ?_
    refine lv_iconst (v := 5) hx hb dX10_toss_2 (by decide) ?_
    obtain ⟨r_1, hq_2, hf⟩ := of_bd hf
    refine m_goRi (va_runV (As := [.int x1, .int 5]) (rest := []) ⟨hx, hb, hml, hown, hts⟩ (c_X10_againstSort l hz x1 5 w hq_2) (cwV 2 hts gX10_toss_X10_againstSort rfl rfl rfl (by decide +kernel) ⟨Nat.le_of_ble_eq_true rfl, Nat.le_of_ble_eq_true rfl⟩) (pre_X10 hK hz hW _) rfl rfl hl.1 rfl (lv_room (Nat.le_of_ble_eq_true rfl)) dX10_toss_3 ⟨Nat.le_refl _, Nat.le_refl _⟩) ?_
    refine lv_istore_n (lv' := [(2, .int r_1), (0, .ref (z.2.1 66)), (1, .int x1)]) hx hb dX10_toss_6 rfl hl (by decide) rfl (fun ls hl => ?_)
    refine lv_iload_n hx hb dX10_toss_7 rfl (lv_at hl 0 rfl) ?_
    refine lv_if_eq (tgt := 17) hx hb dX10_toss_8 (by decide) (fun c_3 => ?_) (fun c_3 => ?_)
    · have hf := of_t c_3 hf
      refine lv_aload_n hx hb dX10_toss_17 rfl (lv_at hl 1 rfl) ?_
      refine get_X10_11 hx hb hts in_X10_toss_X10 hown hK hz hW lk_X10_toss_0 dX10_toss_18 ?_
      refine lv_iload_n hx hb dX10_toss_21 rfl (lv_at hl 2 rfl) ?_
      obtain ⟨g_4, hf⟩ := of_gd hf
      refine ld_AT hx hb hK hz hW g_4 dX10_toss_22 ?_
      refine get_X9_1 hx hb hts in_X10_toss_X9 hown hK hz hW (inb_lt g_4) lk_X10_toss_1 dX10_toss_23 ?_
      obtain ⟨r_5, hq_6, hf⟩ := of_bd hf
      refine m_goRi (va_runV (As := []) (rest := []) ⟨hx, hb, hml, hown, hts⟩ (c_X1_steepness l hz (8+x1.toNatClampNeg) (p9_d (inb_lt g_4)) w hq_6) (cwV 0 hts gX10_toss_X1_steepness rfl rfl rfl (by decide +kernel) ⟨Nat.le_of_ble_eq_true rfl, Nat.le_of_ble_eq_true rfl⟩) (pre_X1 hK hz hW (p9_d (inb_lt g_4)) _) rfl rfl hl.1 rfl (lv_room (Nat.le_of_ble_eq_true rfl)) dX10_toss_26 ⟨Nat.le_refl _, Nat.le_refl _⟩) ?_
      refine lv_istore_n (lv' := [(3, .int r_5), (2, .int r_1), (0, .ref (z.2.1 66)), (1, .int x1)]) hx hb dX10_toss_29 rfl hl (by decide) rfl (fun ls hl => ?_)
      refine lv_aload_n hx hb dX10_toss_30 rfl (lv_at hl 2 rfl) ?_
      refine lv_iload_n hx hb dX10_toss_31 rfl (lv_at hl 0 rfl) ?_
      have J_8 : ∀ (v_7 : Int32) (ls : Array Slot), v_7 = (if r_5 = 0 then (-15) else r_5) → lv_has ls 4 [] → W p l e (rm 2 44) s m args below meth c H locs 0 0 Q (F0 m 41 ls [.int v_7, .ref (z.2.1 66)]) := by
        intro v_7 ls ev_7 hl
        have hf := of_lt ev_7 hf
        obtain ⟨r_9, w_11, hq_10, hf⟩ := of_b2 hf
        refine m_goWi (va_runV (As := [.int v_7]) (rest := []) ⟨hx, hb, hml, hown, hts⟩ (c_X10_counted l hz v_7 w hq_10) (cwV 1 hts gX10_toss_X10_counted rfl rfl rfl (by decide +kernel) ⟨Nat.le_of_ble_eq_true rfl, Nat.le_of_ble_eq_true rfl⟩) (pre_X10 hK hz hW _) rfl rfl hl.1 rfl (lv_room (Nat.le_of_ble_eq_true rfl)) dX10_toss_41 ⟨Nat.le_refl _, Nat.le_refl _⟩) hS (fun H locs hW hS => ?_)
        exact hret _ _ _ _ _ _ hf hW hS dX10_toss_44
      refine lv_if_ne (tgt := 40) hx hb dX10_toss_32 (by decide) (fun c_12 => ?_) (fun c_12 => ?_)
      · refine lv_iload_n hx hb dX10_toss_40 rfl (lv_at hl 0 rfl) ?_
        exact J_8 _ _ (by rw [if_neg c_12]) (lv_sub hl [] rfl)
      · refine lv_bipush (v := (-15)) hx hb dX10_toss_35 (by decide) ?_
        refine lv_goto (tgt := 41) hx hb dX10_toss_37 (by decide) ?_
        exact J_8 _ _ (by rw [if_pos c_12]) (lv_sub hl [] rfl)
    · have hf := of_f c_3 hf
      refine lv_aload_n hx hb dX10_toss_11 rfl (lv_at hl 1 rfl) ?_
      refine lv_iload_n hx hb dX10_toss_12 rfl (lv_at hl 0 rfl) ?_
      obtain ⟨r_13, w_15, hq_14, hf⟩ := of_b2 hf
      refine m_goWi (va_runV (As := [.int r_1]) (rest := []) ⟨hx, hb, hml, hown, hts⟩ (c_X10_counted l hz r_1 w hq_14) (cwV 1 hts gX10_toss_X10_counted rfl rfl rfl (by decide +kernel) ⟨Nat.le_of_ble_eq_true rfl, Nat.le_of_ble_eq_true rfl⟩) (pre_X10 hK hz hW _) rfl rfl hl.1 rfl (lv_room (Nat.le_of_ble_eq_true rfl)) dX10_toss_13 ⟨Nat.le_refl _, Nat.le_refl _⟩) hS (fun H locs hW hS => ?_)
      exact hret _ _ _ _ _ _ hf hW hS dX10_toss_16
  exact START _ _ hW va_S.rf
theorem in_X10_clear_X10 : ∀ w ∈ wsX100, w ∈ wsX10_clear := by decide +kernel
theorem in_X10_clear_X9 : ∀ w ∈ wsX90, w ∈ wsX10_clear := by decide +kernel
theorem lk_X10_clear_0 : Cond.fieldLink RX10 81 "CamStitch" "tapes" "[LCamStitch$Tape;" ∈ wsX10_clear := by decide +kernel
theorem lk_X10_clear_1 : Cond.fieldLink RX10 388 "CamStitch$Tape" "sort" "I" ∈ wsX10_clear := by decide +kernel
set_option maxHeartbeats 4000000 in
set_option maxRecDepth 100000 in
theorem c_X10_clear (l : Launch) {z : LZ} (hz : IC z) (x1 : Int32) (w : Mem) {r : Int32} {w' : Mem} (hf : f_X10_clear x1 w = some (r, w')) : Met l yX10_clear wsX10_clear (rm 1 20) (PZ z w [.ref (z.2.1 66), .int x1]) (QW z (some (.int r)) w') 0 0 (az z) := by
  refine mk_Wi (cc := cX10_clear) (maxL := 3) (by decide +kernel) rfl (Nat.le_of_ble_eq_true rfl) ?_
  intro p e s m args below meth c hx hb hml hts hown hK hW Q hret ls hl
  have hl : lv_has ls 3 [(0, .ref (z.2.1 66)), (1, .int x1)] := hl
  unfold f_X10_clear at hf
  have START : ∀ (H : Heap) (locs : List Loc), hd z w H → va_S (az z) s.heap H locs → W p l e (rm 1 20) s m args below meth c H locs 0 0 Q (F0 m 0 ls []) := by
    intro H locs hW hS
    refine lv_iload_n hx hb dX10_clear_0 rfl (lv_at hl 1 rfl) ?_
    obtain ⟨r_1, hq_2, hf⟩ := of_bd hf
    refine m_goRi (va_runS (As := [.int x1]) (rest := []) ⟨hx, hb, hml, hown, hts⟩ (c_X10_isTape l hz x1 w hq_2) (va_cwS 1 hts gX10_clear_X10_isTape rfl rfl rfl (by decide +kernel) ⟨Nat.le_of_ble_eq_true rfl, Nat.le_of_ble_eq_true rfl⟩) (m_preS hK hW _) rfl rfl hl.1 rfl (lv_room (Nat.le_of_ble_eq_true rfl)) dX10_clear_1 ⟨Nat.le_refl _, Nat.le_refl _⟩) ?_
    refine lv_if_ne (tgt := 9) hx hb dX10_clear_4 (by decide) (fun c_3 => ?_) (fun c_3 => ?_)
    · have hf := of_f c_3 hf
      refine lv_aload_n hx hb dX10_clear_9 rfl (lv_at hl 0 rfl) ?_
      refine get_X10_11 hx hb hts in_X10_clear_X10 hown hK hz hW lk_X10_clear_0 dX10_clear_10 ?_
      refine lv_iload_n hx hb dX10_clear_13 rfl (lv_at hl 1 rfl) ?_
      obtain ⟨g_4, hf⟩ := of_gd hf
      refine ld_AT hx hb hK hz hW g_4 dX10_clear_14 ?_
      refine get_X9_2 hx hb hts in_X10_clear_X9 hown hK hz hW (inb_lt g_4) lk_X10_clear_1 dX10_clear_15 ?_
      refine lv_topi (fun v_5 ev_5 => ?_)
      have hf := of_lt ev_5 hf
      refine lv_istore_n (lv' := [(2, .int v_5), (0, .ref (z.2.1 66)), (1, .int x1)]) hx hb dX10_clear_18 rfl hl (by decide) rfl (fun ls hl => ?_)
      refine lv_aload_n hx hb dX10_clear_19 rfl (lv_at hl 1 rfl) ?_
      refine get_X10_11 hx hb hts in_X10_clear_X10 hown hK hz hW lk_X10_clear_0 dX10_clear_20 ?_
      refine lv_iload_n hx hb dX10_clear_23 rfl (lv_at hl 2 rfl) ?_
      refine ld_AT hx hb hK hz hW g_4 dX10_clear_24 ?_
      refine lv_iconst (v := 0) hx hb dX10_clear_25 (by decide) ?_
      refine put_X9_2 hx hb hts in_X10_clear_X9 hown hK hz hW hS (inb_lt g_4) lk_X10_clear_1 dX10_clear_26 (fun H locs hW hS => ?_)
      obtain ⟨w_6, ew_6⟩ : ∃ y : Mem, y = mS w (48+2*x1.toNatClampNeg) 2 0 := ⟨_, rfl⟩
      have hW : hd z w_6 H := by rw [ew_6]; exact hW
      have hf := of_lt ew_6 hf
      refine lv_iload_n hx hb dX10_clear_29 rfl (lv_at hl 0 rfl) ?_
      exact hret _ _ _ _ _ _ hf hW hS dX10_clear_30
    · have hf := of_t c_3 hf
      refine lv_iconst (v := (-1)) hx hb dX10_clear_7 (by decide) ?_
      exact hret _ _ _ _ _ _ hf hW hS dX10_clear_8
  exact START _ _ hW va_S.rf
theorem in_X10_againstRow_X10 : ∀ w ∈ wsX100, w ∈ wsX10_againstRow := by decide +kernel
theorem in_X10_againstRow_X9 : ∀ w ∈ wsX90, w ∈ wsX10_againstRow := by decide +kernel
theorem lk_X10_againstRow_0 : Cond.fieldLink RX10 81 "CamStitch" "tapes" "[LCamStitch$Tape;" ∈ wsX10_againstRow := by decide +kernel
theorem lk_X10_againstRow_1 : Cond.fieldLink RX10 388 "CamStitch$Tape" "sort" "I" ∈ wsX10_againstRow := by decide +kernel
set_option maxHeartbeats 4000000 in
set_option maxRecDepth 100000 in
theorem c_X10_againstRow (l : Launch) {z : LZ} (hz : IC z) (x1 : Int32) (w : Mem) {r : Int32} (hf : f_X10_againstRow x1 w = some r) : Met l yX10_againstRow wsX10_againstRow (rm 1 20) (PZ z w [.ref (z.2.1 66), .int x1]) (QR (some (.int r))) 0 0 (fun _ => False) := by
  refine mk_Ri (cc := cX10_againstRow) (maxL := 2) (by decide +kernel) rfl (Nat.le_of_ble_eq_true rfl) ?_
  intro p e s m args below meth c hx hb hml hts hown hK hW Q hret ls hl
  have hl : lv_has ls 2 [(0, .ref (z.2.1 66)), (1, .int x1)] := hl
  unfold f_X10_againstRow at hf
  refine lv_iload_n hx hb dX10_againstRow_0 rfl (lv_at hl 1 rfl) ?_
  obtain ⟨r_1, hq_2, hf⟩ := of_bd hf
  refine m_goRi (va_runS (As := [.int x1]) (rest := []) ⟨hx, hb, hml, hown, hts⟩ (c_X10_isTape l hz x1 w hq_2) (va_cwS 1 hts gX10_againstRow_X10_isTape rfl rfl rfl (by decide +kernel) ⟨Nat.le_of_ble_eq_true rfl, Nat.le_of_ble_eq_true rfl⟩) (m_preS hK hW _) rfl rfl hl.1 rfl (lv_room (Nat.le_of_ble_eq_true rfl)) dX10_againstRow_1 ⟨Nat.le_refl _, Nat.le_refl _⟩) ?_
  refine lv_if_ne (tgt := 9) hx hb dX10_againstRow_4 (by decide) (fun c_3 => ?_) (fun c_3 => ?_)
  · have hf := of_f c_3 hf
    refine lv_aload_n hx hb dX10_againstRow_9 rfl (lv_at hl 0 rfl) ?_
    refine get_X10_11 hx hb hts in_X10_againstRow_X10 hown hK hz hW lk_X10_againstRow_0 dX10_againstRow_10 ?_
    refine lv_iload_n hx hb dX10_againstRow_13 rfl (lv_at hl 1 rfl) ?_
    obtain ⟨g_4, hf⟩ := of_gd hf
    refine ld_AT hx hb hK hz hW g_4 dX10_againstRow_14 ?_
    refine get_X9_2 hx hb hts in_X10_againstRow_X9 hown hK hz hW (inb_lt g_4) lk_X10_againstRow_1 dX10_againstRow_15 ?_
    refine lv_topi (fun v_5 ev_5 => ?_)
    have hf := of_lt ev_5 hf
    refine lv_if_ne (tgt := 24) hx hb dX10_againstRow_18 (by decide) (fun c_6 => ?_) (fun c_6 => ?_)
    · have hf := of_f c_6 hf
      refine lv_aload_n hx hb dX10_againstRow_24 rfl (lv_at hl 0 rfl) ?_
      refine get_X10_11 hx hb hts in_X10_againstRow_X10 hown hK hz hW lk_X10_againstRow_0 dX10_againstRow_25 ?_
      refine lv_iload_n hx hb dX10_againstRow_28 rfl (lv_at hl 1 rfl) ?_
      refine ld_AT hx hb hK hz hW g_4 dX10_againstRow_29 ?_
      obtain ⟨r_7, hq_8, hf⟩ := of_bd hf
      refine m_goRi (va_runV (As := []) (rest := []) ⟨hx, hb, hml, hown, hts⟩ (c_X9_isRow l hz x1.toNatClampNeg (inb_lt g_4) w hq_8) (cwV 0 hts gX10_againstRow_X9_isRow rfl rfl rfl (by decide +kernel) ⟨Nat.le_of_ble_eq_true rfl, Nat.le_of_ble_eq_true rfl⟩) (pre_X9 hK hz hW (inb_lt g_4) _) rfl rfl hl.1 rfl (lv_room (Nat.le_of_ble_eq_true rfl)) dX10_againstRow_30 ⟨Nat.le_refl _, Nat.le_refl _⟩) ?_
      have J_10 : ∀ (v_9 : Int32) (ls : Array Slot), v_9 = (if r_7 = 0 then (-12) else 0) → lv_has ls 2 [] → W p l e (rm 1 20) s m args below meth c s.heap [] 0 0 Q (F0 m 42 ls [.int v_9]) := by
        intro v_9 ls ev_9 hl
        have hf := of_lt ev_9 hf
        exact hret _ _ _ hf dX10_againstRow_42
      refine lv_if_eq (tgt := 40) hx hb dX10_againstRow_33 (by decide) (fun c_11 => ?_) (fun c_11 => ?_)
      · refine lv_bipush (v := (-12)) hx hb dX10_againstRow_40 (by decide) ?_
        exact J_10 _ _ (by rw [if_pos c_11]) (lv_sub hl [] rfl)
      · refine lv_iconst (v := 0) hx hb dX10_againstRow_36 (by decide) ?_
        refine lv_goto (tgt := 42) hx hb dX10_againstRow_37 (by decide) ?_
        exact J_10 _ _ (by rw [if_neg c_11]) (lv_sub hl [] rfl)
    · have hf := of_t c_6 hf
      refine lv_bipush (v := (-11)) hx hb dX10_againstRow_21 (by decide) ?_
      exact hret _ _ _ hf dX10_againstRow_23
  · have hf := of_t c_3 hf
    refine lv_iconst (v := (-1)) hx hb dX10_againstRow_7 (by decide) ?_
    exact hret _ _ _ hf dX10_againstRow_8
theorem in_X10_put_X10 : ∀ w ∈ wsX100, w ∈ wsX10_put := by decide +kernel
theorem in_X10_put_X9 : ∀ w ∈ wsX90, w ∈ wsX10_put := by decide +kernel
theorem lk_X10_put_0 : Cond.fieldLink RX10 81 "CamStitch" "tapes" "[LCamStitch$Tape;" ∈ wsX10_put := by decide +kernel
theorem lk_X10_put_1 : Cond.fieldLink RX10 394 "CamStitch$Tape" "length" "I" ∈ wsX10_put := by decide +kernel
theorem lk_X10_put_2 : Cond.fieldLink RX10 242 "CamStitch$Tape" "row" "[J" ∈ wsX10_put := by decide +kernel
set_option maxHeartbeats 4000000 in
set_option maxRecDepth 100000 in
theorem c_X10_put (l : Launch) {z : LZ} (hz : IC z) (x1 : Int32) (x2 : Int32) (x3 : Int64) (w : Mem) {r : Int32} {w' : Mem} (hf : f_X10_put x1 x2 x3 w = some (r, w')) : Met l yX10_put wsX10_put (rm 2 41) (PZ z w [.ref (z.2.1 66), .int x1, .int x2, .long x3]) (QW z (some (.int r)) w') 0 0 (az z) := by
  refine mk_Wi (cc := cX10_put) (maxL := 6) (by decide +kernel) rfl (Nat.le_of_ble_eq_true rfl) ?_
  intro p e s m args below meth c hx hb hml hts hown hK hW Q hret ls hl
  have hl : lv_has ls 6 [(0, .ref (z.2.1 66)), (1, .int x1), (2, .int x2), (3, .long x3)] := hl
  unfold f_X10_put at hf
  have START : ∀ (H : Heap) (locs : List Loc), hd z w H → va_S (az z) s.heap H locs → W p l e (rm 2 41) s m args below meth c H locs 0 0 Q (F0 m 0 ls []) := by
    intro H locs hW hS
    refine lv_aload_n hx hb dX10_put_0 rfl (lv_at hl 0 rfl) ?_
    refine lv_iload_n hx hb dX10_put_1 rfl (lv_at hl 1 rfl) ?_
    obtain ⟨r_1, hq_2, hf⟩ := of_bd hf
    refine m_goRi (va_runV (As := [.int x1]) (rest := []) ⟨hx, hb, hml, hown, hts⟩ (c_X10_againstRow l hz x1 w hq_2) (cwV 1 hts gX10_put_X10_againstRow rfl rfl rfl (by decide +kernel) ⟨Nat.le_of_ble_eq_true rfl, Nat.le_of_ble_eq_true rfl⟩) (pre_X10 hK hz hW _) rfl rfl hl.1 rfl (lv_room (Nat.le_of_ble_eq_true rfl)) dX10_put_2 ⟨Nat.le_refl _, Nat.le_refl _⟩) ?_
    refine lv_istore (lv' := [(5, .int r_1), (0, .ref (z.2.1 66)), (1, .int x1), (2, .int x2), (3, .long x3)]) hx hb dX10_put_5 hl (by decide) rfl (fun ls hl => ?_)
    refine lv_iload hx hb dX10_put_7 (lv_at hl 0 rfl) ?_
    refine lv_if_eq (tgt := 19) hx hb dX10_put_9 (by decide) (fun c_3 => ?_) (fun c_3 => ?_)
    · have hf := of_t c_3 hf
      refine lv_iload_n hx hb dX10_put_19 rfl (lv_at hl 3 rfl) ?_
      refine lv_if_lt (tgt := 36) hx hb dX10_put_20 (by decide) (fun c_4 => ?_) (fun c_4 => ?_)
      · have hf := of_t c_4 hf
        refine lv_aload_n hx hb dX10_put_36 rfl (lv_at hl 1 rfl) ?_
        refine lv_bipush (v := (-13)) hx hb dX10_put_37 (by decide) ?_
        obtain ⟨r_5, w_7, hq_6, hf⟩ := of_b2 hf
        refine m_goWi (va_runV (As := [.int (-13)]) (rest := []) ⟨hx, hb, hml, hown, hts⟩ (c_X10_counted l hz (-13) w hq_6) (cwV 1 hts gX10_put_X10_counted rfl rfl rfl (by decide +kernel) ⟨Nat.le_of_ble_eq_true rfl, Nat.le_of_ble_eq_true rfl⟩) (pre_X10 hK hz hW _) rfl rfl hl.1 rfl (lv_room (Nat.le_of_ble_eq_true rfl)) dX10_put_39 ⟨Nat.le_refl _, Nat.le_refl _⟩) hS (fun H locs hW hS => ?_)
        exact hret _ _ _ _ _ _ hf hW hS dX10_put_42
      · have hf := of_f c_4 hf
        refine lv_iload_n hx hb dX10_put_23 rfl (lv_at hl 3 rfl) ?_
        refine lv_aload_n hx hb dX10_put_24 rfl (lv_at hl 1 rfl) ?_
        refine get_X10_11 hx hb hts in_X10_put_X10 hown hK hz hW lk_X10_put_0 dX10_put_25 ?_
        refine lv_iload_n hx hb dX10_put_28 rfl (lv_at hl 2 rfl) ?_
        obtain ⟨g_8, hf⟩ := of_gd hf
        refine ld_AT hx hb hK hz hW g_8 dX10_put_29 ?_
        refine get_X9_3 hx hb hts in_X10_put_X9 hown hK hz hW (inb_lt g_8) lk_X10_put_1 dX10_put_30 ?_
        refine lv_topi (fun v_9 ev_9 => ?_)
        have hf := of_lt ev_9 hf
        refine lv_icmp_lt (tgt := 43) hx hb dX10_put_33 (by decide) (fun c_10 => ?_) (fun c_10 => ?_)
        · have hf := of_t c_10 hf
          refine lv_aload_n hx hb dX10_put_43 rfl (lv_at hl 1 rfl) ?_
          refine get_X10_11 hx hb hts in_X10_put_X10 hown hK hz hW lk_X10_put_0 dX10_put_44 ?_
          refine lv_iload_n hx hb dX10_put_47 rfl (lv_at hl 2 rfl) ?_
          refine ld_AT hx hb hK hz hW g_8 dX10_put_48 ?_
          refine get_X9_0 hx hb hts in_X10_put_X9 hown hK hz hW (inb_lt g_8) lk_X10_put_2 dX10_put_49 ?_
          refine lv_iload_n hx hb dX10_put_52 rfl (lv_at hl 3 rfl) ?_
          refine lv_aload_n hx hb dX10_put_53 rfl (lv_at hl 1 rfl) ?_
          refine get_X10_11 hx hb hts in_X10_put_X10 hown hK hz hW lk_X10_put_0 dX10_put_54 ?_
          refine lv_iload_n hx hb dX10_put_57 rfl (lv_at hl 2 rfl) ?_
          refine ld_AT hx hb hK hz hW g_8 dX10_put_58 ?_
          refine lv_lload_n hx hb dX10_put_59 rfl (lv_at hl 4 rfl) ?_
          obtain ⟨r_11, hq_12, hf⟩ := of_bd hf
          refine m_goRl (va_runV (As := [.long x3]) (rest := [.int x2, .ref (z.2.1 (49+2*x1.toNatClampNeg))]) ⟨hx, hb, hml, hown, hts⟩ (c_X9_narrowed l hz x1.toNatClampNeg (inb_lt g_8) x3 w hq_12) (cwV 1 hts gX10_put_X9_narrowed rfl rfl rfl (by decide +kernel) ⟨Nat.le_of_ble_eq_true rfl, Nat.le_of_ble_eq_true rfl⟩) (pre_X9 hK hz hW (inb_lt g_8) _) rfl rfl hl.1 rfl (lv_room (Nat.le_of_ble_eq_true rfl)) dX10_put_60 ⟨Nat.le_refl _, Nat.le_refl _⟩) ?_
          obtain ⟨g_13, hf⟩ := of_gd hf
          refine st_AL400 hx hb hK hz hW hS (inb_lt g_8) g_13 dX10_put_63 (fun H locs hW hS => ?_)
          obtain ⟨w_14, ew_14⟩ : ∃ y : Mem, y = mL w (49+2*x1.toNatClampNeg) x2.toNatClampNeg r_11 := ⟨_, rfl⟩
          have hW : hd z w_14 H := by rw [ew_14]; exact hW
          have hf := of_lt ew_14 hf
          refine lv_iconst (v := 1) hx hb dX10_put_64 (by decide) ?_
          exact hret _ _ _ _ _ _ hf hW hS dX10_put_65
        · have hf := of_f c_10 hf
          refine lv_aload_n hx hb dX10_put_36 rfl (lv_at hl 1 rfl) ?_
          refine lv_bipush (v := (-13)) hx hb dX10_put_37 (by decide) ?_
          obtain ⟨r_15, w_17, hq_16, hf⟩ := of_b2 hf
          refine m_goWi (va_runV (As := [.int (-13)]) (rest := []) ⟨hx, hb, hml, hown, hts⟩ (c_X10_counted l hz (-13) w hq_16) (cwV 1 hts gX10_put_X10_counted rfl rfl rfl (by decide +kernel) ⟨Nat.le_of_ble_eq_true rfl, Nat.le_of_ble_eq_true rfl⟩) (pre_X10 hK hz hW _) rfl rfl hl.1 rfl (lv_room (Nat.le_of_ble_eq_true rfl)) dX10_put_39 ⟨Nat.le_refl _, Nat.le_refl _⟩) hS (fun H locs hW hS => ?_)
          exact hret _ _ _ _ _ _ hf hW hS dX10_put_42
    · have hf := of_f c_3 hf
      refine lv_aload_n hx hb dX10_put_12 rfl (lv_at hl 1 rfl) ?_
      refine lv_iload hx hb dX10_put_13 (lv_at hl 0 rfl) ?_
      obtain ⟨r_18, w_20, hq_19, hf⟩ := of_b2 hf
      refine m_goWi (va_runV (As := [.int r_1]) (rest := []) ⟨hx, hb, hml, hown, hts⟩ (c_X10_counted l hz r_1 w hq_19) (cwV 1 hts gX10_put_X10_counted rfl rfl rfl (by decide +kernel) ⟨Nat.le_of_ble_eq_true rfl, Nat.le_of_ble_eq_true rfl⟩) (pre_X10 hK hz hW _) rfl rfl hl.1 rfl (lv_room (Nat.le_of_ble_eq_true rfl)) dX10_put_15 ⟨Nat.le_refl _, Nat.le_refl _⟩) hS (fun H locs hW hS => ?_)
      exact hret _ _ _ _ _ _ hf hW hS dX10_put_18
  exact START _ _ hW va_S.rf
theorem in_X10_copy_X10 : ∀ w ∈ wsX100, w ∈ wsX10_copy := by decide +kernel
theorem in_X10_copy_X9 : ∀ w ∈ wsX90, w ∈ wsX10_copy := by decide +kernel
theorem lk_X10_copy_0 : Cond.fieldLink RX10 81 "CamStitch" "tapes" "[LCamStitch$Tape;" ∈ wsX10_copy := by decide +kernel
theorem lk_X10_copy_1 : Cond.fieldLink RX10 388 "CamStitch$Tape" "sort" "I" ∈ wsX10_copy := by decide +kernel
theorem lk_X10_copy_2 : Cond.fieldLink RX10 242 "CamStitch$Tape" "row" "[J" ∈ wsX10_copy := by decide +kernel
theorem lk_X10_copy_3 : Cond.methodLink RX10 412 arraycopyName ∈ wsX10_copy := by decide +kernel
theorem lk_X10_copy_4 : Cond.native arraycopyName ∈ wsX10_copy := by decide +kernel
theorem lk_X10_copy_5 : Cond.static arraycopyName ∈ wsX10_copy := by decide +kernel
theorem lk_X10_copy_6 : Cond.initialized "java/lang/System" ∈ wsX10_copy := by decide +kernel
set_option maxHeartbeats 4000000 in
set_option maxRecDepth 100000 in
theorem c_X10_copy (l : Launch) {z : LZ} (hz : IC z) (x1 : Int32) (x2 : Int32) (x3 : Int32) (x4 : Int32) (x5 : Int32) (w : Mem) {r : Int32} {w' : Mem} (hf : f_X10_copy x1 x2 x3 x4 x5 w = some (r, w')) : Met l yX10_copy wsX10_copy (rm 1 60) (PZ z w [.ref (z.2.1 66), .int x1, .int x2, .int x3, .int x4, .int x5]) (QW z (some (.int r)) w') 0 0 (az z) := by
  refine mk_Wi (cc := cX10_copy) (maxL := 8) (by decide +kernel) rfl (Nat.le_of_ble_eq_true rfl) ?_
  intro p e s m args below meth c hx hb hml hts hown hK hW Q hret ls hl
  have hl : lv_has ls 8 [(0, .ref (z.2.1 66)), (1, .int x1), (2, .int x2), (3, .int x3), (4, .int x4), (5, .int x5)] := hl
  unfold f_X10_copy at hf
  have START : ∀ (H : Heap) (locs : List Loc), hd z w H → va_S (az z) s.heap H locs → W p l e (rm 1 60) s m args below meth c H locs 0 0 Q (F0 m 0 ls []) := by
    intro H locs hW hS
    refine lv_iload_n hx hb dX10_copy_0 rfl (lv_at hl 1 rfl) ?_
    obtain ⟨r_1, hq_2, hf⟩ := of_bd hf
    refine m_goRi (va_runS (As := [.int x1]) (rest := []) ⟨hx, hb, hml, hown, hts⟩ (c_X10_isTape l hz x1 w hq_2) (va_cwS 1 hts gX10_copy_X10_isTape rfl rfl rfl (by decide +kernel) ⟨Nat.le_of_ble_eq_true rfl, Nat.le_of_ble_eq_true rfl⟩) (m_preS hK hW _) rfl rfl hl.1 rfl (lv_room (Nat.le_of_ble_eq_true rfl)) dX10_copy_1 ⟨Nat.le_refl _, Nat.le_refl _⟩) ?_
    refine lv_if_eq (tgt := 14) hx hb dX10_copy_4 (by decide) (fun c_3 => ?_) (fun c_3 => ?_)
    · have hf := of_t c_3 hf
      refine lv_iconst (v := (-1)) hx hb dX10_copy_14 (by decide) ?_
      exact hret _ _ _ _ _ _ hf hW hS dX10_copy_15
    · have hf := of_f c_3 hf
      refine lv_iload_n hx hb dX10_copy_7 rfl (lv_at hl 3 rfl) ?_
      obtain ⟨r_4, hq_5, hf⟩ := of_bd hf
      refine m_goRi (va_runS (As := [.int x3]) (rest := []) ⟨hx, hb, hml, hown, hts⟩ (c_X10_isTape l hz x3 w hq_5) (va_cwS 1 hts gX10_copy_X10_isTape rfl rfl rfl (by decide +kernel) ⟨Nat.le_of_ble_eq_true rfl, Nat.le_of_ble_eq_true rfl⟩) (m_preS hK hW _) rfl rfl hl.1 rfl (lv_room (Nat.le_of_ble_eq_true rfl)) dX10_copy_8 ⟨Nat.le_refl _, Nat.le_refl _⟩) ?_
      refine lv_if_ne (tgt := 16) hx hb dX10_copy_11 (by decide) (fun c_6 => ?_) (fun c_6 => ?_)
      · have hf := of_f c_6 hf
        refine lv_aload_n hx hb dX10_copy_16 rfl (lv_at hl 0 rfl) ?_
        refine get_X10_11 hx hb hts in_X10_copy_X10 hown hK hz hW lk_X10_copy_0 dX10_copy_17 ?_
        refine lv_iload_n hx hb dX10_copy_20 rfl (lv_at hl 1 rfl) ?_
        obtain ⟨g_7, hf⟩ := of_gd hf
        refine ld_AT hx hb hK hz hW g_7 dX10_copy_21 ?_
        refine lv_astore (lv' := [(6, .ref (z.2.1 (48+2*x1.toNatClampNeg))), (0, .ref (z.2.1 66)), (1, .int x1), (2, .int x2), (3, .int x3), (4, .int x4), (5, .int x5)]) hx hb dX10_copy_22 hl (by decide) rfl (fun ls hl => ?_)
        refine lv_aload_n hx hb dX10_copy_24 rfl (lv_at hl 1 rfl) ?_
        refine get_X10_11 hx hb hts in_X10_copy_X10 hown hK hz hW lk_X10_copy_0 dX10_copy_25 ?_
        refine lv_iload_n hx hb dX10_copy_28 rfl (lv_at hl 4 rfl) ?_
        obtain ⟨g_8, hf⟩ := of_gd hf
        refine ld_AT hx hb hK hz hW g_8 dX10_copy_29 ?_
        refine lv_astore (lv' := [(7, .ref (z.2.1 (48+2*x3.toNatClampNeg))), (6, .ref (z.2.1 (48+2*x1.toNatClampNeg))), (0, .ref (z.2.1 66)), (1, .int x1), (2, .int x2), (3, .int x3), (4, .int x4), (5, .int x5)]) hx hb dX10_copy_30 hl (by decide) rfl (fun ls hl => ?_)
        refine lv_aload hx hb dX10_copy_32 (lv_at hl 1 rfl) ?_
        refine get_X9_2 hx hb hts in_X10_copy_X9 hown hK hz hW (inb_lt g_7) lk_X10_copy_1 dX10_copy_34 ?_
        refine lv_topi (fun v_9 ev_9 => ?_)
        have hf := of_lt ev_9 hf
        refine lv_if_eq (tgt := 48) hx hb dX10_copy_37 (by decide) (fun c_10 => ?_) (fun c_10 => ?_)
        · have hf := of_t c_10 hf
          refine lv_aload_n hx hb dX10_copy_48 rfl (lv_at hl 2 rfl) ?_
          refine lv_bipush (v := (-11)) hx hb dX10_copy_49 (by decide) ?_
          obtain ⟨r_11, w_13, hq_12, hf⟩ := of_b2 hf
          refine m_goWi (va_runV (As := [.int (-11)]) (rest := []) ⟨hx, hb, hml, hown, hts⟩ (c_X10_counted l hz (-11) w hq_12) (cwV 1 hts gX10_copy_X10_counted rfl rfl rfl (by decide +kernel) ⟨Nat.le_of_ble_eq_true rfl, Nat.le_of_ble_eq_true rfl⟩) (pre_X10 hK hz hW _) rfl rfl hl.1 rfl (lv_room (Nat.le_of_ble_eq_true rfl)) dX10_copy_51 ⟨Nat.le_refl _, Nat.le_refl _⟩) hS (fun H locs hW hS => ?_)
          exact hret _ _ _ _ _ _ hf hW hS dX10_copy_54
        · have hf := of_f c_10 hf
          refine lv_aload hx hb dX10_copy_40 (lv_at hl 0 rfl) ?_
          refine get_X9_2 hx hb hts in_X10_copy_X9 hown hK hz hW (inb_lt g_8) lk_X10_copy_1 dX10_copy_42 ?_
          refine lv_topi (fun v_14 ev_14 => ?_)
          have hf := of_lt ev_14 hf
          refine lv_if_ne (tgt := 55) hx hb dX10_copy_45 (by decide) (fun c_15 => ?_) (fun c_15 => ?_)
          · have hf := of_f c_15 hf
            refine lv_aload hx hb dX10_copy_55 (lv_at hl 1 rfl) ?_
            obtain ⟨r_16, hq_17, hf⟩ := of_bd hf
            refine m_goRi (va_runV (As := []) (rest := []) ⟨hx, hb, hml, hown, hts⟩ (c_X9_isRow l hz x1.toNatClampNeg (inb_lt g_7) w hq_17) (cwV 0 hts gX10_copy_X9_isRow rfl rfl rfl (by decide +kernel) ⟨Nat.le_of_ble_eq_true rfl, Nat.le_of_ble_eq_true rfl⟩) (pre_X9 hK hz hW (inb_lt g_7) _) rfl rfl hl.1 rfl (lv_room (Nat.le_of_ble_eq_true rfl)) dX10_copy_57 ⟨Nat.le_refl _, Nat.le_refl _⟩) ?_
            refine lv_if_eq (tgt := 76) hx hb dX10_copy_60 (by decide) (fun c_18 => ?_) (fun c_18 => ?_)
            · have hf := of_t c_18 hf
              refine lv_aload_n hx hb dX10_copy_76 rfl (lv_at hl 2 rfl) ?_
              refine lv_bipush (v := (-12)) hx hb dX10_copy_77 (by decide) ?_
              obtain ⟨r_19, w_21, hq_20, hf⟩ := of_b2 hf
              refine m_goWi (va_runV (As := [.int (-12)]) (rest := []) ⟨hx, hb, hml, hown, hts⟩ (c_X10_counted l hz (-12) w hq_20) (cwV 1 hts gX10_copy_X10_counted rfl rfl rfl (by decide +kernel) ⟨Nat.le_of_ble_eq_true rfl, Nat.le_of_ble_eq_true rfl⟩) (pre_X10 hK hz hW _) rfl rfl hl.1 rfl (lv_room (Nat.le_of_ble_eq_true rfl)) dX10_copy_79 ⟨Nat.le_refl _, Nat.le_refl _⟩) hS (fun H locs hW hS => ?_)
              exact hret _ _ _ _ _ _ hf hW hS dX10_copy_82
            · have hf := of_f c_18 hf
              refine lv_aload hx hb dX10_copy_63 (lv_at hl 1 rfl) ?_
              refine get_X9_2 hx hb hts in_X10_copy_X9 hown hK hz hW (inb_lt g_7) lk_X10_copy_1 dX10_copy_65 ?_
              refine lv_topi (fun v_22 ev_22 => ?_)
              have hf := of_lt ev_22 hf
              refine lv_aload hx hb dX10_copy_68 (lv_at hl 0 rfl) ?_
              refine get_X9_2 hx hb hts in_X10_copy_X9 hown hK hz hW (inb_lt g_8) lk_X10_copy_1 dX10_copy_70 ?_
              refine lv_topi (fun v_23 ev_23 => ?_)
              have hf := of_lt ev_23 hf
              refine lv_icmp_eq (tgt := 83) hx hb dX10_copy_73 (by decide) (fun c_24 => ?_) (fun c_24 => ?_)
              · have hf := of_t c_24 hf
                refine lv_aload hx hb dX10_copy_83 (lv_at hl 1 rfl) ?_
                refine lv_iload_n hx hb dX10_copy_85 rfl (lv_at hl 4 rfl) ?_
                refine lv_iload hx hb dX10_copy_86 (lv_at hl 7 rfl) ?_
                obtain ⟨r_25, hq_26, hf⟩ := of_bd hf
                refine m_goRi (va_runV (As := [.int x2, .int x5]) (rest := []) ⟨hx, hb, hml, hown, hts⟩ (c_X9_hasPlaces l hz x1.toNatClampNeg (inb_lt g_7) x2 x5 w hq_26) (cwV 2 hts gX10_copy_X9_hasPlaces rfl rfl rfl (by decide +kernel) ⟨Nat.le_of_ble_eq_true rfl, Nat.le_of_ble_eq_true rfl⟩) (pre_X9 hK hz hW (inb_lt g_7) _) rfl rfl hl.1 rfl (lv_room (Nat.le_of_ble_eq_true rfl)) dX10_copy_88 ⟨Nat.le_refl _, Nat.le_refl _⟩) ?_
                refine lv_if_eq (tgt := 106) hx hb dX10_copy_91 (by decide) (fun c_27 => ?_) (fun c_27 => ?_)
                · have hf := of_t c_27 hf
                  refine lv_aload_n hx hb dX10_copy_106 rfl (lv_at hl 2 rfl) ?_
                  refine lv_bipush (v := (-13)) hx hb dX10_copy_107 (by decide) ?_
                  obtain ⟨r_28, w_30, hq_29, hf⟩ := of_b2 hf
                  refine m_goWi (va_runV (As := [.int (-13)]) (rest := []) ⟨hx, hb, hml, hown, hts⟩ (c_X10_counted l hz (-13) w hq_29) (cwV 1 hts gX10_copy_X10_counted rfl rfl rfl (by decide +kernel) ⟨Nat.le_of_ble_eq_true rfl, Nat.le_of_ble_eq_true rfl⟩) (pre_X10 hK hz hW _) rfl rfl hl.1 rfl (lv_room (Nat.le_of_ble_eq_true rfl)) dX10_copy_109 ⟨Nat.le_refl _, Nat.le_refl _⟩) hS (fun H locs hW hS => ?_)
                  exact hret _ _ _ _ _ _ hf hW hS dX10_copy_112
                · have hf := of_f c_27 hf
                  refine lv_aload hx hb dX10_copy_94 (lv_at hl 0 rfl) ?_
                  refine lv_iload hx hb dX10_copy_96 (lv_at hl 6 rfl) ?_
                  refine lv_iload hx hb dX10_copy_98 (lv_at hl 7 rfl) ?_
                  obtain ⟨r_31, hq_32, hf⟩ := of_bd hf
                  refine m_goRi (va_runV (As := [.int x4, .int x5]) (rest := []) ⟨hx, hb, hml, hown, hts⟩ (c_X9_hasPlaces l hz x3.toNatClampNeg (inb_lt g_8) x4 x5 w hq_32) (cwV 2 hts gX10_copy_X9_hasPlaces rfl rfl rfl (by decide +kernel) ⟨Nat.le_of_ble_eq_true rfl, Nat.le_of_ble_eq_true rfl⟩) (pre_X9 hK hz hW (inb_lt g_8) _) rfl rfl hl.1 rfl (lv_room (Nat.le_of_ble_eq_true rfl)) dX10_copy_100 ⟨Nat.le_refl _, Nat.le_refl _⟩) ?_
                  refine lv_if_ne (tgt := 113) hx hb dX10_copy_103 (by decide) (fun c_33 => ?_) (fun c_33 => ?_)
                  · have hf := of_f c_33 hf
                    refine lv_aload hx hb dX10_copy_113 (lv_at hl 1 rfl) ?_
                    refine get_X9_0 hx hb hts in_X10_copy_X9 hown hK hz hW (inb_lt g_7) lk_X10_copy_2 dX10_copy_115 ?_
                    refine lv_iload_n hx hb dX10_copy_118 rfl (lv_at hl 4 rfl) ?_
                    refine lv_aload hx hb dX10_copy_119 (lv_at hl 0 rfl) ?_
                    refine get_X9_0 hx hb hts in_X10_copy_X9 hown hK hz hW (inb_lt g_8) lk_X10_copy_2 dX10_copy_121 ?_
                    refine lv_iload hx hb dX10_copy_124 (lv_at hl 6 rfl) ?_
                    refine lv_iload hx hb dX10_copy_126 (lv_at hl 7 rfl) ?_
                    obtain ⟨g_34, hf⟩ := of_gd hf
                    refine cp_AL400 hx hb (hml.trans hl.1.symm) hown (hts _ lk_X10_copy_3) (hts _ lk_X10_copy_4) (hts _ lk_X10_copy_5) (hts _ lk_X10_copy_6) hK hz hW hS (inb_lt g_7) (inb_lt g_8) g_34 (Nat.le_of_ble_eq_true rfl) (Nat.le_of_ble_eq_true rfl) dX10_copy_128 (fun H locs hW hS => ?_)
                    obtain ⟨w_35, ew_35⟩ : ∃ y : Mem, y = mD w (49+2*x1.toNatClampNeg) (49+2*x3.toNatClampNeg) x2.toNatClampNeg x4.toNatClampNeg x5.toNatClampNeg := ⟨_, rfl⟩
                    have hW : hd z w_35 H := by rw [ew_35]; exact hW
                    have hf := of_lt ew_35 hf
                    refine lv_iload hx hb dX10_copy_131 (lv_at hl 7 rfl) ?_
                    exact hret _ _ _ _ _ _ hf hW hS dX10_copy_133
                  · have hf := of_t c_33 hf
                    refine lv_aload_n hx hb dX10_copy_106 rfl (lv_at hl 2 rfl) ?_
                    refine lv_bipush (v := (-13)) hx hb dX10_copy_107 (by decide) ?_
                    obtain ⟨r_36, w_38, hq_37, hf⟩ := of_b2 hf
                    refine m_goWi (va_runV (As := [.int (-13)]) (rest := []) ⟨hx, hb, hml, hown, hts⟩ (c_X10_counted l hz (-13) w hq_37) (cwV 1 hts gX10_copy_X10_counted rfl rfl rfl (by decide +kernel) ⟨Nat.le_of_ble_eq_true rfl, Nat.le_of_ble_eq_true rfl⟩) (pre_X10 hK hz hW _) rfl rfl hl.1 rfl (lv_room (Nat.le_of_ble_eq_true rfl)) dX10_copy_109 ⟨Nat.le_refl _, Nat.le_refl _⟩) hS (fun H locs hW hS => ?_)
                    exact hret _ _ _ _ _ _ hf hW hS dX10_copy_112
              · have hf := of_f c_24 hf
                refine lv_aload_n hx hb dX10_copy_76 rfl (lv_at hl 2 rfl) ?_
                refine lv_bipush (v := (-12)) hx hb dX10_copy_77 (by decide) ?_
                obtain ⟨r_39, w_41, hq_40, hf⟩ := of_b2 hf
                refine m_goWi (va_runV (As := [.int (-12)]) (rest := []) ⟨hx, hb, hml, hown, hts⟩ (c_X10_counted l hz (-12) w hq_40) (cwV 1 hts gX10_copy_X10_counted rfl rfl rfl (by decide +kernel) ⟨Nat.le_of_ble_eq_true rfl, Nat.le_of_ble_eq_true rfl⟩) (pre_X10 hK hz hW _) rfl rfl hl.1 rfl (lv_room (Nat.le_of_ble_eq_true rfl)) dX10_copy_79 ⟨Nat.le_refl _, Nat.le_refl _⟩) hS (fun H locs hW hS => ?_)
                exact hret _ _ _ _ _ _ hf hW hS dX10_copy_82
          · have hf := of_t c_15 hf
            refine lv_aload_n hx hb dX10_copy_48 rfl (lv_at hl 2 rfl) ?_
            refine lv_bipush (v := (-11)) hx hb dX10_copy_49 (by decide) ?_
            obtain ⟨r_42, w_44, hq_43, hf⟩ := of_b2 hf
            refine m_goWi (va_runV (As := [.int (-11)]) (rest := []) ⟨hx, hb, hml, hown, hts⟩ (c_X10_counted l hz (-11) w hq_43) (cwV 1 hts gX10_copy_X10_counted rfl rfl rfl (by decide +kernel) ⟨Nat.le_of_ble_eq_true rfl, Nat.le_of_ble_eq_true rfl⟩) (pre_X10 hK hz hW _) rfl rfl hl.1 rfl (lv_room (Nat.le_of_ble_eq_true rfl)) dX10_copy_51 ⟨Nat.le_refl _, Nat.le_refl _⟩) hS (fun H locs hW hS => ?_)
            exact hret _ _ _ _ _ _ hf hW hS dX10_copy_54
      · have hf := of_t c_6 hf
        refine lv_iconst (v := (-1)) hx hb dX10_copy_14 (by decide) ?_
        exact hret _ _ _ _ _ _ hf hW hS dX10_copy_15
  exact START _ _ hW va_S.rf
theorem in_X10_shelvesInUse_X1 : ∀ w ∈ wsX10, w ∈ wsX10_shelvesInUse := by decide +kernel
theorem in_X10_shelvesInUse_X10 : ∀ w ∈ wsX100, w ∈ wsX10_shelvesInUse := by decide +kernel
theorem lk_X10_shelvesInUse_0 : Cond.fieldLink RX10 33 "CamStitch" "shelves" "[LCamStitch$Disc;" ∈ wsX10_shelvesInUse := by decide +kernel
theorem lk_X10_shelvesInUse_1 : Cond.fieldLink RX10 157 "CamStitch$Disc" "stitches" "I" ∈ wsX10_shelvesInUse := by decide +kernel
set_option maxHeartbeats 4000000 in
set_option maxRecDepth 100000 in
theorem c_X10_shelvesInUse (l : Launch) {z : LZ} (hz : IC z)  (w : Mem) {r : Int32} (hf : f_X10_shelvesInUse w = some r) : Met l yX10_shelvesInUse wsX10_shelvesInUse (rm 0 0) (PZ z w [.ref (z.2.1 66)]) (QR (some (.int r))) 0 0 (fun _ => False) := by
  refine mk_Ri (cc := cX10_shelvesInUse) (maxL := 3) (by decide +kernel) rfl (Nat.le_of_ble_eq_true rfl) ?_
  intro p e s m args below meth c hx hb hml hts hown hK hW Q hret ls hl
  have hl : lv_has ls 3 [(0, .ref (z.2.1 66))] := hl
  unfold f_X10_shelvesInUse at hf
  refine lv_iconst (v := 0) hx hb dX10_shelvesInUse_0 (by decide) ?_
  refine lv_istore_n (lv' := [(1, .int 0), (0, .ref (z.2.1 66))]) hx hb dX10_shelvesInUse_1 rfl hl (by decide) rfl (fun ls hl => ?_)
  refine lv_iconst (v := 0) hx hb dX10_shelvesInUse_2 (by decide) ?_
  refine lv_istore_n (lv' := [(2, .int 0), (1, .int 0), (0, .ref (z.2.1 66))]) hx hb dX10_shelvesInUse_3 rfl hl (by decide) rfl (fun ls hl => ?_)
  have L_3 : ∀ (n : Nat) (x1_1 : Int32) (x2_2 : Int32) (exL_3 : Int32) (ls : Array Slot), f_X10_shelvesInUse_L4 w n x1_1 x2_2 = some exL_3 → lv_has ls 3 [(0, .ref (z.2.1 66)), (1, .int x1_1), (2, .int x2_2)] → (∀ (ls : Array Slot), lv_has ls 3 [(1, .int exL_3)] → W p l e (rm 0 0) s m args below meth c s.heap [] 0 0 Q (F0 m 31 ls [])) → W p l e (rm 0 0) s m args below meth c s.heap [] 0 0 Q (F0 m 4 ls []) := by
    intro n
    induction n with
    | zero =>
      intro x1_1 x2_2 exL_3 ls hf
      have hf : (none : Option (Int32)) = some exL_3 := hf
      cases hf
    | succ n ihL_3 =>
      intro x1_1 x2_2 exL_3 ls hf hl hEL_3
      rw [f_X10_shelvesInUse_L4_s] at hf
      refine lv_iload_n hx hb dX10_shelvesInUse_4 rfl (lv_at hl 2 rfl) ?_
      refine lv_bipush (v := 8) hx hb dX10_shelvesInUse_5 (by decide) ?_
      refine lv_icmp_ge (tgt := 31) hx hb dX10_shelvesInUse_7 (by decide) (fun c_4 => ?_) (fun c_4 => ?_)
      · have hf := of_t c_4 hf
        have hf := Option.some.inj hf
        subst hf
        exact hEL_3 _ (lv_sub hl [1] rfl)
      · have hf := of_f c_4 hf
        refine lv_aload_n hx hb dX10_shelvesInUse_10 rfl (lv_at hl 0 rfl) ?_
        refine get_X10_4 hx hb hts in_X10_shelvesInUse_X10 hown hK hz hW lk_X10_shelvesInUse_0 dX10_shelvesInUse_11 ?_
        refine lv_iload_n hx hb dX10_shelvesInUse_14 rfl (lv_at hl 2 rfl) ?_
        obtain ⟨g_5, hf⟩ := of_gd hf
        refine ld_AD hx hb hK hz hW g_5 dX10_shelvesInUse_15 ?_
        refine get_X1_2 hx hb hts in_X10_shelvesInUse_X1 hown hK hz hW (p8_16 (inb_lt g_5)) lk_X10_shelvesInUse_1 dX10_shelvesInUse_16 ?_
        refine lv_topi (fun v_6 ev_6 => ?_)
        have hf := of_lt ev_6 hf
        refine lv_if_le (tgt := 25) hx hb dX10_shelvesInUse_19 (by decide) (fun c_7 => ?_) (fun c_7 => ?_)
        · have hf := of_t c_7 hf
          obtain ⟨x2_8, ex2_8⟩ : ∃ y : Int32, y = x2_2 + 1 := ⟨_, rfl⟩
          have hf := of_lt ex2_8 hf
          refine lv_iinc (v := x2_8) (lv' := [(2, .int x2_8), (0, .ref (z.2.1 66)), (1, .int x1_1)]) hx hb dX10_shelvesInUse_25 hl (k := 2) rfl (by rw [ex2_8]; rfl) (by decide) rfl (fun ls hl => ?_)
          refine lv_goto (tgt := 4) hx hb dX10_shelvesInUse_28 (by decide) ?_
          exact ihL_3 _ _ _ _ hf (lv_sub hl [1, 2, 0] rfl) hEL_3
        · have hf := of_f c_7 hf
          obtain ⟨x1_9, ex1_9⟩ : ∃ y : Int32, y = x1_1 + 1 := ⟨_, rfl⟩
          have hf := of_lt ex1_9 hf
          refine lv_iinc (v := x1_9) (lv' := [(1, .int x1_9), (0, .ref (z.2.1 66)), (2, .int x2_2)]) hx hb dX10_shelvesInUse_22 hl (k := 1) rfl (by rw [ex1_9]; rfl) (by decide) rfl (fun ls hl => ?_)
          obtain ⟨x2_10, ex2_10⟩ : ∃ y : Int32, y = x2_2 + 1 := ⟨_, rfl⟩
          have hf := of_lt ex2_10 hf
          refine lv_iinc (v := x2_10) (lv' := [(2, .int x2_10), (1, .int x1_9), (0, .ref (z.2.1 66))]) hx hb dX10_shelvesInUse_25 hl (k := 2) rfl (by rw [ex2_10]; rfl) (by decide) rfl (fun ls hl => ?_)
          refine lv_goto (tgt := 4) hx hb dX10_shelvesInUse_28 (by decide) ?_
          exact ihL_3 _ _ _ _ hf (lv_sub hl [2, 1, 0] rfl) hEL_3
  obtain ⟨ex_12, hq_11, hf⟩ := of_bd hf
  obtain ⟨x1_13, ex1_13⟩ : ∃ y, y = ex_12 := ⟨_, rfl⟩
  rw [← ex1_13] at hf
  rw [← ex1_13] at hq_11
  refine L_3 FU _ _ _ _ hq_11 (lv_sub hl [2, 1, 0] rfl) (fun ls hl => ?_)
  have hl : lv_has ls 3 [(1, .int x1_13)] := hl
  refine lv_iload_n hx hb dX10_shelvesInUse_31 rfl (lv_at hl 0 rfl) ?_
  exact hret _ _ _ hf dX10_shelvesInUse_32
theorem in_X10_count_X10 : ∀ w ∈ wsX100, w ∈ wsX10_count := by decide +kernel
theorem in_X10_count_X2 : ∀ w ∈ wsX20, w ∈ wsX10_count := by decide +kernel
theorem in_X10_count_X3 : ∀ w ∈ wsX30, w ∈ wsX10_count := by decide +kernel
theorem in_X10_count_X4 : ∀ w ∈ wsX40, w ∈ wsX10_count := by decide +kernel
theorem in_X10_count_X5 : ∀ w ∈ wsX50, w ∈ wsX10_count := by decide +kernel
theorem lk_X10_count_0 : Cond.fieldLink RX10 10 "CamStitch" "pattern" "LCamStitch$Pattern;" ∈ wsX10_count := by decide +kernel
theorem lk_X10_count_1 : Cond.fieldLink RX10 126 "CamStitch$Pattern" "points" "I" ∈ wsX10_count := by decide +kernel
theorem lk_X10_count_2 : Cond.fieldLink RX10 40 "CamStitch" "hem" "LCamStitch$Hem;" ∈ wsX10_count := by decide +kernel
theorem lk_X10_count_3 : Cond.fieldLink RX10 90 "CamStitch$Hem" "sides" "I" ∈ wsX10_count := by decide +kernel
theorem lk_X10_count_4 : Cond.fieldLink RX10 54 "CamStitch" "job" "LCamStitch$Job;" ∈ wsX10_count := by decide +kernel
theorem lk_X10_count_5 : Cond.fieldLink RX10 97 "CamStitch$Job" "steps" "I" ∈ wsX10_count := by decide +kernel
theorem lk_X10_count_6 : Cond.fieldLink RX10 75 "CamStitch" "faults" "LCamStitch$Faults;" ∈ wsX10_count := by decide +kernel
theorem lk_X10_count_7 : Cond.fieldLink RX10 101 "CamStitch$Faults" "notes" "I" ∈ wsX10_count := by decide +kernel
theorem lk_X10_count_8 : Cond.fieldLink RX10 104 "CamStitch" "refusals" "I" ∈ wsX10_count := by decide +kernel
set_option maxHeartbeats 4000000 in
set_option maxRecDepth 100000 in
theorem c_X10_count (l : Launch) {z : LZ} (hz : IC z) (x1 : Int32) (w : Mem) {r : Int32} (hf : f_X10_count x1 w = some r) : Met l yX10_count wsX10_count (rm 1 22) (PZ z w [.ref (z.2.1 66), .int x1]) (QR (some (.int r))) 0 0 (fun _ => False) := by
  refine mk_Ri (cc := cX10_count) (maxL := 2) (by decide +kernel) rfl (Nat.le_of_ble_eq_true rfl) ?_
  intro p e s m args below meth c hx hb hml hts hown hK hW Q hret ls hl
  have hl : lv_has ls 2 [(0, .ref (z.2.1 66)), (1, .int x1)] := hl
  unfold f_X10_count at hf
  refine lv_iload_n hx hb dX10_count_0 rfl (lv_at hl 1 rfl) ?_
  by_cases c_1 : x1 = 0
  · have hf := of_t c_1 hf
    refine lv_tableIn (off := 39) (tgt := 40) hx hb dX10_count_1 (by rw [c_1]; decide) (by rw [c_1]; decide) (by rw [c_1]; rfl) (by decide) ?_
    refine lv_aload_n hx hb dX10_count_40 rfl (lv_at hl 0 rfl) ?_
    refine get_X10_0 hx hb hts in_X10_count_X10 hown hK hz hW lk_X10_count_0 dX10_count_41 ?_
    refine get_X5_2 hx hb hts in_X10_count_X5 hown hK hz hW (Nat.le_of_ble_eq_true rfl) lk_X10_count_1 dX10_count_44 ?_
    exact hret _ _ _ hf dX10_count_47
  have hf := of_f c_1 hf
  by_cases c_2 : x1 = 1
  · have hf := of_t c_2 hf
    refine lv_tableIn (off := 47) (tgt := 48) hx hb dX10_count_1 (by rw [c_2]; decide) (by rw [c_2]; decide) (by rw [c_2]; rfl) (by decide) ?_
    refine lv_aload_n hx hb dX10_count_48 rfl (lv_at hl 0 rfl) ?_
    obtain ⟨r_3, hq_4, hf⟩ := of_bd hf
    refine m_goRi (va_runV (As := []) (rest := []) ⟨hx, hb, hml, hown, hts⟩ (c_X10_shelvesInUse l hz w hq_4) (cwV 0 hts gX10_count_X10_shelvesInUse rfl rfl rfl (by decide +kernel) ⟨Nat.le_of_ble_eq_true rfl, Nat.le_of_ble_eq_true rfl⟩) (pre_X10 hK hz hW _) rfl rfl hl.1 rfl (lv_room (Nat.le_of_ble_eq_true rfl)) dX10_count_49 ⟨Nat.le_refl _, Nat.le_refl _⟩) ?_
    exact hret _ _ _ hf dX10_count_52
  have hf := of_f c_2 hf
  by_cases c_5 : x1 = 2
  · have hf := of_t c_5 hf
    refine lv_tableIn (off := 52) (tgt := 53) hx hb dX10_count_1 (by rw [c_5]; decide) (by rw [c_5]; decide) (by rw [c_5]; rfl) (by decide) ?_
    refine lv_aload_n hx hb dX10_count_53 rfl (lv_at hl 0 rfl) ?_
    refine get_X10_5 hx hb hts in_X10_count_X10 hown hK hz hW lk_X10_count_2 dX10_count_54 ?_
    refine get_X3_1 hx hb hts in_X10_count_X3 hown hK hz hW lk_X10_count_3 dX10_count_57 ?_
    exact hret _ _ _ hf dX10_count_60
  have hf := of_f c_5 hf
  by_cases c_6 : x1 = 3
  · have hf := of_t c_6 hf
    refine lv_tableIn (off := 60) (tgt := 61) hx hb dX10_count_1 (by rw [c_6]; decide) (by rw [c_6]; decide) (by rw [c_6]; rfl) (by decide) ?_
    refine lv_aload_n hx hb dX10_count_61 rfl (lv_at hl 0 rfl) ?_
    refine get_X10_7 hx hb hts in_X10_count_X10 hown hK hz hW lk_X10_count_4 dX10_count_62 ?_
    refine get_X4_2 hx hb hts in_X10_count_X4 hown hK hz hW lk_X10_count_5 dX10_count_65 ?_
    exact hret _ _ _ hf dX10_count_68
  have hf := of_f c_6 hf
  by_cases c_7 : x1 = 4
  · have hf := of_t c_7 hf
    refine lv_tableIn (off := 68) (tgt := 69) hx hb dX10_count_1 (by rw [c_7]; decide) (by rw [c_7]; decide) (by rw [c_7]; rfl) (by decide) ?_
    refine lv_aload_n hx hb dX10_count_69 rfl (lv_at hl 0 rfl) ?_
    refine get_X10_10 hx hb hts in_X10_count_X10 hown hK hz hW lk_X10_count_6 dX10_count_70 ?_
    refine get_X2_2 hx hb hts in_X10_count_X2 hown hK hz hW lk_X10_count_7 dX10_count_73 ?_
    exact hret _ _ _ hf dX10_count_76
  have hf := of_f c_7 hf
  by_cases c_8 : x1 = 5
  · have hf := of_t c_8 hf
    refine lv_tableIn (off := 76) (tgt := 77) hx hb dX10_count_1 (by rw [c_8]; decide) (by rw [c_8]; decide) (by rw [c_8]; rfl) (by decide) ?_
    refine lv_aload_n hx hb dX10_count_77 rfl (lv_at hl 0 rfl) ?_
    refine get_X10_12 hx hb hts in_X10_count_X10 hown hK hz hW lk_X10_count_8 dX10_count_78 ?_
    exact hret _ _ _ hf dX10_count_81
  have hf := of_f c_8 hf
  refine lv_tableOut (tgt := 82) hx hb dX10_count_1 (by have qc_1 := lv_neT c_1 (show (0 : Int32).toInt = 0 by decide); have qc_2 := lv_neT c_2 (show (1 : Int32).toInt = 1 by decide); have qc_5 := lv_neT c_5 (show (2 : Int32).toInt = 2 by decide); have qc_6 := lv_neT c_6 (show (3 : Int32).toInt = 3 by decide); have qc_7 := lv_neT c_7 (show (4 : Int32).toInt = 4 by decide); have qc_8 := lv_neT c_8 (show (5 : Int32).toInt = 5 by decide); omega) (by decide) ?_
  refine lv_iconst (v := (-1)) hx hb dX10_count_82 (by decide) ?_
  exact hret _ _ _ hf dX10_count_83
theorem in_X11_thrown_X11 : ∀ w ∈ wsX110, w ∈ wsX11_thrown := by decide +kernel
theorem lk_X11_thrown_0 : Cond.fieldLink RX11 103 "CamStitchModel" "thrown" "I" ∈ wsX11_thrown := by decide +kernel
set_option maxHeartbeats 4000000 in
set_option maxRecDepth 100000 in
theorem c_X11_thrown (l : Launch) {z : LZ} (hz : IM z)  (w : Mem) {r : Int32} (hf : f_X11_thrown w = some r) : Met l yX11_thrown wsX11_thrown (rm 0 0) (PZ z w [.ref (z.2.1 0)]) (QR (some (.int r))) 0 0 (fun _ => False) := by
  refine mk_Ri (cc := cX11_thrown) (maxL := 1) (by decide +kernel) rfl (Nat.le_of_ble_eq_true rfl) ?_
  intro p e s m args below meth c hx hb hml hts hown hK hW Q hret ls hl
  have hl : lv_has ls 1 [(0, .ref (z.2.1 0))] := hl
  unfold f_X11_thrown at hf
  refine lv_aload_n hx hb dX11_thrown_0 rfl (lv_at hl 0 rfl) ?_
  refine get_X11_0 hx hb hts in_X11_thrown_X11 hown hK hz hW lk_X11_thrown_0 dX11_thrown_1 ?_
  exact hret _ _ _ hf dX11_thrown_4
set_option maxHeartbeats 4000000 in
set_option maxRecDepth 100000 in
theorem c_X11_in (l : Launch) {z : LZ} (hz : IM z) (x0 : Int32) (x1 : Int32) (x2 : Int32) (w : Mem) {r : Int32} (hf : f_X11_in x0 x1 x2 = some r) : Met l yX11_in wsX11_in (rm 0 0) (PZ z w [.int x0, .int x1, .int x2]) (QR (some (.int r))) 0 0 (fun _ => False) := by
  refine mk_Rz (cc := cX11_in) (maxL := 3) (by decide +kernel) rfl (Nat.le_of_ble_eq_true rfl) ?_
  intro p e s m args below meth c hx hb hml hts hown hK hW Q hret ls hl
  have hl : lv_has ls 3 [(0, .int x0), (1, .int x1), (2, .int x2)] := hl
  unfold f_X11_in at hf
  refine lv_iload_n hx hb dX11_in_0 rfl (lv_at hl 0 rfl) ?_
  refine lv_iload_n hx hb dX11_in_1 rfl (lv_at hl 1 rfl) ?_
  have J_2 : ∀ (v_1 : Int32) (ls : Array Slot), v_1 = (if x0 < x1 then 0 else (if x2 < x0 then 0 else 1)) → lv_has ls 3 [] → W p l e (rm 0 0) s m args below meth c s.heap [] 0 0 Q (F0 m 15 ls [.int v_1]) := by
    intro v_1 ls ev_1 hl
    have hf := of_lt ev_1 hf
    obtain ⟨g_3, hf⟩ := of_gd hf
    exact hret _ _ _ hf (bz_n g_3) dX11_in_15
  refine lv_icmp_lt (tgt := 14) hx hb dX11_in_2 (by decide) (fun c_4 => ?_) (fun c_4 => ?_)
  · refine lv_iconst (v := 0) hx hb dX11_in_14 (by decide) ?_
    exact J_2 _ _ (by rw [if_pos c_4]) (lv_sub hl [] rfl)
  · refine lv_iload_n hx hb dX11_in_5 rfl (lv_at hl 0 rfl) ?_
    refine lv_iload_n hx hb dX11_in_6 rfl (lv_at hl 2 rfl) ?_
    refine lv_icmp_gt (tgt := 14) hx hb dX11_in_7 (by decide) (fun c_5 => ?_) (fun c_5 => ?_)
    · refine lv_iconst (v := 0) hx hb dX11_in_14 (by decide) ?_
      exact J_2 _ _ (by rw [if_neg c_4, if_pos c_5]) (lv_sub hl [] rfl)
    · refine lv_iconst (v := 1) hx hb dX11_in_10 (by decide) ?_
      refine lv_goto (tgt := 15) hx hb dX11_in_11 (by decide) ?_
      exact J_2 _ _ (by rw [if_neg c_4, if_neg c_5]) (lv_sub hl [] rfl)
theorem in_X11_refuse_X11 : ∀ w ∈ wsX110, w ∈ wsX11_refuse := by decide +kernel
theorem lk_X11_refuse_0 : Cond.fieldLink RX11 106 "CamStitchModel" "refusals" "I" ∈ wsX11_refuse := by decide +kernel
set_option maxHeartbeats 4000000 in
set_option maxRecDepth 100000 in
theorem c_X11_refuse (l : Launch) {z : LZ} (hz : IM z) (x1 : Int32) (w : Mem) {r : Int32} {w' : Mem} (hf : f_X11_refuse x1 w = some (r, w')) : Met l yX11_refuse wsX11_refuse (rm 0 0) (PZ z w [.ref (z.2.1 0), .int x1]) (QW z (some (.int r)) w') 0 0 (az z) := by
  refine mk_Wi (cc := cX11_refuse) (maxL := 2) (by decide +kernel) rfl (Nat.le_of_ble_eq_true rfl) ?_
  intro p e s m args below meth c hx hb hml hts hown hK hW Q hret ls hl
  have hl : lv_has ls 2 [(0, .ref (z.2.1 0)), (1, .int x1)] := hl
  unfold f_X11_refuse at hf
  have START : ∀ (H : Heap) (locs : List Loc), hd z w H → va_S (az z) s.heap H locs → W p l e (rm 0 0) s m args below meth c H locs 0 0 Q (F0 m 0 ls []) := by
    intro H locs hW hS
    refine lv_aload_n hx hb dX11_refuse_0 rfl (lv_at hl 0 rfl) ?_
    refine lv_dup hx hb dX11_refuse_1 rfl ?_
    refine get_X11_25 hx hb hts in_X11_refuse_X11 hown hK hz hW lk_X11_refuse_0 dX11_refuse_2 ?_
    refine lv_iconst (v := 1) hx hb dX11_refuse_5 (by decide) ?_
    refine lv_iadd hx hb dX11_refuse_6 ?_
    refine put_X11_25 hx hb hts in_X11_refuse_X11 hown hK hz hW hS lk_X11_refuse_0 dX11_refuse_7 (fun H locs hW hS => ?_)
    obtain ⟨w_1, ew_1⟩ : ∃ y : Mem, y = mS w 0 25 ((w.1 0 25) + 1) := ⟨_, rfl⟩
    have hW : hd z w_1 H := by rw [ew_1]; exact hW
    have hf := of_lt ew_1 hf
    refine lv_iload_n hx hb dX11_refuse_10 rfl (lv_at hl 1 rfl) ?_
    exact hret _ _ _ _ _ _ hf hW hS dX11_refuse_11
  exact START _ _ hW va_S.rf
theorem in_X11_begin_X11 : ∀ w ∈ wsX110, w ∈ wsX11_begin := by decide +kernel
theorem lk_X11_begin_0 : Cond.fieldLink RX11 109 "CamStitchModel" "points" "I" ∈ wsX11_begin := by decide +kernel
theorem lk_X11_begin_1 : Cond.fieldLink RX11 16 "CamStitchModel" "many" "[I" ∈ wsX11_begin := by decide +kernel
theorem lk_X11_begin_2 : Cond.fieldLink RX11 112 "CamStitchModel" "sides" "I" ∈ wsX11_begin := by decide +kernel
theorem lk_X11_begin_3 : Cond.fieldLink RX11 28 "CamStitchModel" "thick" "[I" ∈ wsX11_begin := by decide +kernel
theorem lk_X11_begin_4 : Cond.fieldLink RX11 31 "CamStitchModel" "upper" "I" ∈ wsX11_begin := by decide +kernel
theorem lk_X11_begin_5 : Cond.fieldLink RX11 35 "CamStitchModel" "lower" "I" ∈ wsX11_begin := by decide +kernel
theorem lk_X11_begin_6 : Cond.constant RX11 38 100000 ∈ wsX11_begin := by decide +kernel
theorem lk_X11_begin_7 : Cond.fieldLink RX11 39 "CamStitchModel" "spool" "I" ∈ wsX11_begin := by decide +kernel
theorem lk_X11_begin_8 : Cond.fieldLink RX11 42 "CamStitchModel" "bobbin" "I" ∈ wsX11_begin := by decide +kernel
theorem lk_X11_begin_9 : Cond.fieldLink RX11 115 "CamStitchModel" "steps" "I" ∈ wsX11_begin := by decide +kernel
theorem lk_X11_begin_10 : Cond.fieldLink RX11 118 "CamStitchModel" "isSewn" "Z" ∈ wsX11_begin := by decide +kernel
theorem lk_X11_begin_11 : Cond.fieldLink RX11 122 "CamStitchModel" "notes" "I" ∈ wsX11_begin := by decide +kernel
theorem lk_X11_begin_12 : Cond.fieldLink RX11 106 "CamStitchModel" "refusals" "I" ∈ wsX11_begin := by decide +kernel
set_option maxHeartbeats 4000000 in
set_option maxRecDepth 100000 in
theorem c_X11_begin (l : Launch) {z : LZ} (hz : IM z)  (w : Mem) {r : Int32} {w' : Mem} (hf : f_X11_begin w = some (r, w')) : Met l yX11_begin wsX11_begin (rm 0 0) (PZ z w [.ref (z.2.1 0)]) (QW z (some (.int r)) w') 0 0 (az z) := by
  refine mk_Wi (cc := cX11_begin) (maxL := 2) (by decide +kernel) rfl (Nat.le_of_ble_eq_true rfl) ?_
  intro p e s m args below meth c hx hb hml hts hown hK hW Q hret ls hl
  have hl : lv_has ls 2 [(0, .ref (z.2.1 0))] := hl
  unfold f_X11_begin at hf
  have START : ∀ (H : Heap) (locs : List Loc), hd z w H → va_S (az z) s.heap H locs → W p l e (rm 0 0) s m args below meth c H locs 0 0 Q (F0 m 0 ls []) := by
    intro H locs hW hS
    refine lv_aload_n hx hb dX11_begin_0 rfl (lv_at hl 0 rfl) ?_
    refine lv_iconst (v := 0) hx hb dX11_begin_1 (by decide) ?_
    refine put_X11_1 hx hb hts in_X11_begin_X11 hown hK hz hW hS lk_X11_begin_0 dX11_begin_2 (fun H locs hW hS => ?_)
    obtain ⟨w_1, ew_1⟩ : ∃ y : Mem, y = mS w 0 1 0 := ⟨_, rfl⟩
    have hW : hd z w_1 H := by rw [ew_1]; exact hW
    have hf := of_lt ew_1 hf
    refine lv_iconst (v := 0) hx hb dX11_begin_5 (by decide) ?_
    refine lv_istore_n (lv' := [(1, .int 0), (0, .ref (z.2.1 0))]) hx hb dX11_begin_6 rfl hl (by decide) rfl (fun ls hl => ?_)
    have L_4 : ∀ (n : Nat) (x1_2 : Int32) (w_3 : Mem) (exL_4 : Mem) (H : Heap) (locs : List Loc) (ls : Array Slot), f_X11_begin_L7 n x1_2 w_3 = some exL_4 → hd z w_3 H → va_S (az z) s.heap H locs → lv_has ls 2 [(0, .ref (z.2.1 0)), (1, .int x1_2)] → (∀ (H : Heap) (locs : List Loc) (ls : Array Slot), hd z (exL_4) H → va_S (az z) s.heap H locs → lv_has ls 2 [(0, .ref (z.2.1 0))] → W p l e (rm 0 0) s m args below meth c H locs 0 0 Q (F0 m 26 ls [])) → W p l e (rm 0 0) s m args below meth c H locs 0 0 Q (F0 m 7 ls []) := by
      intro n
      induction n with
      | zero =>
        intro x1_2 w_3 exL_4 H locs ls hf
        have hf : (none : Option (Mem)) = some exL_4 := hf
        cases hf
      | succ n ihL_4 =>
        intro x1_2 w_3 exL_4 H locs ls hf hW hS hl hEL_4
        rw [f_X11_begin_L7_s] at hf
        refine lv_iload_n hx hb dX11_begin_7 rfl (lv_at hl 1 rfl) ?_
        refine lv_bipush (v := 8) hx hb dX11_begin_8 (by decide) ?_
        refine lv_icmp_ge (tgt := 26) hx hb dX11_begin_10 (by decide) (fun c_5 => ?_) (fun c_5 => ?_)
        · have hf := of_t c_5 hf
          have hf := Option.some.inj hf
          subst hf
          exact hEL_4 _ _ _ hW hS (lv_sub hl [0] rfl)
        · have hf := of_f c_5 hf
          refine lv_aload_n hx hb dX11_begin_13 rfl (lv_at hl 0 rfl) ?_
          refine get_X11_5 hx hb hts in_X11_begin_X11 hown hK hz hW lk_X11_begin_1 dX11_begin_14 ?_
          refine lv_iload_n hx hb dX11_begin_17 rfl (lv_at hl 1 rfl) ?_
          refine lv_iconst (v := 0) hx hb dX11_begin_18 (by decide) ?_
          obtain ⟨g_6, hf⟩ := of_gd hf
          refine st_M3 hx hb hK hz hW hS g_6 dX11_begin_19 (fun H locs hW hS => ?_)
          obtain ⟨w_7, ew_7⟩ : ∃ y : Mem, y = mS w_3 3 x1_2.toNatClampNeg 0 := ⟨_, rfl⟩
          have hW : hd z w_7 H := by rw [ew_7]; exact hW
          have hf := of_lt ew_7 hf
          obtain ⟨x1_8, ex1_8⟩ : ∃ y : Int32, y = x1_2 + 1 := ⟨_, rfl⟩
          have hf := of_lt ex1_8 hf
          refine lv_iinc (v := x1_8) (lv' := [(1, .int x1_8), (0, .ref (z.2.1 0))]) hx hb dX11_begin_20 hl (k := 1) rfl (by rw [ex1_8]; rfl) (by decide) rfl (fun ls hl => ?_)
          refine lv_goto (tgt := 7) hx hb dX11_begin_23 (by decide) ?_
          exact ihL_4 _ _ _ _ _ _ hf hW hS (lv_sub hl [1, 0] rfl) hEL_4
    obtain ⟨ex_10, hq_9, hf⟩ := of_bd hf
    obtain ⟨w_11, ew_11⟩ : ∃ y, y = ex_10 := ⟨_, rfl⟩
    rw [← ew_11] at hf
    rw [← ew_11] at hq_9
    refine L_4 FU _ _ _ _ _ _ hq_9 hW hS (lv_sub hl [1, 0] rfl) (fun H locs ls hW hS hl => ?_)
    have hW : hd z w_11 H := hW
    have hl : lv_has ls 2 [(0, .ref (z.2.1 0))] := hl
    refine lv_aload_n hx hb dX11_begin_26 rfl (lv_at hl 0 rfl) ?_
    refine get_X11_5 hx hb hts in_X11_begin_X11 hown hK hz hW lk_X11_begin_1 dX11_begin_27 ?_
    refine lv_bipush (v := 14) hx hb dX11_begin_30 (by decide) ?_
    refine lv_iconst (v := 0) hx hb dX11_begin_32 (by decide) ?_
    obtain ⟨g_12, hf⟩ := of_gd hf
    refine st_M3 hx hb hK hz hW hS g_12 dX11_begin_33 (fun H locs hW hS => ?_)
    obtain ⟨w_13, ew_13⟩ : ∃ y : Mem, y = mS w_11 3 ((14 : Int32).toNatClampNeg) 0 := ⟨_, rfl⟩
    have hW : hd z w_13 H := by rw [ew_13]; exact hW
    have hf := of_lt ew_13 hf
    refine lv_aload_n hx hb dX11_begin_34 rfl (lv_at hl 0 rfl) ?_
    refine lv_iconst (v := 0) hx hb dX11_begin_35 (by decide) ?_
    refine put_X11_8 hx hb hts in_X11_begin_X11 hown hK hz hW hS lk_X11_begin_2 dX11_begin_36 (fun H locs hW hS => ?_)
    obtain ⟨w_14, ew_14⟩ : ∃ y : Mem, y = mS w_13 0 8 0 := ⟨_, rfl⟩
    have hW : hd z w_14 H := by rw [ew_14]; exact hW
    have hf := of_lt ew_14 hf
    refine lv_aload_n hx hb dX11_begin_39 rfl (lv_at hl 0 rfl) ?_
    refine get_X11_10 hx hb hts in_X11_begin_X11 hown hK hz hW lk_X11_begin_3 dX11_begin_40 ?_
    refine lv_iconst (v := 0) hx hb dX11_begin_43 (by decide) ?_
    refine lv_iconst (v := 4) hx hb dX11_begin_44 (by decide) ?_
    obtain ⟨g_15, hf⟩ := of_gd hf
    refine st_M7 hx hb hK hz hW hS g_15 dX11_begin_45 (fun H locs hW hS => ?_)
    obtain ⟨w_16, ew_16⟩ : ∃ y : Mem, y = mS w_14 7 ((0 : Int32).toNatClampNeg) 4 := ⟨_, rfl⟩
    have hW : hd z w_16 H := by rw [ew_16]; exact hW
    have hf := of_lt ew_16 hf
    refine lv_aload_n hx hb dX11_begin_46 rfl (lv_at hl 0 rfl) ?_
    refine get_X11_10 hx hb hts in_X11_begin_X11 hown hK hz hW lk_X11_begin_3 dX11_begin_47 ?_
    refine lv_iconst (v := 1) hx hb dX11_begin_50 (by decide) ?_
    refine lv_iconst (v := 0) hx hb dX11_begin_51 (by decide) ?_
    obtain ⟨g_17, hf⟩ := of_gd hf
    refine st_M7 hx hb hK hz hW hS g_17 dX11_begin_52 (fun H locs hW hS => ?_)
    obtain ⟨w_18, ew_18⟩ : ∃ y : Mem, y = mS w_16 7 ((1 : Int32).toNatClampNeg) 0 := ⟨_, rfl⟩
    have hW : hd z w_18 H := by rw [ew_18]; exact hW
    have hf := of_lt ew_18 hf
    refine lv_aload_n hx hb dX11_begin_53 rfl (lv_at hl 0 rfl) ?_
    refine lv_bipush (v := 20) hx hb dX11_begin_54 (by decide) ?_
    refine put_X11_11 hx hb hts in_X11_begin_X11 hown hK hz hW hS lk_X11_begin_4 dX11_begin_56 (fun H locs hW hS => ?_)
    obtain ⟨w_19, ew_19⟩ : ∃ y : Mem, y = mS w_18 0 11 20 := ⟨_, rfl⟩
    have hW : hd z w_19 H := by rw [ew_19]; exact hW
    have hf := of_lt ew_19 hf
    refine lv_aload_n hx hb dX11_begin_59 rfl (lv_at hl 0 rfl) ?_
    refine lv_bipush (v := 20) hx hb dX11_begin_60 (by decide) ?_
    refine put_X11_12 hx hb hts in_X11_begin_X11 hown hK hz hW hS lk_X11_begin_5 dX11_begin_62 (fun H locs hW hS => ?_)
    obtain ⟨w_20, ew_20⟩ : ∃ y : Mem, y = mS w_19 0 12 20 := ⟨_, rfl⟩
    have hW : hd z w_20 H := by rw [ew_20]; exact hW
    have hf := of_lt ew_20 hf
    refine lv_aload_n hx hb dX11_begin_65 rfl (lv_at hl 0 rfl) ?_
    refine lv_ldc (v := 100000) hx hb hown (hts _ lk_X11_begin_6) dX11_begin_66 ?_
    refine put_X11_13 hx hb hts in_X11_begin_X11 hown hK hz hW hS lk_X11_begin_7 dX11_begin_68 (fun H locs hW hS => ?_)
    obtain ⟨w_21, ew_21⟩ : ∃ y : Mem, y = mS w_20 0 13 100000 := ⟨_, rfl⟩
    have hW : hd z w_21 H := by rw [ew_21]; exact hW
    have hf := of_lt ew_21 hf
    refine lv_aload_n hx hb dX11_begin_71 rfl (lv_at hl 0 rfl) ?_
    refine lv_sipush (v := 5000) hx hb dX11_begin_72 (by decide) ?_
    refine put_X11_14 hx hb hts in_X11_begin_X11 hown hK hz hW hS lk_X11_begin_8 dX11_begin_75 (fun H locs hW hS => ?_)
    obtain ⟨w_22, ew_22⟩ : ∃ y : Mem, y = mS w_21 0 14 5000 := ⟨_, rfl⟩
    have hW : hd z w_22 H := by rw [ew_22]; exact hW
    have hf := of_lt ew_22 hf
    refine lv_aload_n hx hb dX11_begin_78 rfl (lv_at hl 0 rfl) ?_
    refine lv_iconst (v := 0) hx hb dX11_begin_79 (by decide) ?_
    refine put_X11_15 hx hb hts in_X11_begin_X11 hown hK hz hW hS lk_X11_begin_9 dX11_begin_80 (fun H locs hW hS => ?_)
    obtain ⟨w_23, ew_23⟩ : ∃ y : Mem, y = mS w_22 0 15 0 := ⟨_, rfl⟩
    have hW : hd z w_23 H := by rw [ew_23]; exact hW
    have hf := of_lt ew_23 hf
    refine lv_aload_n hx hb dX11_begin_83 rfl (lv_at hl 0 rfl) ?_
    refine lv_iconst (v := 0) hx hb dX11_begin_84 (by decide) ?_
    refine put_X11_18 hx hb hts in_X11_begin_X11 hown hK hz hW hS (Or.inl rfl) lk_X11_begin_10 dX11_begin_85 (fun H locs hW hS => ?_)
    obtain ⟨w_24, ew_24⟩ : ∃ y : Mem, y = mS w_23 0 18 0 := ⟨_, rfl⟩
    have hW : hd z w_24 H := by rw [ew_24]; exact hW
    have hf := of_lt ew_24 hf
    refine lv_aload_n hx hb dX11_begin_88 rfl (lv_at hl 0 rfl) ?_
    refine lv_iconst (v := 0) hx hb dX11_begin_89 (by decide) ?_
    refine put_X11_22 hx hb hts in_X11_begin_X11 hown hK hz hW hS lk_X11_begin_11 dX11_begin_90 (fun H locs hW hS => ?_)
    obtain ⟨w_25, ew_25⟩ : ∃ y : Mem, y = mS w_24 0 22 0 := ⟨_, rfl⟩
    have hW : hd z w_25 H := by rw [ew_25]; exact hW
    have hf := of_lt ew_25 hf
    refine lv_aload_n hx hb dX11_begin_93 rfl (lv_at hl 0 rfl) ?_
    refine lv_iconst (v := 0) hx hb dX11_begin_94 (by decide) ?_
    refine put_X11_25 hx hb hts in_X11_begin_X11 hown hK hz hW hS lk_X11_begin_12 dX11_begin_95 (fun H locs hW hS => ?_)
    obtain ⟨w_26, ew_26⟩ : ∃ y : Mem, y = mS w_25 0 25 0 := ⟨_, rfl⟩
    have hW : hd z w_26 H := by rw [ew_26]; exact hW
    have hf := of_lt ew_26 hf
    refine lv_iconst (v := 0) hx hb dX11_begin_98 (by decide) ?_
    exact hret _ _ _ _ _ _ hf hW hS dX11_begin_99
  exact START _ _ hW va_S.rf
set_option maxHeartbeats 4000000 in
set_option maxRecDepth 100000 in
theorem c_X11_away (l : Launch) {z : LZ} (hz : IM z) (x0 : Int32) (w : Mem) {r : Int32} (hf : f_X11_away x0 = some r) : Met l yX11_away wsX11_away (rm 0 0) (PZ z w [.int x0]) (QR (some (.int r))) 0 0 (fun _ => False) := by
  refine mk_Ri (cc := cX11_away) (maxL := 1) (by decide +kernel) rfl (Nat.le_of_ble_eq_true rfl) ?_
  intro p e s m args below meth c hx hb hml hts hown hK hW Q hret ls hl
  have hl : lv_has ls 1 [(0, .int x0)] := hl
  unfold f_X11_away at hf
  refine lv_iload_n hx hb dX11_away_0 rfl (lv_at hl 0 rfl) ?_
  have J_2 : ∀ (v_1 : Int32) (ls : Array Slot), v_1 = (if 0 ≤ x0 then x0 else (-x0)) → lv_has ls 1 [] → W p l e (rm 0 0) s m args below meth c s.heap [] 0 0 Q (F0 m 10 ls [.int v_1]) := by
    intro v_1 ls ev_1 hl
    have hf := of_lt ev_1 hf
    exact hret _ _ _ hf dX11_away_10
  refine lv_if_ge (tgt := 9) hx hb dX11_away_1 (by decide) (fun c_3 => ?_) (fun c_3 => ?_)
  · refine lv_iload_n hx hb dX11_away_9 rfl (lv_at hl 0 rfl) ?_
    exact J_2 _ _ (by rw [if_pos c_3]) (lv_sub hl [] rfl)
  · refine lv_iload_n hx hb dX11_away_4 rfl (lv_at hl 0 rfl) ?_
    refine lv_ineg hx hb dX11_away_5 ?_
    refine lv_goto (tgt := 10) hx hb dX11_away_6 (by decide) ?_
    exact J_2 _ _ (by rw [if_neg c_3]) (lv_sub hl [] rfl)
set_option maxHeartbeats 4000000 in
set_option maxRecDepth 100000 in
theorem c_X11_floor (l : Launch) {z : LZ} (hz : IM z) (x0 : Int32) (x1 : Int32) (w : Mem) {r : Int32} (hf : f_X11_floor x0 x1 = some r) : Met l yX11_floor wsX11_floor (rm 0 0) (PZ z w [.int x0, .int x1]) (QR (some (.int r))) 0 0 (fun _ => False) := by
  refine mk_Ri (cc := cX11_floor) (maxL := 3) (by decide +kernel) rfl (Nat.le_of_ble_eq_true rfl) ?_
  intro p e s m args below meth c hx hb hml hts hown hK hW Q hret ls hl
  have hl : lv_has ls 3 [(0, .int x0), (1, .int x1)] := hl
  unfold f_X11_floor at hf
  refine lv_iload_n hx hb dX11_floor_0 rfl (lv_at hl 0 rfl) ?_
  refine lv_iload_n hx hb dX11_floor_1 rfl (lv_at hl 1 rfl) ?_
  obtain ⟨g_1, hf⟩ := of_gd hf
  refine lv_idiv hx hb dX11_floor_2 g_1 ?_
  refine lv_topi (fun v_2 ev_2 => ?_)
  have hf := of_lt ev_2 hf
  refine lv_istore_n (lv' := [(2, .int v_2), (0, .int x0), (1, .int x1)]) hx hb dX11_floor_3 rfl hl (by decide) rfl (fun ls hl => ?_)
  refine lv_iload_n hx hb dX11_floor_4 rfl (lv_at hl 0 rfl) ?_
  refine lv_iload_n hx hb dX11_floor_5 rfl (lv_at hl 2 rfl) ?_
  refine lv_imul hx hb dX11_floor_6 ?_
  refine lv_iload_n hx hb dX11_floor_7 rfl (lv_at hl 1 rfl) ?_
  have J_4 : ∀ (v_3 : Int32) (ls : Array Slot), v_3 = (if (v_2 * x1) ≤ x0 then v_2 else (v_2 - 1)) → lv_has ls 3 [] → W p l e (rm 0 0) s m args below meth c s.heap [] 0 0 Q (F0 m 18 ls [.int v_3]) := by
    intro v_3 ls ev_3 hl
    have hf := of_lt ev_3 hf
    exact hret _ _ _ hf dX11_floor_18
  refine lv_icmp_le (tgt := 17) hx hb dX11_floor_8 (by decide) (fun c_5 => ?_) (fun c_5 => ?_)
  · refine lv_iload_n hx hb dX11_floor_17 rfl (lv_at hl 0 rfl) ?_
    exact J_4 _ _ (by rw [if_pos c_5]) (lv_sub hl [] rfl)
  · refine lv_iload_n hx hb dX11_floor_11 rfl (lv_at hl 0 rfl) ?_
    refine lv_iconst (v := 1) hx hb dX11_floor_12 (by decide) ?_
    refine lv_isub hx hb dX11_floor_13 ?_
    refine lv_goto (tgt := 18) hx hb dX11_floor_14 (by decide) ?_
    exact J_4 _ _ (by rw [if_neg c_5]) (lv_sub hl [] rfl)
theorem in_X11_number_X11 : ∀ w ∈ wsX110, w ∈ wsX11_number := by decide +kernel
theorem lk_X11_number_0 : Cond.fieldLink RX11 72 "CamStitchModel" "cells" "[J" ∈ wsX11_number := by decide +kernel
theorem lk_X11_number_1 : Cond.fieldLink RX11 125 "CamStitchModel" "row" "I" ∈ wsX11_number := by decide +kernel
theorem lk_X11_number_2 : Cond.fieldLink RX11 128 "CamStitchModel" "place" "I" ∈ wsX11_number := by decide +kernel
set_option maxHeartbeats 4000000 in
set_option maxRecDepth 100000 in
theorem c_X11_number (l : Launch) {z : LZ} (hz : IM z) (x1 : Int32) (w : Mem) {r : Int32} (hf : f_X11_number x1 w = some r) : Met l yX11_number wsX11_number (rm 0 0) (PZ z w [.ref (z.2.1 0), .int x1]) (QR (some (.int r))) 0 0 (fun _ => False) := by
  refine mk_Ri (cc := cX11_number) (maxL := 2) (by decide +kernel) rfl (Nat.le_of_ble_eq_true rfl) ?_
  intro p e s m args below meth c hx hb hml hts hown hK hW Q hret ls hl
  have hl : lv_has ls 2 [(0, .ref (z.2.1 0)), (1, .int x1)] := hl
  unfold f_X11_number at hf
  refine lv_aload_n hx hb dX11_number_0 rfl (lv_at hl 0 rfl) ?_
  refine get_X11_28 hx hb hts in_X11_number_X11 hown hK hz hW lk_X11_number_0 dX11_number_1 ?_
  refine lv_sipush (v := 400) hx hb dX11_number_4 (by decide) ?_
  refine lv_aload_n hx hb dX11_number_7 rfl (lv_at hl 0 rfl) ?_
  refine get_X11_31 hx hb hts in_X11_number_X11 hown hK hz hW lk_X11_number_1 dX11_number_8 ?_
  refine lv_imul hx hb dX11_number_11 ?_
  refine lv_aload_n hx hb dX11_number_12 rfl (lv_at hl 0 rfl) ?_
  refine get_X11_29 hx hb hts in_X11_number_X11 hown hK hz hW lk_X11_number_2 dX11_number_13 ?_
  refine lv_iadd hx hb dX11_number_16 ?_
  refine lv_topi (fun v_1 ev_1 => ?_)
  have hf := of_lt ev_1 hf
  refine lv_iload_n hx hb dX11_number_17 rfl (lv_at hl 1 rfl) ?_
  refine lv_iadd hx hb dX11_number_18 ?_
  obtain ⟨g_2, hf⟩ := of_gd hf
  refine ld_M17 hx hb hK hz hW g_2 dX11_number_19 ?_
  refine lv_topl (fun v_3 ev_3 => ?_)
  have hf := of_lt ev_3 hf
  refine lv_l2i hx hb dX11_number_20 rfl ?_
  exact hret _ _ _ hf dX11_number_21
theorem in_X11_isLong_X11 : ∀ w ∈ wsX110, w ∈ wsX11_isLong := by decide +kernel
theorem lk_X11_isLong_0 : Cond.fieldLink RX11 128 "CamStitchModel" "place" "I" ∈ wsX11_isLong := by decide +kernel
theorem lk_X11_isLong_1 : Cond.fieldLink RX11 131 "CamStitchModel" "last" "I" ∈ wsX11_isLong := by decide +kernel
set_option maxHeartbeats 4000000 in
set_option maxRecDepth 100000 in
theorem c_X11_isLong (l : Launch) {z : LZ} (hz : IM z) (x1 : Int32) (w : Mem) {r : Int32} (hf : f_X11_isLong x1 w = some r) : Met l yX11_isLong wsX11_isLong (rm 0 0) (PZ z w [.ref (z.2.1 0), .int x1]) (QR (some (.int r))) 0 0 (fun _ => False) := by
  refine mk_Rz (cc := cX11_isLong) (maxL := 2) (by decide +kernel) rfl (Nat.le_of_ble_eq_true rfl) ?_
  intro p e s m args below meth c hx hb hml hts hown hK hW Q hret ls hl
  have hl : lv_has ls 2 [(0, .ref (z.2.1 0)), (1, .int x1)] := hl
  unfold f_X11_isLong at hf
  refine lv_aload_n hx hb dX11_isLong_0 rfl (lv_at hl 0 rfl) ?_
  refine get_X11_29 hx hb hts in_X11_isLong_X11 hown hK hz hW lk_X11_isLong_0 dX11_isLong_1 ?_
  refine lv_iload_n hx hb dX11_isLong_4 rfl (lv_at hl 1 rfl) ?_
  refine lv_iadd hx hb dX11_isLong_5 ?_
  refine lv_aload_n hx hb dX11_isLong_6 rfl (lv_at hl 0 rfl) ?_
  refine get_X11_30 hx hb hts in_X11_isLong_X11 hown hK hz hW lk_X11_isLong_1 dX11_isLong_7 ?_
  have J_2 : ∀ (v_1 : Int32) (ls : Array Slot), v_1 = (if (w.1 0 30) ≤ ((w.1 0 29) + x1) then 0 else 1) → lv_has ls 2 [] → W p l e (rm 0 0) s m args below meth c s.heap [] 0 0 Q (F0 m 18 ls [.int v_1]) := by
    intro v_1 ls ev_1 hl
    have hf := of_lt ev_1 hf
    obtain ⟨g_3, hf⟩ := of_gd hf
    exact hret _ _ _ hf (bz_n g_3) dX11_isLong_18
  refine lv_icmp_ge (tgt := 17) hx hb dX11_isLong_10 (by decide) (fun c_4 => ?_) (fun c_4 => ?_)
  · refine lv_iconst (v := 0) hx hb dX11_isLong_17 (by decide) ?_
    exact J_2 _ _ (by rw [if_pos c_4]) (lv_sub hl [] rfl)
  · refine lv_iconst (v := 1) hx hb dX11_isLong_13 (by decide) ?_
    refine lv_goto (tgt := 18) hx hb dX11_isLong_14 (by decide) ?_
    exact J_2 _ _ (by rw [if_neg c_4]) (lv_sub hl [] rfl)
theorem in_X11_standsAt_X11 : ∀ w ∈ wsX110, w ∈ wsX11_standsAt := by decide +kernel
theorem lk_X11_standsAt_0 : Cond.fieldLink RX11 134 "CamStitchModel" "originX" "I" ∈ wsX11_standsAt := by decide +kernel
theorem lk_X11_standsAt_1 : Cond.fieldLink RX11 137 "CamStitchModel" "isMirrored" "Z" ∈ wsX11_standsAt := by decide +kernel
theorem lk_X11_standsAt_2 : Cond.fieldLink RX11 144 "CamStitchModel" "originY" "I" ∈ wsX11_standsAt := by decide +kernel
theorem lk_X11_standsAt_3 : Cond.fieldLink RX11 151 "CamStitchModel" "read" "I" ∈ wsX11_standsAt := by decide +kernel
theorem lk_X11_standsAt_4 : Cond.fieldLink RX11 76 "CamStitchModel" "newX" "[I" ∈ wsX11_standsAt := by decide +kernel
theorem lk_X11_standsAt_5 : Cond.fieldLink RX11 79 "CamStitchModel" "newY" "[I" ∈ wsX11_standsAt := by decide +kernel
theorem lk_X11_standsAt_6 : Cond.fieldLink RX11 128 "CamStitchModel" "place" "I" ∈ wsX11_standsAt := by decide +kernel
set_option maxHeartbeats 4000000 in
set_option maxRecDepth 100000 in
theorem c_X11_standsAt (l : Launch) {z : LZ} (hz : IM z)  (w : Mem) {r : Int32} {w' : Mem} (hf : f_X11_standsAt w = some (r, w')) : Met l yX11_standsAt wsX11_standsAt (rm 1 22) (PZ z w [.ref (z.2.1 0)]) (QW z (some (.int r)) w') 0 0 (az z) := by
  refine mk_Wz (cc := cX11_standsAt) (maxL := 3) (by decide +kernel) rfl (Nat.le_of_ble_eq_true rfl) ?_
  intro p e s m args below meth c hx hb hml hts hown hK hW Q hret ls hl
  have hl : lv_has ls 3 [(0, .ref (z.2.1 0))] := hl
  unfold f_X11_standsAt at hf
  have START : ∀ (H : Heap) (locs : List Loc), hd z w H → va_S (az z) s.heap H locs → W p l e (rm 1 22) s m args below meth c H locs 0 0 Q (F0 m 0 ls []) := by
    intro H locs hW hS
    refine lv_aload_n hx hb dX11_standsAt_0 rfl (lv_at hl 0 rfl) ?_
    refine get_X11_33 hx hb hts in_X11_standsAt_X11 hown hK hz hW lk_X11_standsAt_0 dX11_standsAt_1 ?_
    refine lv_aload_n hx hb dX11_standsAt_4 rfl (lv_at hl 0 rfl) ?_
    refine get_X11_35 hx hb hts in_X11_standsAt_X11 hown hK hz hW lk_X11_standsAt_1 dX11_standsAt_5 ?_
    obtain ⟨k_1, ek_1, hf⟩ := of_lz hf
    have Jk_1 : ∀ (t_2 : Int32) (ls : Array Slot), k_1 t_2 = some (r, w') → lv_has ls 3 [(0, .ref (z.2.1 0))] → W p l e (rm 1 22) s m args below meth c H locs 0 0 Q (F0 m 25 ls [.int t_2, .int (w.1 0 33)]) := by
      intro t_2 ls hf hl
      have hf := of_j1 ek_1 hf
      refine lv_iadd hx hb dX11_standsAt_25 ?_
      refine lv_topi (fun v_3 ev_3 => ?_)
      have hf := of_lt ev_3 hf
      refine lv_istore_n (lv' := [(1, .int v_3), (0, .ref (z.2.1 0))]) hx hb dX11_standsAt_26 rfl hl (by decide) rfl (fun ls hl => ?_)
      refine lv_aload_n hx hb dX11_standsAt_27 rfl (lv_at hl 1 rfl) ?_
      refine get_X11_34 hx hb hts in_X11_standsAt_X11 hown hK hz hW lk_X11_standsAt_2 dX11_standsAt_28 ?_
      refine lv_aload_n hx hb dX11_standsAt_31 rfl (lv_at hl 1 rfl) ?_
      refine lv_iconst (v := 2) hx hb dX11_standsAt_32 (by decide) ?_
      obtain ⟨r_4, hq_5, hf⟩ := of_bd hf
      refine m_goRi (va_runV (As := [.int 2]) (rest := [.int (w.1 0 34)]) ⟨hx, hb, hml, hown, hts⟩ (c_X11_number l hz 2 w hq_5) (cwV 1 hts gX11_standsAt_X11_number rfl rfl rfl (by decide +kernel) ⟨Nat.le_of_ble_eq_true rfl, Nat.le_of_ble_eq_true rfl⟩) (pre_X11 hK hz hW _) rfl rfl hl.1 rfl (lv_room (Nat.le_of_ble_eq_true rfl)) dX11_standsAt_33 ⟨Nat.le_refl _, Nat.le_refl _⟩) ?_
      refine lv_iadd hx hb dX11_standsAt_36 ?_
      refine lv_topi (fun v_6 ev_6 => ?_)
      have hf := of_lt ev_6 hf
      refine lv_istore_n (lv' := [(2, .int v_6), (1, .int v_3), (0, .ref (z.2.1 0))]) hx hb dX11_standsAt_37 rfl hl (by decide) rfl (fun ls hl => ?_)
      refine lv_iload_n hx hb dX11_standsAt_38 rfl (lv_at hl 1 rfl) ?_
      refine lv_bipush (v := (-12)) hx hb dX11_standsAt_39 (by decide) ?_
      refine lv_bipush (v := 12) hx hb dX11_standsAt_41 (by decide) ?_
      obtain ⟨r_7, hq_8, hf⟩ := of_bd hf
      refine m_goRi (va_runS (As := [.int v_3, .int (-12), .int 12]) (rest := []) ⟨hx, hb, hml, hown, hts⟩ (c_X11_in l hz v_3 (-12) 12 w hq_8) (va_cwS 3 hts gX11_standsAt_X11_in rfl rfl rfl (by decide +kernel) ⟨Nat.le_of_ble_eq_true rfl, Nat.le_of_ble_eq_true rfl⟩) (m_preS hK hW _) rfl rfl hl.1 rfl (lv_room (Nat.le_of_ble_eq_true rfl)) dX11_standsAt_43 ⟨Nat.le_refl _, Nat.le_refl _⟩) ?_
      refine lv_if_eq (tgt := 69) hx hb dX11_standsAt_46 (by decide) (fun c_9 => ?_) (fun c_9 => ?_)
      · have hf := of_t c_9 hf
        refine lv_iconst (v := 0) hx hb dX11_standsAt_69 (by decide) ?_
        exact hret _ _ _ _ _ _ hf rfl hW hS dX11_standsAt_70
      · have hf := of_f c_9 hf
        refine lv_iload_n hx hb dX11_standsAt_49 rfl (lv_at hl 0 rfl) ?_
        refine lv_bipush (v := (-100)) hx hb dX11_standsAt_50 (by decide) ?_
        refine lv_bipush (v := 100) hx hb dX11_standsAt_52 (by decide) ?_
        obtain ⟨r_10, hq_11, hf⟩ := of_bd hf
        refine m_goRi (va_runS (As := [.int v_6, .int (-100), .int 100]) (rest := []) ⟨hx, hb, hml, hown, hts⟩ (c_X11_in l hz v_6 (-100) 100 w hq_11) (va_cwS 3 hts gX11_standsAt_X11_in rfl rfl rfl (by decide +kernel) ⟨Nat.le_of_ble_eq_true rfl, Nat.le_of_ble_eq_true rfl⟩) (m_preS hK hW _) rfl rfl hl.1 rfl (lv_room (Nat.le_of_ble_eq_true rfl)) dX11_standsAt_54 ⟨Nat.le_refl _, Nat.le_refl _⟩) ?_
        refine lv_if_eq (tgt := 69) hx hb dX11_standsAt_57 (by decide) (fun c_12 => ?_) (fun c_12 => ?_)
        · have hf := of_t c_12 hf
          refine lv_iconst (v := 0) hx hb dX11_standsAt_69 (by decide) ?_
          exact hret _ _ _ _ _ _ hf rfl hW hS dX11_standsAt_70
        · have hf := of_f c_12 hf
          refine lv_aload_n hx hb dX11_standsAt_60 rfl (lv_at hl 2 rfl) ?_
          refine get_X11_32 hx hb hts in_X11_standsAt_X11 hown hK hz hW lk_X11_standsAt_3 dX11_standsAt_61 ?_
          refine lv_bipush (v := 24) hx hb dX11_standsAt_64 (by decide) ?_
          refine lv_icmp_ne (tgt := 71) hx hb dX11_standsAt_66 (by decide) (fun c_13 => ?_) (fun c_13 => ?_)
          · have hf := of_f c_13 hf
            refine lv_aload_n hx hb dX11_standsAt_71 rfl (lv_at hl 2 rfl) ?_
            refine get_X11_40 hx hb hts in_X11_standsAt_X11 hown hK hz hW lk_X11_standsAt_4 dX11_standsAt_72 ?_
            refine lv_aload_n hx hb dX11_standsAt_75 rfl (lv_at hl 2 rfl) ?_
            refine get_X11_32 hx hb hts in_X11_standsAt_X11 hown hK hz hW lk_X11_standsAt_3 dX11_standsAt_76 ?_
            refine lv_iload_n hx hb dX11_standsAt_79 rfl (lv_at hl 1 rfl) ?_
            obtain ⟨g_14, hf⟩ := of_gd hf
            refine st_M18 hx hb hK hz hW hS g_14 dX11_standsAt_80 (fun H locs hW hS => ?_)
            obtain ⟨w_15, ew_15⟩ : ∃ y : Mem, y = mS w 18 ((w.1 0 32).toNatClampNeg) v_3 := ⟨_, rfl⟩
            have hW : hd z w_15 H := by rw [ew_15]; exact hW
            have hf := of_lt ew_15 hf
            refine lv_aload_n hx hb dX11_standsAt_81 rfl (lv_at hl 2 rfl) ?_
            refine get_X11_41 hx hb hts in_X11_standsAt_X11 hown hK hz hW lk_X11_standsAt_5 dX11_standsAt_82 ?_
            refine lv_aload_n hx hb dX11_standsAt_85 rfl (lv_at hl 2 rfl) ?_
            refine get_X11_32 hx hb hts in_X11_standsAt_X11 hown hK hz hW lk_X11_standsAt_3 dX11_standsAt_86 ?_
            refine lv_iload_n hx hb dX11_standsAt_89 rfl (lv_at hl 0 rfl) ?_
            obtain ⟨g_16, hf⟩ := of_gd hf
            refine st_M19 hx hb hK hz hW hS g_16 dX11_standsAt_90 (fun H locs hW hS => ?_)
            obtain ⟨w_17, ew_17⟩ : ∃ y : Mem, y = mS w_15 19 ((w_15.1 0 32).toNatClampNeg) v_6 := ⟨_, rfl⟩
            have hW : hd z w_17 H := by rw [ew_17]; exact hW
            have hf := of_lt ew_17 hf
            refine lv_aload_n hx hb dX11_standsAt_91 rfl (lv_at hl 2 rfl) ?_
            refine lv_dup hx hb dX11_standsAt_92 rfl ?_
            refine get_X11_32 hx hb hts in_X11_standsAt_X11 hown hK hz hW lk_X11_standsAt_3 dX11_standsAt_93 ?_
            refine lv_iconst (v := 1) hx hb dX11_standsAt_96 (by decide) ?_
            refine lv_iadd hx hb dX11_standsAt_97 ?_
            refine put_X11_32 hx hb hts in_X11_standsAt_X11 hown hK hz hW hS lk_X11_standsAt_3 dX11_standsAt_98 (fun H locs hW hS => ?_)
            obtain ⟨w_18, ew_18⟩ : ∃ y : Mem, y = mS w_17 0 32 ((w_17.1 0 32) + 1) := ⟨_, rfl⟩
            have hW : hd z w_18 H := by rw [ew_18]; exact hW
            have hf := of_lt ew_18 hf
            refine lv_aload_n hx hb dX11_standsAt_101 rfl (lv_at hl 2 rfl) ?_
            refine lv_dup hx hb dX11_standsAt_102 rfl ?_
            refine get_X11_29 hx hb hts in_X11_standsAt_X11 hown hK hz hW lk_X11_standsAt_6 dX11_standsAt_103 ?_
            refine lv_iconst (v := 3) hx hb dX11_standsAt_106 (by decide) ?_
            refine lv_iadd hx hb dX11_standsAt_107 ?_
            refine put_X11_29 hx hb hts in_X11_standsAt_X11 hown hK hz hW hS lk_X11_standsAt_6 dX11_standsAt_108 (fun H locs hW hS => ?_)
            obtain ⟨w_19, ew_19⟩ : ∃ y : Mem, y = mS w_18 0 29 ((w_18.1 0 29) + 3) := ⟨_, rfl⟩
            have hW : hd z w_19 H := by rw [ew_19]; exact hW
            have hf := of_lt ew_19 hf
            refine lv_iconst (v := 1) hx hb dX11_standsAt_111 (by decide) ?_
            exact hret _ _ _ _ _ _ hf rfl hW hS dX11_standsAt_112
          · have hf := of_t c_13 hf
            refine lv_iconst (v := 0) hx hb dX11_standsAt_69 (by decide) ?_
            exact hret _ _ _ _ _ _ hf rfl hW hS dX11_standsAt_70
    refine lv_if_eq (tgt := 20) hx hb dX11_standsAt_8 (by decide) (fun c_20 => ?_) (fun c_20 => ?_)
    · have hf := of_t c_20 hf
      refine lv_aload_n hx hb dX11_standsAt_20 rfl (lv_at hl 0 rfl) ?_
      refine lv_iconst (v := 1) hx hb dX11_standsAt_21 (by decide) ?_
      obtain ⟨r_21, hq_22, hf⟩ := of_bd hf
      refine m_goRi (va_runV (As := [.int 1]) (rest := [.int (w.1 0 33)]) ⟨hx, hb, hml, hown, hts⟩ (c_X11_number l hz 1 w hq_22) (cwV 1 hts gX11_standsAt_X11_number rfl rfl rfl (by decide +kernel) ⟨Nat.le_of_ble_eq_true rfl, Nat.le_of_ble_eq_true rfl⟩) (pre_X11 hK hz hW _) rfl rfl hl.1 rfl (lv_room (Nat.le_of_ble_eq_true rfl)) dX11_standsAt_22 ⟨Nat.le_refl _, Nat.le_refl _⟩) ?_
      exact Jk_1 _ _ hf (lv_sub hl [0] rfl)
    · have hf := of_f c_20 hf
      refine lv_aload_n hx hb dX11_standsAt_11 rfl (lv_at hl 0 rfl) ?_
      refine lv_iconst (v := 1) hx hb dX11_standsAt_12 (by decide) ?_
      obtain ⟨r_23, hq_24, hf⟩ := of_bd hf
      refine m_goRi (va_runV (As := [.int 1]) (rest := [.int (w.1 0 33)]) ⟨hx, hb, hml, hown, hts⟩ (c_X11_number l hz 1 w hq_24) (cwV 1 hts gX11_standsAt_X11_number rfl rfl rfl (by decide +kernel) ⟨Nat.le_of_ble_eq_true rfl, Nat.le_of_ble_eq_true rfl⟩) (pre_X11 hK hz hW _) rfl rfl hl.1 rfl (lv_room (Nat.le_of_ble_eq_true rfl)) dX11_standsAt_13 ⟨Nat.le_refl _, Nat.le_refl _⟩) ?_
      refine lv_ineg hx hb dX11_standsAt_16 ?_
      refine lv_goto (tgt := 25) hx hb dX11_standsAt_17 (by decide) ?_
      exact Jk_1 _ _ hf (lv_sub hl [0] rfl)
  exact START _ _ hW va_S.rf
theorem in_X11_movesTo_X11 : ∀ w ∈ wsX110, w ∈ wsX11_movesTo := by decide +kernel
theorem lk_X11_movesTo_0 : Cond.fieldLink RX11 134 "CamStitchModel" "originX" "I" ∈ wsX11_movesTo := by decide +kernel
theorem lk_X11_movesTo_1 : Cond.fieldLink RX11 137 "CamStitchModel" "isMirrored" "Z" ∈ wsX11_movesTo := by decide +kernel
theorem lk_X11_movesTo_2 : Cond.fieldLink RX11 144 "CamStitchModel" "originY" "I" ∈ wsX11_movesTo := by decide +kernel
theorem lk_X11_movesTo_3 : Cond.fieldLink RX11 128 "CamStitchModel" "place" "I" ∈ wsX11_movesTo := by decide +kernel
set_option maxHeartbeats 4000000 in
set_option maxRecDepth 100000 in
theorem c_X11_movesTo (l : Launch) {z : LZ} (hz : IM z)  (w : Mem) {r : Int32} {w' : Mem} (hf : f_X11_movesTo w = some (r, w')) : Met l yX11_movesTo wsX11_movesTo (rm 1 22) (PZ z w [.ref (z.2.1 0)]) (QW z (some (.int r)) w') 0 0 (az z) := by
  refine mk_Wz (cc := cX11_movesTo) (maxL := 3) (by decide +kernel) rfl (Nat.le_of_ble_eq_true rfl) ?_
  intro p e s m args below meth c hx hb hml hts hown hK hW Q hret ls hl
  have hl : lv_has ls 3 [(0, .ref (z.2.1 0))] := hl
  unfold f_X11_movesTo at hf
  have START : ∀ (H : Heap) (locs : List Loc), hd z w H → va_S (az z) s.heap H locs → W p l e (rm 1 22) s m args below meth c H locs 0 0 Q (F0 m 0 ls []) := by
    intro H locs hW hS
    refine lv_aload_n hx hb dX11_movesTo_0 rfl (lv_at hl 0 rfl) ?_
    refine get_X11_33 hx hb hts in_X11_movesTo_X11 hown hK hz hW lk_X11_movesTo_0 dX11_movesTo_1 ?_
    refine lv_aload_n hx hb dX11_movesTo_4 rfl (lv_at hl 0 rfl) ?_
    refine get_X11_35 hx hb hts in_X11_movesTo_X11 hown hK hz hW lk_X11_movesTo_1 dX11_movesTo_5 ?_
    obtain ⟨k_1, ek_1, hf⟩ := of_lz hf
    have Jk_1 : ∀ (t_2 : Int32) (ls : Array Slot), k_1 t_2 = some (r, w') → lv_has ls 3 [(0, .ref (z.2.1 0))] → W p l e (rm 1 22) s m args below meth c H locs 0 0 Q (F0 m 25 ls [.int t_2, .int (w.1 0 33)]) := by
      intro t_2 ls hf hl
      have hf := of_j1 ek_1 hf
      refine lv_iadd hx hb dX11_movesTo_25 ?_
      refine lv_topi (fun v_3 ev_3 => ?_)
      have hf := of_lt ev_3 hf
      refine lv_istore_n (lv' := [(1, .int v_3), (0, .ref (z.2.1 0))]) hx hb dX11_movesTo_26 rfl hl (by decide) rfl (fun ls hl => ?_)
      refine lv_aload_n hx hb dX11_movesTo_27 rfl (lv_at hl 1 rfl) ?_
      refine get_X11_34 hx hb hts in_X11_movesTo_X11 hown hK hz hW lk_X11_movesTo_2 dX11_movesTo_28 ?_
      refine lv_aload_n hx hb dX11_movesTo_31 rfl (lv_at hl 1 rfl) ?_
      refine lv_iconst (v := 2) hx hb dX11_movesTo_32 (by decide) ?_
      obtain ⟨r_4, hq_5, hf⟩ := of_bd hf
      refine m_goRi (va_runV (As := [.int 2]) (rest := [.int (w.1 0 34)]) ⟨hx, hb, hml, hown, hts⟩ (c_X11_number l hz 2 w hq_5) (cwV 1 hts gX11_movesTo_X11_number rfl rfl rfl (by decide +kernel) ⟨Nat.le_of_ble_eq_true rfl, Nat.le_of_ble_eq_true rfl⟩) (pre_X11 hK hz hW _) rfl rfl hl.1 rfl (lv_room (Nat.le_of_ble_eq_true rfl)) dX11_movesTo_33 ⟨Nat.le_refl _, Nat.le_refl _⟩) ?_
      refine lv_iadd hx hb dX11_movesTo_36 ?_
      refine lv_topi (fun v_6 ev_6 => ?_)
      have hf := of_lt ev_6 hf
      refine lv_istore_n (lv' := [(2, .int v_6), (1, .int v_3), (0, .ref (z.2.1 0))]) hx hb dX11_movesTo_37 rfl hl (by decide) rfl (fun ls hl => ?_)
      refine lv_iload_n hx hb dX11_movesTo_38 rfl (lv_at hl 1 rfl) ?_
      refine lv_bipush (v := (-100)) hx hb dX11_movesTo_39 (by decide) ?_
      refine lv_bipush (v := 100) hx hb dX11_movesTo_41 (by decide) ?_
      obtain ⟨r_7, hq_8, hf⟩ := of_bd hf
      refine m_goRi (va_runS (As := [.int v_3, .int (-100), .int 100]) (rest := []) ⟨hx, hb, hml, hown, hts⟩ (c_X11_in l hz v_3 (-100) 100 w hq_8) (va_cwS 3 hts gX11_movesTo_X11_in rfl rfl rfl (by decide +kernel) ⟨Nat.le_of_ble_eq_true rfl, Nat.le_of_ble_eq_true rfl⟩) (m_preS hK hW _) rfl rfl hl.1 rfl (lv_room (Nat.le_of_ble_eq_true rfl)) dX11_movesTo_43 ⟨Nat.le_refl _, Nat.le_refl _⟩) ?_
      refine lv_if_eq (tgt := 60) hx hb dX11_movesTo_46 (by decide) (fun c_9 => ?_) (fun c_9 => ?_)
      · have hf := of_t c_9 hf
        refine lv_iconst (v := 0) hx hb dX11_movesTo_60 (by decide) ?_
        exact hret _ _ _ _ _ _ hf rfl hW hS dX11_movesTo_61
      · have hf := of_f c_9 hf
        refine lv_iload_n hx hb dX11_movesTo_49 rfl (lv_at hl 0 rfl) ?_
        refine lv_bipush (v := (-100)) hx hb dX11_movesTo_50 (by decide) ?_
        refine lv_bipush (v := 100) hx hb dX11_movesTo_52 (by decide) ?_
        obtain ⟨r_10, hq_11, hf⟩ := of_bd hf
        refine m_goRi (va_runS (As := [.int v_6, .int (-100), .int 100]) (rest := []) ⟨hx, hb, hml, hown, hts⟩ (c_X11_in l hz v_6 (-100) 100 w hq_11) (va_cwS 3 hts gX11_movesTo_X11_in rfl rfl rfl (by decide +kernel) ⟨Nat.le_of_ble_eq_true rfl, Nat.le_of_ble_eq_true rfl⟩) (m_preS hK hW _) rfl rfl hl.1 rfl (lv_room (Nat.le_of_ble_eq_true rfl)) dX11_movesTo_54 ⟨Nat.le_refl _, Nat.le_refl _⟩) ?_
        refine lv_if_ne (tgt := 62) hx hb dX11_movesTo_57 (by decide) (fun c_12 => ?_) (fun c_12 => ?_)
        · have hf := of_f c_12 hf
          refine lv_aload_n hx hb dX11_movesTo_62 rfl (lv_at hl 2 rfl) ?_
          refine lv_iload_n hx hb dX11_movesTo_63 rfl (lv_at hl 1 rfl) ?_
          refine put_X11_33 hx hb hts in_X11_movesTo_X11 hown hK hz hW hS lk_X11_movesTo_0 dX11_movesTo_64 (fun H locs hW hS => ?_)
          obtain ⟨w_13, ew_13⟩ : ∃ y : Mem, y = mS w 0 33 v_3 := ⟨_, rfl⟩
          have hW : hd z w_13 H := by rw [ew_13]; exact hW
          have hf := of_lt ew_13 hf
          refine lv_aload_n hx hb dX11_movesTo_67 rfl (lv_at hl 2 rfl) ?_
          refine lv_iload_n hx hb dX11_movesTo_68 rfl (lv_at hl 0 rfl) ?_
          refine put_X11_34 hx hb hts in_X11_movesTo_X11 hown hK hz hW hS lk_X11_movesTo_2 dX11_movesTo_69 (fun H locs hW hS => ?_)
          obtain ⟨w_14, ew_14⟩ : ∃ y : Mem, y = mS w_13 0 34 v_6 := ⟨_, rfl⟩
          have hW : hd z w_14 H := by rw [ew_14]; exact hW
          have hf := of_lt ew_14 hf
          refine lv_aload_n hx hb dX11_movesTo_72 rfl (lv_at hl 2 rfl) ?_
          refine lv_dup hx hb dX11_movesTo_73 rfl ?_
          refine get_X11_29 hx hb hts in_X11_movesTo_X11 hown hK hz hW lk_X11_movesTo_3 dX11_movesTo_74 ?_
          refine lv_iconst (v := 3) hx hb dX11_movesTo_77 (by decide) ?_
          refine lv_iadd hx hb dX11_movesTo_78 ?_
          refine put_X11_29 hx hb hts in_X11_movesTo_X11 hown hK hz hW hS lk_X11_movesTo_3 dX11_movesTo_79 (fun H locs hW hS => ?_)
          obtain ⟨w_15, ew_15⟩ : ∃ y : Mem, y = mS w_14 0 29 ((w_14.1 0 29) + 3) := ⟨_, rfl⟩
          have hW : hd z w_15 H := by rw [ew_15]; exact hW
          have hf := of_lt ew_15 hf
          refine lv_iconst (v := 1) hx hb dX11_movesTo_82 (by decide) ?_
          exact hret _ _ _ _ _ _ hf rfl hW hS dX11_movesTo_83
        · have hf := of_t c_12 hf
          refine lv_iconst (v := 0) hx hb dX11_movesTo_60 (by decide) ?_
          exact hret _ _ _ _ _ _ hf rfl hW hS dX11_movesTo_61
    refine lv_if_eq (tgt := 20) hx hb dX11_movesTo_8 (by decide) (fun c_16 => ?_) (fun c_16 => ?_)
    · have hf := of_t c_16 hf
      refine lv_aload_n hx hb dX11_movesTo_20 rfl (lv_at hl 0 rfl) ?_
      refine lv_iconst (v := 1) hx hb dX11_movesTo_21 (by decide) ?_
      obtain ⟨r_17, hq_18, hf⟩ := of_bd hf
      refine m_goRi (va_runV (As := [.int 1]) (rest := [.int (w.1 0 33)]) ⟨hx, hb, hml, hown, hts⟩ (c_X11_number l hz 1 w hq_18) (cwV 1 hts gX11_movesTo_X11_number rfl rfl rfl (by decide +kernel) ⟨Nat.le_of_ble_eq_true rfl, Nat.le_of_ble_eq_true rfl⟩) (pre_X11 hK hz hW _) rfl rfl hl.1 rfl (lv_room (Nat.le_of_ble_eq_true rfl)) dX11_movesTo_22 ⟨Nat.le_refl _, Nat.le_refl _⟩) ?_
      exact Jk_1 _ _ hf (lv_sub hl [0] rfl)
    · have hf := of_f c_16 hf
      refine lv_aload_n hx hb dX11_movesTo_11 rfl (lv_at hl 0 rfl) ?_
      refine lv_iconst (v := 1) hx hb dX11_movesTo_12 (by decide) ?_
      obtain ⟨r_19, hq_20, hf⟩ := of_bd hf
      refine m_goRi (va_runV (As := [.int 1]) (rest := [.int (w.1 0 33)]) ⟨hx, hb, hml, hown, hts⟩ (c_X11_number l hz 1 w hq_20) (cwV 1 hts gX11_movesTo_X11_number rfl rfl rfl (by decide +kernel) ⟨Nat.le_of_ble_eq_true rfl, Nat.le_of_ble_eq_true rfl⟩) (pre_X11 hK hz hW _) rfl rfl hl.1 rfl (lv_room (Nat.le_of_ble_eq_true rfl)) dX11_movesTo_13 ⟨Nat.le_refl _, Nat.le_refl _⟩) ?_
      refine lv_ineg hx hb dX11_movesTo_16 ?_
      refine lv_goto (tgt := 25) hx hb dX11_movesTo_17 (by decide) ?_
      exact Jk_1 _ _ hf (lv_sub hl [0] rfl)
  exact START _ _ hW va_S.rf
theorem in_X11_loops_X11 : ∀ w ∈ wsX110, w ∈ wsX11_loops := by decide +kernel
theorem lk_X11_loops_0 : Cond.fieldLink RX11 154 "CamStitchModel" "deep" "I" ∈ wsX11_loops := by decide +kernel
theorem lk_X11_loops_1 : Cond.fieldLink RX11 82 "CamStitchModel" "loopAt" "[I" ∈ wsX11_loops := by decide +kernel
theorem lk_X11_loops_2 : Cond.fieldLink RX11 128 "CamStitchModel" "place" "I" ∈ wsX11_loops := by decide +kernel
theorem lk_X11_loops_3 : Cond.fieldLink RX11 85 "CamStitchModel" "loopLeft" "[I" ∈ wsX11_loops := by decide +kernel
set_option maxHeartbeats 4000000 in
set_option maxRecDepth 100000 in
theorem c_X11_loops (l : Launch) {z : LZ} (hz : IM z)  (w : Mem) {r : Int32} {w' : Mem} (hf : f_X11_loops w = some (r, w')) : Met l yX11_loops wsX11_loops (rm 1 22) (PZ z w [.ref (z.2.1 0)]) (QW z (some (.int r)) w') 0 0 (az z) := by
  refine mk_Wz (cc := cX11_loops) (maxL := 1) (by decide +kernel) rfl (Nat.le_of_ble_eq_true rfl) ?_
  intro p e s m args below meth c hx hb hml hts hown hK hW Q hret ls hl
  have hl : lv_has ls 1 [(0, .ref (z.2.1 0))] := hl
  unfold f_X11_loops at hf
  have START : ∀ (H : Heap) (locs : List Loc), hd z w H → va_S (az z) s.heap H locs → W p l e (rm 1 22) s m args below meth c H locs 0 0 Q (F0 m 0 ls []) := by
    intro H locs hW hS
    refine lv_aload_n hx hb dX11_loops_0 rfl (lv_at hl 0 rfl) ?_
    refine lv_iconst (v := 1) hx hb dX11_loops_1 (by decide) ?_
    obtain ⟨r_1, hq_2, hf⟩ := of_bd hf
    refine m_goRi (va_runV (As := [.int 1]) (rest := []) ⟨hx, hb, hml, hown, hts⟩ (c_X11_number l hz 1 w hq_2) (cwV 1 hts gX11_loops_X11_number rfl rfl rfl (by decide +kernel) ⟨Nat.le_of_ble_eq_true rfl, Nat.le_of_ble_eq_true rfl⟩) (pre_X11 hK hz hW _) rfl rfl hl.1 rfl (lv_room (Nat.le_of_ble_eq_true rfl)) dX11_loops_2 ⟨Nat.le_refl _, Nat.le_refl _⟩) ?_
    refine lv_iconst (v := 1) hx hb dX11_loops_5 (by decide) ?_
    refine lv_bipush (v := 9) hx hb dX11_loops_6 (by decide) ?_
    obtain ⟨r_3, hq_4, hf⟩ := of_bd hf
    refine m_goRi (va_runS (As := [.int r_1, .int 1, .int 9]) (rest := []) ⟨hx, hb, hml, hown, hts⟩ (c_X11_in l hz r_1 1 9 w hq_4) (va_cwS 3 hts gX11_loops_X11_in rfl rfl rfl (by decide +kernel) ⟨Nat.le_of_ble_eq_true rfl, Nat.le_of_ble_eq_true rfl⟩) (m_preS hK hW _) rfl rfl hl.1 rfl (lv_room (Nat.le_of_ble_eq_true rfl)) dX11_loops_8 ⟨Nat.le_refl _, Nat.le_refl _⟩) ?_
    refine lv_if_eq (tgt := 22) hx hb dX11_loops_11 (by decide) (fun c_5 => ?_) (fun c_5 => ?_)
    · have hf := of_t c_5 hf
      refine lv_iconst (v := 0) hx hb dX11_loops_22 (by decide) ?_
      exact hret _ _ _ _ _ _ hf rfl hW hS dX11_loops_23
    · have hf := of_f c_5 hf
      refine lv_aload_n hx hb dX11_loops_14 rfl (lv_at hl 0 rfl) ?_
      refine get_X11_38 hx hb hts in_X11_loops_X11 hown hK hz hW lk_X11_loops_0 dX11_loops_15 ?_
      refine lv_iconst (v := 3) hx hb dX11_loops_18 (by decide) ?_
      refine lv_icmp_ne (tgt := 24) hx hb dX11_loops_19 (by decide) (fun c_6 => ?_) (fun c_6 => ?_)
      · have hf := of_f c_6 hf
        refine lv_aload_n hx hb dX11_loops_24 rfl (lv_at hl 0 rfl) ?_
        refine get_X11_42 hx hb hts in_X11_loops_X11 hown hK hz hW lk_X11_loops_1 dX11_loops_25 ?_
        refine lv_aload_n hx hb dX11_loops_28 rfl (lv_at hl 0 rfl) ?_
        refine get_X11_38 hx hb hts in_X11_loops_X11 hown hK hz hW lk_X11_loops_0 dX11_loops_29 ?_
        refine lv_aload_n hx hb dX11_loops_32 rfl (lv_at hl 0 rfl) ?_
        refine get_X11_29 hx hb hts in_X11_loops_X11 hown hK hz hW lk_X11_loops_2 dX11_loops_33 ?_
        refine lv_iconst (v := 2) hx hb dX11_loops_36 (by decide) ?_
        refine lv_iadd hx hb dX11_loops_37 ?_
        obtain ⟨g_7, hf⟩ := of_gd hf
        refine st_M20 hx hb hK hz hW hS g_7 dX11_loops_38 (fun H locs hW hS => ?_)
        obtain ⟨w_8, ew_8⟩ : ∃ y : Mem, y = mS w 20 ((w.1 0 38).toNatClampNeg) ((w.1 0 29) + 2) := ⟨_, rfl⟩
        have hW : hd z w_8 H := by rw [ew_8]; exact hW
        have hf := of_lt ew_8 hf
        refine lv_aload_n hx hb dX11_loops_39 rfl (lv_at hl 0 rfl) ?_
        refine get_X11_43 hx hb hts in_X11_loops_X11 hown hK hz hW lk_X11_loops_3 dX11_loops_40 ?_
        refine lv_aload_n hx hb dX11_loops_43 rfl (lv_at hl 0 rfl) ?_
        refine get_X11_38 hx hb hts in_X11_loops_X11 hown hK hz hW lk_X11_loops_0 dX11_loops_44 ?_
        refine lv_aload_n hx hb dX11_loops_47 rfl (lv_at hl 0 rfl) ?_
        refine lv_iconst (v := 1) hx hb dX11_loops_48 (by decide) ?_
        obtain ⟨r_9, hq_10, hf⟩ := of_bd hf
        refine m_goRi (va_runV (As := [.int 1]) (rest := [.int (w_8.1 0 38), .ref (z.2.1 21)]) ⟨hx, hb, hml, hown, hts⟩ (c_X11_number l hz 1 w_8 hq_10) (cwV 1 hts gX11_loops_X11_number rfl rfl rfl (by decide +kernel) ⟨Nat.le_of_ble_eq_true rfl, Nat.le_of_ble_eq_true rfl⟩) (pre_X11 hK hz hW _) rfl rfl hl.1 rfl (lv_room (Nat.le_of_ble_eq_true rfl)) dX11_loops_49 ⟨Nat.le_refl _, Nat.le_refl _⟩) ?_
        refine lv_iconst (v := 1) hx hb dX11_loops_52 (by decide) ?_
        refine lv_isub hx hb dX11_loops_53 ?_
        obtain ⟨g_11, hf⟩ := of_gd hf
        refine st_M21 hx hb hK hz hW hS g_11 dX11_loops_54 (fun H locs hW hS => ?_)
        obtain ⟨w_12, ew_12⟩ : ∃ y : Mem, y = mS w_8 21 ((w_8.1 0 38).toNatClampNeg) (r_9 - 1) := ⟨_, rfl⟩
        have hW : hd z w_12 H := by rw [ew_12]; exact hW
        have hf := of_lt ew_12 hf
        refine lv_aload_n hx hb dX11_loops_55 rfl (lv_at hl 0 rfl) ?_
        refine lv_dup hx hb dX11_loops_56 rfl ?_
        refine get_X11_38 hx hb hts in_X11_loops_X11 hown hK hz hW lk_X11_loops_0 dX11_loops_57 ?_
        refine lv_iconst (v := 1) hx hb dX11_loops_60 (by decide) ?_
        refine lv_iadd hx hb dX11_loops_61 ?_
        refine put_X11_38 hx hb hts in_X11_loops_X11 hown hK hz hW hS lk_X11_loops_0 dX11_loops_62 (fun H locs hW hS => ?_)
        obtain ⟨w_13, ew_13⟩ : ∃ y : Mem, y = mS w_12 0 38 ((w_12.1 0 38) + 1) := ⟨_, rfl⟩
        have hW : hd z w_13 H := by rw [ew_13]; exact hW
        have hf := of_lt ew_13 hf
        refine lv_aload_n hx hb dX11_loops_65 rfl (lv_at hl 0 rfl) ?_
        refine lv_dup hx hb dX11_loops_66 rfl ?_
        refine get_X11_29 hx hb hts in_X11_loops_X11 hown hK hz hW lk_X11_loops_2 dX11_loops_67 ?_
        refine lv_iconst (v := 2) hx hb dX11_loops_70 (by decide) ?_
        refine lv_iadd hx hb dX11_loops_71 ?_
        refine put_X11_29 hx hb hts in_X11_loops_X11 hown hK hz hW hS lk_X11_loops_2 dX11_loops_72 (fun H locs hW hS => ?_)
        obtain ⟨w_14, ew_14⟩ : ∃ y : Mem, y = mS w_13 0 29 ((w_13.1 0 29) + 2) := ⟨_, rfl⟩
        have hW : hd z w_14 H := by rw [ew_14]; exact hW
        have hf := of_lt ew_14 hf
        refine lv_iconst (v := 1) hx hb dX11_loops_75 (by decide) ?_
        exact hret _ _ _ _ _ _ hf rfl hW hS dX11_loops_76
      · have hf := of_t c_6 hf
        refine lv_iconst (v := 0) hx hb dX11_loops_22 (by decide) ?_
        exact hret _ _ _ _ _ _ hf rfl hW hS dX11_loops_23
  exact START _ _ hW va_S.rf
theorem in_X11_goesRound_X11 : ∀ w ∈ wsX110, w ∈ wsX11_goesRound := by decide +kernel
theorem lk_X11_goesRound_0 : Cond.fieldLink RX11 154 "CamStitchModel" "deep" "I" ∈ wsX11_goesRound := by decide +kernel
theorem lk_X11_goesRound_1 : Cond.fieldLink RX11 85 "CamStitchModel" "loopLeft" "[I" ∈ wsX11_goesRound := by decide +kernel
theorem lk_X11_goesRound_2 : Cond.fieldLink RX11 128 "CamStitchModel" "place" "I" ∈ wsX11_goesRound := by decide +kernel
theorem lk_X11_goesRound_3 : Cond.fieldLink RX11 82 "CamStitchModel" "loopAt" "[I" ∈ wsX11_goesRound := by decide +kernel
set_option maxHeartbeats 4000000 in
set_option maxRecDepth 100000 in
theorem c_X11_goesRound (l : Launch) {z : LZ} (hz : IM z)  (w : Mem) {r : Int32} {w' : Mem} (hf : f_X11_goesRound w = some (r, w')) : Met l yX11_goesRound wsX11_goesRound (rm 0 0) (PZ z w [.ref (z.2.1 0)]) (QW z (some (.int r)) w') 0 0 (az z) := by
  refine mk_Wz (cc := cX11_goesRound) (maxL := 1) (by decide +kernel) rfl (Nat.le_of_ble_eq_true rfl) ?_
  intro p e s m args below meth c hx hb hml hts hown hK hW Q hret ls hl
  have hl : lv_has ls 1 [(0, .ref (z.2.1 0))] := hl
  unfold f_X11_goesRound at hf
  have START : ∀ (H : Heap) (locs : List Loc), hd z w H → va_S (az z) s.heap H locs → W p l e (rm 0 0) s m args below meth c H locs 0 0 Q (F0 m 0 ls []) := by
    intro H locs hW hS
    refine lv_aload_n hx hb dX11_goesRound_0 rfl (lv_at hl 0 rfl) ?_
    refine get_X11_38 hx hb hts in_X11_goesRound_X11 hown hK hz hW lk_X11_goesRound_0 dX11_goesRound_1 ?_
    refine lv_if_ne (tgt := 9) hx hb dX11_goesRound_4 (by decide) (fun c_1 => ?_) (fun c_1 => ?_)
    · have hf := of_f c_1 hf
      refine lv_aload_n hx hb dX11_goesRound_9 rfl (lv_at hl 0 rfl) ?_
      refine get_X11_43 hx hb hts in_X11_goesRound_X11 hown hK hz hW lk_X11_goesRound_1 dX11_goesRound_10 ?_
      refine lv_aload_n hx hb dX11_goesRound_13 rfl (lv_at hl 0 rfl) ?_
      refine get_X11_38 hx hb hts in_X11_goesRound_X11 hown hK hz hW lk_X11_goesRound_0 dX11_goesRound_14 ?_
      refine lv_iconst (v := 1) hx hb dX11_goesRound_17 (by decide) ?_
      refine lv_isub hx hb dX11_goesRound_18 ?_
      obtain ⟨g_2, hf⟩ := of_gd hf
      refine ld_M21 hx hb hK hz hW g_2 dX11_goesRound_19 ?_
      refine lv_topi (fun v_3 ev_3 => ?_)
      have hf := of_lt ev_3 hf
      refine lv_if_le (tgt := 56) hx hb dX11_goesRound_20 (by decide) (fun c_4 => ?_) (fun c_4 => ?_)
      · have hf := of_t c_4 hf
        refine lv_aload_n hx hb dX11_goesRound_56 rfl (lv_at hl 0 rfl) ?_
        refine lv_dup hx hb dX11_goesRound_57 rfl ?_
        refine get_X11_38 hx hb hts in_X11_goesRound_X11 hown hK hz hW lk_X11_goesRound_0 dX11_goesRound_58 ?_
        refine lv_iconst (v := 1) hx hb dX11_goesRound_61 (by decide) ?_
        refine lv_isub hx hb dX11_goesRound_62 ?_
        refine put_X11_38 hx hb hts in_X11_goesRound_X11 hown hK hz hW hS lk_X11_goesRound_0 dX11_goesRound_63 (fun H locs hW hS => ?_)
        obtain ⟨w_5, ew_5⟩ : ∃ y : Mem, y = mS w 0 38 ((w.1 0 38) - 1) := ⟨_, rfl⟩
        have hW : hd z w_5 H := by rw [ew_5]; exact hW
        have hf := of_lt ew_5 hf
        refine lv_aload_n hx hb dX11_goesRound_66 rfl (lv_at hl 0 rfl) ?_
        refine lv_dup hx hb dX11_goesRound_67 rfl ?_
        refine get_X11_29 hx hb hts in_X11_goesRound_X11 hown hK hz hW lk_X11_goesRound_2 dX11_goesRound_68 ?_
        refine lv_iconst (v := 1) hx hb dX11_goesRound_71 (by decide) ?_
        refine lv_iadd hx hb dX11_goesRound_72 ?_
        refine put_X11_29 hx hb hts in_X11_goesRound_X11 hown hK hz hW hS lk_X11_goesRound_2 dX11_goesRound_73 (fun H locs hW hS => ?_)
        obtain ⟨w_6, ew_6⟩ : ∃ y : Mem, y = mS w_5 0 29 ((w_5.1 0 29) + 1) := ⟨_, rfl⟩
        have hW : hd z w_6 H := by rw [ew_6]; exact hW
        have hf := of_lt ew_6 hf
        refine lv_iconst (v := 1) hx hb dX11_goesRound_76 (by decide) ?_
        exact hret _ _ _ _ _ _ hf rfl hW hS dX11_goesRound_77
      · have hf := of_f c_4 hf
        refine lv_aload_n hx hb dX11_goesRound_23 rfl (lv_at hl 0 rfl) ?_
        refine get_X11_43 hx hb hts in_X11_goesRound_X11 hown hK hz hW lk_X11_goesRound_1 dX11_goesRound_24 ?_
        refine lv_aload_n hx hb dX11_goesRound_27 rfl (lv_at hl 0 rfl) ?_
        refine get_X11_38 hx hb hts in_X11_goesRound_X11 hown hK hz hW lk_X11_goesRound_0 dX11_goesRound_28 ?_
        refine lv_iconst (v := 1) hx hb dX11_goesRound_31 (by decide) ?_
        refine lv_isub hx hb dX11_goesRound_32 ?_
        refine lv_dup2_11 hx hb dX11_goesRound_33 rfl rfl ?_
        refine ld_M21 hx hb hK hz hW g_2 dX11_goesRound_34 ?_
        refine lv_topi (fun v_7 ev_7 => ?_)
        have hf := of_lt ev_7 hf
        refine lv_iconst (v := 1) hx hb dX11_goesRound_35 (by decide) ?_
        refine lv_isub hx hb dX11_goesRound_36 ?_
        refine st_M21 hx hb hK hz hW hS g_2 dX11_goesRound_37 (fun H locs hW hS => ?_)
        obtain ⟨w_8, ew_8⟩ : ∃ y : Mem, y = mS w 21 (((w.1 0 38) - 1).toNatClampNeg) (v_7 - 1) := ⟨_, rfl⟩
        have hW : hd z w_8 H := by rw [ew_8]; exact hW
        have hf := of_lt ew_8 hf
        refine lv_aload_n hx hb dX11_goesRound_38 rfl (lv_at hl 0 rfl) ?_
        refine lv_aload_n hx hb dX11_goesRound_39 rfl (lv_at hl 0 rfl) ?_
        refine get_X11_42 hx hb hts in_X11_goesRound_X11 hown hK hz hW lk_X11_goesRound_3 dX11_goesRound_40 ?_
        refine lv_aload_n hx hb dX11_goesRound_43 rfl (lv_at hl 0 rfl) ?_
        refine get_X11_38 hx hb hts in_X11_goesRound_X11 hown hK hz hW lk_X11_goesRound_0 dX11_goesRound_44 ?_
        refine lv_iconst (v := 1) hx hb dX11_goesRound_47 (by decide) ?_
        refine lv_isub hx hb dX11_goesRound_48 ?_
        obtain ⟨g_9, hf⟩ := of_gd hf
        refine ld_M20 hx hb hK hz hW g_9 dX11_goesRound_49 ?_
        refine lv_topi (fun v_10 ev_10 => ?_)
        have hf := of_lt ev_10 hf
        refine put_X11_29 hx hb hts in_X11_goesRound_X11 hown hK hz hW hS lk_X11_goesRound_2 dX11_goesRound_50 (fun H locs hW hS => ?_)
        obtain ⟨w_11, ew_11⟩ : ∃ y : Mem, y = mS w_8 0 29 v_10 := ⟨_, rfl⟩
        have hW : hd z w_11 H := by rw [ew_11]; exact hW
        have hf := of_lt ew_11 hf
        refine lv_goto (tgt := 76) hx hb dX11_goesRound_53 (by decide) ?_
        refine lv_iconst (v := 1) hx hb dX11_goesRound_76 (by decide) ?_
        exact hret _ _ _ _ _ _ hf rfl hW hS dX11_goesRound_77
    · have hf := of_t c_1 hf
      refine lv_iconst (v := 0) hx hb dX11_goesRound_7 (by decide) ?_
      exact hret _ _ _ _ _ _ hf rfl hW hS dX11_goesRound_8
  exact START _ _ hW va_S.rf
theorem in_X11_does_X11 : ∀ w ∈ wsX110, w ∈ wsX11_does := by decide +kernel
theorem lk_X11_does_0 : Cond.fieldLink RX11 154 "CamStitchModel" "deep" "I" ∈ wsX11_does := by decide +kernel
theorem lk_X11_does_1 : Cond.fieldLink RX11 151 "CamStitchModel" "read" "I" ∈ wsX11_does := by decide +kernel
theorem lk_X11_does_2 : Cond.fieldLink RX11 157 "CamStitchModel" "hasAdvance" "Z" ∈ wsX11_does := by decide +kernel
theorem lk_X11_does_3 : Cond.fieldLink RX11 160 "CamStitchModel" "isEnd" "Z" ∈ wsX11_does := by decide +kernel
theorem lk_X11_does_4 : Cond.fieldLink RX11 137 "CamStitchModel" "isMirrored" "Z" ∈ wsX11_does := by decide +kernel
theorem lk_X11_does_5 : Cond.fieldLink RX11 128 "CamStitchModel" "place" "I" ∈ wsX11_does := by decide +kernel
theorem lk_X11_does_6 : Cond.fieldLink RX11 180 "CamStitchModel" "newAdvance" "I" ∈ wsX11_does := by decide +kernel
set_option maxHeartbeats 4000000 in
set_option maxRecDepth 100000 in
theorem c_X11_does (l : Launch) {z : LZ} (hz : IM z)  (w : Mem) {r : Int32} {w' : Mem} (hf : f_X11_does w = some (r, w')) : Met l yX11_does wsX11_does (rm 2 44) (PZ z w [.ref (z.2.1 0)]) (QW z (some (.int r)) w') 0 0 (az z) := by
  refine mk_Wz (cc := cX11_does) (maxL := 1) (by decide +kernel) rfl (Nat.le_of_ble_eq_true rfl) ?_
  intro p e s m args below meth c hx hb hml hts hown hK hW Q hret ls hl
  have hl : lv_has ls 1 [(0, .ref (z.2.1 0))] := hl
  unfold f_X11_does at hf
  have START : ∀ (H : Heap) (locs : List Loc), hd z w H → va_S (az z) s.heap H locs → W p l e (rm 2 44) s m args below meth c H locs 0 0 Q (F0 m 0 ls []) := by
    intro H locs hW hS
    refine lv_aload_n hx hb dX11_does_0 rfl (lv_at hl 0 rfl) ?_
    refine lv_iconst (v := 0) hx hb dX11_does_1 (by decide) ?_
    obtain ⟨r_1, hq_2, hf⟩ := of_bd hf
    refine m_goRi (va_runV (As := [.int 0]) (rest := []) ⟨hx, hb, hml, hown, hts⟩ (c_X11_number l hz 0 w hq_2) (cwV 1 hts gX11_does_X11_number rfl rfl rfl (by decide +kernel) ⟨Nat.le_of_ble_eq_true rfl, Nat.le_of_ble_eq_true rfl⟩) (pre_X11 hK hz hW _) rfl rfl hl.1 rfl (lv_room (Nat.le_of_ble_eq_true rfl)) dX11_does_2 ⟨Nat.le_refl _, Nat.le_refl _⟩) ?_
    by_cases c_3 : r_1 = 0
    · have hf := of_t c_3 hf
      refine lv_tableIn (off := 43) (tgt := 48) hx hb dX11_does_5 (by rw [c_3]; decide) (by rw [c_3]; decide) (by rw [c_3]; rfl) (by decide) ?_
      refine lv_aload_n hx hb dX11_does_48 rfl (lv_at hl 0 rfl) ?_
      refine lv_aload_n hx hb dX11_does_49 rfl (lv_at hl 0 rfl) ?_
      refine get_X11_38 hx hb hts in_X11_does_X11 hown hK hz hW lk_X11_does_0 dX11_does_50 ?_
      have J_5 : ∀ (v_4 : Int32) (ls : Array Slot), v_4 = (if (w.1 0 38) = 0 then (if (w.1 0 32) ≤ 0 then 0 else (if (w.1 0 36) = 0 then 0 else 1)) else 0) → lv_has ls 1 [(0, .ref (z.2.1 0))] → W p l e (rm 2 44) s m args below meth c H locs 0 0 Q (F0 m 75 ls [.int v_4, .ref (z.2.1 0)]) := by
        intro v_4 ls ev_4 hl
        have hf := of_lt ev_4 hf
        obtain ⟨g_6, hf⟩ := of_gd hf
        refine put_X11_39 hx hb hts in_X11_does_X11 hown hK hz hW hS (bz_s g_6) lk_X11_does_3 dX11_does_75 (fun H locs hW hS => ?_)
        obtain ⟨w_7, ew_7⟩ : ∃ y : Mem, y = mS w 0 39 v_4 := ⟨_, rfl⟩
        have hW : hd z w_7 H := by rw [ew_7]; exact hW
        have hf := of_lt ew_7 hf
        refine lv_aload_n hx hb dX11_does_78 rfl (lv_at hl 0 rfl) ?_
        refine get_X11_39 hx hb hts in_X11_does_X11 hown hK hz hW lk_X11_does_3 dX11_does_79 ?_
        obtain ⟨g_8, hf⟩ := of_gd hf
        exact hret _ _ _ _ _ _ hf (bz_n g_8) hW hS dX11_does_82
      refine lv_if_ne (tgt := 74) hx hb dX11_does_53 (by decide) (fun c_9 => ?_) (fun c_9 => ?_)
      · refine lv_iconst (v := 0) hx hb dX11_does_74 (by decide) ?_
        exact J_5 _ _ (by rw [if_neg c_9]) (lv_sub hl [0] rfl)
      · refine lv_aload_n hx hb dX11_does_56 rfl (lv_at hl 0 rfl) ?_
        refine get_X11_32 hx hb hts in_X11_does_X11 hown hK hz hW lk_X11_does_1 dX11_does_57 ?_
        refine lv_if_le (tgt := 74) hx hb dX11_does_60 (by decide) (fun c_10 => ?_) (fun c_10 => ?_)
        · refine lv_iconst (v := 0) hx hb dX11_does_74 (by decide) ?_
          exact J_5 _ _ (by rw [if_pos c_9, if_pos c_10]) (lv_sub hl [0] rfl)
        · refine lv_aload_n hx hb dX11_does_63 rfl (lv_at hl 0 rfl) ?_
          refine get_X11_36 hx hb hts in_X11_does_X11 hown hK hz hW lk_X11_does_2 dX11_does_64 ?_
          refine lv_if_eq (tgt := 74) hx hb dX11_does_67 (by decide) (fun c_11 => ?_) (fun c_11 => ?_)
          · refine lv_iconst (v := 0) hx hb dX11_does_74 (by decide) ?_
            exact J_5 _ _ (by rw [if_pos c_9, if_neg c_10, if_pos c_11]) (lv_sub hl [0] rfl)
          · refine lv_iconst (v := 1) hx hb dX11_does_70 (by decide) ?_
            refine lv_goto (tgt := 75) hx hb dX11_does_71 (by decide) ?_
            exact J_5 _ _ (by rw [if_pos c_9, if_neg c_10, if_neg c_11]) (lv_sub hl [0] rfl)
    have hf := of_f c_3 hf
    by_cases c_12 : r_1 = 1
    · have hf := of_t c_12 hf
      refine lv_tableIn (off := 78) (tgt := 83) hx hb dX11_does_5 (by rw [c_12]; decide) (by rw [c_12]; decide) (by rw [c_12]; rfl) (by decide) ?_
      refine lv_aload_n hx hb dX11_does_83 rfl (lv_at hl 0 rfl) ?_
      refine lv_iconst (v := 2) hx hb dX11_does_84 (by decide) ?_
      obtain ⟨r_13, hq_14, hf⟩ := of_bd hf
      refine m_goRi (va_runV (As := [.int 2]) (rest := []) ⟨hx, hb, hml, hown, hts⟩ (c_X11_isLong l hz 2 w hq_14) (cwV 1 hts gX11_does_X11_isLong rfl rfl rfl (by decide +kernel) ⟨Nat.le_of_ble_eq_true rfl, Nat.le_of_ble_eq_true rfl⟩) (pre_X11 hK hz hW _) rfl rfl hl.1 rfl (lv_room (Nat.le_of_ble_eq_true rfl)) dX11_does_85 ⟨Nat.le_refl _, Nat.le_refl _⟩) ?_
      refine lv_if_eq (tgt := 102) hx hb dX11_does_88 (by decide) (fun c_15 => ?_) (fun c_15 => ?_)
      · have hf := of_t c_15 hf
        refine lv_iconst (v := 0) hx hb dX11_does_102 (by decide) ?_
        exact hret _ _ _ _ _ _ hf rfl hW hS dX11_does_103
      · have hf := of_f c_15 hf
        refine lv_aload_n hx hb dX11_does_91 rfl (lv_at hl 0 rfl) ?_
        obtain ⟨r_16, w_18, hq_17, hf⟩ := of_b2 hf
        refine m_goWi (va_runV (As := []) (rest := []) ⟨hx, hb, hml, hown, hts⟩ (c_X11_standsAt l hz w hq_17) (cwV 0 hts gX11_does_X11_standsAt rfl rfl rfl (by decide +kernel) ⟨Nat.le_of_ble_eq_true rfl, Nat.le_of_ble_eq_true rfl⟩) (pre_X11 hK hz hW _) rfl rfl hl.1 rfl (lv_room (Nat.le_of_ble_eq_true rfl)) dX11_does_92 ⟨Nat.le_refl _, Nat.le_refl _⟩) hS (fun H locs hW hS => ?_)
        have J_20 : ∀ (v_19 : Int32) (ls : Array Slot), v_19 = (if r_16 = 0 then 0 else 1) → lv_has ls 1 [] → W p l e (rm 2 44) s m args below meth c H locs 0 0 Q (F0 m 103 ls [.int v_19]) := by
          intro v_19 ls ev_19 hl
          have hf := of_lt ev_19 hf
          obtain ⟨g_21, hf⟩ := of_gd hf
          exact hret _ _ _ _ _ _ hf (bz_n g_21) hW hS dX11_does_103
        refine lv_if_eq (tgt := 102) hx hb dX11_does_95 (by decide) (fun c_22 => ?_) (fun c_22 => ?_)
        · refine lv_iconst (v := 0) hx hb dX11_does_102 (by decide) ?_
          exact J_20 _ _ (by rw [if_pos c_22]) (lv_sub hl [] rfl)
        · refine lv_iconst (v := 1) hx hb dX11_does_98 (by decide) ?_
          refine lv_goto (tgt := 103) hx hb dX11_does_99 (by decide) ?_
          exact J_20 _ _ (by rw [if_neg c_22]) (lv_sub hl [] rfl)
    have hf := of_f c_12 hf
    by_cases c_23 : r_1 = 2
    · have hf := of_t c_23 hf
      refine lv_tableIn (off := 99) (tgt := 104) hx hb dX11_does_5 (by rw [c_23]; decide) (by rw [c_23]; decide) (by rw [c_23]; rfl) (by decide) ?_
      refine lv_aload_n hx hb dX11_does_104 rfl (lv_at hl 0 rfl) ?_
      refine lv_iconst (v := 2) hx hb dX11_does_105 (by decide) ?_
      obtain ⟨r_24, hq_25, hf⟩ := of_bd hf
      refine m_goRi (va_runV (As := [.int 2]) (rest := []) ⟨hx, hb, hml, hown, hts⟩ (c_X11_isLong l hz 2 w hq_25) (cwV 1 hts gX11_does_X11_isLong rfl rfl rfl (by decide +kernel) ⟨Nat.le_of_ble_eq_true rfl, Nat.le_of_ble_eq_true rfl⟩) (pre_X11 hK hz hW _) rfl rfl hl.1 rfl (lv_room (Nat.le_of_ble_eq_true rfl)) dX11_does_106 ⟨Nat.le_refl _, Nat.le_refl _⟩) ?_
      refine lv_if_eq (tgt := 123) hx hb dX11_does_109 (by decide) (fun c_26 => ?_) (fun c_26 => ?_)
      · have hf := of_t c_26 hf
        refine lv_iconst (v := 0) hx hb dX11_does_123 (by decide) ?_
        exact hret _ _ _ _ _ _ hf rfl hW hS dX11_does_124
      · have hf := of_f c_26 hf
        refine lv_aload_n hx hb dX11_does_112 rfl (lv_at hl 0 rfl) ?_
        obtain ⟨r_27, w_29, hq_28, hf⟩ := of_b2 hf
        refine m_goWi (va_runV (As := []) (rest := []) ⟨hx, hb, hml, hown, hts⟩ (c_X11_movesTo l hz w hq_28) (cwV 0 hts gX11_does_X11_movesTo rfl rfl rfl (by decide +kernel) ⟨Nat.le_of_ble_eq_true rfl, Nat.le_of_ble_eq_true rfl⟩) (pre_X11 hK hz hW _) rfl rfl hl.1 rfl (lv_room (Nat.le_of_ble_eq_true rfl)) dX11_does_113 ⟨Nat.le_refl _, Nat.le_refl _⟩) hS (fun H locs hW hS => ?_)
        have J_31 : ∀ (v_30 : Int32) (ls : Array Slot), v_30 = (if r_27 = 0 then 0 else 1) → lv_has ls 1 [] → W p l e (rm 2 44) s m args below meth c H locs 0 0 Q (F0 m 124 ls [.int v_30]) := by
          intro v_30 ls ev_30 hl
          have hf := of_lt ev_30 hf
          obtain ⟨g_32, hf⟩ := of_gd hf
          exact hret _ _ _ _ _ _ hf (bz_n g_32) hW hS dX11_does_124
        refine lv_if_eq (tgt := 123) hx hb dX11_does_116 (by decide) (fun c_33 => ?_) (fun c_33 => ?_)
        · refine lv_iconst (v := 0) hx hb dX11_does_123 (by decide) ?_
          exact J_31 _ _ (by rw [if_pos c_33]) (lv_sub hl [] rfl)
        · refine lv_iconst (v := 1) hx hb dX11_does_119 (by decide) ?_
          refine lv_goto (tgt := 124) hx hb dX11_does_120 (by decide) ?_
          exact J_31 _ _ (by rw [if_neg c_33]) (lv_sub hl [] rfl)
    have hf := of_f c_23 hf
    by_cases c_34 : r_1 = 3
    · have hf := of_t c_34 hf
      refine lv_tableIn (off := 120) (tgt := 125) hx hb dX11_does_5 (by rw [c_34]; decide) (by rw [c_34]; decide) (by rw [c_34]; rfl) (by decide) ?_
      refine lv_aload_n hx hb dX11_does_125 rfl (lv_at hl 0 rfl) ?_
      refine lv_aload_n hx hb dX11_does_126 rfl (lv_at hl 0 rfl) ?_
      refine get_X11_35 hx hb hts in_X11_does_X11 hown hK hz hW lk_X11_does_4 dX11_does_127 ?_
      have J_36 : ∀ (v_35 : Int32) (ls : Array Slot), v_35 = (if (w.1 0 35) = 0 then 1 else 0) → lv_has ls 1 [(0, .ref (z.2.1 0))] → W p l e (rm 2 44) s m args below meth c H locs 0 0 Q (F0 m 138 ls [.int v_35, .ref (z.2.1 0)]) := by
        intro v_35 ls ev_35 hl
        have hf := of_lt ev_35 hf
        obtain ⟨g_37, hf⟩ := of_gd hf
        refine put_X11_35 hx hb hts in_X11_does_X11 hown hK hz hW hS (bz_s g_37) lk_X11_does_4 dX11_does_138 (fun H locs hW hS => ?_)
        obtain ⟨w_38, ew_38⟩ : ∃ y : Mem, y = mS w 0 35 v_35 := ⟨_, rfl⟩
        have hW : hd z w_38 H := by rw [ew_38]; exact hW
        have hf := of_lt ew_38 hf
        refine lv_aload_n hx hb dX11_does_141 rfl (lv_at hl 0 rfl) ?_
        refine lv_dup hx hb dX11_does_142 rfl ?_
        refine get_X11_29 hx hb hts in_X11_does_X11 hown hK hz hW lk_X11_does_5 dX11_does_143 ?_
        refine lv_iconst (v := 1) hx hb dX11_does_146 (by decide) ?_
        refine lv_iadd hx hb dX11_does_147 ?_
        refine put_X11_29 hx hb hts in_X11_does_X11 hown hK hz hW hS lk_X11_does_5 dX11_does_148 (fun H locs hW hS => ?_)
        obtain ⟨w_39, ew_39⟩ : ∃ y : Mem, y = mS w_38 0 29 ((w_38.1 0 29) + 1) := ⟨_, rfl⟩
        have hW : hd z w_39 H := by rw [ew_39]; exact hW
        have hf := of_lt ew_39 hf
        refine lv_iconst (v := 1) hx hb dX11_does_151 (by decide) ?_
        exact hret _ _ _ _ _ _ hf rfl hW hS dX11_does_152
      refine lv_if_ne (tgt := 137) hx hb dX11_does_130 (by decide) (fun c_40 => ?_) (fun c_40 => ?_)
      · refine lv_iconst (v := 0) hx hb dX11_does_137 (by decide) ?_
        exact J_36 _ _ (by rw [if_neg c_40]) (lv_sub hl [0] rfl)
      · refine lv_iconst (v := 1) hx hb dX11_does_133 (by decide) ?_
        refine lv_goto (tgt := 138) hx hb dX11_does_134 (by decide) ?_
        exact J_36 _ _ (by rw [if_pos c_40]) (lv_sub hl [0] rfl)
    have hf := of_f c_34 hf
    by_cases c_41 : r_1 = 4
    · have hf := of_t c_41 hf
      refine lv_tableIn (off := 148) (tgt := 153) hx hb dX11_does_5 (by rw [c_41]; decide) (by rw [c_41]; decide) (by rw [c_41]; rfl) (by decide) ?_
      refine lv_aload_n hx hb dX11_does_153 rfl (lv_at hl 0 rfl) ?_
      refine lv_iconst (v := 1) hx hb dX11_does_154 (by decide) ?_
      obtain ⟨r_42, hq_43, hf⟩ := of_bd hf
      refine m_goRi (va_runV (As := [.int 1]) (rest := []) ⟨hx, hb, hml, hown, hts⟩ (c_X11_isLong l hz 1 w hq_43) (cwV 1 hts gX11_does_X11_isLong rfl rfl rfl (by decide +kernel) ⟨Nat.le_of_ble_eq_true rfl, Nat.le_of_ble_eq_true rfl⟩) (pre_X11 hK hz hW _) rfl rfl hl.1 rfl (lv_room (Nat.le_of_ble_eq_true rfl)) dX11_does_155 ⟨Nat.le_refl _, Nat.le_refl _⟩) ?_
      refine lv_if_eq (tgt := 172) hx hb dX11_does_158 (by decide) (fun c_44 => ?_) (fun c_44 => ?_)
      · have hf := of_t c_44 hf
        refine lv_iconst (v := 0) hx hb dX11_does_172 (by decide) ?_
        exact hret _ _ _ _ _ _ hf rfl hW hS dX11_does_173
      · have hf := of_f c_44 hf
        refine lv_aload_n hx hb dX11_does_161 rfl (lv_at hl 0 rfl) ?_
        obtain ⟨r_45, w_47, hq_46, hf⟩ := of_b2 hf
        refine m_goWi (va_runV (As := []) (rest := []) ⟨hx, hb, hml, hown, hts⟩ (c_X11_loops l hz w hq_46) (cwV 0 hts gX11_does_X11_loops rfl rfl rfl (by decide +kernel) ⟨Nat.le_of_ble_eq_true rfl, Nat.le_of_ble_eq_true rfl⟩) (pre_X11 hK hz hW _) rfl rfl hl.1 rfl (lv_room (Nat.le_of_ble_eq_true rfl)) dX11_does_162 ⟨Nat.le_refl _, Nat.le_refl _⟩) hS (fun H locs hW hS => ?_)
        have J_49 : ∀ (v_48 : Int32) (ls : Array Slot), v_48 = (if r_45 = 0 then 0 else 1) → lv_has ls 1 [] → W p l e (rm 2 44) s m args below meth c H locs 0 0 Q (F0 m 173 ls [.int v_48]) := by
          intro v_48 ls ev_48 hl
          have hf := of_lt ev_48 hf
          obtain ⟨g_50, hf⟩ := of_gd hf
          exact hret _ _ _ _ _ _ hf (bz_n g_50) hW hS dX11_does_173
        refine lv_if_eq (tgt := 172) hx hb dX11_does_165 (by decide) (fun c_51 => ?_) (fun c_51 => ?_)
        · refine lv_iconst (v := 0) hx hb dX11_does_172 (by decide) ?_
          exact J_49 _ _ (by rw [if_pos c_51]) (lv_sub hl [] rfl)
        · refine lv_iconst (v := 1) hx hb dX11_does_168 (by decide) ?_
          refine lv_goto (tgt := 173) hx hb dX11_does_169 (by decide) ?_
          exact J_49 _ _ (by rw [if_neg c_51]) (lv_sub hl [] rfl)
    have hf := of_f c_41 hf
    by_cases c_52 : r_1 = 5
    · have hf := of_t c_52 hf
      refine lv_tableIn (off := 169) (tgt := 174) hx hb dX11_does_5 (by rw [c_52]; decide) (by rw [c_52]; decide) (by rw [c_52]; rfl) (by decide) ?_
      refine lv_aload_n hx hb dX11_does_174 rfl (lv_at hl 0 rfl) ?_
      obtain ⟨r_53, w_55, hq_54, hf⟩ := of_b2 hf
      refine m_goWi (va_runV (As := []) (rest := []) ⟨hx, hb, hml, hown, hts⟩ (c_X11_goesRound l hz w hq_54) (cwV 0 hts gX11_does_X11_goesRound rfl rfl rfl (by decide +kernel) ⟨Nat.le_of_ble_eq_true rfl, Nat.le_of_ble_eq_true rfl⟩) (pre_X11 hK hz hW _) rfl rfl hl.1 rfl (lv_room (Nat.le_of_ble_eq_true rfl)) dX11_does_175 ⟨Nat.le_refl _, Nat.le_refl _⟩) hS (fun H locs hW hS => ?_)
      obtain ⟨g_56, hf⟩ := of_gd hf
      exact hret _ _ _ _ _ _ hf (bz_n g_56) hW hS dX11_does_178
    have hf := of_f c_52 hf
    by_cases c_57 : r_1 = 6
    · have hf := of_t c_57 hf
      refine lv_tableIn (off := 174) (tgt := 179) hx hb dX11_does_5 (by rw [c_57]; decide) (by rw [c_57]; decide) (by rw [c_57]; rfl) (by decide) ?_
      refine lv_aload_n hx hb dX11_does_179 rfl (lv_at hl 0 rfl) ?_
      refine lv_iconst (v := 1) hx hb dX11_does_180 (by decide) ?_
      obtain ⟨r_58, hq_59, hf⟩ := of_bd hf
      refine m_goRi (va_runV (As := [.int 1]) (rest := []) ⟨hx, hb, hml, hown, hts⟩ (c_X11_isLong l hz 1 w hq_59) (cwV 1 hts gX11_does_X11_isLong rfl rfl rfl (by decide +kernel) ⟨Nat.le_of_ble_eq_true rfl, Nat.le_of_ble_eq_true rfl⟩) (pre_X11 hK hz hW _) rfl rfl hl.1 rfl (lv_room (Nat.le_of_ble_eq_true rfl)) dX11_does_181 ⟨Nat.le_refl _, Nat.le_refl _⟩) ?_
      refine lv_if_eq (tgt := 202) hx hb dX11_does_184 (by decide) (fun c_60 => ?_) (fun c_60 => ?_)
      · have hf := of_t c_60 hf
        refine lv_iconst (v := 0) hx hb dX11_does_202 (by decide) ?_
        exact hret _ _ _ _ _ _ hf rfl hW hS dX11_does_203
      · have hf := of_f c_60 hf
        refine lv_aload_n hx hb dX11_does_187 rfl (lv_at hl 0 rfl) ?_
        refine lv_iconst (v := 1) hx hb dX11_does_188 (by decide) ?_
        obtain ⟨r_61, hq_62, hf⟩ := of_bd hf
        refine m_goRi (va_runV (As := [.int 1]) (rest := []) ⟨hx, hb, hml, hown, hts⟩ (c_X11_number l hz 1 w hq_62) (cwV 1 hts gX11_does_X11_number rfl rfl rfl (by decide +kernel) ⟨Nat.le_of_ble_eq_true rfl, Nat.le_of_ble_eq_true rfl⟩) (pre_X11 hK hz hW _) rfl rfl hl.1 rfl (lv_room (Nat.le_of_ble_eq_true rfl)) dX11_does_189 ⟨Nat.le_refl _, Nat.le_refl _⟩) ?_
        refine lv_bipush (v := (-100)) hx hb dX11_does_192 (by decide) ?_
        refine lv_bipush (v := 100) hx hb dX11_does_194 (by decide) ?_
        obtain ⟨r_63, hq_64, hf⟩ := of_bd hf
        refine m_goRi (va_runS (As := [.int r_61, .int (-100), .int 100]) (rest := []) ⟨hx, hb, hml, hown, hts⟩ (c_X11_in l hz r_61 (-100) 100 w hq_64) (va_cwS 3 hts gX11_does_X11_in rfl rfl rfl (by decide +kernel) ⟨Nat.le_of_ble_eq_true rfl, Nat.le_of_ble_eq_true rfl⟩) (m_preS hK hW _) rfl rfl hl.1 rfl (lv_room (Nat.le_of_ble_eq_true rfl)) dX11_does_196 ⟨Nat.le_refl _, Nat.le_refl _⟩) ?_
        refine lv_if_ne (tgt := 204) hx hb dX11_does_199 (by decide) (fun c_65 => ?_) (fun c_65 => ?_)
        · have hf := of_f c_65 hf
          refine lv_aload_n hx hb dX11_does_204 rfl (lv_at hl 0 rfl) ?_
          refine lv_aload_n hx hb dX11_does_205 rfl (lv_at hl 0 rfl) ?_
          refine lv_iconst (v := 1) hx hb dX11_does_206 (by decide) ?_
          obtain ⟨r_66, hq_67, hf⟩ := of_bd hf
          refine m_goRi (va_runV (As := [.int 1]) (rest := [.ref (z.2.1 0)]) ⟨hx, hb, hml, hown, hts⟩ (c_X11_number l hz 1 w hq_67) (cwV 1 hts gX11_does_X11_number rfl rfl rfl (by decide +kernel) ⟨Nat.le_of_ble_eq_true rfl, Nat.le_of_ble_eq_true rfl⟩) (pre_X11 hK hz hW _) rfl rfl hl.1 rfl (lv_room (Nat.le_of_ble_eq_true rfl)) dX11_does_207 ⟨Nat.le_refl _, Nat.le_refl _⟩) ?_
          refine put_X11_37 hx hb hts in_X11_does_X11 hown hK hz hW hS lk_X11_does_6 dX11_does_210 (fun H locs hW hS => ?_)
          obtain ⟨w_68, ew_68⟩ : ∃ y : Mem, y = mS w 0 37 r_66 := ⟨_, rfl⟩
          have hW : hd z w_68 H := by rw [ew_68]; exact hW
          have hf := of_lt ew_68 hf
          refine lv_aload_n hx hb dX11_does_213 rfl (lv_at hl 0 rfl) ?_
          refine lv_iconst (v := 1) hx hb dX11_does_214 (by decide) ?_
          refine put_X11_36 hx hb hts in_X11_does_X11 hown hK hz hW hS (Or.inr rfl) lk_X11_does_2 dX11_does_215 (fun H locs hW hS => ?_)
          obtain ⟨w_69, ew_69⟩ : ∃ y : Mem, y = mS w_68 0 36 1 := ⟨_, rfl⟩
          have hW : hd z w_69 H := by rw [ew_69]; exact hW
          have hf := of_lt ew_69 hf
          refine lv_aload_n hx hb dX11_does_218 rfl (lv_at hl 0 rfl) ?_
          refine lv_dup hx hb dX11_does_219 rfl ?_
          refine get_X11_29 hx hb hts in_X11_does_X11 hown hK hz hW lk_X11_does_5 dX11_does_220 ?_
          refine lv_iconst (v := 2) hx hb dX11_does_223 (by decide) ?_
          refine lv_iadd hx hb dX11_does_224 ?_
          refine put_X11_29 hx hb hts in_X11_does_X11 hown hK hz hW hS lk_X11_does_5 dX11_does_225 (fun H locs hW hS => ?_)
          obtain ⟨w_70, ew_70⟩ : ∃ y : Mem, y = mS w_69 0 29 ((w_69.1 0 29) + 2) := ⟨_, rfl⟩
          have hW : hd z w_70 H := by rw [ew_70]; exact hW
          have hf := of_lt ew_70 hf
          refine lv_iconst (v := 1) hx hb dX11_does_228 (by decide) ?_
          exact hret _ _ _ _ _ _ hf rfl hW hS dX11_does_229
        · have hf := of_t c_65 hf
          refine lv_iconst (v := 0) hx hb dX11_does_202 (by decide) ?_
          exact hret _ _ _ _ _ _ hf rfl hW hS dX11_does_203
    have hf := of_f c_57 hf
    refine lv_tableOut (tgt := 230) hx hb dX11_does_5 (by have qc_3 := lv_neT c_3 (show (0 : Int32).toInt = 0 by decide); have qc_12 := lv_neT c_12 (show (1 : Int32).toInt = 1 by decide); have qc_23 := lv_neT c_23 (show (2 : Int32).toInt = 2 by decide); have qc_34 := lv_neT c_34 (show (3 : Int32).toInt = 3 by decide); have qc_41 := lv_neT c_41 (show (4 : Int32).toInt = 4 by decide); have qc_52 := lv_neT c_52 (show (5 : Int32).toInt = 5 by decide); have qc_57 := lv_neT c_57 (show (6 : Int32).toInt = 6 by decide); omega) (by decide) ?_
    refine lv_iconst (v := 0) hx hb dX11_does_230 (by decide) ?_
    exact hret _ _ _ _ _ _ hf rfl hW hS dX11_does_231
  exact START _ _ hW va_S.rf
set_option maxHeartbeats 4000000 in
set_option maxRecDepth 100000 in
theorem c_X11_isTape (l : Launch) {z : LZ} (hz : IM z) (x0 : Int32) (w : Mem) {r : Int32} (hf : f_X11_isTape x0 = some r) : Met l yX11_isTape wsX11_isTape (rm 1 22) (PZ z w [.int x0]) (QR (some (.int r))) 0 0 (fun _ => False) := by
  refine mk_Rz (cc := cX11_isTape) (maxL := 1) (by decide +kernel) rfl (Nat.le_of_ble_eq_true rfl) ?_
  intro p e s m args below meth c hx hb hml hts hown hK hW Q hret ls hl
  have hl : lv_has ls 1 [(0, .int x0)] := hl
  unfold f_X11_isTape at hf
  refine lv_iload_n hx hb dX11_isTape_0 rfl (lv_at hl 0 rfl) ?_
  refine lv_iconst (v := 0) hx hb dX11_isTape_1 (by decide) ?_
  refine lv_iconst (v := 5) hx hb dX11_isTape_2 (by decide) ?_
  obtain ⟨r_1, hq_2, hf⟩ := of_bd hf
  refine m_goRi (va_runS (As := [.int x0, .int 0, .int 5]) (rest := []) ⟨hx, hb, hml, hown, hts⟩ (c_X11_in l hz x0 0 5 w hq_2) (va_cwS 3 hts gX11_isTape_X11_in rfl rfl rfl (by decide +kernel) ⟨Nat.le_of_ble_eq_true rfl, Nat.le_of_ble_eq_true rfl⟩) (m_preS hK hW _) rfl rfl hl.1 rfl (lv_room (Nat.le_of_ble_eq_true rfl)) dX11_isTape_3 ⟨Nat.le_refl _, Nat.le_refl _⟩) ?_
  obtain ⟨g_3, hf⟩ := of_gd hf
  exact hret _ _ _ hf (bz_n g_3) dX11_isTape_6
