/-! ===== contracts (by program: wip/gen/gen.py): J6_bitCount_0f7a4 X2_keepKind X2_gather X2_narrow X2_gatherNoted X2_numberOf X2_holds X2_greatestShare X2_partingTrial X2_hunted X3_measures X3_spread X3_feedOf X3_greatestChange X10_isWithin X3_fits X3_judged X10_isShelf X4_isStep X5_forget X5_become X5_gets X6_start X6_canEnd X6_numbersOf X6_opens X6_closes ===== -/
theorem lk_J6_bitCount_0f7a4_0 : Cond.constant RJ6 265 1431655765 ∈ wsJ6_bitCount_0f7a4 := by decide +kernel
theorem lk_J6_bitCount_0f7a4_1 : Cond.constant RJ6 266 858993459 ∈ wsJ6_bitCount_0f7a4 := by decide +kernel
theorem lk_J6_bitCount_0f7a4_2 : Cond.constant RJ6 267 252645135 ∈ wsJ6_bitCount_0f7a4 := by decide +kernel
set_option maxHeartbeats 4000000 in
set_option maxRecDepth 100000 in
theorem c_J6_bitCount_0f7a4 (l : Launch) {z : LZ} (x0 : Int32) (w : Mem) {r : Int32} (hf : f_J6_bitCount_0f7a4 x0 = some r) : Met l yJ6_bitCount_0f7a4 wsJ6_bitCount_0f7a4 (rm 0 0) (PZ z w [.int x0]) (QR (some (.int r))) 0 0 (fun _ => False) := by
  refine mk_Ri (cc := cJ6_bitCount_0f7a4) (maxL := 1) (by decide +kernel) rfl (Nat.le_of_ble_eq_true rfl) ?_
  intro p e s m args below meth c hx hb hml hts hown hK hW Q hret ls hl
  have hl : lv_has ls 1 [(0, .int x0)] := hl
  unfold f_J6_bitCount_0f7a4 at hf
  refine lv_iload_n hx hb dJ6_bitCount_0f7a4_0 rfl (lv_at hl 0 rfl) ?_
  refine lv_iload_n hx hb dJ6_bitCount_0f7a4_1 rfl (lv_at hl 0 rfl) ?_
  refine lv_iconst (v := 1) hx hb dJ6_bitCount_0f7a4_2 (by decide) ?_
  refine lv_iushr hx hb dJ6_bitCount_0f7a4_3 rfl ?_
  refine lv_topi (fun v_1 ev_1 => ?_)
  have hf := of_lt ev_1 hf
  refine lv_ldcw (v := 1431655765) hx hb hown (hts _ lk_J6_bitCount_0f7a4_0) dJ6_bitCount_0f7a4_4 ?_
  refine lv_iand hx hb dJ6_bitCount_0f7a4_7 ?_
  refine lv_isub hx hb dJ6_bitCount_0f7a4_8 ?_
  refine lv_topi (fun v_2 ev_2 => ?_)
  have hf := of_lt ev_2 hf
  refine lv_istore_n (lv' := [(0, .int v_2)]) hx hb dJ6_bitCount_0f7a4_9 rfl hl (by decide) rfl (fun ls hl => ?_)
  refine lv_iload_n hx hb dJ6_bitCount_0f7a4_10 rfl (lv_at hl 0 rfl) ?_
  refine lv_ldcw (v := 858993459) hx hb hown (hts _ lk_J6_bitCount_0f7a4_1) dJ6_bitCount_0f7a4_11 ?_
  refine lv_iand hx hb dJ6_bitCount_0f7a4_14 ?_
  refine lv_iload_n hx hb dJ6_bitCount_0f7a4_15 rfl (lv_at hl 0 rfl) ?_
  refine lv_iconst (v := 2) hx hb dJ6_bitCount_0f7a4_16 (by decide) ?_
  refine lv_iushr hx hb dJ6_bitCount_0f7a4_17 rfl ?_
  refine lv_topi (fun v_3 ev_3 => ?_)
  have hf := of_lt ev_3 hf
  refine lv_ldcw (v := 858993459) hx hb hown (hts _ lk_J6_bitCount_0f7a4_1) dJ6_bitCount_0f7a4_18 ?_
  refine lv_iand hx hb dJ6_bitCount_0f7a4_21 ?_
  refine lv_iadd hx hb dJ6_bitCount_0f7a4_22 ?_
  refine lv_topi (fun v_4 ev_4 => ?_)
  have hf := of_lt ev_4 hf
  refine lv_istore_n (lv' := [(0, .int v_4)]) hx hb dJ6_bitCount_0f7a4_23 rfl hl (by decide) rfl (fun ls hl => ?_)
  refine lv_iload_n hx hb dJ6_bitCount_0f7a4_24 rfl (lv_at hl 0 rfl) ?_
  refine lv_iload_n hx hb dJ6_bitCount_0f7a4_25 rfl (lv_at hl 0 rfl) ?_
  refine lv_iconst (v := 4) hx hb dJ6_bitCount_0f7a4_26 (by decide) ?_
  refine lv_iushr hx hb dJ6_bitCount_0f7a4_27 rfl ?_
  refine lv_topi (fun v_5 ev_5 => ?_)
  have hf := of_lt ev_5 hf
  refine lv_iadd hx hb dJ6_bitCount_0f7a4_28 ?_
  refine lv_ldcw (v := 252645135) hx hb hown (hts _ lk_J6_bitCount_0f7a4_2) dJ6_bitCount_0f7a4_29 ?_
  refine lv_iand hx hb dJ6_bitCount_0f7a4_32 ?_
  refine lv_topi (fun v_6 ev_6 => ?_)
  have hf := of_lt ev_6 hf
  refine lv_istore_n (lv' := [(0, .int v_6)]) hx hb dJ6_bitCount_0f7a4_33 rfl hl (by decide) rfl (fun ls hl => ?_)
  refine lv_iload_n hx hb dJ6_bitCount_0f7a4_34 rfl (lv_at hl 0 rfl) ?_
  refine lv_iload_n hx hb dJ6_bitCount_0f7a4_35 rfl (lv_at hl 0 rfl) ?_
  refine lv_bipush (v := 8) hx hb dJ6_bitCount_0f7a4_36 (by decide) ?_
  refine lv_iushr hx hb dJ6_bitCount_0f7a4_38 rfl ?_
  refine lv_topi (fun v_7 ev_7 => ?_)
  have hf := of_lt ev_7 hf
  refine lv_iadd hx hb dJ6_bitCount_0f7a4_39 ?_
  refine lv_topi (fun v_8 ev_8 => ?_)
  have hf := of_lt ev_8 hf
  refine lv_istore_n (lv' := [(0, .int v_8)]) hx hb dJ6_bitCount_0f7a4_40 rfl hl (by decide) rfl (fun ls hl => ?_)
  refine lv_iload_n hx hb dJ6_bitCount_0f7a4_41 rfl (lv_at hl 0 rfl) ?_
  refine lv_iload_n hx hb dJ6_bitCount_0f7a4_42 rfl (lv_at hl 0 rfl) ?_
  refine lv_bipush (v := 16) hx hb dJ6_bitCount_0f7a4_43 (by decide) ?_
  refine lv_iushr hx hb dJ6_bitCount_0f7a4_45 rfl ?_
  refine lv_topi (fun v_9 ev_9 => ?_)
  have hf := of_lt ev_9 hf
  refine lv_iadd hx hb dJ6_bitCount_0f7a4_46 ?_
  refine lv_topi (fun v_10 ev_10 => ?_)
  have hf := of_lt ev_10 hf
  refine lv_istore_n (lv' := [(0, .int v_10)]) hx hb dJ6_bitCount_0f7a4_47 rfl hl (by decide) rfl (fun ls hl => ?_)
  refine lv_iload_n hx hb dJ6_bitCount_0f7a4_48 rfl (lv_at hl 0 rfl) ?_
  refine lv_bipush (v := 63) hx hb dJ6_bitCount_0f7a4_49 (by decide) ?_
  refine lv_iand hx hb dJ6_bitCount_0f7a4_51 ?_
  exact hret _ _ _ hf dJ6_bitCount_0f7a4_52
theorem in_X2_keepKind_X2 : ∀ w ∈ wsX20, w ∈ wsX2_keepKind := by decide +kernel
theorem lk_X2_keepKind_0 : Cond.fieldLink RX2 65 "CamStitch$Faults" "kindsLeft" "I" ∈ wsX2_keepKind := by decide +kernel
theorem lk_X2_keepKind_1 : Cond.fieldLink RX2 18 "CamStitch$Faults" "kinds" "[I" ∈ wsX2_keepKind := by decide +kernel
theorem lk_X2_keepKind_2 : Cond.fieldLink RX2 21 "CamStitch$Faults" "pulls" "[I" ∈ wsX2_keepKind := by decide +kernel
theorem lk_X2_keepKind_3 : Cond.fieldLink RX2 69 "CamStitch$Faults" "size" "I" ∈ wsX2_keepKind := by decide +kernel
set_option maxHeartbeats 4000000 in
set_option maxRecDepth 100000 in
theorem c_X2_keepKind (l : Launch) {z : LZ} (hz : IC z) (x1 : Int32) (x2 : Int32) (w : Mem) {w' : Mem} (hf : f_X2_keepKind x1 x2 w = some w') : Met l yX2_keepKind wsX2_keepKind (rm 1 20) (PZ z w [.ref (z.2.1 83), .int x1, .int x2]) (QW z none w') 0 0 (az z) := by
  refine mk_Wv (cc := cX2_keepKind) (maxL := 3) (by decide +kernel) rfl (Nat.le_of_ble_eq_true rfl) ?_
  intro p e s m args below meth c hx hb hml hts hown hK hW Q hret ls hl
  have hl : lv_has ls 3 [(0, .ref (z.2.1 83)), (1, .int x1), (2, .int x2)] := hl
  unfold f_X2_keepKind at hf
  have START : ∀ (H : Heap) (locs : List Loc), hd z w H → va_S (az z) s.heap H locs → W p l e (rm 1 20) s m args below meth c H locs 0 0 Q (F0 m 0 ls []) := by
    intro H locs hW hS
    refine lv_iload_n hx hb dX2_keepKind_0 rfl (lv_at hl 2 rfl) ?_
    refine lv_if_eq (tgt := 57) hx hb dX2_keepKind_1 (by decide) (fun c_1 => ?_) (fun c_1 => ?_)
    · have hf := of_t c_1 hf
      exact hret _ _ _ _ _ hf hW hS dX2_keepKind_57
    · have hf := of_f c_1 hf
      refine lv_aload_n hx hb dX2_keepKind_4 rfl (lv_at hl 0 rfl) ?_
      refine get_X2_7 hx hb hts in_X2_keepKind_X2 hown hK hz hW lk_X2_keepKind_0 dX2_keepKind_5 ?_
      refine lv_sipush (v := 252) hx hb dX2_keepKind_8 (by decide) ?_
      refine lv_icmp_ge (tgt := 57) hx hb dX2_keepKind_11 (by decide) (fun c_2 => ?_) (fun c_2 => ?_)
      · have hf := of_t c_2 hf
        exact hret _ _ _ _ _ hf hW hS dX2_keepKind_57
      · have hf := of_f c_2 hf
        refine lv_aload_n hx hb dX2_keepKind_14 rfl (lv_at hl 0 rfl) ?_
        refine get_X2_5 hx hb hts in_X2_keepKind_X2 hown hK hz hW lk_X2_keepKind_1 dX2_keepKind_15 ?_
        refine lv_aload_n hx hb dX2_keepKind_18 rfl (lv_at hl 0 rfl) ?_
        refine get_X2_7 hx hb hts in_X2_keepKind_X2 hown hK hz hW lk_X2_keepKind_0 dX2_keepKind_19 ?_
        refine lv_iload_n hx hb dX2_keepKind_22 rfl (lv_at hl 1 rfl) ?_
        obtain ⟨g_3, hf⟩ := of_gd hf
        refine st_A86 hx hb hK hz hW hS g_3 dX2_keepKind_23 (fun H locs hW hS => ?_)
        obtain ⟨w_4, ew_4⟩ : ∃ y : Mem, y = mS w 86 ((w.1 83 7).toNatClampNeg) x1 := ⟨_, rfl⟩
        have hW : hd z w_4 H := by rw [ew_4]; exact hW
        have hf := of_lt ew_4 hf
        refine lv_aload_n hx hb dX2_keepKind_24 rfl (lv_at hl 0 rfl) ?_
        refine get_X2_6 hx hb hts in_X2_keepKind_X2 hown hK hz hW lk_X2_keepKind_2 dX2_keepKind_25 ?_
        refine lv_aload_n hx hb dX2_keepKind_28 rfl (lv_at hl 0 rfl) ?_
        refine get_X2_7 hx hb hts in_X2_keepKind_X2 hown hK hz hW lk_X2_keepKind_0 dX2_keepKind_29 ?_
        refine lv_iload_n hx hb dX2_keepKind_32 rfl (lv_at hl 2 rfl) ?_
        obtain ⟨g_5, hf⟩ := of_gd hf
        refine st_A87 hx hb hK hz hW hS g_5 dX2_keepKind_33 (fun H locs hW hS => ?_)
        obtain ⟨w_6, ew_6⟩ : ∃ y : Mem, y = mS w_4 87 ((w_4.1 83 7).toNatClampNeg) x2 := ⟨_, rfl⟩
        have hW : hd z w_6 H := by rw [ew_6]; exact hW
        have hf := of_lt ew_6 hf
        refine lv_aload_n hx hb dX2_keepKind_34 rfl (lv_at hl 0 rfl) ?_
        refine lv_dup hx hb dX2_keepKind_35 rfl ?_
        refine get_X2_7 hx hb hts in_X2_keepKind_X2 hown hK hz hW lk_X2_keepKind_0 dX2_keepKind_36 ?_
        refine lv_iconst (v := 1) hx hb dX2_keepKind_39 (by decide) ?_
        refine lv_iadd hx hb dX2_keepKind_40 ?_
        refine put_X2_7 hx hb hts in_X2_keepKind_X2 hown hK hz hW hS lk_X2_keepKind_0 dX2_keepKind_41 (fun H locs hW hS => ?_)
        obtain ⟨w_7, ew_7⟩ : ∃ y : Mem, y = mS w_6 83 7 ((w_6.1 83 7) + 1) := ⟨_, rfl⟩
        have hW : hd z w_7 H := by rw [ew_7]; exact hW
        have hf := of_lt ew_7 hf
        refine lv_aload_n hx hb dX2_keepKind_44 rfl (lv_at hl 0 rfl) ?_
        refine lv_dup hx hb dX2_keepKind_45 rfl ?_
        refine get_X2_3 hx hb hts in_X2_keepKind_X2 hown hK hz hW lk_X2_keepKind_3 dX2_keepKind_46 ?_
        refine lv_iload_n hx hb dX2_keepKind_49 rfl (lv_at hl 2 rfl) ?_
        obtain ⟨r_8, hq_9, hf⟩ := of_bd hf
        refine m_goRi (va_runS (As := [.int x2]) (rest := [.int (w_7.1 83 3), .ref (z.2.1 83)]) ⟨hx, hb, hml, hown, hts⟩ (c_J6_bitCount_0f7a4 l (z := z) x2 w_7 hq_9) (va_cwS 1 hts gX2_keepKind_J6_bitCount_0f7a4 rfl rfl rfl (by decide +kernel) ⟨Nat.le_of_ble_eq_true rfl, Nat.le_of_ble_eq_true rfl⟩) (m_preS hK hW _) rfl rfl hl.1 rfl (lv_room (Nat.le_of_ble_eq_true rfl)) dX2_keepKind_50 ⟨Nat.le_refl _, Nat.le_refl _⟩) ?_
        refine lv_iadd hx hb dX2_keepKind_53 ?_
        refine put_X2_3 hx hb hts in_X2_keepKind_X2 hown hK hz hW hS lk_X2_keepKind_3 dX2_keepKind_54 (fun H locs hW hS => ?_)
        obtain ⟨w_10, ew_10⟩ : ∃ y : Mem, y = mS w_7 83 3 ((w_7.1 83 3) + r_8) := ⟨_, rfl⟩
        have hW : hd z w_10 H := by rw [ew_10]; exact hW
        have hf := of_lt ew_10 hf
        exact hret _ _ _ _ _ hf hW hS dX2_keepKind_57
  exact START _ _ hW va_S.rf
theorem in_X2_gather_X2 : ∀ w ∈ wsX20, w ∈ wsX2_gather := by decide +kernel
theorem lk_X2_gather_0 : Cond.fieldLink RX2 65 "CamStitch$Faults" "kindsLeft" "I" ∈ wsX2_gather := by decide +kernel
theorem lk_X2_gather_1 : Cond.fieldLink RX2 69 "CamStitch$Faults" "size" "I" ∈ wsX2_gather := by decide +kernel
set_option maxHeartbeats 4000000 in
set_option maxRecDepth 100000 in
theorem c_X2_gather (l : Launch) {z : LZ} (hz : IC z) (x1 : Int32) (w : Mem) {w' : Mem} (hf : f_X2_gather x1 w = some w') : Met l yX2_gather wsX2_gather (rm 2 42) (PZ z w [.ref (z.2.1 83), .int x1]) (QW z none w') 0 0 (az z) := by
  refine mk_Wv (cc := cX2_gather) (maxL := 4) (by decide +kernel) rfl (Nat.le_of_ble_eq_true rfl) ?_
  intro p e s m args below meth c hx hb hml hts hown hK hW Q hret ls hl
  have hl : lv_has ls 4 [(0, .ref (z.2.1 83)), (1, .int x1)] := hl
  unfold f_X2_gather at hf
  have START : ∀ (H : Heap) (locs : List Loc), hd z w H → va_S (az z) s.heap H locs → W p l e (rm 2 42) s m args below meth c H locs 0 0 Q (F0 m 0 ls []) := by
    intro H locs hW hS
    refine lv_aload_n hx hb dX2_gather_0 rfl (lv_at hl 0 rfl) ?_
    refine lv_iconst (v := 0) hx hb dX2_gather_1 (by decide) ?_
    refine put_X2_7 hx hb hts in_X2_gather_X2 hown hK hz hW hS lk_X2_gather_0 dX2_gather_2 (fun H locs hW hS => ?_)
    obtain ⟨w_1, ew_1⟩ : ∃ y : Mem, y = mS w 83 7 0 := ⟨_, rfl⟩
    have hW : hd z w_1 H := by rw [ew_1]; exact hW
    have hf := of_lt ew_1 hf
    refine lv_aload_n hx hb dX2_gather_5 rfl (lv_at hl 0 rfl) ?_
    refine lv_iconst (v := 0) hx hb dX2_gather_6 (by decide) ?_
    refine put_X2_3 hx hb hts in_X2_gather_X2 hown hK hz hW hS lk_X2_gather_1 dX2_gather_7 (fun H locs hW hS => ?_)
    obtain ⟨w_2, ew_2⟩ : ∃ y : Mem, y = mS w_1 83 3 0 := ⟨_, rfl⟩
    have hW : hd z w_2 H := by rw [ew_2]; exact hW
    have hf := of_lt ew_2 hf
    refine lv_iconst (v := 0) hx hb dX2_gather_10 (by decide) ?_
    refine lv_istore_n (lv' := [(2, .int 0), (0, .ref (z.2.1 83)), (1, .int x1)]) hx hb dX2_gather_11 rfl hl (by decide) rfl (fun ls hl => ?_)
    have L_5 : ∀ (n : Nat) (x2_3 : Int32) (w_4 : Mem) (exL_5 : Mem) (H : Heap) (locs : List Loc) (ls : Array Slot), f_X2_gather_L12 x1 n x2_3 w_4 = some exL_5 → hd z w_4 H → va_S (az z) s.heap H locs → lv_has ls 4 [(0, .ref (z.2.1 83)), (1, .int x1), (2, .int x2_3)] → (∀ (H : Heap) (locs : List Loc) (ls : Array Slot), hd z (exL_5) H → va_S (az z) s.heap H locs → lv_has ls 4 [] → W p l e (rm 2 42) s m args below meth c H locs 0 0 Q (F0 m 53 ls [])) → W p l e (rm 2 42) s m args below meth c H locs 0 0 Q (F0 m 12 ls []) := by
      intro n
      induction n with
      | zero =>
        intro x2_3 w_4 exL_5 H locs ls hf
        have hf : (none : Option (Mem)) = some exL_5 := hf
        cases hf
      | succ n ihL_5 =>
        intro x2_3 w_4 exL_5 H locs ls hf hW hS hl hEL_5
        rw [f_X2_gather_L12_s] at hf
        refine lv_iload_n hx hb dX2_gather_12 rfl (lv_at hl 2 rfl) ?_
        refine lv_sipush (v := 252) hx hb dX2_gather_13 (by decide) ?_
        refine lv_icmp_ge (tgt := 53) hx hb dX2_gather_16 (by decide) (fun c_6 => ?_) (fun c_6 => ?_)
        · have hf := of_t c_6 hf
          have hf := Option.some.inj hf
          subst hf
          exact hEL_5 _ _ _ hW hS (lv_sub hl [] rfl)
        · have hf := of_f c_6 hf
          refine lv_iload_n hx hb dX2_gather_19 rfl (lv_at hl 2 rfl) ?_
          obtain ⟨r_7, hq_8, hf⟩ := of_bd hf
          refine m_goRi (va_runS (As := [.int x2_3]) (rest := []) ⟨hx, hb, hml, hown, hts⟩ (c_X2_causesOf l hz x2_3 w_4 hq_8) (va_cwS 1 hts gX2_gather_X2_causesOf rfl rfl rfl (by decide +kernel) ⟨Nat.le_of_ble_eq_true rfl, Nat.le_of_ble_eq_true rfl⟩) (m_preS hK hW _) rfl rfl hl.1 rfl (lv_room (Nat.le_of_ble_eq_true rfl)) dX2_gather_20 ⟨Nat.le_refl _, Nat.le_refl _⟩) ?_
          refine lv_istore_n (lv' := [(3, .int r_7), (0, .ref (z.2.1 83)), (1, .int x1), (2, .int x2_3)]) hx hb dX2_gather_23 rfl hl (by decide) rfl (fun ls hl => ?_)
          refine lv_iload_n hx hb dX2_gather_24 rfl (lv_at hl 0 rfl) ?_
          refine lv_iload_n hx hb dX2_gather_25 rfl (lv_at hl 2 rfl) ?_
          refine lv_icmp_gt (tgt := 47) hx hb dX2_gather_26 (by decide) (fun c_9 => ?_) (fun c_9 => ?_)
          · have hf := of_t c_9 hf
            obtain ⟨x2_10, ex2_10⟩ : ∃ y : Int32, y = x2_3 + 1 := ⟨_, rfl⟩
            have hf := of_lt ex2_10 hf
            refine lv_iinc (v := x2_10) (lv' := [(2, .int x2_10), (3, .int r_7), (0, .ref (z.2.1 83)), (1, .int x1)]) hx hb dX2_gather_47 hl (k := 3) rfl (by rw [ex2_10]; rfl) (by decide) rfl (fun ls hl => ?_)
            refine lv_goto (tgt := 12) hx hb dX2_gather_50 (by decide) ?_
            exact ihL_5 _ _ _ _ _ _ hf hW hS (lv_sub hl [2, 3, 0] rfl) hEL_5
          · have hf := of_f c_9 hf
            refine lv_aload_n hx hb dX2_gather_29 rfl (lv_at hl 1 rfl) ?_
            refine lv_iload_n hx hb dX2_gather_30 rfl (lv_at hl 3 rfl) ?_
            refine lv_iload_n hx hb dX2_gather_31 rfl (lv_at hl 0 rfl) ?_
            refine lv_iload_n hx hb dX2_gather_32 rfl (lv_at hl 2 rfl) ?_
            have J_12 : ∀ (v_11 : Int32) (ls : Array Slot), v_11 = (if x1 ≤ r_7 then 32 else 2047) → lv_has ls 4 [(0, .ref (z.2.1 83)), (1, .int x1), (2, .int x2_3)] → W p l e (rm 2 42) s m args below meth c H locs 0 0 Q (F0 m 44 ls [.int v_11, .int x2_3, .ref (z.2.1 83)]) := by
              intro v_11 ls ev_11 hl
              have hf := of_lt ev_11 hf
              obtain ⟨w_15, hq_14, hf⟩ := of_bd hf
              refine m_goWv (va_runV (As := [.int x2_3, .int v_11]) (rest := []) ⟨hx, hb, hml, hown, hts⟩ (c_X2_keepKind l hz x2_3 v_11 w_4 hq_14) (cwV 2 hts gX2_gather_X2_keepKind rfl rfl rfl (by decide +kernel) ⟨Nat.le_of_ble_eq_true rfl, Nat.le_of_ble_eq_true rfl⟩) (pre_X2 hK hz hW _) rfl rfl hl.1 rfl (lv_room (Nat.le_of_ble_eq_true rfl)) dX2_gather_44 ⟨Nat.le_refl _, Nat.le_refl _⟩) hS (fun H locs hW hS => ?_)
              obtain ⟨x2_16, ex2_16⟩ : ∃ y : Int32, y = x2_3 + 1 := ⟨_, rfl⟩
              have hf := of_lt ex2_16 hf
              refine lv_iinc (v := x2_16) (lv' := [(2, .int x2_16), (0, .ref (z.2.1 83)), (1, .int x1)]) hx hb dX2_gather_47 hl (k := 2) rfl (by rw [ex2_16]; rfl) (by decide) rfl (fun ls hl => ?_)
              refine lv_goto (tgt := 12) hx hb dX2_gather_50 (by decide) ?_
              exact ihL_5 _ _ _ _ _ _ hf hW hS (lv_sub hl [1, 2, 0] rfl) hEL_5
            refine lv_icmp_ge (tgt := 42) hx hb dX2_gather_33 (by decide) (fun c_17 => ?_) (fun c_17 => ?_)
            · refine lv_bipush (v := 32) hx hb dX2_gather_42 (by decide) ?_
              exact J_12 _ _ (by rw [if_pos c_17]) (lv_sub hl [1, 2, 3] rfl)
            · refine lv_sipush (v := 2047) hx hb dX2_gather_36 (by decide) ?_
              refine lv_goto (tgt := 44) hx hb dX2_gather_39 (by decide) ?_
              exact J_12 _ _ (by rw [if_neg c_17]) (lv_sub hl [1, 2, 3] rfl)
    obtain ⟨ex_19, hq_18, hf⟩ := of_bd hf
    obtain ⟨w_20, ew_20⟩ : ∃ y, y = ex_19 := ⟨_, rfl⟩
    rw [← ew_20] at hf
    rw [← ew_20] at hq_18
    refine L_5 FU _ _ _ _ _ _ hq_18 hW hS (lv_sub hl [1, 2, 0] rfl) (fun H locs ls hW hS hl => ?_)
    have hW : hd z w_20 H := hW
    have hl : lv_has ls 4 [] := hl
    exact hret _ _ _ _ _ hf hW hS dX2_gather_53
  exact START _ _ hW va_S.rf
theorem in_X2_narrow_X2 : ∀ w ∈ wsX20, w ∈ wsX2_narrow := by decide +kernel
theorem lk_X2_narrow_0 : Cond.fieldLink RX2 65 "CamStitch$Faults" "kindsLeft" "I" ∈ wsX2_narrow := by decide +kernel
theorem lk_X2_narrow_1 : Cond.fieldLink RX2 69 "CamStitch$Faults" "size" "I" ∈ wsX2_narrow := by decide +kernel
theorem lk_X2_narrow_2 : Cond.fieldLink RX2 18 "CamStitch$Faults" "kinds" "[I" ∈ wsX2_narrow := by decide +kernel
theorem lk_X2_narrow_3 : Cond.fieldLink RX2 21 "CamStitch$Faults" "pulls" "[I" ∈ wsX2_narrow := by decide +kernel
set_option maxHeartbeats 4000000 in
set_option maxRecDepth 100000 in
theorem c_X2_narrow (l : Launch) {z : LZ} (hz : IC z) (x1 : Int32) (x2 : Int32) (w : Mem) {w' : Mem} (hf : f_X2_narrow x1 x2 w = some w') : Met l yX2_narrow wsX2_narrow (rm 3 69) (PZ z w [.ref (z.2.1 83), .int x1, .int x2]) (QW z none w') 0 0 (az z) := by
  refine mk_Wv (cc := cX2_narrow) (maxL := 5) (by decide +kernel) rfl (Nat.le_of_ble_eq_true rfl) ?_
  intro p e s m args below meth c hx hb hml hts hown hK hW Q hret ls hl
  have hl : lv_has ls 5 [(0, .ref (z.2.1 83)), (1, .int x1), (2, .int x2)] := hl
  unfold f_X2_narrow at hf
  have START : ∀ (H : Heap) (locs : List Loc), hd z w H → va_S (az z) s.heap H locs → W p l e (rm 3 69) s m args below meth c H locs 0 0 Q (F0 m 0 ls []) := by
    intro H locs hW hS
    refine lv_aload_n hx hb dX2_narrow_0 rfl (lv_at hl 0 rfl) ?_
    refine get_X2_7 hx hb hts in_X2_narrow_X2 hown hK hz hW lk_X2_narrow_0 dX2_narrow_1 ?_
    refine lv_topi (fun v_1 ev_1 => ?_)
    have hf := of_lt ev_1 hf
    refine lv_istore_n (lv' := [(3, .int v_1), (0, .ref (z.2.1 83)), (1, .int x1), (2, .int x2)]) hx hb dX2_narrow_4 rfl hl (by decide) rfl (fun ls hl => ?_)
    refine lv_aload_n hx hb dX2_narrow_5 rfl (lv_at hl 1 rfl) ?_
    refine lv_iconst (v := 0) hx hb dX2_narrow_6 (by decide) ?_
    refine put_X2_7 hx hb hts in_X2_narrow_X2 hown hK hz hW hS lk_X2_narrow_0 dX2_narrow_7 (fun H locs hW hS => ?_)
    obtain ⟨w_2, ew_2⟩ : ∃ y : Mem, y = mS w 83 7 0 := ⟨_, rfl⟩
    have hW : hd z w_2 H := by rw [ew_2]; exact hW
    have hf := of_lt ew_2 hf
    refine lv_aload_n hx hb dX2_narrow_10 rfl (lv_at hl 1 rfl) ?_
    refine lv_iconst (v := 0) hx hb dX2_narrow_11 (by decide) ?_
    refine put_X2_3 hx hb hts in_X2_narrow_X2 hown hK hz hW hS lk_X2_narrow_1 dX2_narrow_12 (fun H locs hW hS => ?_)
    obtain ⟨w_3, ew_3⟩ : ∃ y : Mem, y = mS w_2 83 3 0 := ⟨_, rfl⟩
    have hW : hd z w_3 H := by rw [ew_3]; exact hW
    have hf := of_lt ew_3 hf
    refine lv_iconst (v := 0) hx hb dX2_narrow_15 (by decide) ?_
    refine lv_istore (lv' := [(4, .int 0), (3, .int v_1), (0, .ref (z.2.1 83)), (1, .int x1), (2, .int x2)]) hx hb dX2_narrow_16 hl (by decide) rfl (fun ls hl => ?_)
    have L_6 : ∀ (n : Nat) (x4_4 : Int32) (w_5 : Mem) (exL_6 : Mem) (H : Heap) (locs : List Loc) (ls : Array Slot), f_X2_narrow_L18 x1 x2 v_1 n x4_4 w_5 = some exL_6 → hd z w_5 H → va_S (az z) s.heap H locs → lv_has ls 5 [(0, .ref (z.2.1 83)), (1, .int x1), (2, .int x2), (3, .int v_1), (4, .int x4_4)] → (∀ (H : Heap) (locs : List Loc) (ls : Array Slot), hd z (exL_6) H → va_S (az z) s.heap H locs → lv_has ls 5 [] → W p l e (rm 3 69) s m args below meth c H locs 0 0 Q (F0 m 61 ls [])) → W p l e (rm 3 69) s m args below meth c H locs 0 0 Q (F0 m 18 ls []) := by
      intro n
      induction n with
      | zero =>
        intro x4_4 w_5 exL_6 H locs ls hf
        have hf : (none : Option (Mem)) = some exL_6 := hf
        cases hf
      | succ n ihL_6 =>
        intro x4_4 w_5 exL_6 H locs ls hf hW hS hl hEL_6
        rw [f_X2_narrow_L18_s] at hf
        refine lv_iload hx hb dX2_narrow_18 (lv_at hl 4 rfl) ?_
        refine lv_iload_n hx hb dX2_narrow_20 rfl (lv_at hl 3 rfl) ?_
        refine lv_icmp_ge (tgt := 61) hx hb dX2_narrow_21 (by decide) (fun c_7 => ?_) (fun c_7 => ?_)
        · have hf := of_t c_7 hf
          have hf := Option.some.inj hf
          subst hf
          exact hEL_6 _ _ _ hW hS (lv_sub hl [] rfl)
        · have hf := of_f c_7 hf
          refine lv_aload_n hx hb dX2_narrow_24 rfl (lv_at hl 0 rfl) ?_
          refine lv_aload_n hx hb dX2_narrow_25 rfl (lv_at hl 0 rfl) ?_
          refine get_X2_5 hx hb hts in_X2_narrow_X2 hown hK hz hW lk_X2_narrow_2 dX2_narrow_26 ?_
          refine lv_iload hx hb dX2_narrow_29 (lv_at hl 4 rfl) ?_
          obtain ⟨g_8, hf⟩ := of_gd hf
          refine ld_A86 hx hb hK hz hW g_8 dX2_narrow_31 ?_
          refine lv_topi (fun v_9 ev_9 => ?_)
          have hf := of_lt ev_9 hf
          refine lv_aload_n hx hb dX2_narrow_32 rfl (lv_at hl 0 rfl) ?_
          refine get_X2_6 hx hb hts in_X2_narrow_X2 hown hK hz hW lk_X2_narrow_3 dX2_narrow_33 ?_
          refine lv_iload hx hb dX2_narrow_36 (lv_at hl 4 rfl) ?_
          refine ld_A87 hx hb hK hz hW g_8 dX2_narrow_38 ?_
          refine lv_topi (fun v_10 ev_10 => ?_)
          have hf := of_lt ev_10 hf
          refine lv_aload_n hx hb dX2_narrow_39 rfl (lv_at hl 0 rfl) ?_
          refine get_X2_5 hx hb hts in_X2_narrow_X2 hown hK hz hW lk_X2_narrow_2 dX2_narrow_40 ?_
          refine lv_iload hx hb dX2_narrow_43 (lv_at hl 4 rfl) ?_
          refine ld_A86 hx hb hK hz hW g_8 dX2_narrow_45 ?_
          refine lv_topi (fun v_11 ev_11 => ?_)
          have hf := of_lt ev_11 hf
          refine lv_iload_n hx hb dX2_narrow_46 rfl (lv_at hl 1 rfl) ?_
          refine lv_iload_n hx hb dX2_narrow_47 rfl (lv_at hl 2 rfl) ?_
          obtain ⟨r_12, hq_13, hf⟩ := of_bd hf
          refine m_goRi (va_runS (As := [.int v_11, .int x1, .int x2]) (rest := [.int v_10, .int v_9, .ref (z.2.1 83)]) ⟨hx, hb, hml, hown, hts⟩ (c_X2_pullsWith l hz v_11 x1 x2 w_5 hq_13) (va_cwS 3 hts gX2_narrow_X2_pullsWith rfl rfl rfl (by decide +kernel) ⟨Nat.le_of_ble_eq_true rfl, Nat.le_of_ble_eq_true rfl⟩) (m_preS hK hW _) rfl rfl hl.1 rfl (lv_room (Nat.le_of_ble_eq_true rfl)) dX2_narrow_48 ⟨Nat.le_refl _, Nat.le_refl _⟩) ?_
          refine lv_iand hx hb dX2_narrow_51 ?_
          obtain ⟨w_16, hq_15, hf⟩ := of_bd hf
          refine m_goWv (va_runV (As := [.int v_9, .int (v_10 &&& r_12)]) (rest := []) ⟨hx, hb, hml, hown, hts⟩ (c_X2_keepKind l hz v_9 (v_10 &&& r_12) w_5 hq_15) (cwV 2 hts gX2_narrow_X2_keepKind rfl rfl rfl (by decide +kernel) ⟨Nat.le_of_ble_eq_true rfl, Nat.le_of_ble_eq_true rfl⟩) (pre_X2 hK hz hW _) rfl rfl hl.1 rfl (lv_room (Nat.le_of_ble_eq_true rfl)) dX2_narrow_52 ⟨Nat.le_refl _, Nat.le_refl _⟩) hS (fun H locs hW hS => ?_)
          obtain ⟨x4_17, ex4_17⟩ : ∃ y : Int32, y = x4_4 + 1 := ⟨_, rfl⟩
          have hf := of_lt ex4_17 hf
          refine lv_iinc (v := x4_17) (lv' := [(4, .int x4_17), (0, .ref (z.2.1 83)), (1, .int x1), (2, .int x2), (3, .int v_1)]) hx hb dX2_narrow_55 hl (k := 4) rfl (by rw [ex4_17]; rfl) (by decide) rfl (fun ls hl => ?_)
          refine lv_goto (tgt := 18) hx hb dX2_narrow_58 (by decide) ?_
          exact ihL_6 _ _ _ _ _ _ hf hW hS (lv_sub hl [1, 2, 3, 4, 0] rfl) hEL_6
    obtain ⟨ex_19, hq_18, hf⟩ := of_bd hf
    obtain ⟨w_20, ew_20⟩ : ∃ y, y = ex_19 := ⟨_, rfl⟩
    rw [← ew_20] at hf
    rw [← ew_20] at hq_18
    refine L_6 FU _ _ _ _ _ _ hq_18 hW hS (lv_sub hl [2, 3, 4, 1, 0] rfl) (fun H locs ls hW hS hl => ?_)
    have hW : hd z w_20 H := hW
    have hl : lv_has ls 5 [] := hl
    exact hret _ _ _ _ _ hf hW hS dX2_narrow_61
  exact START _ _ hW va_S.rf
theorem in_X2_gatherNoted_X2 : ∀ w ∈ wsX20, w ∈ wsX2_gatherNoted := by decide +kernel
theorem lk_X2_gatherNoted_0 : Cond.fieldLink RX2 88 "CamStitch$Faults" "notes" "I" ∈ wsX2_gatherNoted := by decide +kernel
theorem lk_X2_gatherNoted_1 : Cond.fieldLink RX2 9 "CamStitch$Faults" "trials" "[I" ∈ wsX2_gatherNoted := by decide +kernel
theorem lk_X2_gatherNoted_2 : Cond.fieldLink RX2 15 "CamStitch$Faults" "outcomes" "[I" ∈ wsX2_gatherNoted := by decide +kernel
set_option maxHeartbeats 4000000 in
set_option maxRecDepth 100000 in
theorem c_X2_gatherNoted (l : Launch) {z : LZ} (hz : IC z) (x1 : Int32) (w : Mem) {w' : Mem} (hf : f_X2_gatherNoted x1 w = some w') : Met l yX2_gatherNoted wsX2_gatherNoted (rm 4 93) (PZ z w [.ref (z.2.1 83), .int x1]) (QW z none w') 0 0 (az z) := by
  refine mk_Wv (cc := cX2_gatherNoted) (maxL := 3) (by decide +kernel) rfl (Nat.le_of_ble_eq_true rfl) ?_
  intro p e s m args below meth c hx hb hml hts hown hK hW Q hret ls hl
  have hl : lv_has ls 3 [(0, .ref (z.2.1 83)), (1, .int x1)] := hl
  unfold f_X2_gatherNoted at hf
  have START : ∀ (H : Heap) (locs : List Loc), hd z w H → va_S (az z) s.heap H locs → W p l e (rm 4 93) s m args below meth c H locs 0 0 Q (F0 m 0 ls []) := by
    intro H locs hW hS
    refine lv_aload_n hx hb dX2_gatherNoted_0 rfl (lv_at hl 0 rfl) ?_
    refine lv_iload_n hx hb dX2_gatherNoted_1 rfl (lv_at hl 1 rfl) ?_
    obtain ⟨w_3, hq_2, hf⟩ := of_bd hf
    refine m_goWv (va_runV (As := [.int x1]) (rest := []) ⟨hx, hb, hml, hown, hts⟩ (c_X2_gather l hz x1 w hq_2) (cwV 1 hts gX2_gatherNoted_X2_gather rfl rfl rfl (by decide +kernel) ⟨Nat.le_of_ble_eq_true rfl, Nat.le_of_ble_eq_true rfl⟩) (pre_X2 hK hz hW _) rfl rfl hl.1 rfl (lv_room (Nat.le_of_ble_eq_true rfl)) dX2_gatherNoted_2 ⟨Nat.le_refl _, Nat.le_refl _⟩) hS (fun H locs hW hS => ?_)
    refine lv_iconst (v := 0) hx hb dX2_gatherNoted_5 (by decide) ?_
    refine lv_istore_n (lv' := [(2, .int 0), (0, .ref (z.2.1 83)), (1, .int x1)]) hx hb dX2_gatherNoted_6 rfl hl (by decide) rfl (fun ls hl => ?_)
    have L_6 : ∀ (n : Nat) (x2_4 : Int32) (w_5 : Mem) (exL_6 : Mem) (H : Heap) (locs : List Loc) (ls : Array Slot), f_X2_gatherNoted_L7 n x2_4 w_5 = some exL_6 → hd z w_5 H → va_S (az z) s.heap H locs → lv_has ls 3 [(0, .ref (z.2.1 83)), (2, .int x2_4)] → (∀ (H : Heap) (locs : List Loc) (ls : Array Slot), hd z (exL_6) H → va_S (az z) s.heap H locs → lv_has ls 3 [] → W p l e (rm 4 93) s m args below meth c H locs 0 0 Q (F0 m 37 ls [])) → W p l e (rm 4 93) s m args below meth c H locs 0 0 Q (F0 m 7 ls []) := by
      intro n
      induction n with
      | zero =>
        intro x2_4 w_5 exL_6 H locs ls hf
        have hf : (none : Option (Mem)) = some exL_6 := hf
        cases hf
      | succ n ihL_6 =>
        intro x2_4 w_5 exL_6 H locs ls hf hW hS hl hEL_6
        rw [f_X2_gatherNoted_L7_s] at hf
        refine lv_iload_n hx hb dX2_gatherNoted_7 rfl (lv_at hl 1 rfl) ?_
        refine lv_aload_n hx hb dX2_gatherNoted_8 rfl (lv_at hl 0 rfl) ?_
        refine get_X2_2 hx hb hts in_X2_gatherNoted_X2 hown hK hz hW lk_X2_gatherNoted_0 dX2_gatherNoted_9 ?_
        refine lv_icmp_ge (tgt := 37) hx hb dX2_gatherNoted_12 (by decide) (fun c_7 => ?_) (fun c_7 => ?_)
        · have hf := of_t c_7 hf
          have hf := Option.some.inj hf
          subst hf
          exact hEL_6 _ _ _ hW hS (lv_sub hl [] rfl)
        · have hf := of_f c_7 hf
          refine lv_aload_n hx hb dX2_gatherNoted_15 rfl (lv_at hl 0 rfl) ?_
          refine lv_aload_n hx hb dX2_gatherNoted_16 rfl (lv_at hl 0 rfl) ?_
          refine get_X2_0 hx hb hts in_X2_gatherNoted_X2 hown hK hz hW lk_X2_gatherNoted_1 dX2_gatherNoted_17 ?_
          refine lv_iload_n hx hb dX2_gatherNoted_20 rfl (lv_at hl 1 rfl) ?_
          obtain ⟨g_8, hf⟩ := of_gd hf
          refine ld_A84 hx hb hK hz hW g_8 dX2_gatherNoted_21 ?_
          refine lv_topi (fun v_9 ev_9 => ?_)
          have hf := of_lt ev_9 hf
          refine lv_aload_n hx hb dX2_gatherNoted_22 rfl (lv_at hl 0 rfl) ?_
          refine get_X2_1 hx hb hts in_X2_gatherNoted_X2 hown hK hz hW lk_X2_gatherNoted_2 dX2_gatherNoted_23 ?_
          refine lv_iload_n hx hb dX2_gatherNoted_26 rfl (lv_at hl 1 rfl) ?_
          refine ld_A85 hx hb hK hz hW g_8 dX2_gatherNoted_27 ?_
          refine lv_topi (fun v_10 ev_10 => ?_)
          have hf := of_lt ev_10 hf
          obtain ⟨w_13, hq_12, hf⟩ := of_bd hf
          refine m_goWv (va_runV (As := [.int v_9, .int v_10]) (rest := []) ⟨hx, hb, hml, hown, hts⟩ (c_X2_narrow l hz v_9 v_10 w_5 hq_12) (cwV 2 hts gX2_gatherNoted_X2_narrow rfl rfl rfl (by decide +kernel) ⟨Nat.le_of_ble_eq_true rfl, Nat.le_of_ble_eq_true rfl⟩) (pre_X2 hK hz hW _) rfl rfl hl.1 rfl (lv_room (Nat.le_of_ble_eq_true rfl)) dX2_gatherNoted_28 ⟨Nat.le_refl _, Nat.le_refl _⟩) hS (fun H locs hW hS => ?_)
          obtain ⟨x2_14, ex2_14⟩ : ∃ y : Int32, y = x2_4 + 1 := ⟨_, rfl⟩
          have hf := of_lt ex2_14 hf
          refine lv_iinc (v := x2_14) (lv' := [(2, .int x2_14), (0, .ref (z.2.1 83))]) hx hb dX2_gatherNoted_31 hl (k := 1) rfl (by rw [ex2_14]; rfl) (by decide) rfl (fun ls hl => ?_)
          refine lv_goto (tgt := 7) hx hb dX2_gatherNoted_34 (by decide) ?_
          exact ihL_6 _ _ _ _ _ _ hf hW hS (lv_sub hl [1, 0] rfl) hEL_6
    obtain ⟨ex_16, hq_15, hf⟩ := of_bd hf
    obtain ⟨w_17, ew_17⟩ : ∃ y, y = ex_16 := ⟨_, rfl⟩
    rw [← ew_17] at hf
    rw [← ew_17] at hq_15
    refine L_6 FU _ _ _ _ _ _ hq_15 hW hS (lv_sub hl [1, 0] rfl) (fun H locs ls hW hS hl => ?_)
    have hW : hd z w_17 H := hW
    have hl : lv_has ls 3 [] := hl
    exact hret _ _ _ _ _ hf hW hS dX2_gatherNoted_37
  exact START _ _ hW va_S.rf
theorem in_X2_numberOf_X2 : ∀ w ∈ wsX20, w ∈ wsX2_numberOf := by decide +kernel
theorem lk_X2_numberOf_0 : Cond.fieldLink RX2 65 "CamStitch$Faults" "kindsLeft" "I" ∈ wsX2_numberOf := by decide +kernel
theorem lk_X2_numberOf_1 : Cond.fieldLink RX2 21 "CamStitch$Faults" "pulls" "[I" ∈ wsX2_numberOf := by decide +kernel
theorem lk_X2_numberOf_2 : Cond.fieldLink RX2 18 "CamStitch$Faults" "kinds" "[I" ∈ wsX2_numberOf := by decide +kernel
set_option maxHeartbeats 4000000 in
set_option maxRecDepth 100000 in
theorem c_X2_numberOf (l : Launch) {z : LZ} (hz : IC z) (x1 : Int32) (w : Mem) {r : Int32} (hf : f_X2_numberOf x1 w = some r) : Met l yX2_numberOf wsX2_numberOf (rm 0 0) (PZ z w [.ref (z.2.1 83), .int x1]) (QR (some (.int r))) 0 0 (fun _ => False) := by
  refine mk_Ri (cc := cX2_numberOf) (maxL := 5) (by decide +kernel) rfl (Nat.le_of_ble_eq_true rfl) ?_
  intro p e s m args below meth c hx hb hml hts hown hK hW Q hret ls hl
  have hl : lv_has ls 5 [(0, .ref (z.2.1 83)), (1, .int x1)] := hl
  unfold f_X2_numberOf at hf
  refine lv_iconst (v := 0) hx hb dX2_numberOf_0 (by decide) ?_
  refine lv_istore_n (lv' := [(2, .int 0), (0, .ref (z.2.1 83)), (1, .int x1)]) hx hb dX2_numberOf_1 rfl hl (by decide) rfl (fun ls hl => ?_)
  refine lv_iconst (v := 0) hx hb dX2_numberOf_2 (by decide) ?_
  refine lv_istore_n (lv' := [(3, .int 0), (2, .int 0), (0, .ref (z.2.1 83)), (1, .int x1)]) hx hb dX2_numberOf_3 rfl hl (by decide) rfl (fun ls hl => ?_)
  have L_3 : ∀ (n : Nat) (x2_1 : Int32) (x3_2 : Int32) (exL_3 : Sum (Int32) (Unit)) (ls : Array Slot), f_X2_numberOf_L4 w x1 n x2_1 x3_2 = some exL_3 → lv_has ls 5 [(0, .ref (z.2.1 83)), (1, .int x1), (2, .int x2_1), (3, .int x3_2)] → (∀ ret, exL_3 = .inl ret → some (ret) = some r) → (∀ x, exL_3 = .inr x → ∀ (ls : Array Slot), lv_has ls 5 [] → W p l e (rm 0 0) s m args below meth c s.heap [] 0 0 Q (F0 m 69 ls [])) → W p l e (rm 0 0) s m args below meth c s.heap [] 0 0 Q (F0 m 4 ls []) := by
    intro n
    induction n with
    | zero =>
      intro x2_1 x3_2 exL_3 ls hf
      have hf : (none : Option (Sum (Int32) (Unit))) = some exL_3 := hf
      cases hf
    | succ n ihL_3 =>
      intro x2_1 x3_2 exL_3 ls hf hl hRL_3 hEL_3
      rw [f_X2_numberOf_L4_s] at hf
      refine lv_iload_n hx hb dX2_numberOf_4 rfl (lv_at hl 3 rfl) ?_
      refine lv_aload_n hx hb dX2_numberOf_5 rfl (lv_at hl 0 rfl) ?_
      refine get_X2_7 hx hb hts in_X2_numberOf_X2 hown hK hz hW lk_X2_numberOf_0 dX2_numberOf_6 ?_
      refine lv_icmp_ge (tgt := 69) hx hb dX2_numberOf_9 (by decide) (fun c_4 => ?_) (fun c_4 => ?_)
      · have hf := of_t c_4 hf
        exact hEL_3 _ (Option.some.inj hf).symm _ (lv_sub hl [] rfl)
      · have hf := of_f c_4 hf
        refine lv_iconst (v := 0) hx hb dX2_numberOf_12 (by decide) ?_
        refine lv_istore (lv' := [(4, .int 0), (0, .ref (z.2.1 83)), (1, .int x1), (2, .int x2_1), (3, .int x3_2)]) hx hb dX2_numberOf_13 hl (by decide) rfl (fun ls hl => ?_)
        have L_7 : ∀ (n : Nat) (x2_5 : Int32) (x4_6 : Int32) (exL_7 : Sum (Int32) (Int32)) (ls : Array Slot), f_X2_numberOf_L15 w x1 x3_2 n x2_5 x4_6 = some exL_7 → lv_has ls 5 [(0, .ref (z.2.1 83)), (1, .int x1), (2, .int x2_5), (3, .int x3_2), (4, .int x4_6)] → (∀ ret, exL_7 = .inl ret → some (.inl ret) = some exL_3) → (∀ x, exL_7 = .inr x → ∀ (ls : Array Slot), lv_has ls 5 [(0, .ref (z.2.1 83)), (1, .int x1), (2, .int x), (3, .int x3_2)] → W p l e (rm 0 0) s m args below meth c s.heap [] 0 0 Q (F0 m 63 ls [])) → W p l e (rm 0 0) s m args below meth c s.heap [] 0 0 Q (F0 m 15 ls []) := by
          intro n
          induction n with
          | zero =>
            intro x2_5 x4_6 exL_7 ls hf
            have hf : (none : Option (Sum (Int32) (Int32))) = some exL_7 := hf
            cases hf
          | succ n ihL_7 =>
            intro x2_5 x4_6 exL_7 ls hf hl hRL_7 hEL_7
            rw [f_X2_numberOf_L15_s] at hf
            refine lv_iload hx hb dX2_numberOf_15 (lv_at hl 4 rfl) ?_
            refine lv_bipush (v := 11) hx hb dX2_numberOf_17 (by decide) ?_
            refine lv_icmp_ge (tgt := 63) hx hb dX2_numberOf_19 (by decide) (fun c_8 => ?_) (fun c_8 => ?_)
            · have hf := of_t c_8 hf
              exact hEL_7 _ (Option.some.inj hf).symm _ (lv_sub hl [0, 1, 2, 3] rfl)
            · have hf := of_f c_8 hf
              refine lv_aload_n hx hb dX2_numberOf_22 rfl (lv_at hl 0 rfl) ?_
              refine get_X2_6 hx hb hts in_X2_numberOf_X2 hown hK hz hW lk_X2_numberOf_1 dX2_numberOf_23 ?_
              refine lv_iload_n hx hb dX2_numberOf_26 rfl (lv_at hl 3 rfl) ?_
              obtain ⟨g_9, hf⟩ := of_gd hf
              refine ld_A87 hx hb hK hz hW g_9 dX2_numberOf_27 ?_
              refine lv_topi (fun v_10 ev_10 => ?_)
              have hf := of_lt ev_10 hf
              refine lv_iconst (v := 1) hx hb dX2_numberOf_28 (by decide) ?_
              refine lv_iload hx hb dX2_numberOf_29 (lv_at hl 4 rfl) ?_
              refine lv_ishl hx hb dX2_numberOf_31 ?_
              refine lv_topi (fun v_11 ev_11 => ?_)
              have hf := of_lt ev_11 hf
              refine lv_iand hx hb dX2_numberOf_32 ?_
              refine lv_if_eq (tgt := 57) hx hb dX2_numberOf_33 (by decide) (fun c_12 => ?_) (fun c_12 => ?_)
              · have hf := of_t c_12 hf
                obtain ⟨x4_13, ex4_13⟩ : ∃ y : Int32, y = x4_6 + 1 := ⟨_, rfl⟩
                have hf := of_lt ex4_13 hf
                refine lv_iinc (v := x4_13) (lv' := [(4, .int x4_13), (0, .ref (z.2.1 83)), (1, .int x1), (2, .int x2_5), (3, .int x3_2)]) hx hb dX2_numberOf_57 hl (k := 4) rfl (by rw [ex4_13]; rfl) (by decide) rfl (fun ls hl => ?_)
                refine lv_goto (tgt := 15) hx hb dX2_numberOf_60 (by decide) ?_
                exact ihL_7 _ _ _ _ hf (lv_sub hl [1, 2, 3, 4, 0] rfl) hRL_7 hEL_7
              · have hf := of_f c_12 hf
                refine lv_iload_n hx hb dX2_numberOf_36 rfl (lv_at hl 2 rfl) ?_
                refine lv_iload_n hx hb dX2_numberOf_37 rfl (lv_at hl 1 rfl) ?_
                refine lv_icmp_ne (tgt := 54) hx hb dX2_numberOf_38 (by decide) (fun c_14 => ?_) (fun c_14 => ?_)
                · have hf := of_f c_14 hf
                  obtain ⟨x2_15, ex2_15⟩ : ∃ y : Int32, y = x2_5 + 1 := ⟨_, rfl⟩
                  have hf := of_lt ex2_15 hf
                  refine lv_iinc (v := x2_15) (lv' := [(2, .int x2_15), (0, .ref (z.2.1 83)), (1, .int x1), (3, .int x3_2), (4, .int x4_6)]) hx hb dX2_numberOf_54 hl (k := 2) rfl (by rw [ex2_15]; rfl) (by decide) rfl (fun ls hl => ?_)
                  obtain ⟨x4_16, ex4_16⟩ : ∃ y : Int32, y = x4_6 + 1 := ⟨_, rfl⟩
                  have hf := of_lt ex4_16 hf
                  refine lv_iinc (v := x4_16) (lv' := [(4, .int x4_16), (2, .int x2_15), (0, .ref (z.2.1 83)), (1, .int x1), (3, .int x3_2)]) hx hb dX2_numberOf_57 hl (k := 4) rfl (by rw [ex4_16]; rfl) (by decide) rfl (fun ls hl => ?_)
                  refine lv_goto (tgt := 15) hx hb dX2_numberOf_60 (by decide) ?_
                  exact ihL_7 _ _ _ _ hf (lv_sub hl [2, 3, 1, 4, 0] rfl) hRL_7 hEL_7
                · have hf := of_t c_14 hf
                  refine lv_aload_n hx hb dX2_numberOf_41 rfl (lv_at hl 0 rfl) ?_
                  refine get_X2_5 hx hb hts in_X2_numberOf_X2 hown hK hz hW lk_X2_numberOf_2 dX2_numberOf_42 ?_
                  refine lv_iload_n hx hb dX2_numberOf_45 rfl (lv_at hl 3 rfl) ?_
                  refine ld_A86 hx hb hK hz hW g_9 dX2_numberOf_46 ?_
                  refine lv_topi (fun v_17 ev_17 => ?_)
                  have hf := of_lt ev_17 hf
                  refine lv_bipush (v := 11) hx hb dX2_numberOf_47 (by decide) ?_
                  refine lv_imul hx hb dX2_numberOf_49 ?_
                  refine lv_iload hx hb dX2_numberOf_50 (lv_at hl 4 rfl) ?_
                  refine lv_iadd hx hb dX2_numberOf_52 ?_
                  exact hret _ _ _ (hRL_3 _ (Option.some.inj (hRL_7 _ (Option.some.inj hf).symm)).symm) dX2_numberOf_53
        obtain ⟨ex_19, hq_18, hf⟩ := of_bd hf
        refine L_7 FU _ _ _ _ hq_18 (lv_sub hl [1, 2, 3, 4, 0] rfl) (fun ret he => by subst he; exact hf) (fun x he ls hl => ?_)
        subst he
        obtain ⟨x2_20, ex2_20⟩ : ∃ y, y = x := ⟨_, rfl⟩
        subst ex2_20
        have hf := of_sr hf
        have hl : lv_has ls 5 [(0, .ref (z.2.1 83)), (1, .int x1), (2, .int x2_20), (3, .int x3_2)] := hl
        obtain ⟨x3_21, ex3_21⟩ : ∃ y : Int32, y = x3_2 + 1 := ⟨_, rfl⟩
        have hf := of_lt ex3_21 hf
        refine lv_iinc (v := x3_21) (lv' := [(3, .int x3_21), (0, .ref (z.2.1 83)), (1, .int x1), (2, .int x2_20)]) hx hb dX2_numberOf_63 hl (k := 3) rfl (by rw [ex3_21]; rfl) (by decide) rfl (fun ls hl => ?_)
        refine lv_goto (tgt := 4) hx hb dX2_numberOf_66 (by decide) ?_
        exact ihL_3 _ _ _ _ hf (lv_sub hl [1, 2, 3, 0] rfl) hRL_3 hEL_3
  obtain ⟨ex_23, hq_22, hf⟩ := of_bd hf
  refine L_3 FU _ _ _ _ hq_22 (lv_sub hl [2, 3, 1, 0] rfl) (fun ret he => by subst he; exact hf) (fun x he ls hl => ?_)
  subst he
  have hf := of_sr hf
  have hl : lv_has ls 5 [] := hl
  refine lv_iconst (v := (-1)) hx hb dX2_numberOf_69 (by decide) ?_
  exact hret _ _ _ hf dX2_numberOf_70
theorem in_X2_holds_X2 : ∀ w ∈ wsX20, w ∈ wsX2_holds := by decide +kernel
theorem lk_X2_holds_0 : Cond.fieldLink RX2 65 "CamStitch$Faults" "kindsLeft" "I" ∈ wsX2_holds := by decide +kernel
theorem lk_X2_holds_1 : Cond.fieldLink RX2 18 "CamStitch$Faults" "kinds" "[I" ∈ wsX2_holds := by decide +kernel
theorem lk_X2_holds_2 : Cond.fieldLink RX2 21 "CamStitch$Faults" "pulls" "[I" ∈ wsX2_holds := by decide +kernel
set_option maxHeartbeats 4000000 in
set_option maxRecDepth 100000 in
theorem c_X2_holds (l : Launch) {z : LZ} (hz : IC z) (x1 : Int32) (w : Mem) {r : Int32} (hf : f_X2_holds x1 w = some r) : Met l yX2_holds wsX2_holds (rm 0 0) (PZ z w [.ref (z.2.1 83), .int x1]) (QR (some (.int r))) 0 0 (fun _ => False) := by
  refine mk_Rz (cc := cX2_holds) (maxL := 3) (by decide +kernel) rfl (Nat.le_of_ble_eq_true rfl) ?_
  intro p e s m args below meth c hx hb hml hts hown hK hW Q hret ls hl
  have hl : lv_has ls 3 [(0, .ref (z.2.1 83)), (1, .int x1)] := hl
  unfold f_X2_holds at hf
  refine lv_iconst (v := 0) hx hb dX2_holds_0 (by decide) ?_
  refine lv_istore_n (lv' := [(2, .int 0), (0, .ref (z.2.1 83)), (1, .int x1)]) hx hb dX2_holds_1 rfl hl (by decide) rfl (fun ls hl => ?_)
  have L_2 : ∀ (n : Nat) (x2_1 : Int32) (exL_2 : Sum (Int32) (Unit)) (ls : Array Slot), f_X2_holds_L2 w x1 n x2_1 = some exL_2 → lv_has ls 3 [(0, .ref (z.2.1 83)), (1, .int x1), (2, .int x2_1)] → (∀ ret, exL_2 = .inl ret → some (ret) = some r) → (∀ x, exL_2 = .inr x → ∀ (ls : Array Slot), lv_has ls 3 [] → W p l e (rm 0 0) s m args below meth c s.heap [] 0 0 Q (F0 m 51 ls [])) → W p l e (rm 0 0) s m args below meth c s.heap [] 0 0 Q (F0 m 2 ls []) := by
    intro n
    induction n with
    | zero =>
      intro x2_1 exL_2 ls hf
      have hf : (none : Option (Sum (Int32) (Unit))) = some exL_2 := hf
      cases hf
    | succ n ihL_2 =>
      intro x2_1 exL_2 ls hf hl hRL_2 hEL_2
      rw [f_X2_holds_L2_s] at hf
      refine lv_iload_n hx hb dX2_holds_2 rfl (lv_at hl 2 rfl) ?_
      refine lv_aload_n hx hb dX2_holds_3 rfl (lv_at hl 0 rfl) ?_
      refine get_X2_7 hx hb hts in_X2_holds_X2 hown hK hz hW lk_X2_holds_0 dX2_holds_4 ?_
      refine lv_icmp_ge (tgt := 51) hx hb dX2_holds_7 (by decide) (fun c_3 => ?_) (fun c_3 => ?_)
      · have hf := of_t c_3 hf
        exact hEL_2 _ (Option.some.inj hf).symm _ (lv_sub hl [] rfl)
      · have hf := of_f c_3 hf
        refine lv_aload_n hx hb dX2_holds_10 rfl (lv_at hl 0 rfl) ?_
        refine get_X2_5 hx hb hts in_X2_holds_X2 hown hK hz hW lk_X2_holds_1 dX2_holds_11 ?_
        refine lv_iload_n hx hb dX2_holds_14 rfl (lv_at hl 2 rfl) ?_
        obtain ⟨g_4, hf⟩ := of_gd hf
        refine ld_A86 hx hb hK hz hW g_4 dX2_holds_15 ?_
        refine lv_topi (fun v_5 ev_5 => ?_)
        have hf := of_lt ev_5 hf
        refine lv_iload_n hx hb dX2_holds_16 rfl (lv_at hl 1 rfl) ?_
        refine lv_bipush (v := 11) hx hb dX2_holds_17 (by decide) ?_
        refine lv_idiv hx hb dX2_holds_19 (by decide) ?_
        refine lv_icmp_ne (tgt := 45) hx hb dX2_holds_20 (by decide) (fun c_6 => ?_) (fun c_6 => ?_)
        · have hf := of_f c_6 hf
          obtain ⟨x2_7, ex2_7⟩ : ∃ y : Int32, y = x2_1 + 1 := ⟨_, rfl⟩
          have hf := of_lt ex2_7 hf
          refine lv_iinc (v := x2_7) (lv' := [(2, .int x2_7), (0, .ref (z.2.1 83)), (1, .int x1)]) hx hb dX2_holds_45 hl (k := 2) rfl (by rw [ex2_7]; rfl) (by decide) rfl (fun ls hl => ?_)
          refine lv_goto (tgt := 2) hx hb dX2_holds_48 (by decide) ?_
          exact ihL_2 _ _ _ hf (lv_sub hl [1, 2, 0] rfl) hRL_2 hEL_2
        · have hf := of_t c_6 hf
          refine lv_aload_n hx hb dX2_holds_23 rfl (lv_at hl 0 rfl) ?_
          refine get_X2_6 hx hb hts in_X2_holds_X2 hown hK hz hW lk_X2_holds_2 dX2_holds_24 ?_
          refine lv_iload_n hx hb dX2_holds_27 rfl (lv_at hl 2 rfl) ?_
          refine ld_A87 hx hb hK hz hW g_4 dX2_holds_28 ?_
          refine lv_topi (fun v_8 ev_8 => ?_)
          have hf := of_lt ev_8 hf
          refine lv_iconst (v := 1) hx hb dX2_holds_29 (by decide) ?_
          refine lv_iload_n hx hb dX2_holds_30 rfl (lv_at hl 1 rfl) ?_
          refine lv_bipush (v := 11) hx hb dX2_holds_31 (by decide) ?_
          refine lv_irem hx hb dX2_holds_33 (by decide) ?_
          refine lv_topi (fun v_9 ev_9 => ?_)
          have hf := of_lt (e := irm x1 11) ev_9 hf
          refine lv_ishl hx hb dX2_holds_34 ?_
          refine lv_topi (fun v_10 ev_10 => ?_)
          have hf := of_lt ev_10 hf
          refine lv_iand hx hb dX2_holds_35 ?_
          have J_12 : ∀ (v_11 : Int32) (ls : Array Slot), v_11 = (if (v_8 &&& v_10) = 0 then 0 else 1) → lv_has ls 3 [] → W p l e (rm 0 0) s m args below meth c s.heap [] 0 0 Q (F0 m 44 ls [.int v_11]) := by
            intro v_11 ls ev_11 hl
            have hf := of_lt ev_11 hf
            obtain ⟨g_13, hf⟩ := of_gd hf
            exact hret _ _ _ (hRL_2 _ (Option.some.inj hf).symm) (bz_n g_13) dX2_holds_44
          refine lv_if_eq (tgt := 43) hx hb dX2_holds_36 (by decide) (fun c_14 => ?_) (fun c_14 => ?_)
          · refine lv_iconst (v := 0) hx hb dX2_holds_43 (by decide) ?_
            exact J_12 _ _ (by rw [if_pos c_14]) (lv_sub hl [] rfl)
          · refine lv_iconst (v := 1) hx hb dX2_holds_39 (by decide) ?_
            refine lv_goto (tgt := 44) hx hb dX2_holds_40 (by decide) ?_
            exact J_12 _ _ (by rw [if_neg c_14]) (lv_sub hl [] rfl)
  obtain ⟨ex_16, hq_15, hf⟩ := of_bd hf
  refine L_2 FU _ _ _ hq_15 (lv_sub hl [1, 2, 0] rfl) (fun ret he => by subst he; exact hf) (fun x he ls hl => ?_)
  subst he
  have hf := of_sr hf
  have hl : lv_has ls 3 [] := hl
  refine lv_iconst (v := 0) hx hb dX2_holds_51 (by decide) ?_
  exact hret _ _ _ hf rfl dX2_holds_52
theorem in_X2_greatestShare_X2 : ∀ w ∈ wsX20, w ∈ wsX2_greatestShare := by decide +kernel
theorem lk_X2_greatestShare_0 : Cond.fieldLink RX2 65 "CamStitch$Faults" "kindsLeft" "I" ∈ wsX2_greatestShare := by decide +kernel
theorem lk_X2_greatestShare_1 : Cond.fieldLink RX2 18 "CamStitch$Faults" "kinds" "[I" ∈ wsX2_greatestShare := by decide +kernel
theorem lk_X2_greatestShare_2 : Cond.fieldLink RX2 21 "CamStitch$Faults" "pulls" "[I" ∈ wsX2_greatestShare := by decide +kernel
theorem lk_X2_greatestShare_3 : Cond.methodLink RX2 94 Lib.Math.max.name ∈ wsX2_greatestShare := by decide +kernel
theorem lk_X2_greatestShare_4 : Cond.static Lib.Math.max.name ∈ wsX2_greatestShare := by decide +kernel
theorem lk_X2_greatestShare_5 : Cond.initialized "java/lang/Math" ∈ wsX2_greatestShare := by decide +kernel
theorem lk_X2_greatestShare_6 : Cond.code Lib.Math.max.name Lib.Math.max.code 2 (some .int) ∈ wsX2_greatestShare := by decide +kernel
set_option maxHeartbeats 4000000 in
set_option maxRecDepth 100000 in
theorem c_X2_greatestShare (l : Launch) {z : LZ} (hz : IC z) (x1 : Int32) (w : Mem) {r : Int32} (hf : f_X2_greatestShare x1 w = some r) : Met l yX2_greatestShare wsX2_greatestShare (rm 2 43) (PZ z w [.ref (z.2.1 83), .int x1]) (QR (some (.int r))) 0 0 (fun _ => False) := by
  refine mk_Ri (cc := cX2_greatestShare) (maxL := 14) (by decide +kernel) rfl (Nat.le_of_ble_eq_true rfl) ?_
  intro p e s m args below meth c hx hb hml hts hown hK hW Q hret ls hl
  have hl : lv_has ls 14 [(0, .ref (z.2.1 83)), (1, .int x1)] := hl
  unfold f_X2_greatestShare at hf
  refine lv_iload_n hx hb dX2_greatestShare_0 rfl (lv_at hl 1 rfl) ?_
  obtain ⟨r_1, hq_2, hf⟩ := of_bd hf
  refine m_goRi (va_runS (As := [.int x1]) (rest := []) ⟨hx, hb, hml, hown, hts⟩ (c_X2_speedOf l hz x1 w hq_2) (va_cwS 1 hts gX2_greatestShare_X2_speedOf rfl rfl rfl (by decide +kernel) ⟨Nat.le_of_ble_eq_true rfl, Nat.le_of_ble_eq_true rfl⟩) (m_preS hK hW _) rfl rfl hl.1 rfl (lv_room (Nat.le_of_ble_eq_true rfl)) dX2_greatestShare_1 ⟨Nat.le_refl _, Nat.le_refl _⟩) ?_
  refine lv_istore_n (lv' := [(2, .int r_1), (0, .ref (z.2.1 83)), (1, .int x1)]) hx hb dX2_greatestShare_4 rfl hl (by decide) rfl (fun ls hl => ?_)
  refine lv_iload_n hx hb dX2_greatestShare_5 rfl (lv_at hl 2 rfl) ?_
  obtain ⟨r_3, hq_4, hf⟩ := of_bd hf
  refine m_goRi (va_runS (As := [.int x1]) (rest := []) ⟨hx, hb, hml, hown, hts⟩ (c_X2_swingOf l hz x1 w hq_4) (va_cwS 1 hts gX2_greatestShare_X2_swingOf rfl rfl rfl (by decide +kernel) ⟨Nat.le_of_ble_eq_true rfl, Nat.le_of_ble_eq_true rfl⟩) (m_preS hK hW _) rfl rfl hl.1 rfl (lv_room (Nat.le_of_ble_eq_true rfl)) dX2_greatestShare_6 ⟨Nat.le_refl _, Nat.le_refl _⟩) ?_
  refine lv_istore_n (lv' := [(3, .int r_3), (2, .int r_1), (0, .ref (z.2.1 83)), (1, .int x1)]) hx hb dX2_greatestShare_9 rfl hl (by decide) rfl (fun ls hl => ?_)
  refine lv_iload_n hx hb dX2_greatestShare_10 rfl (lv_at hl 3 rfl) ?_
  obtain ⟨r_5, hq_6, hf⟩ := of_bd hf
  refine m_goRi (va_runS (As := [.int x1]) (rest := []) ⟨hx, hb, hml, hown, hts⟩ (c_X2_clothOf l hz x1 w hq_6) (va_cwS 1 hts gX2_greatestShare_X2_clothOf rfl rfl rfl (by decide +kernel) ⟨Nat.le_of_ble_eq_true rfl, Nat.le_of_ble_eq_true rfl⟩) (m_preS hK hW _) rfl rfl hl.1 rfl (lv_room (Nat.le_of_ble_eq_true rfl)) dX2_greatestShare_11 ⟨Nat.le_refl _, Nat.le_refl _⟩) ?_
  obtain ⟨r_7, hq_8, hf⟩ := of_bd hf
  refine m_goRi (va_runS (As := [.int r_5]) (rest := []) ⟨hx, hb, hml, hown, hts⟩ (c_X2_pullsAbove l hz r_5 w hq_8) (va_cwS 1 hts gX2_greatestShare_X2_pullsAbove rfl rfl rfl (by decide +kernel) ⟨Nat.le_of_ble_eq_true rfl, Nat.le_of_ble_eq_true rfl⟩) (m_preS hK hW _) rfl rfl hl.1 rfl (lv_room (Nat.le_of_ble_eq_true rfl)) dX2_greatestShare_14 ⟨Nat.le_refl _, Nat.le_refl _⟩) ?_
  refine lv_istore (lv' := [(4, .int r_7), (3, .int r_3), (2, .int r_1), (0, .ref (z.2.1 83)), (1, .int x1)]) hx hb dX2_greatestShare_17 hl (by decide) rfl (fun ls hl => ?_)
  refine lv_iload_n hx hb dX2_greatestShare_19 rfl (lv_at hl 4 rfl) ?_
  obtain ⟨r_9, hq_10, hf⟩ := of_bd hf
  refine m_goRi (va_runS (As := [.int x1]) (rest := []) ⟨hx, hb, hml, hown, hts⟩ (c_X2_clothOf l hz x1 w hq_10) (va_cwS 1 hts gX2_greatestShare_X2_clothOf rfl rfl rfl (by decide +kernel) ⟨Nat.le_of_ble_eq_true rfl, Nat.le_of_ble_eq_true rfl⟩) (m_preS hK hW _) rfl rfl hl.1 rfl (lv_room (Nat.le_of_ble_eq_true rfl)) dX2_greatestShare_20 ⟨Nat.le_refl _, Nat.le_refl _⟩) ?_
  obtain ⟨r_11, hq_12, hf⟩ := of_bd hf
  refine m_goRi (va_runS (As := [.int r_9]) (rest := []) ⟨hx, hb, hml, hown, hts⟩ (c_X2_pullsBelow l hz r_9 w hq_12) (va_cwS 1 hts gX2_greatestShare_X2_pullsBelow rfl rfl rfl (by decide +kernel) ⟨Nat.le_of_ble_eq_true rfl, Nat.le_of_ble_eq_true rfl⟩) (m_preS hK hW _) rfl rfl hl.1 rfl (lv_room (Nat.le_of_ble_eq_true rfl)) dX2_greatestShare_23 ⟨Nat.le_refl _, Nat.le_refl _⟩) ?_
  refine lv_istore (lv' := [(5, .int r_11), (4, .int r_7), (3, .int r_3), (2, .int r_1), (0, .ref (z.2.1 83)), (1, .int x1)]) hx hb dX2_greatestShare_26 hl (by decide) rfl (fun ls hl => ?_)
  refine lv_sipush (v := 2047) hx hb dX2_greatestShare_28 (by decide) ?_
  refine lv_iload hx hb dX2_greatestShare_31 (lv_at hl 1 rfl) ?_
  refine lv_iconst (v := (-1)) hx hb dX2_greatestShare_33 (by decide) ?_
  refine lv_ixor hx hb dX2_greatestShare_34 ?_
  refine lv_iand hx hb dX2_greatestShare_35 ?_
  refine lv_iload hx hb dX2_greatestShare_36 (lv_at hl 0 rfl) ?_
  refine lv_iconst (v := (-1)) hx hb dX2_greatestShare_38 (by decide) ?_
  refine lv_ixor hx hb dX2_greatestShare_39 ?_
  refine lv_iand hx hb dX2_greatestShare_40 ?_
  refine lv_topi (fun v_13 ev_13 => ?_)
  have hf := of_lt ev_13 hf
  refine lv_istore (lv' := [(6, .int v_13), (5, .int r_11), (4, .int r_7), (3, .int r_3), (2, .int r_1), (0, .ref (z.2.1 83)), (1, .int x1)]) hx hb dX2_greatestShare_41 hl (by decide) rfl (fun ls hl => ?_)
  refine lv_iconst (v := 0) hx hb dX2_greatestShare_43 (by decide) ?_
  refine lv_istore (lv' := [(7, .int 0), (6, .int v_13), (5, .int r_11), (4, .int r_7), (3, .int r_3), (2, .int r_1), (0, .ref (z.2.1 83)), (1, .int x1)]) hx hb dX2_greatestShare_44 hl (by decide) rfl (fun ls hl => ?_)
  refine lv_iconst (v := 0) hx hb dX2_greatestShare_46 (by decide) ?_
  refine lv_istore (lv' := [(8, .int 0), (7, .int 0), (6, .int v_13), (5, .int r_11), (4, .int r_7), (3, .int r_3), (2, .int r_1), (0, .ref (z.2.1 83)), (1, .int x1)]) hx hb dX2_greatestShare_47 hl (by decide) rfl (fun ls hl => ?_)
  refine lv_iconst (v := 0) hx hb dX2_greatestShare_49 (by decide) ?_
  refine lv_istore (lv' := [(9, .int 0), (8, .int 0), (7, .int 0), (6, .int v_13), (5, .int r_11), (4, .int r_7), (3, .int r_3), (2, .int r_1), (0, .ref (z.2.1 83)), (1, .int x1)]) hx hb dX2_greatestShare_50 hl (by decide) rfl (fun ls hl => ?_)
  refine lv_iconst (v := 0) hx hb dX2_greatestShare_52 (by decide) ?_
  refine lv_istore (lv' := [(10, .int 0), (9, .int 0), (8, .int 0), (7, .int 0), (6, .int v_13), (5, .int r_11), (4, .int r_7), (3, .int r_3), (2, .int r_1), (0, .ref (z.2.1 83)), (1, .int x1)]) hx hb dX2_greatestShare_53 hl (by decide) rfl (fun ls hl => ?_)
  refine lv_iconst (v := 0) hx hb dX2_greatestShare_55 (by decide) ?_
  refine lv_istore (lv' := [(11, .int 0), (10, .int 0), (9, .int 0), (8, .int 0), (7, .int 0), (6, .int v_13), (5, .int r_11), (4, .int r_7), (3, .int r_3), (2, .int r_1), (0, .ref (z.2.1 83)), (1, .int x1)]) hx hb dX2_greatestShare_56 hl (by decide) rfl (fun ls hl => ?_)
  refine lv_iconst (v := 0) hx hb dX2_greatestShare_58 (by decide) ?_
  refine lv_istore (lv' := [(12, .int 0), (11, .int 0), (10, .int 0), (9, .int 0), (8, .int 0), (7, .int 0), (6, .int v_13), (5, .int r_11), (4, .int r_7), (3, .int r_3), (2, .int r_1), (0, .ref (z.2.1 83)), (1, .int x1)]) hx hb dX2_greatestShare_59 hl (by decide) rfl (fun ls hl => ?_)
  have L_20 : ∀ (n : Nat) (x7_14 : Int32) (x8_15 : Int32) (x9_16 : Int32) (x10_17 : Int32) (x11_18 : Int32) (x12_19 : Int32) (exL_20 : Int32 × Int32 × Int32 × Int32 × Int32) (ls : Array Slot), f_X2_greatestShare_L61 w r_1 r_3 r_7 r_11 v_13 n x7_14 x8_15 x9_16 x10_17 x11_18 x12_19 = some exL_20 → lv_has ls 14 [(0, .ref (z.2.1 83)), (2, .int r_1), (3, .int r_3), (4, .int r_7), (5, .int r_11), (6, .int v_13), (7, .int x7_14), (8, .int x8_15), (9, .int x9_16), (10, .int x10_17), (11, .int x11_18), (12, .int x12_19)] → (∀ (ls : Array Slot), lv_has ls 14 [(7, .int exL_20.1), (8, .int exL_20.2.1), (9, .int exL_20.2.2.1), (10, .int exL_20.2.2.2.1), (11, .int exL_20.2.2.2.2)] → W p l e (rm 2 43) s m args below meth c s.heap [] 0 0 Q (F0 m 192 ls [])) → W p l e (rm 2 43) s m args below meth c s.heap [] 0 0 Q (F0 m 61 ls []) := by
    intro n
    induction n with
    | zero =>
      intro x7_14 x8_15 x9_16 x10_17 x11_18 x12_19 exL_20 ls hf
      have hf : (none : Option (Int32 × Int32 × Int32 × Int32 × Int32)) = some exL_20 := hf
      cases hf
    | succ n ihL_20 =>
      intro x7_14 x8_15 x9_16 x10_17 x11_18 x12_19 exL_20 ls hf hl hEL_20
      rw [f_X2_greatestShare_L61_s] at hf
      refine lv_iload hx hb dX2_greatestShare_61 (lv_at hl 11 rfl) ?_
      refine lv_aload_n hx hb dX2_greatestShare_63 rfl (lv_at hl 0 rfl) ?_
      refine get_X2_7 hx hb hts in_X2_greatestShare_X2 hown hK hz hW lk_X2_greatestShare_0 dX2_greatestShare_64 ?_
      refine lv_icmp_ge (tgt := 192) hx hb dX2_greatestShare_67 (by decide) (fun c_21 => ?_) (fun c_21 => ?_)
      · have hf := of_t c_21 hf
        have hf := Option.some.inj hf
        subst hf
        exact hEL_20 _ (lv_sub hl [6, 7, 8, 9, 10] rfl)
      · have hf := of_f c_21 hf
        refine lv_aload_n hx hb dX2_greatestShare_70 rfl (lv_at hl 0 rfl) ?_
        refine get_X2_5 hx hb hts in_X2_greatestShare_X2 hown hK hz hW lk_X2_greatestShare_1 dX2_greatestShare_71 ?_
        refine lv_iload hx hb dX2_greatestShare_74 (lv_at hl 11 rfl) ?_
        obtain ⟨g_22, hf⟩ := of_gd hf
        refine ld_A86 hx hb hK hz hW g_22 dX2_greatestShare_76 ?_
        refine lv_topi (fun v_23 ev_23 => ?_)
        have hf := of_lt ev_23 hf
        refine lv_iload_n hx hb dX2_greatestShare_77 rfl (lv_at hl 1 rfl) ?_
        refine lv_iload_n hx hb dX2_greatestShare_78 rfl (lv_at hl 2 rfl) ?_
        obtain ⟨r_24, hq_25, hf⟩ := of_bd hf
        refine m_goRi (va_runS (As := [.int v_23, .int r_1, .int r_3]) (rest := []) ⟨hx, hb, hml, hown, hts⟩ (c_X2_skips l hz v_23 r_1 r_3 w hq_25) (va_cwS 3 hts gX2_greatestShare_X2_skips rfl rfl rfl (by decide +kernel) ⟨Nat.le_of_ble_eq_true rfl, Nat.le_of_ble_eq_true rfl⟩) (m_preS hK hW _) rfl rfl hl.1 rfl (lv_room (Nat.le_of_ble_eq_true rfl)) dX2_greatestShare_79 ⟨Nat.le_refl _, Nat.le_refl _⟩) ?_
        refine lv_if_eq (tgt := 103) hx hb dX2_greatestShare_82 (by decide) (fun c_26 => ?_) (fun c_26 => ?_)
        · have hf := of_t c_26 hf
          refine lv_iload hx hb dX2_greatestShare_103 (lv_at hl 7 rfl) ?_
          refine lv_aload_n hx hb dX2_greatestShare_105 rfl (lv_at hl 0 rfl) ?_
          refine get_X2_6 hx hb hts in_X2_greatestShare_X2 hown hK hz hW lk_X2_greatestShare_2 dX2_greatestShare_106 ?_
          refine lv_iload hx hb dX2_greatestShare_109 (lv_at hl 11 rfl) ?_
          refine ld_A87 hx hb hK hz hW g_22 dX2_greatestShare_111 ?_
          refine lv_topi (fun v_27 ev_27 => ?_)
          have hf := of_lt ev_27 hf
          refine lv_iload hx hb dX2_greatestShare_112 (lv_at hl 3 rfl) ?_
          refine lv_iand hx hb dX2_greatestShare_114 ?_
          obtain ⟨r_28, hq_29, hf⟩ := of_bd hf
          refine m_goRi (va_runS (As := [.int (v_27 &&& r_7)]) (rest := [.int x8_15]) ⟨hx, hb, hml, hown, hts⟩ (c_J6_bitCount_0f7a4 l (z := z) (v_27 &&& r_7) w hq_29) (va_cwS 1 hts gX2_greatestShare_J6_bitCount_0f7a4 rfl rfl rfl (by decide +kernel) ⟨Nat.le_of_ble_eq_true rfl, Nat.le_of_ble_eq_true rfl⟩) (m_preS hK hW _) rfl rfl hl.1 rfl (lv_room (Nat.le_of_ble_eq_true rfl)) dX2_greatestShare_115 ⟨Nat.le_refl _, Nat.le_refl _⟩) ?_
          refine lv_iadd hx hb dX2_greatestShare_118 ?_
          refine lv_topi (fun v_30 ev_30 => ?_)
          have hf := of_lt ev_30 hf
          refine lv_istore (lv' := [(8, .int v_30), (0, .ref (z.2.1 83)), (2, .int r_1), (3, .int r_3), (4, .int r_7), (5, .int r_11), (6, .int v_13), (7, .int x7_14), (9, .int x9_16), (10, .int x10_17), (11, .int x11_18), (12, .int x12_19)]) hx hb dX2_greatestShare_119 hl (by decide) rfl (fun ls hl => ?_)
          refine lv_iload hx hb dX2_greatestShare_121 (lv_at hl 8 rfl) ?_
          refine lv_aload_n hx hb dX2_greatestShare_123 rfl (lv_at hl 1 rfl) ?_
          refine get_X2_6 hx hb hts in_X2_greatestShare_X2 hown hK hz hW lk_X2_greatestShare_2 dX2_greatestShare_124 ?_
          refine lv_iload hx hb dX2_greatestShare_127 (lv_at hl 11 rfl) ?_
          refine ld_A87 hx hb hK hz hW g_22 dX2_greatestShare_129 ?_
          refine lv_topi (fun v_31 ev_31 => ?_)
          have hf := of_lt ev_31 hf
          refine lv_iload hx hb dX2_greatestShare_130 (lv_at hl 5 rfl) ?_
          refine lv_iand hx hb dX2_greatestShare_132 ?_
          obtain ⟨r_32, hq_33, hf⟩ := of_bd hf
          refine m_goRi (va_runS (As := [.int (v_31 &&& r_11)]) (rest := [.int x9_16]) ⟨hx, hb, hml, hown, hts⟩ (c_J6_bitCount_0f7a4 l (z := z) (v_31 &&& r_11) w hq_33) (va_cwS 1 hts gX2_greatestShare_J6_bitCount_0f7a4 rfl rfl rfl (by decide +kernel) ⟨Nat.le_of_ble_eq_true rfl, Nat.le_of_ble_eq_true rfl⟩) (m_preS hK hW _) rfl rfl hl.1 rfl (lv_room (Nat.le_of_ble_eq_true rfl)) dX2_greatestShare_133 ⟨Nat.le_refl _, Nat.le_refl _⟩) ?_
          refine lv_iadd hx hb dX2_greatestShare_136 ?_
          refine lv_topi (fun v_34 ev_34 => ?_)
          have hf := of_lt ev_34 hf
          refine lv_istore (lv' := [(9, .int v_34), (8, .int v_30), (0, .ref (z.2.1 83)), (2, .int r_1), (3, .int r_3), (4, .int r_7), (5, .int r_11), (6, .int v_13), (7, .int x7_14), (10, .int x10_17), (11, .int x11_18), (12, .int x12_19)]) hx hb dX2_greatestShare_137 hl (by decide) rfl (fun ls hl => ?_)
          refine lv_aload_n hx hb dX2_greatestShare_139 rfl (lv_at hl 2 rfl) ?_
          refine get_X2_6 hx hb hts in_X2_greatestShare_X2 hown hK hz hW lk_X2_greatestShare_2 dX2_greatestShare_140 ?_
          refine lv_iload hx hb dX2_greatestShare_143 (lv_at hl 11 rfl) ?_
          refine ld_A87 hx hb hK hz hW g_22 dX2_greatestShare_145 ?_
          refine lv_topi (fun v_35 ev_35 => ?_)
          have hf := of_lt ev_35 hf
          refine lv_iload hx hb dX2_greatestShare_146 (lv_at hl 7 rfl) ?_
          refine lv_iand hx hb dX2_greatestShare_148 ?_
          obtain ⟨r_36, hq_37, hf⟩ := of_bd hf
          refine m_goRi (va_runS (As := [.int (v_35 &&& v_13)]) (rest := []) ⟨hx, hb, hml, hown, hts⟩ (c_J6_bitCount_0f7a4 l (z := z) (v_35 &&& v_13) w hq_37) (va_cwS 1 hts gX2_greatestShare_J6_bitCount_0f7a4 rfl rfl rfl (by decide +kernel) ⟨Nat.le_of_ble_eq_true rfl, Nat.le_of_ble_eq_true rfl⟩) (m_preS hK hW _) rfl rfl hl.1 rfl (lv_room (Nat.le_of_ble_eq_true rfl)) dX2_greatestShare_149 ⟨Nat.le_refl _, Nat.le_refl _⟩) ?_
          refine lv_istore (lv' := [(13, .int r_36), (9, .int v_34), (8, .int v_30), (0, .ref (z.2.1 83)), (2, .int r_1), (3, .int r_3), (4, .int r_7), (5, .int r_11), (6, .int v_13), (7, .int x7_14), (10, .int x10_17), (11, .int x11_18), (12, .int x12_19)]) hx hb dX2_greatestShare_152 hl (by decide) rfl (fun ls hl => ?_)
          refine lv_aload_n hx hb dX2_greatestShare_154 rfl (lv_at hl 3 rfl) ?_
          refine get_X2_5 hx hb hts in_X2_greatestShare_X2 hown hK hz hW lk_X2_greatestShare_1 dX2_greatestShare_155 ?_
          refine lv_iload hx hb dX2_greatestShare_158 (lv_at hl 12 rfl) ?_
          refine ld_A86 hx hb hK hz hW g_22 dX2_greatestShare_160 ?_
          refine lv_topi (fun v_38 ev_38 => ?_)
          have hf := of_lt ev_38 hf
          refine lv_iload_n hx hb dX2_greatestShare_161 rfl (lv_at hl 4 rfl) ?_
          refine lv_iload_n hx hb dX2_greatestShare_162 rfl (lv_at hl 5 rfl) ?_
          obtain ⟨r_39, hq_40, hf⟩ := of_bd hf
          refine m_goRi (va_runS (As := [.int v_38, .int r_1, .int r_3]) (rest := []) ⟨hx, hb, hml, hown, hts⟩ (c_X2_breaks l hz v_38 r_1 r_3 w hq_40) (va_cwS 3 hts gX2_greatestShare_X2_breaks rfl rfl rfl (by decide +kernel) ⟨Nat.le_of_ble_eq_true rfl, Nat.le_of_ble_eq_true rfl⟩) (m_preS hK hW _) rfl rfl hl.1 rfl (lv_room (Nat.le_of_ble_eq_true rfl)) dX2_greatestShare_163 ⟨Nat.le_refl _, Nat.le_refl _⟩) ?_
          refine lv_if_eq (tgt := 179) hx hb dX2_greatestShare_166 (by decide) (fun c_41 => ?_) (fun c_41 => ?_)
          · have hf := of_t c_41 hf
            refine lv_iload hx hb dX2_greatestShare_179 (lv_at hl 11 rfl) ?_
            refine lv_iload hx hb dX2_greatestShare_181 (lv_at hl 0 rfl) ?_
            refine lv_iadd hx hb dX2_greatestShare_183 ?_
            refine lv_topi (fun v_42 ev_42 => ?_)
            have hf := of_lt ev_42 hf
            refine lv_istore (lv' := [(11, .int v_42), (13, .int r_36), (9, .int v_34), (8, .int v_30), (0, .ref (z.2.1 83)), (2, .int r_1), (3, .int r_3), (4, .int r_7), (5, .int r_11), (6, .int v_13), (7, .int x7_14), (10, .int x10_17), (12, .int x12_19)]) hx hb dX2_greatestShare_184 hl (by decide) rfl (fun ls hl => ?_)
            obtain ⟨x12_43, ex12_43⟩ : ∃ y : Int32, y = x12_19 + 1 := ⟨_, rfl⟩
            have hf := of_lt ex12_43 hf
            refine lv_iinc (v := x12_43) (lv' := [(12, .int x12_43), (11, .int v_42), (13, .int r_36), (9, .int v_34), (8, .int v_30), (0, .ref (z.2.1 83)), (2, .int r_1), (3, .int r_3), (4, .int r_7), (5, .int r_11), (6, .int v_13), (7, .int x7_14), (10, .int x10_17)]) hx hb dX2_greatestShare_186 hl (k := 12) rfl (by rw [ex12_43]; rfl) (by decide) rfl (fun ls hl => ?_)
            refine lv_goto (tgt := 61) hx hb dX2_greatestShare_189 (by decide) ?_
            exact ihL_20 _ _ _ _ _ _ _ _ hf (lv_sub hl [5, 6, 7, 8, 9, 10, 11, 4, 3, 12, 1, 0] rfl) hEL_20
          · have hf := of_f c_41 hf
            refine lv_iload hx hb dX2_greatestShare_169 (lv_at hl 10 rfl) ?_
            refine lv_iload hx hb dX2_greatestShare_171 (lv_at hl 0 rfl) ?_
            refine lv_iadd hx hb dX2_greatestShare_173 ?_
            refine lv_topi (fun v_44 ev_44 => ?_)
            have hf := of_lt ev_44 hf
            refine lv_istore (lv' := [(10, .int v_44), (13, .int r_36), (9, .int v_34), (8, .int v_30), (0, .ref (z.2.1 83)), (2, .int r_1), (3, .int r_3), (4, .int r_7), (5, .int r_11), (6, .int v_13), (7, .int x7_14), (11, .int x11_18), (12, .int x12_19)]) hx hb dX2_greatestShare_174 hl (by decide) rfl (fun ls hl => ?_)
            refine lv_goto (tgt := 186) hx hb dX2_greatestShare_176 (by decide) ?_
            obtain ⟨x12_45, ex12_45⟩ : ∃ y : Int32, y = x12_19 + 1 := ⟨_, rfl⟩
            have hf := of_lt ex12_45 hf
            refine lv_iinc (v := x12_45) (lv' := [(12, .int x12_45), (10, .int v_44), (13, .int r_36), (9, .int v_34), (8, .int v_30), (0, .ref (z.2.1 83)), (2, .int r_1), (3, .int r_3), (4, .int r_7), (5, .int r_11), (6, .int v_13), (7, .int x7_14), (11, .int x11_18)]) hx hb dX2_greatestShare_186 hl (k := 12) rfl (by rw [ex12_45]; rfl) (by decide) rfl (fun ls hl => ?_)
            refine lv_goto (tgt := 61) hx hb dX2_greatestShare_189 (by decide) ?_
            exact ihL_20 _ _ _ _ _ _ _ _ hf (lv_sub hl [5, 6, 7, 8, 9, 10, 11, 4, 3, 1, 12, 0] rfl) hEL_20
        · have hf := of_f c_26 hf
          refine lv_iload hx hb dX2_greatestShare_85 (lv_at hl 6 rfl) ?_
          refine lv_aload_n hx hb dX2_greatestShare_87 rfl (lv_at hl 0 rfl) ?_
          refine get_X2_6 hx hb hts in_X2_greatestShare_X2 hown hK hz hW lk_X2_greatestShare_2 dX2_greatestShare_88 ?_
          refine lv_iload hx hb dX2_greatestShare_91 (lv_at hl 11 rfl) ?_
          refine ld_A87 hx hb hK hz hW g_22 dX2_greatestShare_93 ?_
          refine lv_topi (fun v_46 ev_46 => ?_)
          have hf := of_lt ev_46 hf
          obtain ⟨r_47, hq_48, hf⟩ := of_bd hf
          refine m_goRi (va_runS (As := [.int v_46]) (rest := [.int x7_14]) ⟨hx, hb, hml, hown, hts⟩ (c_J6_bitCount_0f7a4 l (z := z) v_46 w hq_48) (va_cwS 1 hts gX2_greatestShare_J6_bitCount_0f7a4 rfl rfl rfl (by decide +kernel) ⟨Nat.le_of_ble_eq_true rfl, Nat.le_of_ble_eq_true rfl⟩) (m_preS hK hW _) rfl rfl hl.1 rfl (lv_room (Nat.le_of_ble_eq_true rfl)) dX2_greatestShare_94 ⟨Nat.le_refl _, Nat.le_refl _⟩) ?_
          refine lv_iadd hx hb dX2_greatestShare_97 ?_
          refine lv_topi (fun v_49 ev_49 => ?_)
          have hf := of_lt ev_49 hf
          refine lv_istore (lv' := [(7, .int v_49), (0, .ref (z.2.1 83)), (2, .int r_1), (3, .int r_3), (4, .int r_7), (5, .int r_11), (6, .int v_13), (8, .int x8_15), (9, .int x9_16), (10, .int x10_17), (11, .int x11_18), (12, .int x12_19)]) hx hb dX2_greatestShare_98 hl (by decide) rfl (fun ls hl => ?_)
          refine lv_goto (tgt := 186) hx hb dX2_greatestShare_100 (by decide) ?_
          obtain ⟨x12_50, ex12_50⟩ : ∃ y : Int32, y = x12_19 + 1 := ⟨_, rfl⟩
          have hf := of_lt ex12_50 hf
          refine lv_iinc (v := x12_50) (lv' := [(12, .int x12_50), (7, .int v_49), (0, .ref (z.2.1 83)), (2, .int r_1), (3, .int r_3), (4, .int r_7), (5, .int r_11), (6, .int v_13), (8, .int x8_15), (9, .int x9_16), (10, .int x10_17), (11, .int x11_18)]) hx hb dX2_greatestShare_186 hl (k := 11) rfl (by rw [ex12_50]; rfl) (by decide) rfl (fun ls hl => ?_)
          refine lv_goto (tgt := 61) hx hb dX2_greatestShare_189 (by decide) ?_
          exact ihL_20 _ _ _ _ _ _ _ _ hf (lv_sub hl [2, 3, 4, 5, 6, 7, 1, 8, 9, 10, 11, 0] rfl) hEL_20
  obtain ⟨ex_52, hq_51, hf⟩ := of_bd hf
  obtain ⟨x7_53, x8_54, x9_55, x10_56, x11_57⟩ := ex_52
  have hf := of_tp5 hf
  refine L_20 FU _ _ _ _ _ _ _ _ hq_51 (lv_sub hl [11, 10, 9, 8, 7, 6, 5, 4, 3, 2, 1, 0] rfl) (fun ls hl => ?_)
  have hl : lv_has ls 14 [(7, .int x7_53), (8, .int x8_54), (9, .int x9_55), (10, .int x10_56), (11, .int x11_57)] := hl
  refine lv_iload hx hb dX2_greatestShare_192 (lv_at hl 0 rfl) ?_
  refine lv_iload hx hb dX2_greatestShare_194 (lv_at hl 1 rfl) ?_
  refine lv_iload hx hb dX2_greatestShare_196 (lv_at hl 2 rfl) ?_
  refine va_mmax hx hb (hml.trans hl.1.symm) hown (hts _ lk_X2_greatestShare_3) (hts _ lk_X2_greatestShare_4) (hts _ lk_X2_greatestShare_5) (hts _ lk_X2_greatestShare_6) (Nat.le_of_ble_eq_true rfl) (Nat.le_of_ble_eq_true rfl) (Nat.le_refl _) (Nat.le_refl _) dX2_greatestShare_198 ?_
  refine lv_topi (fun v_58 ev_58 => ?_)
  have hf := of_lt (e := imax x8_54 x9_55) ev_58 hf
  refine va_mmax hx hb (hml.trans hl.1.symm) hown (hts _ lk_X2_greatestShare_3) (hts _ lk_X2_greatestShare_4) (hts _ lk_X2_greatestShare_5) (hts _ lk_X2_greatestShare_6) (Nat.le_of_ble_eq_true rfl) (Nat.le_of_ble_eq_true rfl) (Nat.le_refl _) (Nat.le_refl _) dX2_greatestShare_201 ?_
  refine lv_topi (fun v_59 ev_59 => ?_)
  have hf := of_lt (e := imax x7_53 v_58) ev_59 hf
  refine lv_iload hx hb dX2_greatestShare_204 (lv_at hl 3 rfl) ?_
  refine lv_iload hx hb dX2_greatestShare_206 (lv_at hl 4 rfl) ?_
  refine va_mmax hx hb (hml.trans hl.1.symm) hown (hts _ lk_X2_greatestShare_3) (hts _ lk_X2_greatestShare_4) (hts _ lk_X2_greatestShare_5) (hts _ lk_X2_greatestShare_6) (Nat.le_of_ble_eq_true rfl) (Nat.le_of_ble_eq_true rfl) (Nat.le_refl _) (Nat.le_refl _) dX2_greatestShare_208 ?_
  refine lv_topi (fun v_60 ev_60 => ?_)
  have hf := of_lt (e := imax x10_56 x11_57) ev_60 hf
  refine va_mmax hx hb (hml.trans hl.1.symm) hown (hts _ lk_X2_greatestShare_3) (hts _ lk_X2_greatestShare_4) (hts _ lk_X2_greatestShare_5) (hts _ lk_X2_greatestShare_6) (Nat.le_of_ble_eq_true rfl) (Nat.le_of_ble_eq_true rfl) (Nat.le_refl _) (Nat.le_refl _) dX2_greatestShare_211 ?_
  refine lv_topi (fun v_61 ev_61 => ?_)
  have hf := of_lt (e := imax v_59 v_60) ev_61 hf
  exact hret _ _ _ hf dX2_greatestShare_214
theorem in_X2_partingTrial_X2 : ∀ w ∈ wsX20, w ∈ wsX2_partingTrial := by decide +kernel
theorem lk_X2_partingTrial_0 : Cond.fieldLink RX2 69 "CamStitch$Faults" "size" "I" ∈ wsX2_partingTrial := by decide +kernel
set_option maxHeartbeats 4000000 in
set_option maxRecDepth 100000 in
theorem c_X2_partingTrial (l : Launch) {z : LZ} (hz : IC z)  (w : Mem) {r : Int32} (hf : f_X2_partingTrial w = some r) : Met l yX2_partingTrial wsX2_partingTrial (rm 3 76) (PZ z w [.ref (z.2.1 83)]) (QR (some (.int r))) 0 0 (fun _ => False) := by
  refine mk_Ri (cc := cX2_partingTrial) (maxL := 5) (by decide +kernel) rfl (Nat.le_of_ble_eq_true rfl) ?_
  intro p e s m args below meth c hx hb hml hts hown hK hW Q hret ls hl
  have hl : lv_has ls 5 [(0, .ref (z.2.1 83))] := hl
  unfold f_X2_partingTrial at hf
  refine lv_bipush (v := (-4)) hx hb dX2_partingTrial_0 (by decide) ?_
  refine lv_istore_n (lv' := [(1, .int (-4)), (0, .ref (z.2.1 83))]) hx hb dX2_partingTrial_2 rfl hl (by decide) rfl (fun ls hl => ?_)
  refine lv_aload_n hx hb dX2_partingTrial_3 rfl (lv_at hl 1 rfl) ?_
  refine get_X2_3 hx hb hts in_X2_partingTrial_X2 hown hK hz hW lk_X2_partingTrial_0 dX2_partingTrial_4 ?_
  refine lv_topi (fun v_1 ev_1 => ?_)
  have hf := of_lt ev_1 hf
  refine lv_istore_n (lv' := [(2, .int v_1), (1, .int (-4)), (0, .ref (z.2.1 83))]) hx hb dX2_partingTrial_7 rfl hl (by decide) rfl (fun ls hl => ?_)
  refine lv_iconst (v := 0) hx hb dX2_partingTrial_8 (by decide) ?_
  refine lv_istore_n (lv' := [(3, .int 0), (2, .int v_1), (1, .int (-4)), (0, .ref (z.2.1 83))]) hx hb dX2_partingTrial_9 rfl hl (by decide) rfl (fun ls hl => ?_)
  have L_5 : ∀ (n : Nat) (x1_2 : Int32) (x2_3 : Int32) (x3_4 : Int32) (exL_5 : Int32) (ls : Array Slot), f_X2_partingTrial_L10 w n x1_2 x2_3 x3_4 = some exL_5 → lv_has ls 5 [(0, .ref (z.2.1 83)), (1, .int x1_2), (2, .int x2_3), (3, .int x3_4)] → (∀ (ls : Array Slot), lv_has ls 5 [(1, .int exL_5)] → W p l e (rm 3 76) s m args below meth c s.heap [] 0 0 Q (F0 m 41 ls [])) → W p l e (rm 3 76) s m args below meth c s.heap [] 0 0 Q (F0 m 10 ls []) := by
    intro n
    induction n with
    | zero =>
      intro x1_2 x2_3 x3_4 exL_5 ls hf
      have hf : (none : Option (Int32)) = some exL_5 := hf
      cases hf
    | succ n ihL_5 =>
      intro x1_2 x2_3 x3_4 exL_5 ls hf hl hEL_5
      rw [f_X2_partingTrial_L10_s] at hf
      refine lv_iload_n hx hb dX2_partingTrial_10 rfl (lv_at hl 3 rfl) ?_
      refine lv_sipush (v := 325) hx hb dX2_partingTrial_11 (by decide) ?_
      refine lv_icmp_ge (tgt := 41) hx hb dX2_partingTrial_14 (by decide) (fun c_6 => ?_) (fun c_6 => ?_)
      · have hf := of_t c_6 hf
        have hf := Option.some.inj hf
        subst hf
        exact hEL_5 _ (lv_sub hl [1] rfl)
      · have hf := of_f c_6 hf
        refine lv_aload_n hx hb dX2_partingTrial_17 rfl (lv_at hl 0 rfl) ?_
        refine lv_iload_n hx hb dX2_partingTrial_18 rfl (lv_at hl 3 rfl) ?_
        obtain ⟨r_7, hq_8, hf⟩ := of_bd hf
        refine m_goRi (va_runV (As := [.int x3_4]) (rest := []) ⟨hx, hb, hml, hown, hts⟩ (c_X2_greatestShare l hz x3_4 w hq_8) (cwV 1 hts gX2_partingTrial_X2_greatestShare rfl rfl rfl (by decide +kernel) ⟨Nat.le_of_ble_eq_true rfl, Nat.le_of_ble_eq_true rfl⟩) (pre_X2 hK hz hW _) rfl rfl hl.1 rfl (lv_room (Nat.le_of_ble_eq_true rfl)) dX2_partingTrial_19 ⟨Nat.le_refl _, Nat.le_refl _⟩) ?_
        refine lv_istore (lv' := [(4, .int r_7), (0, .ref (z.2.1 83)), (1, .int x1_2), (2, .int x2_3), (3, .int x3_4)]) hx hb dX2_partingTrial_22 hl (by decide) rfl (fun ls hl => ?_)
        refine lv_iload hx hb dX2_partingTrial_24 (lv_at hl 0 rfl) ?_
        refine lv_iload_n hx hb dX2_partingTrial_26 rfl (lv_at hl 3 rfl) ?_
        refine lv_icmp_ge (tgt := 35) hx hb dX2_partingTrial_27 (by decide) (fun c_9 => ?_) (fun c_9 => ?_)
        · have hf := of_t c_9 hf
          obtain ⟨x3_10, ex3_10⟩ : ∃ y : Int32, y = x3_4 + 1 := ⟨_, rfl⟩
          have hf := of_lt ex3_10 hf
          refine lv_iinc (v := x3_10) (lv' := [(3, .int x3_10), (4, .int r_7), (0, .ref (z.2.1 83)), (1, .int x1_2), (2, .int x2_3)]) hx hb dX2_partingTrial_35 hl (k := 4) rfl (by rw [ex3_10]; rfl) (by decide) rfl (fun ls hl => ?_)
          refine lv_goto (tgt := 10) hx hb dX2_partingTrial_38 (by decide) ?_
          exact ihL_5 _ _ _ _ _ hf (lv_sub hl [2, 3, 4, 0] rfl) hEL_5
        · have hf := of_f c_9 hf
          refine lv_iload hx hb dX2_partingTrial_30 (lv_at hl 0 rfl) ?_
          refine lv_istore_n (lv' := [(2, .int r_7), (4, .int r_7), (0, .ref (z.2.1 83)), (1, .int x1_2), (3, .int x3_4)]) hx hb dX2_partingTrial_32 rfl hl (by decide) rfl (fun ls hl => ?_)
          refine lv_iload_n hx hb dX2_partingTrial_33 rfl (lv_at hl 4 rfl) ?_
          refine lv_istore_n (lv' := [(1, .int x3_4), (2, .int r_7), (4, .int r_7), (0, .ref (z.2.1 83)), (3, .int x3_4)]) hx hb dX2_partingTrial_34 rfl hl (by decide) rfl (fun ls hl => ?_)
          obtain ⟨x3_11, ex3_11⟩ : ∃ y : Int32, y = x3_4 + 1 := ⟨_, rfl⟩
          have hf := of_lt ex3_11 hf
          refine lv_iinc (v := x3_11) (lv' := [(3, .int x3_11), (1, .int x3_4), (2, .int r_7), (4, .int r_7), (0, .ref (z.2.1 83))]) hx hb dX2_partingTrial_35 hl (k := 4) rfl (by rw [ex3_11]; rfl) (by decide) rfl (fun ls hl => ?_)
          refine lv_goto (tgt := 10) hx hb dX2_partingTrial_38 (by decide) ?_
          exact ihL_5 _ _ _ _ _ hf (lv_sub hl [4, 1, 2, 0] rfl) hEL_5
  obtain ⟨ex_13, hq_12, hf⟩ := of_bd hf
  obtain ⟨x1_14, ex1_14⟩ : ∃ y, y = ex_13 := ⟨_, rfl⟩
  rw [← ex1_14] at hf
  rw [← ex1_14] at hq_12
  refine L_5 FU _ _ _ _ _ hq_12 (lv_sub hl [3, 2, 1, 0] rfl) (fun ls hl => ?_)
  have hl : lv_has ls 5 [(1, .int x1_14)] := hl
  refine lv_iload_n hx hb dX2_partingTrial_41 rfl (lv_at hl 0 rfl) ?_
  exact hret _ _ _ hf dX2_partingTrial_42
theorem in_X2_hunted_X2 : ∀ w ∈ wsX20, w ∈ wsX2_hunted := by decide +kernel
theorem lk_X2_hunted_0 : Cond.fieldLink RX2 101 "CamStitch$Faults" "lastTrial" "I" ∈ wsX2_hunted := by decide +kernel
set_option maxHeartbeats 4000000 in
set_option maxRecDepth 100000 in
theorem c_X2_hunted (l : Launch) {z : LZ} (hz : IC z) (x1 : Int32) (x2 : Int32) (w : Mem) {r : Int32} {w' : Mem} (hf : f_X2_hunted x1 x2 w = some (r, w')) : Met l yX2_hunted wsX2_hunted (rm 4 100) (PZ z w [.ref (z.2.1 83), .int x1, .int x2]) (QW z (some (.int r)) w') 0 0 (az z) := by
  refine mk_Wi (cc := cX2_hunted) (maxL := 5) (by decide +kernel) rfl (Nat.le_of_ble_eq_true rfl) ?_
  intro p e s m args below meth c hx hb hml hts hown hK hW Q hret ls hl
  have hl : lv_has ls 5 [(0, .ref (z.2.1 83)), (1, .int x1), (2, .int x2)] := hl
  unfold f_X2_hunted at hf
  have START : ∀ (H : Heap) (locs : List Loc), hd z w H → va_S (az z) s.heap H locs → W p l e (rm 4 100) s m args below meth c H locs 0 0 Q (F0 m 0 ls []) := by
    intro H locs hW hS
    refine lv_aload_n hx hb dX2_hunted_0 rfl (lv_at hl 0 rfl) ?_
    refine lv_iload_n hx hb dX2_hunted_1 rfl (lv_at hl 2 rfl) ?_
    obtain ⟨w_3, hq_2, hf⟩ := of_bd hf
    refine m_goWv (va_runV (As := [.int x2]) (rest := []) ⟨hx, hb, hml, hown, hts⟩ (c_X2_gather l hz x2 w hq_2) (cwV 1 hts gX2_hunted_X2_gather rfl rfl rfl (by decide +kernel) ⟨Nat.le_of_ble_eq_true rfl, Nat.le_of_ble_eq_true rfl⟩) (pre_X2 hK hz hW _) rfl rfl hl.1 rfl (lv_room (Nat.le_of_ble_eq_true rfl)) dX2_hunted_2 ⟨Nat.le_refl _, Nat.le_refl _⟩) hS (fun H locs hW hS => ?_)
    refine lv_aload_n hx hb dX2_hunted_5 rfl (lv_at hl 0 rfl) ?_
    refine lv_bipush (v := (-2)) hx hb dX2_hunted_6 (by decide) ?_
    refine put_X2_4 hx hb hts in_X2_hunted_X2 hown hK hz hW hS lk_X2_hunted_0 dX2_hunted_8 (fun H locs hW hS => ?_)
    obtain ⟨w_4, ew_4⟩ : ∃ y : Mem, y = mS w_3 83 4 (-2) := ⟨_, rfl⟩
    have hW : hd z w_4 H := by rw [ew_4]; exact hW
    have hf := of_lt ew_4 hf
    refine lv_iconst (v := 0) hx hb dX2_hunted_11 (by decide) ?_
    refine lv_istore_n (lv' := [(3, .int 0), (0, .ref (z.2.1 83)), (1, .int x1), (2, .int x2)]) hx hb dX2_hunted_12 rfl hl (by decide) rfl (fun ls hl => ?_)
    have L_7 : ∀ (n : Nat) (x3_5 : Int32) (w_6 : Mem) (exL_7 : Sum (Int32 × Mem) (Mem)) (H : Heap) (locs : List Loc) (ls : Array Slot), f_X2_hunted_L13 x1 n x3_5 w_6 = some exL_7 → hd z w_6 H → va_S (az z) s.heap H locs → lv_has ls 5 [(0, .ref (z.2.1 83)), (1, .int x1), (3, .int x3_5)] → (∀ ret, exL_7 = .inl ret → some (ret) = some (r, w')) → (∀ x, exL_7 = .inr x → ∀ (H : Heap) (locs : List Loc) (ls : Array Slot), hd z (x) H → va_S (az z) s.heap H locs → lv_has ls 5 [] → W p l e (rm 4 100) s m args below meth c H locs 0 0 Q (F0 m 58 ls [])) → W p l e (rm 4 100) s m args below meth c H locs 0 0 Q (F0 m 13 ls []) := by
      intro n
      induction n with
      | zero =>
        intro x3_5 w_6 exL_7 H locs ls hf
        have hf : (none : Option (Sum (Int32 × Mem) (Mem))) = some exL_7 := hf
        cases hf
      | succ n ihL_7 =>
        intro x3_5 w_6 exL_7 H locs ls hf hW hS hl hRL_7 hEL_7
        rw [f_X2_hunted_L13_s] at hf
        refine lv_iload_n hx hb dX2_hunted_13 rfl (lv_at hl 2 rfl) ?_
        refine lv_bipush (v := 20) hx hb dX2_hunted_14 (by decide) ?_
        refine lv_icmp_ge (tgt := 58) hx hb dX2_hunted_16 (by decide) (fun c_8 => ?_) (fun c_8 => ?_)
        · have hf := of_t c_8 hf
          exact hEL_7 _ (Option.some.inj hf).symm _ _ _ hW hS (lv_sub hl [] rfl)
        · have hf := of_f c_8 hf
          refine lv_aload_n hx hb dX2_hunted_19 rfl (lv_at hl 0 rfl) ?_
          obtain ⟨r_9, hq_10, hf⟩ := of_bd hf
          refine m_goRi (va_runV (As := []) (rest := []) ⟨hx, hb, hml, hown, hts⟩ (c_X2_partingTrial l hz w_6 hq_10) (cwV 0 hts gX2_hunted_X2_partingTrial rfl rfl rfl (by decide +kernel) ⟨Nat.le_of_ble_eq_true rfl, Nat.le_of_ble_eq_true rfl⟩) (pre_X2 hK hz hW _) rfl rfl hl.1 rfl (lv_room (Nat.le_of_ble_eq_true rfl)) dX2_hunted_20 ⟨Nat.le_refl _, Nat.le_refl _⟩) ?_
          refine lv_istore (lv' := [(4, .int r_9), (0, .ref (z.2.1 83)), (1, .int x1), (3, .int x3_5)]) hx hb dX2_hunted_23 hl (by decide) rfl (fun ls hl => ?_)
          refine lv_iload hx hb dX2_hunted_25 (lv_at hl 0 rfl) ?_
          refine lv_bipush (v := (-4)) hx hb dX2_hunted_27 (by decide) ?_
          refine lv_icmp_ne (tgt := 34) hx hb dX2_hunted_29 (by decide) (fun c_11 => ?_) (fun c_11 => ?_)
          · have hf := of_f c_11 hf
            refine lv_aload_n hx hb dX2_hunted_34 rfl (lv_at hl 1 rfl) ?_
            refine lv_iload hx hb dX2_hunted_35 (lv_at hl 0 rfl) ?_
            refine lv_iload_n hx hb dX2_hunted_37 rfl (lv_at hl 2 rfl) ?_
            refine lv_iload hx hb dX2_hunted_38 (lv_at hl 0 rfl) ?_
            obtain ⟨r_12, hq_13, hf⟩ := of_bd hf
            refine m_goRi (va_runS (As := [.int x1, .int r_9]) (rest := [.int r_9, .ref (z.2.1 83)]) ⟨hx, hb, hml, hown, hts⟩ (c_X2_outcomeOf l hz x1 r_9 w_6 hq_13) (va_cwS 2 hts gX2_hunted_X2_outcomeOf rfl rfl rfl (by decide +kernel) ⟨Nat.le_of_ble_eq_true rfl, Nat.le_of_ble_eq_true rfl⟩) (m_preS hK hW _) rfl rfl hl.1 rfl (lv_room (Nat.le_of_ble_eq_true rfl)) dX2_hunted_40 ⟨Nat.le_refl _, Nat.le_refl _⟩) ?_
            obtain ⟨w_16, hq_15, hf⟩ := of_bd hf
            refine m_goWv (va_runV (As := [.int r_9, .int r_12]) (rest := []) ⟨hx, hb, hml, hown, hts⟩ (c_X2_narrow l hz r_9 r_12 w_6 hq_15) (cwV 2 hts gX2_hunted_X2_narrow rfl rfl rfl (by decide +kernel) ⟨Nat.le_of_ble_eq_true rfl, Nat.le_of_ble_eq_true rfl⟩) (pre_X2 hK hz hW _) rfl rfl hl.1 rfl (lv_room (Nat.le_of_ble_eq_true rfl)) dX2_hunted_43 ⟨Nat.le_refl _, Nat.le_refl _⟩) hS (fun H locs hW hS => ?_)
            refine lv_aload_n hx hb dX2_hunted_46 rfl (lv_at hl 1 rfl) ?_
            refine lv_iload hx hb dX2_hunted_47 (lv_at hl 0 rfl) ?_
            refine put_X2_4 hx hb hts in_X2_hunted_X2 hown hK hz hW hS lk_X2_hunted_0 dX2_hunted_49 (fun H locs hW hS => ?_)
            obtain ⟨w_17, ew_17⟩ : ∃ y : Mem, y = mS w_16 83 4 r_9 := ⟨_, rfl⟩
            have hW : hd z w_17 H := by rw [ew_17]; exact hW
            have hf := of_lt ew_17 hf
            obtain ⟨x3_18, ex3_18⟩ : ∃ y : Int32, y = x3_5 + 1 := ⟨_, rfl⟩
            have hf := of_lt ex3_18 hf
            refine lv_iinc (v := x3_18) (lv' := [(3, .int x3_18), (4, .int r_9), (0, .ref (z.2.1 83)), (1, .int x1)]) hx hb dX2_hunted_52 hl (k := 3) rfl (by rw [ex3_18]; rfl) (by decide) rfl (fun ls hl => ?_)
            refine lv_goto (tgt := 13) hx hb dX2_hunted_55 (by decide) ?_
            exact ihL_7 _ _ _ _ _ _ hf hW hS (lv_sub hl [2, 3, 0] rfl) hRL_7 hEL_7
          · have hf := of_t c_11 hf
            refine lv_iload_n hx hb dX2_hunted_32 rfl (lv_at hl 3 rfl) ?_
            exact hret _ _ _ _ _ _ (hRL_7 _ (Option.some.inj hf).symm) hW hS dX2_hunted_33
    obtain ⟨ex_20, hq_19, hf⟩ := of_bd hf
    refine L_7 FU _ _ _ _ _ _ hq_19 hW hS (lv_sub hl [1, 2, 0] rfl) (fun ret he => by subst he; exact hf) (fun x he H locs ls hW hS hl => ?_)
    subst he
    obtain ⟨w_21, ew_21⟩ : ∃ y, y = x := ⟨_, rfl⟩
    subst ew_21
    have hf := of_sr hf
    have hW : hd z w_21 H := hW
    have hl : lv_has ls 5 [] := hl
    refine lv_bipush (v := 20) hx hb dX2_hunted_58 (by decide) ?_
    exact hret _ _ _ _ _ _ hf hW hS dX2_hunted_60
  exact START _ _ hW va_S.rf
theorem in_X3_measures_X1 : ∀ w ∈ wsX10, w ∈ wsX3_measures := by decide +kernel
theorem in_X3_measures_X3 : ∀ w ∈ wsX30, w ∈ wsX3_measures := by decide +kernel
theorem lk_X3_measures_0 : Cond.fieldLink RX3 21 "CamStitch$Hem" "sides" "I" ∈ wsX3_measures := by decide +kernel
theorem lk_X3_measures_1 : Cond.fieldLink RX3 9 "CamStitch$Hem" "lengths" "[I" ∈ wsX3_measures := by decide +kernel
theorem lk_X3_measures_2 : Cond.methodLink RX3 25 Lib.Math.max.name ∈ wsX3_measures := by decide +kernel
theorem lk_X3_measures_3 : Cond.static Lib.Math.max.name ∈ wsX3_measures := by decide +kernel
theorem lk_X3_measures_4 : Cond.initialized "java/lang/Math" ∈ wsX3_measures := by decide +kernel
theorem lk_X3_measures_5 : Cond.code Lib.Math.max.name Lib.Math.max.code 2 (some .int) ∈ wsX3_measures := by decide +kernel
theorem lk_X3_measures_6 : Cond.fieldLink RX3 31 "CamStitch$Hem" "rounds" "I" ∈ wsX3_measures := by decide +kernel
theorem lk_X3_measures_7 : Cond.fieldLink RX3 34 "CamStitch$Hem" "rest" "I" ∈ wsX3_measures := by decide +kernel
theorem lk_X3_measures_8 : Cond.fieldLink RX3 37 "CamStitch$Disc" "stitches" "I" ∈ wsX3_measures := by decide +kernel
theorem lk_X3_measures_9 : Cond.fieldLink RX3 40 "CamStitch$Hem" "stitches" "I" ∈ wsX3_measures := by decide +kernel
set_option maxHeartbeats 4000000 in
set_option maxRecDepth 100000 in
theorem c_X3_measures (l : Launch) {z : LZ} (hz : IC z) (x1 : Int32) (d2 : Nat) (hd2 : d2 < 16) (w : Mem) {r : Int32} {w' : Mem} (hf : f_X3_measures x1 d2 w = some (r, w')) : Met l yX3_measures wsX3_measures (rm 1 22) (PZ z w [.ref (z.2.1 72), .int x1, .ref (z.2.1 (3*d2))]) (QW z (some (.int r)) w') 0 0 (az z) := by
  refine mk_Wz (cc := cX3_measures) (maxL := 5) (by decide +kernel) rfl (Nat.le_of_ble_eq_true rfl) ?_
  intro p e s m args below meth c hx hb hml hts hown hK hW Q hret ls hl
  have hl : lv_has ls 5 [(0, .ref (z.2.1 72)), (1, .int x1), (2, .ref (z.2.1 (3*d2)))] := hl
  unfold f_X3_measures at hf
  have START : ∀ (H : Heap) (locs : List Loc), hd z w H → va_S (az z) s.heap H locs → W p l e (rm 1 22) s m args below meth c H locs 0 0 Q (F0 m 0 ls []) := by
    intro H locs hW hS
    refine lv_aload_n hx hb dX3_measures_0 rfl (lv_at hl 2 rfl) ?_
    obtain ⟨r_1, hq_2, hf⟩ := of_bd hf
    refine m_goRi (va_runV (As := []) (rest := []) ⟨hx, hb, hml, hown, hts⟩ (c_X1_sumOfFeeds l hz d2 hd2 w hq_2) (cwV 0 hts gX3_measures_X1_sumOfFeeds rfl rfl rfl (by decide +kernel) ⟨Nat.le_of_ble_eq_true rfl, Nat.le_of_ble_eq_true rfl⟩) (pre_X1 hK hz hW hd2 _) rfl rfl hl.1 rfl (lv_room (Nat.le_of_ble_eq_true rfl)) dX3_measures_1 ⟨Nat.le_refl _, Nat.le_refl _⟩) ?_
    refine lv_istore_n (lv' := [(3, .int r_1), (0, .ref (z.2.1 72)), (1, .int x1), (2, .ref (z.2.1 (3*d2)))]) hx hb dX3_measures_4 rfl hl (by decide) rfl (fun ls hl => ?_)
    refine lv_iload_n hx hb dX3_measures_5 rfl (lv_at hl 2 rfl) ?_
    refine lv_if_lt (tgt := 22) hx hb dX3_measures_6 (by decide) (fun c_3 => ?_) (fun c_3 => ?_)
    · have hf := of_t c_3 hf
      refine lv_iconst (v := 0) hx hb dX3_measures_22 (by decide) ?_
      exact hret _ _ _ _ _ _ hf rfl hW hS dX3_measures_23
    · have hf := of_f c_3 hf
      refine lv_iload_n hx hb dX3_measures_9 rfl (lv_at hl 2 rfl) ?_
      refine lv_aload_n hx hb dX3_measures_10 rfl (lv_at hl 1 rfl) ?_
      refine get_X3_1 hx hb hts in_X3_measures_X3 hown hK hz hW lk_X3_measures_0 dX3_measures_11 ?_
      refine lv_icmp_ge (tgt := 22) hx hb dX3_measures_14 (by decide) (fun c_4 => ?_) (fun c_4 => ?_)
      · have hf := of_t c_4 hf
        refine lv_iconst (v := 0) hx hb dX3_measures_22 (by decide) ?_
        exact hret _ _ _ _ _ _ hf rfl hW hS dX3_measures_23
      · have hf := of_f c_4 hf
        refine lv_iload_n hx hb dX3_measures_17 rfl (lv_at hl 0 rfl) ?_
        refine lv_iconst (v := 1) hx hb dX3_measures_18 (by decide) ?_
        refine lv_icmp_ge (tgt := 24) hx hb dX3_measures_19 (by decide) (fun c_5 => ?_) (fun c_5 => ?_)
        · have hf := of_t c_5 hf
          refine lv_aload_n hx hb dX3_measures_24 rfl (lv_at hl 1 rfl) ?_
          refine get_X3_0 hx hb hts in_X3_measures_X3 hown hK hz hW lk_X3_measures_1 dX3_measures_25 ?_
          refine lv_iload_n hx hb dX3_measures_28 rfl (lv_at hl 2 rfl) ?_
          obtain ⟨g_6, hf⟩ := of_gd hf
          refine ld_A73 hx hb hK hz hW g_6 dX3_measures_29 ?_
          refine lv_topi (fun v_7 ev_7 => ?_)
          have hf := of_lt ev_7 hf
          refine lv_istore (lv' := [(4, .int v_7), (3, .int r_1), (0, .ref (z.2.1 72)), (1, .int x1), (2, .ref (z.2.1 (3*d2)))]) hx hb dX3_measures_30 hl (by decide) rfl (fun ls hl => ?_)
          refine lv_aload_n hx hb dX3_measures_32 rfl (lv_at hl 2 rfl) ?_
          refine lv_iconst (v := 1) hx hb dX3_measures_33 (by decide) ?_
          refine lv_iload hx hb dX3_measures_34 (lv_at hl 0 rfl) ?_
          refine lv_iload_n hx hb dX3_measures_36 rfl (lv_at hl 1 rfl) ?_
          obtain ⟨g_8, hf⟩ := of_gd hf
          refine lv_idiv hx hb dX3_measures_37 g_8 ?_
          refine va_mmax hx hb (hml.trans hl.1.symm) hown (hts _ lk_X3_measures_2) (hts _ lk_X3_measures_3) (hts _ lk_X3_measures_4) (hts _ lk_X3_measures_5) (Nat.le_of_ble_eq_true rfl) (Nat.le_of_ble_eq_true rfl) (Nat.le_refl _) (Nat.le_refl _) dX3_measures_38 ?_
          refine lv_topi (fun v_9 ev_9 => ?_)
          have hf := of_lt (e := imax 1 (v_7 / r_1)) ev_9 hf
          refine put_X3_2 hx hb hts in_X3_measures_X3 hown hK hz hW hS lk_X3_measures_6 dX3_measures_41 (fun H locs hW hS => ?_)
          obtain ⟨w_10, ew_10⟩ : ∃ y : Mem, y = mS w 72 2 v_9 := ⟨_, rfl⟩
          have hW : hd z w_10 H := by rw [ew_10]; exact hW
          have hf := of_lt ew_10 hf
          refine lv_iload hx hb dX3_measures_44 (lv_at hl 0 rfl) ?_
          refine lv_aload_n hx hb dX3_measures_46 rfl (lv_at hl 2 rfl) ?_
          refine get_X3_2 hx hb hts in_X3_measures_X3 hown hK hz hW lk_X3_measures_6 dX3_measures_47 ?_
          refine lv_iload_n hx hb dX3_measures_50 rfl (lv_at hl 1 rfl) ?_
          refine lv_imul hx hb dX3_measures_51 ?_
          refine lv_isub hx hb dX3_measures_52 ?_
          refine lv_topi (fun v_11 ev_11 => ?_)
          have hf := of_lt ev_11 hf
          refine lv_aload_n hx hb dX3_measures_53 rfl (lv_at hl 2 rfl) ?_
          refine get_X3_2 hx hb hts in_X3_measures_X3 hown hK hz hW lk_X3_measures_6 dX3_measures_54 ?_
          refine lv_iconst (v := 1) hx hb dX3_measures_57 (by decide) ?_
          refine lv_iadd hx hb dX3_measures_58 ?_
          refine lv_iload_n hx hb dX3_measures_59 rfl (lv_at hl 1 rfl) ?_
          refine lv_imul hx hb dX3_measures_60 ?_
          refine lv_topi (fun v_12 ev_12 => ?_)
          have hf := of_lt ev_12 hf
          refine lv_iload hx hb dX3_measures_61 (lv_at hl 0 rfl) ?_
          refine lv_isub hx hb dX3_measures_63 ?_
          obtain ⟨k_13, ek_13, hf⟩ := of_lz hf
          have Jk_13 : ∀  (w_14 : Mem) (H : Heap) (locs : List Loc) (ls : Array Slot), k_13 w_14 = some (r, w') → hd z w_14 H → va_S (az z) s.heap H locs → lv_has ls 5 [(0, .ref (z.2.1 72)), (2, .ref (z.2.1 (3*d2))), (3, .int r_1), (4, .int v_7)] → W p l e (rm 1 22) s m args below meth c H locs 0 0 Q (F0 m 77 ls []) := by
            intro w_14 H locs ls hf hW hS hl
            have hf := of_j1 ek_13 hf
            refine lv_aload_n hx hb dX3_measures_77 rfl (lv_at hl 0 rfl) ?_
            refine lv_iload hx hb dX3_measures_78 (lv_at hl 3 rfl) ?_
            refine lv_aload_n hx hb dX3_measures_80 rfl (lv_at hl 0 rfl) ?_
            refine get_X3_2 hx hb hts in_X3_measures_X3 hown hK hz hW lk_X3_measures_6 dX3_measures_81 ?_
            refine lv_iload_n hx hb dX3_measures_84 rfl (lv_at hl 2 rfl) ?_
            refine lv_imul hx hb dX3_measures_85 ?_
            refine lv_isub hx hb dX3_measures_86 ?_
            refine lv_topi (fun v_15 ev_15 => ?_)
            have hf := of_lt ev_15 hf
            refine put_X3_3 hx hb hts in_X3_measures_X3 hown hK hz hW hS lk_X3_measures_7 dX3_measures_87 (fun H locs hW hS => ?_)
            obtain ⟨w_16, ew_16⟩ : ∃ y : Mem, y = mS w_14 72 3 v_15 := ⟨_, rfl⟩
            have hW : hd z w_16 H := by rw [ew_16]; exact hW
            have hf := of_lt ew_16 hf
            refine lv_aload_n hx hb dX3_measures_90 rfl (lv_at hl 0 rfl) ?_
            refine lv_aload_n hx hb dX3_measures_91 rfl (lv_at hl 0 rfl) ?_
            refine get_X3_2 hx hb hts in_X3_measures_X3 hown hK hz hW lk_X3_measures_6 dX3_measures_92 ?_
            refine lv_aload_n hx hb dX3_measures_95 rfl (lv_at hl 1 rfl) ?_
            refine get_X1_2 hx hb hts in_X3_measures_X1 hown hK hz hW hd2 lk_X3_measures_8 dX3_measures_96 ?_
            refine lv_imul hx hb dX3_measures_99 ?_
            refine lv_topi (fun v_17 ev_17 => ?_)
            have hf := of_lt ev_17 hf
            refine put_X3_4 hx hb hts in_X3_measures_X3 hown hK hz hW hS lk_X3_measures_9 dX3_measures_100 (fun H locs hW hS => ?_)
            obtain ⟨w_18, ew_18⟩ : ∃ y : Mem, y = mS w_16 72 4 v_17 := ⟨_, rfl⟩
            have hW : hd z w_18 H := by rw [ew_18]; exact hW
            have hf := of_lt ew_18 hf
            refine lv_iconst (v := 1) hx hb dX3_measures_103 (by decide) ?_
            exact hret _ _ _ _ _ _ hf rfl hW hS dX3_measures_104
          refine lv_icmp_le (tgt := 77) hx hb dX3_measures_64 (by decide) (fun c_19 => ?_) (fun c_19 => ?_)
          · have hf := of_t c_19 hf
            exact Jk_13 _ _ _ _ hf hW hS (lv_sub hl [2, 4, 1, 0] rfl)
          · have hf := of_f c_19 hf
            refine lv_aload_n hx hb dX3_measures_67 rfl (lv_at hl 2 rfl) ?_
            refine lv_dup hx hb dX3_measures_68 rfl ?_
            refine get_X3_2 hx hb hts in_X3_measures_X3 hown hK hz hW lk_X3_measures_6 dX3_measures_69 ?_
            refine lv_iconst (v := 1) hx hb dX3_measures_72 (by decide) ?_
            refine lv_iadd hx hb dX3_measures_73 ?_
            refine put_X3_2 hx hb hts in_X3_measures_X3 hown hK hz hW hS lk_X3_measures_6 dX3_measures_74 (fun H locs hW hS => ?_)
            obtain ⟨w_20, ew_20⟩ : ∃ y : Mem, y = mS w_10 72 2 ((w_10.1 72 2) + 1) := ⟨_, rfl⟩
            have hW : hd z w_20 H := by rw [ew_20]; exact hW
            have hf := of_lt ew_20 hf
            exact Jk_13 _ _ _ _ hf hW hS (lv_sub hl [2, 4, 1, 0] rfl)
        · have hf := of_f c_5 hf
          refine lv_iconst (v := 0) hx hb dX3_measures_22 (by decide) ?_
          exact hret _ _ _ _ _ _ hf rfl hW hS dX3_measures_23
  exact START _ _ hW va_S.rf
theorem in_X3_spread_X3 : ∀ w ∈ wsX30, w ∈ wsX3_spread := by decide +kernel
theorem lk_X3_spread_0 : Cond.fieldLink RX3 40 "CamStitch$Hem" "stitches" "I" ∈ wsX3_spread := by decide +kernel
theorem lk_X3_spread_1 : Cond.fieldLink RX3 34 "CamStitch$Hem" "rest" "I" ∈ wsX3_spread := by decide +kernel
set_option maxHeartbeats 4000000 in
set_option maxRecDepth 100000 in
theorem c_X3_spread (l : Launch) {z : LZ} (hz : IC z) (x1 : Int32) (w : Mem) {r : Int32} (hf : f_X3_spread x1 w = some r) : Met l yX3_spread wsX3_spread (rm 1 22) (PZ z w [.ref (z.2.1 72), .int x1]) (QR (some (.int r))) 0 0 (fun _ => False) := by
  refine mk_Ri (cc := cX3_spread) (maxL := 2) (by decide +kernel) rfl (Nat.le_of_ble_eq_true rfl) ?_
  intro p e s m args below meth c hx hb hml hts hown hK hW Q hret ls hl
  have hl : lv_has ls 2 [(0, .ref (z.2.1 72)), (1, .int x1)] := hl
  unfold f_X3_spread at hf
  refine lv_aload_n hx hb dX3_spread_0 rfl (lv_at hl 0 rfl) ?_
  refine get_X3_4 hx hb hts in_X3_spread_X3 hown hK hz hW lk_X3_spread_0 dX3_spread_1 ?_
  refine lv_iconst (v := 1) hx hb dX3_spread_4 (by decide) ?_
  refine lv_icmp_ge (tgt := 12) hx hb dX3_spread_5 (by decide) (fun c_1 => ?_) (fun c_1 => ?_)
  · have hf := of_t c_1 hf
    refine lv_aload_n hx hb dX3_spread_12 rfl (lv_at hl 0 rfl) ?_
    refine get_X3_3 hx hb hts in_X3_spread_X3 hown hK hz hW lk_X3_spread_1 dX3_spread_13 ?_
    refine lv_iload_n hx hb dX3_spread_16 rfl (lv_at hl 1 rfl) ?_
    refine lv_imul hx hb dX3_spread_17 ?_
    refine lv_aload_n hx hb dX3_spread_18 rfl (lv_at hl 0 rfl) ?_
    refine get_X3_4 hx hb hts in_X3_spread_X3 hown hK hz hW lk_X3_spread_0 dX3_spread_19 ?_
    obtain ⟨r_2, hq_3, hf⟩ := of_bd hf
    refine m_goRi (va_runS (As := [.int ((w.1 72 3) * x1), .int (w.1 72 4)]) (rest := []) ⟨hx, hb, hml, hown, hts⟩ (c_J9_floorDiv_7cf53 l (z := z) ((w.1 72 3) * x1) (w.1 72 4) w hq_3) (va_cwS 2 hts gX3_spread_J9_floorDiv_7cf53 rfl rfl rfl (by decide +kernel) ⟨Nat.le_of_ble_eq_true rfl, Nat.le_of_ble_eq_true rfl⟩) (m_preS hK hW _) rfl rfl hl.1 rfl (lv_room (Nat.le_of_ble_eq_true rfl)) dX3_spread_22 ⟨Nat.le_refl _, Nat.le_refl _⟩) ?_
    exact hret _ _ _ hf dX3_spread_25
  · have hf := of_f c_1 hf
    refine lv_iconst (v := 0) hx hb dX3_spread_8 (by decide) ?_
    refine lv_goto (tgt := 25) hx hb dX3_spread_9 (by decide) ?_
    exact hret _ _ _ hf dX3_spread_25
theorem in_X3_feedOf_X1 : ∀ w ∈ wsX10, w ∈ wsX3_feedOf := by decide +kernel
theorem lk_X3_feedOf_0 : Cond.fieldLink RX3 37 "CamStitch$Disc" "stitches" "I" ∈ wsX3_feedOf := by decide +kernel
theorem lk_X3_feedOf_1 : Cond.fieldLink RX3 44 "CamStitch$Disc" "feeds" "[I" ∈ wsX3_feedOf := by decide +kernel
set_option maxHeartbeats 4000000 in
set_option maxRecDepth 100000 in
theorem c_X3_feedOf (l : Launch) {z : LZ} (hz : IC z) (d1 : Nat) (hd1 : d1 < 16) (x2 : Int32) (w : Mem) {r : Int32} (hf : f_X3_feedOf d1 x2 w = some r) : Met l yX3_feedOf wsX3_feedOf (rm 2 43) (PZ z w [.ref (z.2.1 72), .ref (z.2.1 (3*d1)), .int x2]) (QR (some (.int r))) 0 0 (fun _ => False) := by
  refine mk_Ri (cc := cX3_feedOf) (maxL := 3) (by decide +kernel) rfl (Nat.le_of_ble_eq_true rfl) ?_
  intro p e s m args below meth c hx hb hml hts hown hK hW Q hret ls hl
  have hl : lv_has ls 3 [(0, .ref (z.2.1 72)), (1, .ref (z.2.1 (3*d1))), (2, .int x2)] := hl
  unfold f_X3_feedOf at hf
  refine lv_aload_n hx hb dX3_feedOf_0 rfl (lv_at hl 1 rfl) ?_
  refine get_X1_2 hx hb hts in_X3_feedOf_X1 hown hK hz hW hd1 lk_X3_feedOf_0 dX3_feedOf_1 ?_
  refine lv_iconst (v := 1) hx hb dX3_feedOf_4 (by decide) ?_
  refine lv_icmp_ge (tgt := 12) hx hb dX3_feedOf_5 (by decide) (fun c_1 => ?_) (fun c_1 => ?_)
  · have hf := of_t c_1 hf
    refine lv_aload_n hx hb dX3_feedOf_12 rfl (lv_at hl 1 rfl) ?_
    refine get_X1_1 hx hb hts in_X3_feedOf_X1 hown hK hz hW hd1 lk_X3_feedOf_1 dX3_feedOf_13 ?_
    refine lv_iload_n hx hb dX3_feedOf_16 rfl (lv_at hl 2 rfl) ?_
    refine lv_aload_n hx hb dX3_feedOf_17 rfl (lv_at hl 1 rfl) ?_
    refine get_X1_2 hx hb hts in_X3_feedOf_X1 hown hK hz hW hd1 lk_X3_feedOf_0 dX3_feedOf_18 ?_
    obtain ⟨g_2, hf⟩ := of_gd hf
    refine lv_irem hx hb dX3_feedOf_21 g_2 ?_
    refine lv_topi (fun v_3 ev_3 => ?_)
    have hf := of_lt (e := irm x2 (w.1 (3*d1) 2)) ev_3 hf
    obtain ⟨g_4, hf⟩ := of_gd hf
    refine ld_AI48 hx hb hK hz hW (p48_2 hd1) g_4 dX3_feedOf_22 ?_
    refine lv_topi (fun v_5 ev_5 => ?_)
    have hf := of_lt ev_5 hf
    refine lv_aload_n hx hb dX3_feedOf_23 rfl (lv_at hl 0 rfl) ?_
    refine lv_iload_n hx hb dX3_feedOf_24 rfl (lv_at hl 2 rfl) ?_
    refine lv_iconst (v := 1) hx hb dX3_feedOf_25 (by decide) ?_
    refine lv_iadd hx hb dX3_feedOf_26 ?_
    obtain ⟨r_6, hq_7, hf⟩ := of_bd hf
    refine m_goRi (va_runV (As := [.int (x2 + 1)]) (rest := [.int v_5]) ⟨hx, hb, hml, hown, hts⟩ (c_X3_spread l hz (x2 + 1) w hq_7) (cwV 1 hts gX3_feedOf_X3_spread rfl rfl rfl (by decide +kernel) ⟨Nat.le_of_ble_eq_true rfl, Nat.le_of_ble_eq_true rfl⟩) (pre_X3 hK hz hW _) rfl rfl hl.1 rfl (lv_room (Nat.le_of_ble_eq_true rfl)) dX3_feedOf_27 ⟨Nat.le_refl _, Nat.le_refl _⟩) ?_
    refine lv_iadd hx hb dX3_feedOf_30 ?_
    refine lv_aload_n hx hb dX3_feedOf_31 rfl (lv_at hl 0 rfl) ?_
    refine lv_iload_n hx hb dX3_feedOf_32 rfl (lv_at hl 2 rfl) ?_
    obtain ⟨r_8, hq_9, hf⟩ := of_bd hf
    refine m_goRi (va_runV (As := [.int x2]) (rest := [.int (v_5 + r_6)]) ⟨hx, hb, hml, hown, hts⟩ (c_X3_spread l hz x2 w hq_9) (cwV 1 hts gX3_feedOf_X3_spread rfl rfl rfl (by decide +kernel) ⟨Nat.le_of_ble_eq_true rfl, Nat.le_of_ble_eq_true rfl⟩) (pre_X3 hK hz hW _) rfl rfl hl.1 rfl (lv_room (Nat.le_of_ble_eq_true rfl)) dX3_feedOf_33 ⟨Nat.le_refl _, Nat.le_refl _⟩) ?_
    refine lv_isub hx hb dX3_feedOf_36 ?_
    exact hret _ _ _ hf dX3_feedOf_37
  · have hf := of_f c_1 hf
    refine lv_iconst (v := 0) hx hb dX3_feedOf_8 (by decide) ?_
    refine lv_goto (tgt := 37) hx hb dX3_feedOf_9 (by decide) ?_
    exact hret _ _ _ hf dX3_feedOf_37
theorem in_X3_greatestChange_X3 : ∀ w ∈ wsX30, w ∈ wsX3_greatestChange := by decide +kernel
theorem lk_X3_greatestChange_0 : Cond.fieldLink RX3 40 "CamStitch$Hem" "stitches" "I" ∈ wsX3_greatestChange := by decide +kernel
theorem lk_X3_greatestChange_1 : Cond.fieldLink RX3 34 "CamStitch$Hem" "rest" "I" ∈ wsX3_greatestChange := by decide +kernel
theorem lk_X3_greatestChange_2 : Cond.methodLink RX3 51 Lib.Math.abs.name ∈ wsX3_greatestChange := by decide +kernel
theorem lk_X3_greatestChange_3 : Cond.static Lib.Math.abs.name ∈ wsX3_greatestChange := by decide +kernel
theorem lk_X3_greatestChange_4 : Cond.initialized "java/lang/Math" ∈ wsX3_greatestChange := by decide +kernel
theorem lk_X3_greatestChange_5 : Cond.code Lib.Math.abs.name Lib.Math.abs.code 1 (some .int) ∈ wsX3_greatestChange := by decide +kernel
set_option maxHeartbeats 4000000 in
set_option maxRecDepth 100000 in
theorem c_X3_greatestChange (l : Launch) {z : LZ} (hz : IC z)  (w : Mem) {r : Int32} (hf : f_X3_greatestChange w = some r) : Met l yX3_greatestChange wsX3_greatestChange (rm 1 21) (PZ z w [.ref (z.2.1 72)]) (QR (some (.int r))) 0 0 (fun _ => False) := by
  refine mk_Ri (cc := cX3_greatestChange) (maxL := 1) (by decide +kernel) rfl (Nat.le_of_ble_eq_true rfl) ?_
  intro p e s m args below meth c hx hb hml hts hown hK hW Q hret ls hl
  have hl : lv_has ls 1 [(0, .ref (z.2.1 72))] := hl
  unfold f_X3_greatestChange at hf
  refine lv_aload_n hx hb dX3_greatestChange_0 rfl (lv_at hl 0 rfl) ?_
  refine get_X3_4 hx hb hts in_X3_greatestChange_X3 hown hK hz hW lk_X3_greatestChange_0 dX3_greatestChange_1 ?_
  refine lv_iconst (v := 1) hx hb dX3_greatestChange_4 (by decide) ?_
  refine lv_icmp_ge (tgt := 12) hx hb dX3_greatestChange_5 (by decide) (fun c_1 => ?_) (fun c_1 => ?_)
  · have hf := of_t c_1 hf
    refine lv_aload_n hx hb dX3_greatestChange_12 rfl (lv_at hl 0 rfl) ?_
    refine get_X3_3 hx hb hts in_X3_greatestChange_X3 hown hK hz hW lk_X3_greatestChange_1 dX3_greatestChange_13 ?_
    refine va_mabs hx hb (hml.trans hl.1.symm) hown (hts _ lk_X3_greatestChange_2) (hts _ lk_X3_greatestChange_3) (hts _ lk_X3_greatestChange_4) (hts _ lk_X3_greatestChange_5) (Nat.le_of_ble_eq_true rfl) (Nat.le_of_ble_eq_true rfl) (Nat.le_refl _) (Nat.le_refl _) dX3_greatestChange_16 ?_
    refine lv_topi (fun v_2 ev_2 => ?_)
    have hf := of_lt (e := iabs (w.1 72 3)) ev_2 hf
    refine lv_aload_n hx hb dX3_greatestChange_19 rfl (lv_at hl 0 rfl) ?_
    refine get_X3_4 hx hb hts in_X3_greatestChange_X3 hown hK hz hW lk_X3_greatestChange_0 dX3_greatestChange_20 ?_
    refine lv_iadd hx hb dX3_greatestChange_23 ?_
    refine lv_iconst (v := 1) hx hb dX3_greatestChange_24 (by decide) ?_
    refine lv_isub hx hb dX3_greatestChange_25 ?_
    refine lv_aload_n hx hb dX3_greatestChange_26 rfl (lv_at hl 0 rfl) ?_
    refine get_X3_4 hx hb hts in_X3_greatestChange_X3 hown hK hz hW lk_X3_greatestChange_0 dX3_greatestChange_27 ?_
    obtain ⟨g_3, hf⟩ := of_gd hf
    refine lv_idiv hx hb dX3_greatestChange_30 g_3 ?_
    refine lv_topi (fun v_4 ev_4 => ?_)
    have hf := of_lt ev_4 hf
    exact hret _ _ _ hf dX3_greatestChange_31
  · have hf := of_f c_1 hf
    refine lv_iconst (v := 0) hx hb dX3_greatestChange_8 (by decide) ?_
    refine lv_goto (tgt := 31) hx hb dX3_greatestChange_9 (by decide) ?_
    exact hret _ _ _ hf dX3_greatestChange_31
set_option maxHeartbeats 4000000 in
set_option maxRecDepth 100000 in
theorem c_X10_isWithin (l : Launch) {z : LZ} (hz : IC z) (x0 : Int32) (x1 : Int32) (w : Mem) {r : Int32} (hf : f_X10_isWithin x0 x1 = some r) : Met l yX10_isWithin wsX10_isWithin (rm 0 0) (PZ z w [.int x0, .int x1]) (QR (some (.int r))) 0 0 (fun _ => False) := by
  refine mk_Rz (cc := cX10_isWithin) (maxL := 2) (by decide +kernel) rfl (Nat.le_of_ble_eq_true rfl) ?_
  intro p e s m args below meth c hx hb hml hts hown hK hW Q hret ls hl
  have hl : lv_has ls 2 [(0, .int x0), (1, .int x1)] := hl
  unfold f_X10_isWithin at hf
  refine lv_iload_n hx hb dX10_isWithin_0 rfl (lv_at hl 0 rfl) ?_
  refine lv_iload_n hx hb dX10_isWithin_1 rfl (lv_at hl 1 rfl) ?_
  refine lv_ineg hx hb dX10_isWithin_2 ?_
  have J_2 : ∀ (v_1 : Int32) (ls : Array Slot), v_1 = (if x0 < (-x1) then 0 else (if x1 < x0 then 0 else 1)) → lv_has ls 2 [] → W p l e (rm 0 0) s m args below meth c s.heap [] 0 0 Q (F0 m 16 ls [.int v_1]) := by
    intro v_1 ls ev_1 hl
    have hf := of_lt ev_1 hf
    obtain ⟨g_3, hf⟩ := of_gd hf
    exact hret _ _ _ hf (bz_n g_3) dX10_isWithin_16
  refine lv_icmp_lt (tgt := 15) hx hb dX10_isWithin_3 (by decide) (fun c_4 => ?_) (fun c_4 => ?_)
  · refine lv_iconst (v := 0) hx hb dX10_isWithin_15 (by decide) ?_
    exact J_2 _ _ (by rw [if_pos c_4]) (lv_sub hl [] rfl)
  · refine lv_iload_n hx hb dX10_isWithin_6 rfl (lv_at hl 0 rfl) ?_
    refine lv_iload_n hx hb dX10_isWithin_7 rfl (lv_at hl 1 rfl) ?_
    refine lv_icmp_gt (tgt := 15) hx hb dX10_isWithin_8 (by decide) (fun c_5 => ?_) (fun c_5 => ?_)
    · refine lv_iconst (v := 0) hx hb dX10_isWithin_15 (by decide) ?_
      exact J_2 _ _ (by rw [if_neg c_4, if_pos c_5]) (lv_sub hl [] rfl)
    · refine lv_iconst (v := 1) hx hb dX10_isWithin_11 (by decide) ?_
      refine lv_goto (tgt := 16) hx hb dX10_isWithin_12 (by decide) ?_
      exact J_2 _ _ (by rw [if_neg c_4, if_neg c_5]) (lv_sub hl [] rfl)
theorem in_X3_fits_X3 : ∀ w ∈ wsX30, w ∈ wsX3_fits := by decide +kernel
theorem lk_X3_fits_0 : Cond.fieldLink RX3 40 "CamStitch$Hem" "stitches" "I" ∈ wsX3_fits := by decide +kernel
theorem lk_X3_fits_1 : Cond.initialized RX10 ∈ wsX3_fits := by decide +kernel
theorem lk_X3_fits_2 : Cond.static yX10_isWithin ∈ wsX3_fits := by decide +kernel
set_option maxHeartbeats 4000000 in
set_option maxRecDepth 100000 in
theorem c_X3_fits (l : Launch) {z : LZ} (hz : IC z) (d1 : Nat) (hd1 : d1 < 16) (w : Mem) {r : Int32} (hf : f_X3_fits d1 w = some r) : Met l yX3_fits wsX3_fits (rm 3 65) (PZ z w [.ref (z.2.1 72), .ref (z.2.1 (3*d1))]) (QR (some (.int r))) 0 0 (fun _ => False) := by
  refine mk_Rz (cc := cX3_fits) (maxL := 3) (by decide +kernel) rfl (Nat.le_of_ble_eq_true rfl) ?_
  intro p e s m args below meth c hx hb hml hts hown hK hW Q hret ls hl
  have hl : lv_has ls 3 [(0, .ref (z.2.1 72)), (1, .ref (z.2.1 (3*d1)))] := hl
  unfold f_X3_fits at hf
  refine lv_iconst (v := 0) hx hb dX3_fits_0 (by decide) ?_
  refine lv_istore_n (lv' := [(2, .int 0), (0, .ref (z.2.1 72)), (1, .ref (z.2.1 (3*d1)))]) hx hb dX3_fits_1 rfl hl (by decide) rfl (fun ls hl => ?_)
  have L_2 : ∀ (n : Nat) (x2_1 : Int32) (exL_2 : Sum (Int32) (Unit)) (ls : Array Slot), f_X3_fits_L2 w d1 n x2_1 = some exL_2 → lv_has ls 3 [(0, .ref (z.2.1 72)), (1, .ref (z.2.1 (3*d1))), (2, .int x2_1)] → (∀ ret, exL_2 = .inl ret → some (ret) = some r) → (∀ x, exL_2 = .inr x → ∀ (ls : Array Slot), lv_has ls 3 [] → W p l e (rm 3 65) s m args below meth c s.heap [] 0 0 Q (F0 m 32 ls [])) → W p l e (rm 3 65) s m args below meth c s.heap [] 0 0 Q (F0 m 2 ls []) := by
    intro n
    induction n with
    | zero =>
      intro x2_1 exL_2 ls hf
      have hf : (none : Option (Sum (Int32) (Unit))) = some exL_2 := hf
      cases hf
    | succ n ihL_2 =>
      intro x2_1 exL_2 ls hf hl hRL_2 hEL_2
      rw [f_X3_fits_L2_s] at hf
      refine lv_iload_n hx hb dX3_fits_2 rfl (lv_at hl 2 rfl) ?_
      refine lv_aload_n hx hb dX3_fits_3 rfl (lv_at hl 0 rfl) ?_
      refine get_X3_4 hx hb hts in_X3_fits_X3 hown hK hz hW lk_X3_fits_0 dX3_fits_4 ?_
      refine lv_icmp_ge (tgt := 32) hx hb dX3_fits_7 (by decide) (fun c_3 => ?_) (fun c_3 => ?_)
      · have hf := of_t c_3 hf
        exact hEL_2 _ (Option.some.inj hf).symm _ (lv_sub hl [] rfl)
      · have hf := of_f c_3 hf
        refine lv_aload_n hx hb dX3_fits_10 rfl (lv_at hl 0 rfl) ?_
        refine lv_aload_n hx hb dX3_fits_11 rfl (lv_at hl 1 rfl) ?_
        refine lv_iload_n hx hb dX3_fits_12 rfl (lv_at hl 2 rfl) ?_
        obtain ⟨r_4, hq_5, hf⟩ := of_bd hf
        refine m_goRi (va_runV (As := [.ref (z.2.1 (3*d1)), .int x2_1]) (rest := []) ⟨hx, hb, hml, hown, hts⟩ (c_X3_feedOf l hz d1 hd1 x2_1 w hq_5) (cwV 2 hts gX3_fits_X3_feedOf rfl rfl rfl (by decide +kernel) ⟨Nat.le_of_ble_eq_true rfl, Nat.le_of_ble_eq_true rfl⟩) (pre_X3 hK hz hW _) rfl rfl hl.1 rfl (lv_room (Nat.le_of_ble_eq_true rfl)) dX3_fits_13 ⟨Nat.le_refl _, Nat.le_refl _⟩) ?_
        refine lv_bipush (v := 12) hx hb dX3_fits_16 (by decide) ?_
        obtain ⟨r_6, hq_7, hf⟩ := of_bd hf
        refine m_goRi (va_runSN (As := [.int r_4, .int 12]) (rest := []) ⟨hx, hb, hml, hown, hts⟩ (c_X10_isWithin l hz r_4 12 w hq_7) ⟨va_cnB 2 hts gX3_fits_X10_isWithin_n58 rfl rfl rfl (nz_3 hK hz) (hts _ lk_X3_fits_1) (by decide +kernel) ⟨Nat.le_of_ble_eq_true rfl, Nat.le_of_ble_eq_true rfl⟩, hts _ lk_X3_fits_2, trivial⟩ (m_preS hK hW _) rfl rfl hl.1 rfl (lv_room (Nat.le_of_ble_eq_true rfl)) dX3_fits_18 ⟨Nat.le_refl _, Nat.le_refl _⟩) ?_
        refine lv_if_ne (tgt := 26) hx hb dX3_fits_21 (by decide) (fun c_8 => ?_) (fun c_8 => ?_)
        · have hf := of_f c_8 hf
          obtain ⟨x2_9, ex2_9⟩ : ∃ y : Int32, y = x2_1 + 1 := ⟨_, rfl⟩
          have hf := of_lt ex2_9 hf
          refine lv_iinc (v := x2_9) (lv' := [(2, .int x2_9), (0, .ref (z.2.1 72)), (1, .ref (z.2.1 (3*d1)))]) hx hb dX3_fits_26 hl (k := 2) rfl (by rw [ex2_9]; rfl) (by decide) rfl (fun ls hl => ?_)
          refine lv_goto (tgt := 2) hx hb dX3_fits_29 (by decide) ?_
          exact ihL_2 _ _ _ hf (lv_sub hl [1, 2, 0] rfl) hRL_2 hEL_2
        · have hf := of_t c_8 hf
          refine lv_iconst (v := 0) hx hb dX3_fits_24 (by decide) ?_
          exact hret _ _ _ (hRL_2 _ (Option.some.inj hf).symm) rfl dX3_fits_25
  obtain ⟨ex_11, hq_10, hf⟩ := of_bd hf
  refine L_2 FU _ _ _ hq_10 (lv_sub hl [1, 2, 0] rfl) (fun ret he => by subst he; exact hf) (fun x he ls hl => ?_)
  subst he
  have hf := of_sr hf
  have hl : lv_has ls 3 [] := hl
  refine lv_iconst (v := 1) hx hb dX3_fits_32 (by decide) ?_
  exact hret _ _ _ hf rfl dX3_fits_33
theorem in_X3_judged_X1 : ∀ w ∈ wsX10, w ∈ wsX3_judged := by decide +kernel
theorem in_X3_judged_X3 : ∀ w ∈ wsX30, w ∈ wsX3_judged := by decide +kernel
theorem in_X3_judged_X9 : ∀ w ∈ wsX90, w ∈ wsX3_judged := by decide +kernel
theorem lk_X3_judged_0 : Cond.fieldLink RX3 37 "CamStitch$Disc" "stitches" "I" ∈ wsX3_judged := by decide +kernel
theorem lk_X3_judged_1 : Cond.fieldLink RX3 40 "CamStitch$Hem" "stitches" "I" ∈ wsX3_judged := by decide +kernel
theorem lk_X3_judged_2 : Cond.fieldLink RX3 65 "CamStitch$Tape" "length" "I" ∈ wsX3_judged := by decide +kernel
theorem lk_X3_judged_3 : Cond.fieldLink RX3 70 "CamStitch$Tape" "row" "[J" ∈ wsX3_judged := by decide +kernel
theorem lk_X3_judged_4 : Cond.initialized RX10 ∈ wsX3_judged := by decide +kernel
theorem lk_X3_judged_5 : Cond.static yX10_isWithin ∈ wsX3_judged := by decide +kernel
theorem lk_X3_judged_6 : Cond.fieldLink RX3 44 "CamStitch$Disc" "feeds" "[I" ∈ wsX3_judged := by decide +kernel
theorem lk_X3_judged_7 : Cond.fieldLink RX3 9 "CamStitch$Hem" "lengths" "[I" ∈ wsX3_judged := by decide +kernel
set_option maxHeartbeats 4000000 in
set_option maxRecDepth 100000 in
theorem c_X3_judged (l : Launch) {z : LZ} (hz : IC z) (d1 : Nat) (hd1 : d1 < 6) (x2 : Int32) (d3 : Nat) (hd3 : d3 < 16) (w : Mem) {r : Int32} (hf : f_X3_judged d1 x2 d3 w = some r) : Met l yX3_judged wsX3_judged (rm 2 41) (PZ z w [.ref (z.2.1 72), .ref (z.2.1 (48+2*d1)), .int x2, .ref (z.2.1 (3*d3))]) (QR (some (.int r))) 0 0 (fun _ => False) := by
  refine mk_Ri (cc := cX3_judged) (maxL := 8) (by decide +kernel) rfl (Nat.le_of_ble_eq_true rfl) ?_
  intro p e s m args below meth c hx hb hml hts hown hK hW Q hret ls hl
  have hl : lv_has ls 8 [(0, .ref (z.2.1 72)), (1, .ref (z.2.1 (48+2*d1))), (2, .int x2), (3, .ref (z.2.1 (3*d3)))] := hl
  unfold f_X3_judged at hf
  refine lv_aload_n hx hb dX3_judged_0 rfl (lv_at hl 3 rfl) ?_
  refine get_X1_2 hx hb hts in_X3_judged_X1 hown hK hz hW hd3 lk_X3_judged_0 dX3_judged_1 ?_
  refine lv_iconst (v := 1) hx hb dX3_judged_4 (by decide) ?_
  refine lv_icmp_ge (tgt := 11) hx hb dX3_judged_5 (by decide) (fun c_1 => ?_) (fun c_1 => ?_)
  · have hf := of_t c_1 hf
    refine lv_aload_n hx hb dX3_judged_11 rfl (lv_at hl 0 rfl) ?_
    obtain ⟨r_2, hq_3, hf⟩ := of_bd hf
    refine m_goRi (va_runV (As := []) (rest := []) ⟨hx, hb, hml, hown, hts⟩ (c_X3_greatestChange l hz w hq_3) (cwV 0 hts gX3_judged_X3_greatestChange rfl rfl rfl (by decide +kernel) ⟨Nat.le_of_ble_eq_true rfl, Nat.le_of_ble_eq_true rfl⟩) (pre_X3 hK hz hW _) rfl rfl hl.1 rfl (lv_room (Nat.le_of_ble_eq_true rfl)) dX3_judged_12 ⟨Nat.le_refl _, Nat.le_refl _⟩) ?_
    refine lv_istore (lv' := [(4, .int r_2), (0, .ref (z.2.1 72)), (1, .ref (z.2.1 (48+2*d1))), (2, .int x2), (3, .ref (z.2.1 (3*d3)))]) hx hb dX3_judged_15 hl (by decide) rfl (fun ls hl => ?_)
    refine lv_iconst (v := 0) hx hb dX3_judged_17 (by decide) ?_
    refine lv_istore (lv' := [(5, .int 0), (4, .int r_2), (0, .ref (z.2.1 72)), (1, .ref (z.2.1 (48+2*d1))), (2, .int x2), (3, .ref (z.2.1 (3*d3)))]) hx hb dX3_judged_18 hl (by decide) rfl (fun ls hl => ?_)
    refine lv_iconst (v := 0) hx hb dX3_judged_20 (by decide) ?_
    refine lv_istore (lv' := [(6, .int 0), (5, .int 0), (4, .int r_2), (0, .ref (z.2.1 72)), (1, .ref (z.2.1 (48+2*d1))), (2, .int x2), (3, .ref (z.2.1 (3*d3)))]) hx hb dX3_judged_21 hl (by decide) rfl (fun ls hl => ?_)
    have L_6 : ∀ (n : Nat) (x5_4 : Int32) (x6_5 : Int32) (exL_6 : Sum (Int32) (Int32)) (ls : Array Slot), f_X3_judged_L23 w d1 d3 r_2 n x5_4 x6_5 = some exL_6 → lv_has ls 8 [(0, .ref (z.2.1 72)), (1, .ref (z.2.1 (48+2*d1))), (2, .int x2), (3, .ref (z.2.1 (3*d3))), (4, .int r_2), (5, .int x5_4), (6, .int x6_5)] → (∀ ret, exL_6 = .inl ret → some (ret) = some r) → (∀ x, exL_6 = .inr x → ∀ (ls : Array Slot), lv_has ls 8 [(0, .ref (z.2.1 72)), (2, .int x2), (5, .int x)] → W p l e (rm 2 41) s m args below meth c s.heap [] 0 0 Q (F0 m 103 ls [])) → W p l e (rm 2 41) s m args below meth c s.heap [] 0 0 Q (F0 m 23 ls []) := by
      intro n
      induction n with
      | zero =>
        intro x5_4 x6_5 exL_6 ls hf
        have hf : (none : Option (Sum (Int32) (Int32))) = some exL_6 := hf
        cases hf
      | succ n ihL_6 =>
        intro x5_4 x6_5 exL_6 ls hf hl hRL_6 hEL_6
        rw [f_X3_judged_L23_s] at hf
        refine lv_iload hx hb dX3_judged_23 (lv_at hl 6 rfl) ?_
        refine lv_aload_n hx hb dX3_judged_25 rfl (lv_at hl 0 rfl) ?_
        refine get_X3_4 hx hb hts in_X3_judged_X3 hown hK hz hW lk_X3_judged_1 dX3_judged_26 ?_
        refine lv_icmp_ge (tgt := 103) hx hb dX3_judged_29 (by decide) (fun c_7 => ?_) (fun c_7 => ?_)
        · have hf := of_t c_7 hf
          exact hEL_6 _ (Option.some.inj hf).symm _ (lv_sub hl [0, 2, 5] rfl)
        · have hf := of_f c_7 hf
          refine lv_iload hx hb dX3_judged_32 (lv_at hl 6 rfl) ?_
          refine lv_aload_n hx hb dX3_judged_34 rfl (lv_at hl 1 rfl) ?_
          refine get_X9_3 hx hb hts in_X3_judged_X9 hown hK hz hW hd1 lk_X3_judged_2 dX3_judged_35 ?_
          refine lv_icmp_lt (tgt := 44) hx hb dX3_judged_38 (by decide) (fun c_8 => ?_) (fun c_8 => ?_)
          · have hf := of_t c_8 hf
            refine lv_aload_n hx hb dX3_judged_44 rfl (lv_at hl 1 rfl) ?_
            refine get_X9_0 hx hb hts in_X3_judged_X9 hown hK hz hW hd1 lk_X3_judged_3 dX3_judged_45 ?_
            refine lv_iload hx hb dX3_judged_48 (lv_at hl 6 rfl) ?_
            obtain ⟨g_9, hf⟩ := of_gd hf
            refine ld_AL400 hx hb hK hz hW hd1 g_9 dX3_judged_50 ?_
            refine lv_topl (fun v_10 ev_10 => ?_)
            have hf := of_lt ev_10 hf
            refine lv_l2i hx hb dX3_judged_51 rfl ?_
            refine lv_topi (fun v_11 ev_11 => ?_)
            have hf := of_lt ev_11 hf
            refine lv_istore (lv' := [(7, .int v_11), (0, .ref (z.2.1 72)), (1, .ref (z.2.1 (48+2*d1))), (2, .int x2), (3, .ref (z.2.1 (3*d3))), (4, .int r_2), (5, .int x5_4), (6, .int x6_5)]) hx hb dX3_judged_52 hl (by decide) rfl (fun ls hl => ?_)
            refine lv_iload hx hb dX3_judged_54 (lv_at hl 0 rfl) ?_
            refine lv_bipush (v := 12) hx hb dX3_judged_56 (by decide) ?_
            obtain ⟨r_12, hq_13, hf⟩ := of_bd hf
            refine m_goRi (va_runSN (As := [.int v_11, .int 12]) (rest := []) ⟨hx, hb, hml, hown, hts⟩ (c_X10_isWithin l hz v_11 12 w hq_13) ⟨va_cnB 2 hts gX3_judged_X10_isWithin_n58 rfl rfl rfl (nz_3 hK hz) (hts _ lk_X3_judged_4) (by decide +kernel) ⟨Nat.le_of_ble_eq_true rfl, Nat.le_of_ble_eq_true rfl⟩, hts _ lk_X3_judged_5, trivial⟩ (m_preS hK hW _) rfl rfl hl.1 rfl (lv_room (Nat.le_of_ble_eq_true rfl)) dX3_judged_58 ⟨Nat.le_refl _, Nat.le_refl _⟩) ?_
            refine lv_if_eq (tgt := 87) hx hb dX3_judged_61 (by decide) (fun c_14 => ?_) (fun c_14 => ?_)
            · have hf := of_t c_14 hf
              refine lv_iload hx hb dX3_judged_87 (lv_at hl 7 rfl) ?_
              exact hret _ _ _ (hRL_6 _ (Option.some.inj hf).symm) dX3_judged_89
            · have hf := of_f c_14 hf
              refine lv_iload hx hb dX3_judged_64 (lv_at hl 0 rfl) ?_
              refine lv_aload_n hx hb dX3_judged_66 rfl (lv_at hl 4 rfl) ?_
              refine get_X1_1 hx hb hts in_X3_judged_X1 hown hK hz hW hd3 lk_X3_judged_6 dX3_judged_67 ?_
              refine lv_iload hx hb dX3_judged_70 (lv_at hl 7 rfl) ?_
              refine lv_aload_n hx hb dX3_judged_72 rfl (lv_at hl 4 rfl) ?_
              refine get_X1_2 hx hb hts in_X3_judged_X1 hown hK hz hW hd3 lk_X3_judged_0 dX3_judged_73 ?_
              obtain ⟨g_15, hf⟩ := of_gd hf
              refine lv_irem hx hb dX3_judged_76 g_15 ?_
              refine lv_topi (fun v_16 ev_16 => ?_)
              have hf := of_lt (e := irm x6_5 (w.1 (3*d3) 2)) ev_16 hf
              obtain ⟨g_17, hf⟩ := of_gd hf
              refine ld_AI48 hx hb hK hz hW (p48_2 hd3) g_17 dX3_judged_77 ?_
              refine lv_topi (fun v_18 ev_18 => ?_)
              have hf := of_lt ev_18 hf
              refine lv_isub hx hb dX3_judged_78 ?_
              refine lv_iload hx hb dX3_judged_79 (lv_at hl 5 rfl) ?_
              obtain ⟨r_19, hq_20, hf⟩ := of_bd hf
              refine m_goRi (va_runSN (As := [.int (v_11 - v_18), .int r_2]) (rest := []) ⟨hx, hb, hml, hown, hts⟩ (c_X10_isWithin l hz (v_11 - v_18) r_2 w hq_20) ⟨va_cnB 2 hts gX3_judged_X10_isWithin_n58 rfl rfl rfl (nz_3 hK hz) (hts _ lk_X3_judged_4) (by decide +kernel) ⟨Nat.le_of_ble_eq_true rfl, Nat.le_of_ble_eq_true rfl⟩, hts _ lk_X3_judged_5, trivial⟩ (m_preS hK hW _) rfl rfl hl.1 rfl (lv_room (Nat.le_of_ble_eq_true rfl)) dX3_judged_81 ⟨Nat.le_refl _, Nat.le_refl _⟩) ?_
              refine lv_if_ne (tgt := 90) hx hb dX3_judged_84 (by decide) (fun c_21 => ?_) (fun c_21 => ?_)
              · have hf := of_f c_21 hf
                refine lv_iload hx hb dX3_judged_90 (lv_at hl 6 rfl) ?_
                refine lv_iload hx hb dX3_judged_92 (lv_at hl 0 rfl) ?_
                refine lv_iadd hx hb dX3_judged_94 ?_
                refine lv_topi (fun v_22 ev_22 => ?_)
                have hf := of_lt ev_22 hf
                refine lv_istore (lv' := [(5, .int v_22), (7, .int v_11), (0, .ref (z.2.1 72)), (1, .ref (z.2.1 (48+2*d1))), (2, .int x2), (3, .ref (z.2.1 (3*d3))), (4, .int r_2), (6, .int x6_5)]) hx hb dX3_judged_95 hl (by decide) rfl (fun ls hl => ?_)
                obtain ⟨x6_23, ex6_23⟩ : ∃ y : Int32, y = x6_5 + 1 := ⟨_, rfl⟩
                have hf := of_lt ex6_23 hf
                refine lv_iinc (v := x6_23) (lv' := [(6, .int x6_23), (5, .int v_22), (7, .int v_11), (0, .ref (z.2.1 72)), (1, .ref (z.2.1 (48+2*d1))), (2, .int x2), (3, .ref (z.2.1 (3*d3))), (4, .int r_2)]) hx hb dX3_judged_97 hl (k := 7) rfl (by rw [ex6_23]; rfl) (by decide) rfl (fun ls hl => ?_)
                refine lv_goto (tgt := 23) hx hb dX3_judged_100 (by decide) ?_
                exact ihL_6 _ _ _ _ hf (lv_sub hl [3, 4, 5, 6, 7, 1, 0] rfl) hRL_6 hEL_6
              · have hf := of_t c_21 hf
                refine lv_iload hx hb dX3_judged_87 (lv_at hl 7 rfl) ?_
                exact hret _ _ _ (hRL_6 _ (Option.some.inj hf).symm) dX3_judged_89
          · have hf := of_f c_8 hf
            refine lv_bipush (v := (-13)) hx hb dX3_judged_41 (by decide) ?_
            exact hret _ _ _ (hRL_6 _ (Option.some.inj hf).symm) dX3_judged_43
    obtain ⟨ex_25, hq_24, hf⟩ := of_bd hf
    refine L_6 FU _ _ _ _ hq_24 (lv_sub hl [3, 4, 5, 6, 2, 1, 0] rfl) (fun ret he => by subst he; exact hf) (fun x he ls hl => ?_)
    subst he
    obtain ⟨x5_26, ex5_26⟩ : ∃ y, y = x := ⟨_, rfl⟩
    subst ex5_26
    have hf := of_sr hf
    have hl : lv_has ls 8 [(0, .ref (z.2.1 72)), (2, .int x2), (5, .int x5_26)] := hl
    refine lv_iload hx hb dX3_judged_103 (lv_at hl 2 rfl) ?_
    refine lv_aload_n hx hb dX3_judged_105 rfl (lv_at hl 0 rfl) ?_
    refine get_X3_0 hx hb hts in_X3_judged_X3 hown hK hz hW lk_X3_judged_7 dX3_judged_106 ?_
    refine lv_iload_n hx hb dX3_judged_109 rfl (lv_at hl 1 rfl) ?_
    obtain ⟨g_27, hf⟩ := of_gd hf
    refine ld_A73 hx hb hK hz hW g_27 dX3_judged_110 ?_
    have J_29 : ∀ (v_28 : Int32) (ls : Array Slot), v_28 = (if x5_26 = (w.1 73 x2.toNatClampNeg) then 9999 else (w.1 72 4)) → lv_has ls 8 [] → W p l e (rm 2 41) s m args below meth c s.heap [] 0 0 Q (F0 m 124 ls [.int v_28]) := by
      intro v_28 ls ev_28 hl
      have hf := of_lt ev_28 hf
      exact hret _ _ _ hf dX3_judged_124
    refine lv_icmp_ne (tgt := 120) hx hb dX3_judged_111 (by decide) (fun c_30 => ?_) (fun c_30 => ?_)
    · refine lv_aload_n hx hb dX3_judged_120 rfl (lv_at hl 0 rfl) ?_
      refine get_X3_4 hx hb hts in_X3_judged_X3 hown hK hz hW lk_X3_judged_1 dX3_judged_121 ?_
      exact J_29 _ _ (by rw [if_neg c_30]) (lv_sub hl [] rfl)
    · refine lv_sipush (v := 9999) hx hb dX3_judged_114 (by decide) ?_
      refine lv_goto (tgt := 124) hx hb dX3_judged_117 (by decide) ?_
      exact J_29 _ _ (by rw [if_pos c_30]) (lv_sub hl [] rfl)
  · have hf := of_f c_1 hf
    refine lv_bipush (v := (-3)) hx hb dX3_judged_8 (by decide) ?_
    exact hret _ _ _ hf dX3_judged_10
set_option maxHeartbeats 4000000 in
set_option maxRecDepth 100000 in
theorem c_X10_isShelf (l : Launch) {z : LZ} (hz : IC z) (x0 : Int32) (w : Mem) {r : Int32} (hf : f_X10_isShelf x0 = some r) : Met l yX10_isShelf wsX10_isShelf (rm 0 0) (PZ z w [.int x0]) (QR (some (.int r))) 0 0 (fun _ => False) := by
  refine mk_Rz (cc := cX10_isShelf) (maxL := 1) (by decide +kernel) rfl (Nat.le_of_ble_eq_true rfl) ?_
  intro p e s m args below meth c hx hb hml hts hown hK hW Q hret ls hl
  have hl : lv_has ls 1 [(0, .int x0)] := hl
  unfold f_X10_isShelf at hf
  refine lv_iload_n hx hb dX10_isShelf_0 rfl (lv_at hl 0 rfl) ?_
  have J_2 : ∀ (v_1 : Int32) (ls : Array Slot), v_1 = (if x0 < 0 then 0 else (if 8 ≤ x0 then 0 else 1)) → lv_has ls 1 [] → W p l e (rm 0 0) s m args below meth c s.heap [] 0 0 Q (F0 m 15 ls [.int v_1]) := by
    intro v_1 ls ev_1 hl
    have hf := of_lt ev_1 hf
    obtain ⟨g_3, hf⟩ := of_gd hf
    exact hret _ _ _ hf (bz_n g_3) dX10_isShelf_15
  refine lv_if_lt (tgt := 14) hx hb dX10_isShelf_1 (by decide) (fun c_4 => ?_) (fun c_4 => ?_)
  · refine lv_iconst (v := 0) hx hb dX10_isShelf_14 (by decide) ?_
    exact J_2 _ _ (by rw [if_pos c_4]) (lv_sub hl [] rfl)
  · refine lv_iload_n hx hb dX10_isShelf_4 rfl (lv_at hl 0 rfl) ?_
    refine lv_bipush (v := 8) hx hb dX10_isShelf_5 (by decide) ?_
    refine lv_icmp_ge (tgt := 14) hx hb dX10_isShelf_7 (by decide) (fun c_5 => ?_) (fun c_5 => ?_)
    · refine lv_iconst (v := 0) hx hb dX10_isShelf_14 (by decide) ?_
      exact J_2 _ _ (by rw [if_neg c_4, if_pos c_5]) (lv_sub hl [] rfl)
    · refine lv_iconst (v := 1) hx hb dX10_isShelf_10 (by decide) ?_
      refine lv_goto (tgt := 15) hx hb dX10_isShelf_11 (by decide) ?_
      exact J_2 _ _ (by rw [if_neg c_4, if_neg c_5]) (lv_sub hl [] rfl)
theorem lk_X4_isStep_0 : Cond.initialized RX10 ∈ wsX4_isStep := by decide +kernel
theorem lk_X4_isStep_1 : Cond.static yX10_isShelf ∈ wsX4_isStep := by decide +kernel
set_option maxHeartbeats 4000000 in
set_option maxRecDepth 100000 in
theorem c_X4_isStep (l : Launch) {z : LZ} (hz : IC z) (x0 : Int32) (x1 : Int32) (w : Mem) {r : Int32} (hf : f_X4_isStep x0 x1 = some r) : Met l yX4_isStep wsX4_isStep (rm 1 20) (PZ z w [.int x0, .int x1]) (QR (some (.int r))) 0 0 (fun _ => False) := by
  refine mk_Rz (cc := cX4_isStep) (maxL := 2) (by decide +kernel) rfl (Nat.le_of_ble_eq_true rfl) ?_
  intro p e s m args below meth c hx hb hml hts hown hK hW Q hret ls hl
  have hl : lv_has ls 2 [(0, .int x0), (1, .int x1)] := hl
  unfold f_X4_isStep at hf
  refine lv_iload_n hx hb dX4_isStep_0 rfl (lv_at hl 0 rfl) ?_
  by_cases c_1 : x0 = 0
  · have hf := of_t c_1 hf
    refine lv_tableIn (off := 31) (tgt := 32) hx hb dX4_isStep_1 (by rw [c_1]; decide) (by rw [c_1]; decide) (by rw [c_1]; rfl) (by decide) ?_
    refine lv_iload_n hx hb dX4_isStep_32 rfl (lv_at hl 1 rfl) ?_
    obtain ⟨r_2, hq_3, hf⟩ := of_bd hf
    refine m_goRi (va_runSN (As := [.int x1]) (rest := []) ⟨hx, hb, hml, hown, hts⟩ (c_X10_isShelf l hz x1 w hq_3) ⟨va_cnB 1 hts gX4_isStep_X10_isShelf_n18 rfl rfl rfl (nz_4 hK hz) (hts _ lk_X4_isStep_0) (by decide +kernel) ⟨Nat.le_of_ble_eq_true rfl, Nat.le_of_ble_eq_true rfl⟩, hts _ lk_X4_isStep_1, trivial⟩ (m_preS hK hW _) rfl rfl hl.1 rfl (lv_room (Nat.le_of_ble_eq_true rfl)) dX4_isStep_33 ⟨Nat.le_refl _, Nat.le_refl _⟩) ?_
    obtain ⟨g_4, hf⟩ := of_gd hf
    exact hret _ _ _ hf (bz_n g_4) dX4_isStep_36
  have hf := of_f c_1 hf
  by_cases c_5 : x0 = 1
  · have hf := of_t c_5 hf
    refine lv_tableIn (off := 36) (tgt := 37) hx hb dX4_isStep_1 (by rw [c_5]; decide) (by rw [c_5]; decide) (by rw [c_5]; rfl) (by decide) ?_
    refine lv_iload_n hx hb dX4_isStep_37 rfl (lv_at hl 1 rfl) ?_
    refine lv_iconst (v := 1) hx hb dX4_isStep_38 (by decide) ?_
    have J_7 : ∀ (v_6 : Int32) (ls : Array Slot), v_6 = (if x1 < 1 then 0 else (if 200 < x1 then 0 else 1)) → lv_has ls 2 [] → W p l e (rm 1 20) s m args below meth c s.heap [] 0 0 Q (F0 m 54 ls [.int v_6]) := by
      intro v_6 ls ev_6 hl
      have hf := of_lt ev_6 hf
      obtain ⟨g_8, hf⟩ := of_gd hf
      exact hret _ _ _ hf (bz_n g_8) dX4_isStep_54
    refine lv_icmp_lt (tgt := 53) hx hb dX4_isStep_39 (by decide) (fun c_9 => ?_) (fun c_9 => ?_)
    · refine lv_iconst (v := 0) hx hb dX4_isStep_53 (by decide) ?_
      exact J_7 _ _ (by rw [if_pos c_9]) (lv_sub hl [] rfl)
    · refine lv_iload_n hx hb dX4_isStep_42 rfl (lv_at hl 1 rfl) ?_
      refine lv_sipush (v := 200) hx hb dX4_isStep_43 (by decide) ?_
      refine lv_icmp_gt (tgt := 53) hx hb dX4_isStep_46 (by decide) (fun c_10 => ?_) (fun c_10 => ?_)
      · refine lv_iconst (v := 0) hx hb dX4_isStep_53 (by decide) ?_
        exact J_7 _ _ (by rw [if_neg c_9, if_pos c_10]) (lv_sub hl [] rfl)
      · refine lv_iconst (v := 1) hx hb dX4_isStep_49 (by decide) ?_
        refine lv_goto (tgt := 54) hx hb dX4_isStep_50 (by decide) ?_
        exact J_7 _ _ (by rw [if_neg c_9, if_neg c_10]) (lv_sub hl [] rfl)
  have hf := of_f c_5 hf
  by_cases c_11 : x0 = 2
  · have hf := of_t c_11 hf
    refine lv_tableIn (off := 54) (tgt := 55) hx hb dX4_isStep_1 (by rw [c_11]; decide) (by rw [c_11]; decide) (by rw [c_11]; rfl) (by decide) ?_
    refine lv_iload_n hx hb dX4_isStep_55 rfl (lv_at hl 1 rfl) ?_
    refine lv_iconst (v := 1) hx hb dX4_isStep_56 (by decide) ?_
    have J_13 : ∀ (v_12 : Int32) (ls : Array Slot), v_12 = (if x1 < 1 then 0 else (if 3 < x1 then 0 else 1)) → lv_has ls 2 [] → W p l e (rm 1 20) s m args below meth c s.heap [] 0 0 Q (F0 m 70 ls [.int v_12]) := by
      intro v_12 ls ev_12 hl
      have hf := of_lt ev_12 hf
      obtain ⟨g_14, hf⟩ := of_gd hf
      exact hret _ _ _ hf (bz_n g_14) dX4_isStep_70
    refine lv_icmp_lt (tgt := 69) hx hb dX4_isStep_57 (by decide) (fun c_15 => ?_) (fun c_15 => ?_)
    · refine lv_iconst (v := 0) hx hb dX4_isStep_69 (by decide) ?_
      exact J_13 _ _ (by rw [if_pos c_15]) (lv_sub hl [] rfl)
    · refine lv_iload_n hx hb dX4_isStep_60 rfl (lv_at hl 1 rfl) ?_
      refine lv_iconst (v := 3) hx hb dX4_isStep_61 (by decide) ?_
      refine lv_icmp_gt (tgt := 69) hx hb dX4_isStep_62 (by decide) (fun c_16 => ?_) (fun c_16 => ?_)
      · refine lv_iconst (v := 0) hx hb dX4_isStep_69 (by decide) ?_
        exact J_13 _ _ (by rw [if_neg c_15, if_pos c_16]) (lv_sub hl [] rfl)
      · refine lv_iconst (v := 1) hx hb dX4_isStep_65 (by decide) ?_
        refine lv_goto (tgt := 70) hx hb dX4_isStep_66 (by decide) ?_
        exact J_13 _ _ (by rw [if_neg c_15, if_neg c_16]) (lv_sub hl [] rfl)
  have hf := of_f c_11 hf
  by_cases c_17 : x0 = 3
  · have hf := of_t c_17 hf
    refine lv_tableIn (off := 70) (tgt := 71) hx hb dX4_isStep_1 (by rw [c_17]; decide) (by rw [c_17]; decide) (by rw [c_17]; rfl) (by decide) ?_
    refine lv_iload_n hx hb dX4_isStep_71 rfl (lv_at hl 1 rfl) ?_
    have J_19 : ∀ (v_18 : Int32) (ls : Array Slot), v_18 = (if x1 = 0 then 1 else 0) → lv_has ls 2 [] → W p l e (rm 1 20) s m args below meth c s.heap [] 0 0 Q (F0 m 80 ls [.int v_18]) := by
      intro v_18 ls ev_18 hl
      have hf := of_lt ev_18 hf
      obtain ⟨g_20, hf⟩ := of_gd hf
      exact hret _ _ _ hf (bz_n g_20) dX4_isStep_80
    refine lv_if_ne (tgt := 79) hx hb dX4_isStep_72 (by decide) (fun c_21 => ?_) (fun c_21 => ?_)
    · refine lv_iconst (v := 0) hx hb dX4_isStep_79 (by decide) ?_
      exact J_19 _ _ (by rw [if_neg c_21]) (lv_sub hl [] rfl)
    · refine lv_iconst (v := 1) hx hb dX4_isStep_75 (by decide) ?_
      refine lv_goto (tgt := 80) hx hb dX4_isStep_76 (by decide) ?_
      exact J_19 _ _ (by rw [if_pos c_21]) (lv_sub hl [] rfl)
  have hf := of_f c_17 hf
  refine lv_tableOut (tgt := 81) hx hb dX4_isStep_1 (by have qc_1 := lv_neT c_1 (show (0 : Int32).toInt = 0 by decide); have qc_5 := lv_neT c_5 (show (1 : Int32).toInt = 1 by decide); have qc_11 := lv_neT c_11 (show (2 : Int32).toInt = 2 by decide); have qc_17 := lv_neT c_17 (show (3 : Int32).toInt = 3 by decide); omega) (by decide) ?_
  refine lv_iconst (v := 0) hx hb dX4_isStep_81 (by decide) ?_
  exact hret _ _ _ hf rfl dX4_isStep_82
theorem in_X5_forget_X5 : ∀ w ∈ wsX50, w ∈ wsX5_forget := by decide +kernel
theorem lk_X5_forget_0 : Cond.fieldLink RX5 18 "CamStitch$Pattern" "points" "I" ∈ wsX5_forget := by decide +kernel
theorem lk_X5_forget_1 : Cond.fieldLink RX5 22 "CamStitch$Pattern" "advance" "I" ∈ wsX5_forget := by decide +kernel
set_option maxHeartbeats 4000000 in
set_option maxRecDepth 100000 in
theorem c_X5_forget (l : Launch) {z : LZ} (hz : IC z) (d0 : Nat) (hd0 : d0 < 2) (w : Mem) {w' : Mem} (hf : f_X5_forget d0 w = some w') : Met l yX5_forget wsX5_forget (rm 0 0) (PZ z w [.ref (z.2.1 (60+3*d0))]) (QW z none w') 0 0 (az z) := by
  refine mk_Wv (cc := cX5_forget) (maxL := 1) (by decide +kernel) rfl (Nat.le_of_ble_eq_true rfl) ?_
  intro p e s m args below meth c hx hb hml hts hown hK hW Q hret ls hl
  have hl : lv_has ls 1 [(0, .ref (z.2.1 (60+3*d0)))] := hl
  unfold f_X5_forget at hf
  have START : ∀ (H : Heap) (locs : List Loc), hd z w H → va_S (az z) s.heap H locs → W p l e (rm 0 0) s m args below meth c H locs 0 0 Q (F0 m 0 ls []) := by
    intro H locs hW hS
    refine lv_aload_n hx hb dX5_forget_0 rfl (lv_at hl 0 rfl) ?_
    refine lv_iconst (v := 0) hx hb dX5_forget_1 (by decide) ?_
    refine put_X5_2 hx hb hts in_X5_forget_X5 hown hK hz hW hS hd0 lk_X5_forget_0 dX5_forget_2 (fun H locs hW hS => ?_)
    obtain ⟨w_1, ew_1⟩ : ∃ y : Mem, y = mS w (60+3*d0) 2 0 := ⟨_, rfl⟩
    have hW : hd z w_1 H := by rw [ew_1]; exact hW
    have hf := of_lt ew_1 hf
    refine lv_aload_n hx hb dX5_forget_5 rfl (lv_at hl 0 rfl) ?_
    refine lv_iconst (v := 0) hx hb dX5_forget_6 (by decide) ?_
    refine put_X5_3 hx hb hts in_X5_forget_X5 hown hK hz hW hS hd0 lk_X5_forget_1 dX5_forget_7 (fun H locs hW hS => ?_)
    obtain ⟨w_2, ew_2⟩ : ∃ y : Mem, y = mS w_1 (60+3*d0) 3 0 := ⟨_, rfl⟩
    have hW : hd z w_2 H := by rw [ew_2]; exact hW
    have hf := of_lt ew_2 hf
    exact hret _ _ _ _ _ hf hW hS dX5_forget_10
  exact START _ _ hW va_S.rf
theorem in_X5_become_X5 : ∀ w ∈ wsX50, w ∈ wsX5_become := by decide +kernel
theorem lk_X5_become_0 : Cond.fieldLink RX5 9 "CamStitch$Pattern" "xs" "[I" ∈ wsX5_become := by decide +kernel
theorem lk_X5_become_1 : Cond.methodLink RX5 25 arraycopyName ∈ wsX5_become := by decide +kernel
theorem lk_X5_become_2 : Cond.native arraycopyName ∈ wsX5_become := by decide +kernel
theorem lk_X5_become_3 : Cond.static arraycopyName ∈ wsX5_become := by decide +kernel
theorem lk_X5_become_4 : Cond.initialized "java/lang/System" ∈ wsX5_become := by decide +kernel
theorem lk_X5_become_5 : Cond.fieldLink RX5 15 "CamStitch$Pattern" "ys" "[I" ∈ wsX5_become := by decide +kernel
theorem lk_X5_become_6 : Cond.fieldLink RX5 18 "CamStitch$Pattern" "points" "I" ∈ wsX5_become := by decide +kernel
theorem lk_X5_become_7 : Cond.fieldLink RX5 22 "CamStitch$Pattern" "advance" "I" ∈ wsX5_become := by decide +kernel
set_option maxHeartbeats 4000000 in
set_option maxRecDepth 100000 in
theorem c_X5_become (l : Launch) {z : LZ} (hz : IC z) (d0 : Nat) (hd0 : d0 < 2) (d1 : Nat) (hd1 : d1 < 2) (w : Mem) {w' : Mem} (hf : f_X5_become d0 d1 w = some w') : Met l yX5_become wsX5_become (rm 1 60) (PZ z w [.ref (z.2.1 (60+3*d0)), .ref (z.2.1 (60+3*d1))]) (QW z none w') 0 0 (az z) := by
  refine mk_Wv (cc := cX5_become) (maxL := 2) (by decide +kernel) rfl (Nat.le_of_ble_eq_true rfl) ?_
  intro p e s m args below meth c hx hb hml hts hown hK hW Q hret ls hl
  have hl : lv_has ls 2 [(0, .ref (z.2.1 (60+3*d0))), (1, .ref (z.2.1 (60+3*d1)))] := hl
  unfold f_X5_become at hf
  have START : ∀ (H : Heap) (locs : List Loc), hd z w H → va_S (az z) s.heap H locs → W p l e (rm 1 60) s m args below meth c H locs 0 0 Q (F0 m 0 ls []) := by
    intro H locs hW hS
    refine lv_aload_n hx hb dX5_become_0 rfl (lv_at hl 1 rfl) ?_
    refine get_X5_0 hx hb hts in_X5_become_X5 hown hK hz hW hd1 lk_X5_become_0 dX5_become_1 ?_
    refine lv_iconst (v := 0) hx hb dX5_become_4 (by decide) ?_
    refine lv_aload_n hx hb dX5_become_5 rfl (lv_at hl 0 rfl) ?_
    refine get_X5_0 hx hb hts in_X5_become_X5 hown hK hz hW hd0 lk_X5_become_0 dX5_become_6 ?_
    refine lv_iconst (v := 0) hx hb dX5_become_9 (by decide) ?_
    refine lv_bipush (v := 24) hx hb dX5_become_10 (by decide) ?_
    obtain ⟨g_1, hf⟩ := of_gd hf
    refine cp_AI24p hx hb (hml.trans hl.1.symm) hown (hts _ lk_X5_become_1) (hts _ lk_X5_become_2) (hts _ lk_X5_become_3) (hts _ lk_X5_become_4) hK hz hW hS hd1 hd0 g_1 (Nat.le_of_ble_eq_true rfl) (Nat.le_of_ble_eq_true rfl) dX5_become_12 (fun H locs hW hS => ?_)
    obtain ⟨w_2, ew_2⟩ : ∃ y : Mem, y = mC w (61+3*d1) (61+3*d0) ((0 : Int32).toNatClampNeg) ((0 : Int32).toNatClampNeg) ((24 : Int32).toNatClampNeg) := ⟨_, rfl⟩
    have hW : hd z w_2 H := by rw [ew_2]; exact hW
    have hf := of_lt ew_2 hf
    refine lv_aload_n hx hb dX5_become_15 rfl (lv_at hl 1 rfl) ?_
    refine get_X5_1 hx hb hts in_X5_become_X5 hown hK hz hW hd1 lk_X5_become_5 dX5_become_16 ?_
    refine lv_iconst (v := 0) hx hb dX5_become_19 (by decide) ?_
    refine lv_aload_n hx hb dX5_become_20 rfl (lv_at hl 0 rfl) ?_
    refine get_X5_1 hx hb hts in_X5_become_X5 hown hK hz hW hd0 lk_X5_become_5 dX5_become_21 ?_
    refine lv_iconst (v := 0) hx hb dX5_become_24 (by decide) ?_
    refine lv_bipush (v := 24) hx hb dX5_become_25 (by decide) ?_
    refine cp_AI24q hx hb (hml.trans hl.1.symm) hown (hts _ lk_X5_become_1) (hts _ lk_X5_become_2) (hts _ lk_X5_become_3) (hts _ lk_X5_become_4) hK hz hW hS hd1 hd0 g_1 (Nat.le_of_ble_eq_true rfl) (Nat.le_of_ble_eq_true rfl) dX5_become_27 (fun H locs hW hS => ?_)
    obtain ⟨w_3, ew_3⟩ : ∃ y : Mem, y = mC w_2 (62+3*d1) (62+3*d0) ((0 : Int32).toNatClampNeg) ((0 : Int32).toNatClampNeg) ((24 : Int32).toNatClampNeg) := ⟨_, rfl⟩
    have hW : hd z w_3 H := by rw [ew_3]; exact hW
    have hf := of_lt ew_3 hf
    refine lv_aload_n hx hb dX5_become_30 rfl (lv_at hl 0 rfl) ?_
    refine lv_aload_n hx hb dX5_become_31 rfl (lv_at hl 1 rfl) ?_
    refine get_X5_2 hx hb hts in_X5_become_X5 hown hK hz hW hd1 lk_X5_become_6 dX5_become_32 ?_
    refine put_X5_2 hx hb hts in_X5_become_X5 hown hK hz hW hS hd0 lk_X5_become_6 dX5_become_35 (fun H locs hW hS => ?_)
    obtain ⟨w_4, ew_4⟩ : ∃ y : Mem, y = mS w_3 (60+3*d0) 2 (w_3.1 (60+3*d1) 2) := ⟨_, rfl⟩
    have hW : hd z w_4 H := by rw [ew_4]; exact hW
    have hf := of_lt ew_4 hf
    refine lv_aload_n hx hb dX5_become_38 rfl (lv_at hl 0 rfl) ?_
    refine lv_aload_n hx hb dX5_become_39 rfl (lv_at hl 1 rfl) ?_
    refine get_X5_3 hx hb hts in_X5_become_X5 hown hK hz hW hd1 lk_X5_become_7 dX5_become_40 ?_
    refine put_X5_3 hx hb hts in_X5_become_X5 hown hK hz hW hS hd0 lk_X5_become_7 dX5_become_43 (fun H locs hW hS => ?_)
    obtain ⟨w_5, ew_5⟩ : ∃ y : Mem, y = mS w_4 (60+3*d0) 3 (w_4.1 (60+3*d1) 3) := ⟨_, rfl⟩
    have hW : hd z w_5 H := by rw [ew_5]; exact hW
    have hf := of_lt ew_5 hf
    exact hret _ _ _ _ _ hf hW hS dX5_become_46
  exact START _ _ hW va_S.rf
theorem in_X5_gets_X5 : ∀ w ∈ wsX50, w ∈ wsX5_gets := by decide +kernel
theorem lk_X5_gets_0 : Cond.fieldLink RX5 18 "CamStitch$Pattern" "points" "I" ∈ wsX5_gets := by decide +kernel
theorem lk_X5_gets_1 : Cond.initialized RX10 ∈ wsX5_gets := by decide +kernel
theorem lk_X5_gets_2 : Cond.static yX10_isWithin ∈ wsX5_gets := by decide +kernel
theorem lk_X5_gets_3 : Cond.fieldLink RX5 9 "CamStitch$Pattern" "xs" "[I" ∈ wsX5_gets := by decide +kernel
theorem lk_X5_gets_4 : Cond.fieldLink RX5 15 "CamStitch$Pattern" "ys" "[I" ∈ wsX5_gets := by decide +kernel
set_option maxHeartbeats 4000000 in
set_option maxRecDepth 100000 in
theorem c_X5_gets (l : Launch) {z : LZ} (hz : IC z) (d0 : Nat) (hd0 : d0 < 2) (x1 : Int32) (x2 : Int32) (w : Mem) {r : Int32} {w' : Mem} (hf : f_X5_gets d0 x1 x2 w = some (r, w')) : Met l yX5_gets wsX5_gets (rm 1 21) (PZ z w [.ref (z.2.1 (60+3*d0)), .int x1, .int x2]) (QW z (some (.int r)) w') 0 0 (az z) := by
  refine mk_Wz (cc := cX5_gets) (maxL := 3) (by decide +kernel) rfl (Nat.le_of_ble_eq_true rfl) ?_
  intro p e s m args below meth c hx hb hml hts hown hK hW Q hret ls hl
  have hl : lv_has ls 3 [(0, .ref (z.2.1 (60+3*d0))), (1, .int x1), (2, .int x2)] := hl
  unfold f_X5_gets at hf
  have START : ∀ (H : Heap) (locs : List Loc), hd z w H → va_S (az z) s.heap H locs → W p l e (rm 1 21) s m args below meth c H locs 0 0 Q (F0 m 0 ls []) := by
    intro H locs hW hS
    refine lv_aload_n hx hb dX5_gets_0 rfl (lv_at hl 0 rfl) ?_
    refine get_X5_2 hx hb hts in_X5_gets_X5 hown hK hz hW hd0 lk_X5_gets_0 dX5_gets_1 ?_
    refine lv_bipush (v := 24) hx hb dX5_gets_4 (by decide) ?_
    refine lv_icmp_ge (tgt := 27) hx hb dX5_gets_6 (by decide) (fun c_1 => ?_) (fun c_1 => ?_)
    · have hf := of_t c_1 hf
      refine lv_iconst (v := 0) hx hb dX5_gets_27 (by decide) ?_
      exact hret _ _ _ _ _ _ hf rfl hW hS dX5_gets_28
    · have hf := of_f c_1 hf
      refine lv_iload_n hx hb dX5_gets_9 rfl (lv_at hl 1 rfl) ?_
      refine lv_bipush (v := 12) hx hb dX5_gets_10 (by decide) ?_
      obtain ⟨r_2, hq_3, hf⟩ := of_bd hf
      refine m_goRi (va_runSN (As := [.int x1, .int 12]) (rest := []) ⟨hx, hb, hml, hown, hts⟩ (c_X10_isWithin l hz x1 12 w hq_3) ⟨va_cnB 2 hts gX5_gets_X10_isWithin_n31 rfl rfl rfl (nz_5 hK hz) (hts _ lk_X5_gets_1) (by decide +kernel) ⟨Nat.le_of_ble_eq_true rfl, Nat.le_of_ble_eq_true rfl⟩, hts _ lk_X5_gets_2, trivial⟩ (m_preS hK hW _) rfl rfl hl.1 rfl (lv_room (Nat.le_of_ble_eq_true rfl)) dX5_gets_12 ⟨Nat.le_refl _, Nat.le_refl _⟩) ?_
      refine lv_if_eq (tgt := 27) hx hb dX5_gets_15 (by decide) (fun c_4 => ?_) (fun c_4 => ?_)
      · have hf := of_t c_4 hf
        refine lv_iconst (v := 0) hx hb dX5_gets_27 (by decide) ?_
        exact hret _ _ _ _ _ _ hf rfl hW hS dX5_gets_28
      · have hf := of_f c_4 hf
        refine lv_iload_n hx hb dX5_gets_18 rfl (lv_at hl 2 rfl) ?_
        refine lv_bipush (v := 100) hx hb dX5_gets_19 (by decide) ?_
        obtain ⟨r_5, hq_6, hf⟩ := of_bd hf
        refine m_goRi (va_runSN (As := [.int x2, .int 100]) (rest := []) ⟨hx, hb, hml, hown, hts⟩ (c_X10_isWithin l hz x2 100 w hq_6) ⟨va_cnB 2 hts gX5_gets_X10_isWithin_n31 rfl rfl rfl (nz_5 hK hz) (hts _ lk_X5_gets_1) (by decide +kernel) ⟨Nat.le_of_ble_eq_true rfl, Nat.le_of_ble_eq_true rfl⟩, hts _ lk_X5_gets_2, trivial⟩ (m_preS hK hW _) rfl rfl hl.1 rfl (lv_room (Nat.le_of_ble_eq_true rfl)) dX5_gets_21 ⟨Nat.le_refl _, Nat.le_refl _⟩) ?_
        refine lv_if_ne (tgt := 29) hx hb dX5_gets_24 (by decide) (fun c_7 => ?_) (fun c_7 => ?_)
        · have hf := of_f c_7 hf
          refine lv_aload_n hx hb dX5_gets_29 rfl (lv_at hl 0 rfl) ?_
          refine get_X5_0 hx hb hts in_X5_gets_X5 hown hK hz hW hd0 lk_X5_gets_3 dX5_gets_30 ?_
          refine lv_aload_n hx hb dX5_gets_33 rfl (lv_at hl 0 rfl) ?_
          refine get_X5_2 hx hb hts in_X5_gets_X5 hown hK hz hW hd0 lk_X5_gets_0 dX5_gets_34 ?_
          refine lv_iload_n hx hb dX5_gets_37 rfl (lv_at hl 1 rfl) ?_
          obtain ⟨g_8, hf⟩ := of_gd hf
          refine st_AI24p hx hb hK hz hW hS hd0 g_8 dX5_gets_38 (fun H locs hW hS => ?_)
          obtain ⟨w_9, ew_9⟩ : ∃ y : Mem, y = mS w (61+3*d0) ((w.1 (60+3*d0) 2).toNatClampNeg) x1 := ⟨_, rfl⟩
          have hW : hd z w_9 H := by rw [ew_9]; exact hW
          have hf := of_lt ew_9 hf
          refine lv_aload_n hx hb dX5_gets_39 rfl (lv_at hl 0 rfl) ?_
          refine get_X5_1 hx hb hts in_X5_gets_X5 hown hK hz hW hd0 lk_X5_gets_4 dX5_gets_40 ?_
          refine lv_aload_n hx hb dX5_gets_43 rfl (lv_at hl 0 rfl) ?_
          refine get_X5_2 hx hb hts in_X5_gets_X5 hown hK hz hW hd0 lk_X5_gets_0 dX5_gets_44 ?_
          refine lv_iload_n hx hb dX5_gets_47 rfl (lv_at hl 2 rfl) ?_
          obtain ⟨g_10, hf⟩ := of_gd hf
          refine st_AI24q hx hb hK hz hW hS hd0 g_10 dX5_gets_48 (fun H locs hW hS => ?_)
          obtain ⟨w_11, ew_11⟩ : ∃ y : Mem, y = mS w_9 (62+3*d0) ((w_9.1 (60+3*d0) 2).toNatClampNeg) x2 := ⟨_, rfl⟩
          have hW : hd z w_11 H := by rw [ew_11]; exact hW
          have hf := of_lt ew_11 hf
          refine lv_aload_n hx hb dX5_gets_49 rfl (lv_at hl 0 rfl) ?_
          refine lv_dup hx hb dX5_gets_50 rfl ?_
          refine get_X5_2 hx hb hts in_X5_gets_X5 hown hK hz hW hd0 lk_X5_gets_0 dX5_gets_51 ?_
          refine lv_iconst (v := 1) hx hb dX5_gets_54 (by decide) ?_
          refine lv_iadd hx hb dX5_gets_55 ?_
          refine put_X5_2 hx hb hts in_X5_gets_X5 hown hK hz hW hS hd0 lk_X5_gets_0 dX5_gets_56 (fun H locs hW hS => ?_)
          obtain ⟨w_12, ew_12⟩ : ∃ y : Mem, y = mS w_11 (60+3*d0) 2 ((w_11.1 (60+3*d0) 2) + 1) := ⟨_, rfl⟩
          have hW : hd z w_12 H := by rw [ew_12]; exact hW
          have hf := of_lt ew_12 hf
          refine lv_iconst (v := 1) hx hb dX5_gets_59 (by decide) ?_
          exact hret _ _ _ _ _ _ hf rfl hW hS dX5_gets_60
        · have hf := of_t c_7 hf
          refine lv_iconst (v := 0) hx hb dX5_gets_27 (by decide) ?_
          exact hret _ _ _ _ _ _ hf rfl hW hS dX5_gets_28
  exact START _ _ hW va_S.rf
theorem in_X6_start_X6 : ∀ w ∈ wsX60, w ∈ wsX6_start := by decide +kernel
theorem lk_X6_start_0 : Cond.fieldLink RX6 12 "CamStitch$Reader" "draft" "LCamStitch$Pattern;" ∈ wsX6_start := by decide +kernel
theorem lk_X6_start_1 : Cond.fieldLink RX6 57 "CamStitch$Reader" "depth" "I" ∈ wsX6_start := by decide +kernel
theorem lk_X6_start_2 : Cond.fieldLink RX6 60 "CamStitch$Reader" "originX" "I" ∈ wsX6_start := by decide +kernel
theorem lk_X6_start_3 : Cond.fieldLink RX6 63 "CamStitch$Reader" "originY" "I" ∈ wsX6_start := by decide +kernel
theorem lk_X6_start_4 : Cond.fieldLink RX6 66 "CamStitch$Reader" "isMirrored" "Z" ∈ wsX6_start := by decide +kernel
theorem lk_X6_start_5 : Cond.fieldLink RX6 70 "CamStitch$Reader" "hasAdvance" "Z" ∈ wsX6_start := by decide +kernel
set_option maxHeartbeats 4000000 in
set_option maxRecDepth 100000 in
theorem c_X6_start (l : Launch) {z : LZ} (hz : IC z)  (w : Mem) {w' : Mem} (hf : f_X6_start w = some w') : Met l yX6_start wsX6_start (rm 1 20) (PZ z w [.ref (z.2.1 67)]) (QW z none w') 0 0 (az z) := by
  refine mk_Wv (cc := cX6_start) (maxL := 1) (by decide +kernel) rfl (Nat.le_of_ble_eq_true rfl) ?_
  intro p e s m args below meth c hx hb hml hts hown hK hW Q hret ls hl
  have hl : lv_has ls 1 [(0, .ref (z.2.1 67))] := hl
  unfold f_X6_start at hf
  have START : ∀ (H : Heap) (locs : List Loc), hd z w H → va_S (az z) s.heap H locs → W p l e (rm 1 20) s m args below meth c H locs 0 0 Q (F0 m 0 ls []) := by
    intro H locs hW hS
    refine lv_aload_n hx hb dX6_start_0 rfl (lv_at hl 0 rfl) ?_
    refine get_X6_0 hx hb hts in_X6_start_X6 hown hK hz hW lk_X6_start_0 dX6_start_1 ?_
    obtain ⟨w_3, hq_2, hf⟩ := of_bd hf
    refine m_goWv (va_runV (As := []) (rest := []) ⟨hx, hb, hml, hown, hts⟩ (c_X5_forget l hz 1 (Nat.le_of_ble_eq_true rfl) w hq_2) (cwV 0 hts gX6_start_X5_forget rfl rfl rfl (by decide +kernel) ⟨Nat.le_of_ble_eq_true rfl, Nat.le_of_ble_eq_true rfl⟩) (pre_X5 hK hz hW (Nat.le_of_ble_eq_true rfl) _) rfl rfl hl.1 rfl (lv_room (Nat.le_of_ble_eq_true rfl)) dX6_start_4 ⟨Nat.le_refl _, Nat.le_refl _⟩) hS (fun H locs hW hS => ?_)
    refine lv_aload_n hx hb dX6_start_7 rfl (lv_at hl 0 rfl) ?_
    refine lv_iconst (v := 0) hx hb dX6_start_8 (by decide) ?_
    refine put_X6_3 hx hb hts in_X6_start_X6 hown hK hz hW hS lk_X6_start_1 dX6_start_9 (fun H locs hW hS => ?_)
    obtain ⟨w_4, ew_4⟩ : ∃ y : Mem, y = mS w_3 67 3 0 := ⟨_, rfl⟩
    have hW : hd z w_4 H := by rw [ew_4]; exact hW
    have hf := of_lt ew_4 hf
    refine lv_aload_n hx hb dX6_start_12 rfl (lv_at hl 0 rfl) ?_
    refine lv_iconst (v := 0) hx hb dX6_start_13 (by decide) ?_
    refine put_X6_5 hx hb hts in_X6_start_X6 hown hK hz hW hS lk_X6_start_2 dX6_start_14 (fun H locs hW hS => ?_)
    obtain ⟨w_5, ew_5⟩ : ∃ y : Mem, y = mS w_4 67 5 0 := ⟨_, rfl⟩
    have hW : hd z w_5 H := by rw [ew_5]; exact hW
    have hf := of_lt ew_5 hf
    refine lv_aload_n hx hb dX6_start_17 rfl (lv_at hl 0 rfl) ?_
    refine lv_iconst (v := 0) hx hb dX6_start_18 (by decide) ?_
    refine put_X6_6 hx hb hts in_X6_start_X6 hown hK hz hW hS lk_X6_start_3 dX6_start_19 (fun H locs hW hS => ?_)
    obtain ⟨w_6, ew_6⟩ : ∃ y : Mem, y = mS w_5 67 6 0 := ⟨_, rfl⟩
    have hW : hd z w_6 H := by rw [ew_6]; exact hW
    have hf := of_lt ew_6 hf
    refine lv_aload_n hx hb dX6_start_22 rfl (lv_at hl 0 rfl) ?_
    refine lv_iconst (v := 0) hx hb dX6_start_23 (by decide) ?_
    refine put_X6_7 hx hb hts in_X6_start_X6 hown hK hz hW hS (Or.inl rfl) lk_X6_start_4 dX6_start_24 (fun H locs hW hS => ?_)
    obtain ⟨w_7, ew_7⟩ : ∃ y : Mem, y = mS w_6 67 7 0 := ⟨_, rfl⟩
    have hW : hd z w_7 H := by rw [ew_7]; exact hW
    have hf := of_lt ew_7 hf
    refine lv_aload_n hx hb dX6_start_27 rfl (lv_at hl 0 rfl) ?_
    refine lv_iconst (v := 0) hx hb dX6_start_28 (by decide) ?_
    refine put_X6_8 hx hb hts in_X6_start_X6 hown hK hz hW hS (Or.inl rfl) lk_X6_start_5 dX6_start_29 (fun H locs hW hS => ?_)
    obtain ⟨w_8, ew_8⟩ : ∃ y : Mem, y = mS w_7 67 8 0 := ⟨_, rfl⟩
    have hW : hd z w_8 H := by rw [ew_8]; exact hW
    have hf := of_lt ew_8 hf
    exact hret _ _ _ _ _ hf hW hS dX6_start_32
  exact START _ _ hW va_S.rf
theorem in_X6_canEnd_X5 : ∀ w ∈ wsX50, w ∈ wsX6_canEnd := by decide +kernel
theorem in_X6_canEnd_X6 : ∀ w ∈ wsX60, w ∈ wsX6_canEnd := by decide +kernel
theorem lk_X6_canEnd_0 : Cond.fieldLink RX6 57 "CamStitch$Reader" "depth" "I" ∈ wsX6_canEnd := by decide +kernel
theorem lk_X6_canEnd_1 : Cond.fieldLink RX6 12 "CamStitch$Reader" "draft" "LCamStitch$Pattern;" ∈ wsX6_canEnd := by decide +kernel
theorem lk_X6_canEnd_2 : Cond.fieldLink RX6 73 "CamStitch$Pattern" "points" "I" ∈ wsX6_canEnd := by decide +kernel
theorem lk_X6_canEnd_3 : Cond.fieldLink RX6 70 "CamStitch$Reader" "hasAdvance" "Z" ∈ wsX6_canEnd := by decide +kernel
set_option maxHeartbeats 4000000 in
set_option maxRecDepth 100000 in
theorem c_X6_canEnd (l : Launch) {z : LZ} (hz : IC z)  (w : Mem) {r : Int32} (hf : f_X6_canEnd w = some r) : Met l yX6_canEnd wsX6_canEnd (rm 0 0) (PZ z w [.ref (z.2.1 67)]) (QR (some (.int r))) 0 0 (fun _ => False) := by
  refine mk_Rz (cc := cX6_canEnd) (maxL := 1) (by decide +kernel) rfl (Nat.le_of_ble_eq_true rfl) ?_
  intro p e s m args below meth c hx hb hml hts hown hK hW Q hret ls hl
  have hl : lv_has ls 1 [(0, .ref (z.2.1 67))] := hl
  unfold f_X6_canEnd at hf
  refine lv_aload_n hx hb dX6_canEnd_0 rfl (lv_at hl 0 rfl) ?_
  refine get_X6_3 hx hb hts in_X6_canEnd_X6 hown hK hz hW lk_X6_canEnd_0 dX6_canEnd_1 ?_
  have J_2 : ∀ (v_1 : Int32) (ls : Array Slot), v_1 = (if (w.1 67 3) = 0 then (if (w.1 (60+3*1) 2) ≤ 0 then 0 else (if (w.1 67 8) = 0 then 0 else 1)) else 0) → lv_has ls 1 [] → W p l e (rm 0 0) s m args below meth c s.heap [] 0 0 Q (F0 m 29 ls [.int v_1]) := by
    intro v_1 ls ev_1 hl
    have hf := of_lt ev_1 hf
    obtain ⟨g_3, hf⟩ := of_gd hf
    exact hret _ _ _ hf (bz_n g_3) dX6_canEnd_29
  refine lv_if_ne (tgt := 28) hx hb dX6_canEnd_4 (by decide) (fun c_4 => ?_) (fun c_4 => ?_)
  · refine lv_iconst (v := 0) hx hb dX6_canEnd_28 (by decide) ?_
    exact J_2 _ _ (by rw [if_neg c_4]) (lv_sub hl [] rfl)
  · refine lv_aload_n hx hb dX6_canEnd_7 rfl (lv_at hl 0 rfl) ?_
    refine get_X6_0 hx hb hts in_X6_canEnd_X6 hown hK hz hW lk_X6_canEnd_1 dX6_canEnd_8 ?_
    refine get_X5_2 hx hb hts in_X6_canEnd_X5 hown hK hz hW (Nat.le_of_ble_eq_true rfl) lk_X6_canEnd_2 dX6_canEnd_11 ?_
    refine lv_if_le (tgt := 28) hx hb dX6_canEnd_14 (by decide) (fun c_5 => ?_) (fun c_5 => ?_)
    · refine lv_iconst (v := 0) hx hb dX6_canEnd_28 (by decide) ?_
      exact J_2 _ _ (by rw [if_pos c_4, if_pos c_5]) (lv_sub hl [] rfl)
    · refine lv_aload_n hx hb dX6_canEnd_17 rfl (lv_at hl 0 rfl) ?_
      refine get_X6_8 hx hb hts in_X6_canEnd_X6 hown hK hz hW lk_X6_canEnd_3 dX6_canEnd_18 ?_
      refine lv_if_eq (tgt := 28) hx hb dX6_canEnd_21 (by decide) (fun c_6 => ?_) (fun c_6 => ?_)
      · refine lv_iconst (v := 0) hx hb dX6_canEnd_28 (by decide) ?_
        exact J_2 _ _ (by rw [if_pos c_4, if_neg c_5, if_pos c_6]) (lv_sub hl [] rfl)
      · refine lv_iconst (v := 1) hx hb dX6_canEnd_24 (by decide) ?_
        refine lv_goto (tgt := 29) hx hb dX6_canEnd_25 (by decide) ?_
        exact J_2 _ _ (by rw [if_pos c_4, if_neg c_5, if_neg c_6]) (lv_sub hl [] rfl)
set_option maxHeartbeats 4000000 in
set_option maxRecDepth 100000 in
theorem c_X6_numbersOf (l : Launch) {z : LZ} (hz : IC z) (x0 : Int32) (w : Mem) {r : Int32} (hf : f_X6_numbersOf x0 = some r) : Met l yX6_numbersOf wsX6_numbersOf (rm 0 0) (PZ z w [.int x0]) (QR (some (.int r))) 0 0 (fun _ => False) := by
  refine mk_Ri (cc := cX6_numbersOf) (maxL := 1) (by decide +kernel) rfl (Nat.le_of_ble_eq_true rfl) ?_
  intro p e s m args below meth c hx hb hml hts hown hK hW Q hret ls hl
  have hl : lv_has ls 1 [(0, .int x0)] := hl
  unfold f_X6_numbersOf at hf
  refine lv_iload_n hx hb dX6_numbersOf_0 rfl (lv_at hl 0 rfl) ?_
  by_cases c_1 : x0 = 1
  · have hf := of_t c_1 hf
    refine lv_tableIn (off := 39) (tgt := 40) hx hb dX6_numbersOf_1 (by rw [c_1]; decide) (by rw [c_1]; decide) (by rw [c_1]; rfl) (by decide) ?_
    refine lv_iconst (v := 2) hx hb dX6_numbersOf_40 (by decide) ?_
    exact hret _ _ _ hf dX6_numbersOf_41
  have hf := of_f c_1 hf
  by_cases c_2 : x0 = 2
  · have hf := of_t c_2 hf
    refine lv_tableIn (off := 39) (tgt := 40) hx hb dX6_numbersOf_1 (by rw [c_2]; decide) (by rw [c_2]; decide) (by rw [c_2]; rfl) (by decide) ?_
    refine lv_iconst (v := 2) hx hb dX6_numbersOf_40 (by decide) ?_
    exact hret _ _ _ hf dX6_numbersOf_41
  have hf := of_f c_2 hf
  by_cases c_3 : x0 = 3
  · have hf := of_t c_3 hf
    refine lv_tableIn (off := 43) (tgt := 44) hx hb dX6_numbersOf_1 (by rw [c_3]; decide) (by rw [c_3]; decide) (by rw [c_3]; rfl) (by decide) ?_
    refine lv_iconst (v := 0) hx hb dX6_numbersOf_44 (by decide) ?_
    exact hret _ _ _ hf dX6_numbersOf_45
  have hf := of_f c_3 hf
  by_cases c_4 : x0 = 4
  · have hf := of_t c_4 hf
    refine lv_tableIn (off := 41) (tgt := 42) hx hb dX6_numbersOf_1 (by rw [c_4]; decide) (by rw [c_4]; decide) (by rw [c_4]; rfl) (by decide) ?_
    refine lv_iconst (v := 1) hx hb dX6_numbersOf_42 (by decide) ?_
    exact hret _ _ _ hf dX6_numbersOf_43
  have hf := of_f c_4 hf
  by_cases c_5 : x0 = 5
  · have hf := of_t c_5 hf
    refine lv_tableIn (off := 43) (tgt := 44) hx hb dX6_numbersOf_1 (by rw [c_5]; decide) (by rw [c_5]; decide) (by rw [c_5]; rfl) (by decide) ?_
    refine lv_iconst (v := 0) hx hb dX6_numbersOf_44 (by decide) ?_
    exact hret _ _ _ hf dX6_numbersOf_45
  have hf := of_f c_5 hf
  by_cases c_6 : x0 = 6
  · have hf := of_t c_6 hf
    refine lv_tableIn (off := 41) (tgt := 42) hx hb dX6_numbersOf_1 (by rw [c_6]; decide) (by rw [c_6]; decide) (by rw [c_6]; rfl) (by decide) ?_
    refine lv_iconst (v := 1) hx hb dX6_numbersOf_42 (by decide) ?_
    exact hret _ _ _ hf dX6_numbersOf_43
  have hf := of_f c_6 hf
  refine lv_tableOut (tgt := 46) hx hb dX6_numbersOf_1 (by have qc_1 := lv_neT c_1 (show (1 : Int32).toInt = 1 by decide); have qc_2 := lv_neT c_2 (show (2 : Int32).toInt = 2 by decide); have qc_3 := lv_neT c_3 (show (3 : Int32).toInt = 3 by decide); have qc_4 := lv_neT c_4 (show (4 : Int32).toInt = 4 by decide); have qc_5 := lv_neT c_5 (show (5 : Int32).toInt = 5 by decide); have qc_6 := lv_neT c_6 (show (6 : Int32).toInt = 6 by decide); omega) (by decide) ?_
  refine lv_iconst (v := (-1)) hx hb dX6_numbersOf_46 (by decide) ?_
  exact hret _ _ _ hf dX6_numbersOf_47
theorem in_X6_opens_X6 : ∀ w ∈ wsX60, w ∈ wsX6_opens := by decide +kernel
theorem lk_X6_opens_0 : Cond.fieldLink RX6 57 "CamStitch$Reader" "depth" "I" ∈ wsX6_opens := by decide +kernel
theorem lk_X6_opens_1 : Cond.fieldLink RX6 18 "CamStitch$Reader" "starts" "[I" ∈ wsX6_opens := by decide +kernel
theorem lk_X6_opens_2 : Cond.fieldLink RX6 47 "CamStitch$Reader" "next" "I" ∈ wsX6_opens := by decide +kernel
theorem lk_X6_opens_3 : Cond.fieldLink RX6 22 "CamStitch$Reader" "timesLeft" "[I" ∈ wsX6_opens := by decide +kernel
set_option maxHeartbeats 4000000 in
set_option maxRecDepth 100000 in
theorem c_X6_opens (l : Launch) {z : LZ} (hz : IC z) (x1 : Int32) (w : Mem) {r : Int32} {w' : Mem} (hf : f_X6_opens x1 w = some (r, w')) : Met l yX6_opens wsX6_opens (rm 0 0) (PZ z w [.ref (z.2.1 67), .int x1]) (QW z (some (.int r)) w') 0 0 (az z) := by
  refine mk_Wz (cc := cX6_opens) (maxL := 2) (by decide +kernel) rfl (Nat.le_of_ble_eq_true rfl) ?_
  intro p e s m args below meth c hx hb hml hts hown hK hW Q hret ls hl
  have hl : lv_has ls 2 [(0, .ref (z.2.1 67)), (1, .int x1)] := hl
  unfold f_X6_opens at hf
  have START : ∀ (H : Heap) (locs : List Loc), hd z w H → va_S (az z) s.heap H locs → W p l e (rm 0 0) s m args below meth c H locs 0 0 Q (F0 m 0 ls []) := by
    intro H locs hW hS
    refine lv_iload_n hx hb dX6_opens_0 rfl (lv_at hl 1 rfl) ?_
    refine lv_iconst (v := 1) hx hb dX6_opens_1 (by decide) ?_
    refine lv_icmp_lt (tgt := 19) hx hb dX6_opens_2 (by decide) (fun c_1 => ?_) (fun c_1 => ?_)
    · have hf := of_t c_1 hf
      refine lv_iconst (v := 0) hx hb dX6_opens_19 (by decide) ?_
      exact hret _ _ _ _ _ _ hf rfl hW hS dX6_opens_20
    · have hf := of_f c_1 hf
      refine lv_iload_n hx hb dX6_opens_5 rfl (lv_at hl 1 rfl) ?_
      refine lv_bipush (v := 9) hx hb dX6_opens_6 (by decide) ?_
      refine lv_icmp_gt (tgt := 19) hx hb dX6_opens_8 (by decide) (fun c_2 => ?_) (fun c_2 => ?_)
      · have hf := of_t c_2 hf
        refine lv_iconst (v := 0) hx hb dX6_opens_19 (by decide) ?_
        exact hret _ _ _ _ _ _ hf rfl hW hS dX6_opens_20
      · have hf := of_f c_2 hf
        refine lv_aload_n hx hb dX6_opens_11 rfl (lv_at hl 0 rfl) ?_
        refine get_X6_3 hx hb hts in_X6_opens_X6 hown hK hz hW lk_X6_opens_0 dX6_opens_12 ?_
        refine lv_iconst (v := 3) hx hb dX6_opens_15 (by decide) ?_
        refine lv_icmp_lt (tgt := 21) hx hb dX6_opens_16 (by decide) (fun c_3 => ?_) (fun c_3 => ?_)
        · have hf := of_t c_3 hf
          refine lv_aload_n hx hb dX6_opens_21 rfl (lv_at hl 0 rfl) ?_
          refine get_X6_1 hx hb hts in_X6_opens_X6 hown hK hz hW lk_X6_opens_1 dX6_opens_22 ?_
          refine lv_aload_n hx hb dX6_opens_25 rfl (lv_at hl 0 rfl) ?_
          refine get_X6_3 hx hb hts in_X6_opens_X6 hown hK hz hW lk_X6_opens_0 dX6_opens_26 ?_
          refine lv_aload_n hx hb dX6_opens_29 rfl (lv_at hl 0 rfl) ?_
          refine get_X6_4 hx hb hts in_X6_opens_X6 hown hK hz hW lk_X6_opens_2 dX6_opens_30 ?_
          obtain ⟨g_4, hf⟩ := of_gd hf
          refine st_A68 hx hb hK hz hW hS g_4 dX6_opens_33 (fun H locs hW hS => ?_)
          obtain ⟨w_5, ew_5⟩ : ∃ y : Mem, y = mS w 68 ((w.1 67 3).toNatClampNeg) (w.1 67 4) := ⟨_, rfl⟩
          have hW : hd z w_5 H := by rw [ew_5]; exact hW
          have hf := of_lt ew_5 hf
          refine lv_aload_n hx hb dX6_opens_34 rfl (lv_at hl 0 rfl) ?_
          refine get_X6_2 hx hb hts in_X6_opens_X6 hown hK hz hW lk_X6_opens_3 dX6_opens_35 ?_
          refine lv_aload_n hx hb dX6_opens_38 rfl (lv_at hl 0 rfl) ?_
          refine get_X6_3 hx hb hts in_X6_opens_X6 hown hK hz hW lk_X6_opens_0 dX6_opens_39 ?_
          refine lv_iload_n hx hb dX6_opens_42 rfl (lv_at hl 1 rfl) ?_
          obtain ⟨g_6, hf⟩ := of_gd hf
          refine st_A69 hx hb hK hz hW hS g_6 dX6_opens_43 (fun H locs hW hS => ?_)
          obtain ⟨w_7, ew_7⟩ : ∃ y : Mem, y = mS w_5 69 ((w_5.1 67 3).toNatClampNeg) x1 := ⟨_, rfl⟩
          have hW : hd z w_7 H := by rw [ew_7]; exact hW
          have hf := of_lt ew_7 hf
          refine lv_aload_n hx hb dX6_opens_44 rfl (lv_at hl 0 rfl) ?_
          refine lv_dup hx hb dX6_opens_45 rfl ?_
          refine get_X6_3 hx hb hts in_X6_opens_X6 hown hK hz hW lk_X6_opens_0 dX6_opens_46 ?_
          refine lv_iconst (v := 1) hx hb dX6_opens_49 (by decide) ?_
          refine lv_iadd hx hb dX6_opens_50 ?_
          refine put_X6_3 hx hb hts in_X6_opens_X6 hown hK hz hW hS lk_X6_opens_0 dX6_opens_51 (fun H locs hW hS => ?_)
          obtain ⟨w_8, ew_8⟩ : ∃ y : Mem, y = mS w_7 67 3 ((w_7.1 67 3) + 1) := ⟨_, rfl⟩
          have hW : hd z w_8 H := by rw [ew_8]; exact hW
          have hf := of_lt ew_8 hf
          refine lv_iconst (v := 1) hx hb dX6_opens_54 (by decide) ?_
          exact hret _ _ _ _ _ _ hf rfl hW hS dX6_opens_55
        · have hf := of_f c_3 hf
          refine lv_iconst (v := 0) hx hb dX6_opens_19 (by decide) ?_
          exact hret _ _ _ _ _ _ hf rfl hW hS dX6_opens_20
  exact START _ _ hW va_S.rf
theorem in_X6_closes_X6 : ∀ w ∈ wsX60, w ∈ wsX6_closes := by decide +kernel
theorem lk_X6_closes_0 : Cond.fieldLink RX6 57 "CamStitch$Reader" "depth" "I" ∈ wsX6_closes := by decide +kernel
theorem lk_X6_closes_1 : Cond.fieldLink RX6 22 "CamStitch$Reader" "timesLeft" "[I" ∈ wsX6_closes := by decide +kernel
theorem lk_X6_closes_2 : Cond.fieldLink RX6 18 "CamStitch$Reader" "starts" "[I" ∈ wsX6_closes := by decide +kernel
theorem lk_X6_closes_3 : Cond.fieldLink RX6 47 "CamStitch$Reader" "next" "I" ∈ wsX6_closes := by decide +kernel
set_option maxHeartbeats 4000000 in
set_option maxRecDepth 100000 in
theorem c_X6_closes (l : Launch) {z : LZ} (hz : IC z)  (w : Mem) {r : Int32} {w' : Mem} (hf : f_X6_closes w = some (r, w')) : Met l yX6_closes wsX6_closes (rm 0 0) (PZ z w [.ref (z.2.1 67)]) (QW z (some (.int r)) w') 0 0 (az z) := by
  refine mk_Wz (cc := cX6_closes) (maxL := 1) (by decide +kernel) rfl (Nat.le_of_ble_eq_true rfl) ?_
  intro p e s m args below meth c hx hb hml hts hown hK hW Q hret ls hl
  have hl : lv_has ls 1 [(0, .ref (z.2.1 67))] := hl
  unfold f_X6_closes at hf
  have START : ∀ (H : Heap) (locs : List Loc), hd z w H → va_S (az z) s.heap H locs → W p l e (rm 0 0) s m args below meth c H locs 0 0 Q (F0 m 0 ls []) := by
    intro H locs hW hS
    refine lv_aload_n hx hb dX6_closes_0 rfl (lv_at hl 0 rfl) ?_
    refine get_X6_3 hx hb hts in_X6_closes_X6 hown hK hz hW lk_X6_closes_0 dX6_closes_1 ?_
    refine lv_iconst (v := 1) hx hb dX6_closes_4 (by decide) ?_
    refine lv_icmp_ge (tgt := 10) hx hb dX6_closes_5 (by decide) (fun c_1 => ?_) (fun c_1 => ?_)
    · have hf := of_t c_1 hf
      refine lv_aload_n hx hb dX6_closes_10 rfl (lv_at hl 0 rfl) ?_
      refine get_X6_2 hx hb hts in_X6_closes_X6 hown hK hz hW lk_X6_closes_1 dX6_closes_11 ?_
      refine lv_aload_n hx hb dX6_closes_14 rfl (lv_at hl 0 rfl) ?_
      refine get_X6_3 hx hb hts in_X6_closes_X6 hown hK hz hW lk_X6_closes_0 dX6_closes_15 ?_
      refine lv_iconst (v := 1) hx hb dX6_closes_18 (by decide) ?_
      refine lv_isub hx hb dX6_closes_19 ?_
      refine lv_dup2_11 hx hb dX6_closes_20 rfl rfl ?_
      obtain ⟨g_2, hf⟩ := of_gd hf
      refine ld_A69 hx hb hK hz hW g_2 dX6_closes_21 ?_
      refine lv_topi (fun v_3 ev_3 => ?_)
      have hf := of_lt ev_3 hf
      refine lv_iconst (v := 1) hx hb dX6_closes_22 (by decide) ?_
      refine lv_isub hx hb dX6_closes_23 ?_
      refine st_A69 hx hb hK hz hW hS g_2 dX6_closes_24 (fun H locs hW hS => ?_)
      obtain ⟨w_4, ew_4⟩ : ∃ y : Mem, y = mS w 69 (((w.1 67 3) - 1).toNatClampNeg) (v_3 - 1) := ⟨_, rfl⟩
      have hW : hd z w_4 H := by rw [ew_4]; exact hW
      have hf := of_lt ew_4 hf
      refine lv_aload_n hx hb dX6_closes_25 rfl (lv_at hl 0 rfl) ?_
      refine get_X6_2 hx hb hts in_X6_closes_X6 hown hK hz hW lk_X6_closes_1 dX6_closes_26 ?_
      refine lv_aload_n hx hb dX6_closes_29 rfl (lv_at hl 0 rfl) ?_
      refine get_X6_3 hx hb hts in_X6_closes_X6 hown hK hz hW lk_X6_closes_0 dX6_closes_30 ?_
      refine lv_iconst (v := 1) hx hb dX6_closes_33 (by decide) ?_
      refine lv_isub hx hb dX6_closes_34 ?_
      obtain ⟨g_5, hf⟩ := of_gd hf
      refine ld_A69 hx hb hK hz hW g_5 dX6_closes_35 ?_
      refine lv_topi (fun v_6 ev_6 => ?_)
      have hf := of_lt ev_6 hf
      refine lv_if_le (tgt := 57) hx hb dX6_closes_36 (by decide) (fun c_7 => ?_) (fun c_7 => ?_)
      · have hf := of_t c_7 hf
        refine lv_aload_n hx hb dX6_closes_57 rfl (lv_at hl 0 rfl) ?_
        refine lv_dup hx hb dX6_closes_58 rfl ?_
        refine get_X6_3 hx hb hts in_X6_closes_X6 hown hK hz hW lk_X6_closes_0 dX6_closes_59 ?_
        refine lv_iconst (v := 1) hx hb dX6_closes_62 (by decide) ?_
        refine lv_isub hx hb dX6_closes_63 ?_
        refine put_X6_3 hx hb hts in_X6_closes_X6 hown hK hz hW hS lk_X6_closes_0 dX6_closes_64 (fun H locs hW hS => ?_)
        obtain ⟨w_8, ew_8⟩ : ∃ y : Mem, y = mS w_4 67 3 ((w_4.1 67 3) - 1) := ⟨_, rfl⟩
        have hW : hd z w_8 H := by rw [ew_8]; exact hW
        have hf := of_lt ew_8 hf
        refine lv_iconst (v := 1) hx hb dX6_closes_67 (by decide) ?_
        exact hret _ _ _ _ _ _ hf rfl hW hS dX6_closes_68
      · have hf := of_f c_7 hf
        refine lv_aload_n hx hb dX6_closes_39 rfl (lv_at hl 0 rfl) ?_
        refine lv_aload_n hx hb dX6_closes_40 rfl (lv_at hl 0 rfl) ?_
        refine get_X6_1 hx hb hts in_X6_closes_X6 hown hK hz hW lk_X6_closes_2 dX6_closes_41 ?_
        refine lv_aload_n hx hb dX6_closes_44 rfl (lv_at hl 0 rfl) ?_
        refine get_X6_3 hx hb hts in_X6_closes_X6 hown hK hz hW lk_X6_closes_0 dX6_closes_45 ?_
        refine lv_iconst (v := 1) hx hb dX6_closes_48 (by decide) ?_
        refine lv_isub hx hb dX6_closes_49 ?_
        refine ld_A68 hx hb hK hz hW g_5 dX6_closes_50 ?_
        refine lv_topi (fun v_9 ev_9 => ?_)
        have hf := of_lt ev_9 hf
        refine put_X6_4 hx hb hts in_X6_closes_X6 hown hK hz hW hS lk_X6_closes_3 dX6_closes_51 (fun H locs hW hS => ?_)
        obtain ⟨w_10, ew_10⟩ : ∃ y : Mem, y = mS w_4 67 4 v_9 := ⟨_, rfl⟩
        have hW : hd z w_10 H := by rw [ew_10]; exact hW
        have hf := of_lt ew_10 hf
        refine lv_goto (tgt := 67) hx hb dX6_closes_54 (by decide) ?_
        refine lv_iconst (v := 1) hx hb dX6_closes_67 (by decide) ?_
        exact hret _ _ _ _ _ _ hf rfl hW hS dX6_closes_68
    · have hf := of_f c_1 hf
      refine lv_iconst (v := 0) hx hb dX6_closes_8 (by decide) ?_
      exact hret _ _ _ _ _ _ hf rfl hW hS dX6_closes_9
  exact START _ _ hW va_S.rf
