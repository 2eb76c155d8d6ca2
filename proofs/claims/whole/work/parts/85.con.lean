/-! ===== contracts (by program: wip/gen/gen.py): X11_read X11_point X11_advance X11_toX X11_toY X11_parts X11_make X11_lengthOf X11_steepOf X11_edge X11_disc X11_stitch X11_file X11_makes X11_copies X11_lay X11_take X11_turn X11_side X11_sideless ===== -/
theorem in_X11_read_X11 : ∀ w ∈ wsX110, w ∈ wsX11_read := by decide +kernel
theorem lk_X11_read_0 : Cond.fieldLink RX11 66 "CamStitchModel" "sort" "[I" ∈ wsX11_read := by decide +kernel
theorem lk_X11_read_1 : Cond.fieldLink RX11 125 "CamStitchModel" "row" "I" ∈ wsX11_read := by decide +kernel
theorem lk_X11_read_2 : Cond.fieldLink RX11 69 "CamStitchModel" "size" "[I" ∈ wsX11_read := by decide +kernel
theorem lk_X11_read_3 : Cond.fieldLink RX11 131 "CamStitchModel" "last" "I" ∈ wsX11_read := by decide +kernel
theorem lk_X11_read_4 : Cond.fieldLink RX11 128 "CamStitchModel" "place" "I" ∈ wsX11_read := by decide +kernel
theorem lk_X11_read_5 : Cond.fieldLink RX11 151 "CamStitchModel" "read" "I" ∈ wsX11_read := by decide +kernel
theorem lk_X11_read_6 : Cond.fieldLink RX11 134 "CamStitchModel" "originX" "I" ∈ wsX11_read := by decide +kernel
theorem lk_X11_read_7 : Cond.fieldLink RX11 144 "CamStitchModel" "originY" "I" ∈ wsX11_read := by decide +kernel
theorem lk_X11_read_8 : Cond.fieldLink RX11 137 "CamStitchModel" "isMirrored" "Z" ∈ wsX11_read := by decide +kernel
theorem lk_X11_read_9 : Cond.fieldLink RX11 157 "CamStitchModel" "hasAdvance" "Z" ∈ wsX11_read := by decide +kernel
theorem lk_X11_read_10 : Cond.fieldLink RX11 154 "CamStitchModel" "deep" "I" ∈ wsX11_read := by decide +kernel
theorem lk_X11_read_11 : Cond.fieldLink RX11 160 "CamStitchModel" "isEnd" "Z" ∈ wsX11_read := by decide +kernel
theorem lk_X11_read_12 : Cond.fieldLink RX11 109 "CamStitchModel" "points" "I" ∈ wsX11_read := by decide +kernel
theorem lk_X11_read_13 : Cond.fieldLink RX11 180 "CamStitchModel" "newAdvance" "I" ∈ wsX11_read := by decide +kernel
theorem lk_X11_read_14 : Cond.fieldLink RX11 192 "CamStitchModel" "advance" "I" ∈ wsX11_read := by decide +kernel
theorem lk_X11_read_15 : Cond.fieldLink RX11 7 "CamStitchModel" "px" "[I" ∈ wsX11_read := by decide +kernel
theorem lk_X11_read_16 : Cond.fieldLink RX11 76 "CamStitchModel" "newX" "[I" ∈ wsX11_read := by decide +kernel
theorem lk_X11_read_17 : Cond.fieldLink RX11 13 "CamStitchModel" "py" "[I" ∈ wsX11_read := by decide +kernel
theorem lk_X11_read_18 : Cond.fieldLink RX11 79 "CamStitchModel" "newY" "[I" ∈ wsX11_read := by decide +kernel
set_option maxHeartbeats 4000000 in
set_option maxRecDepth 100000 in
theorem c_X11_read (l : Launch) {z : LZ} (hz : IM z) (x1 : Int32) (w : Mem) {r : Int32} {w' : Mem} (hf : f_X11_read x1 w = some (r, w')) : Met l yX11_read wsX11_read (rm 3 64) (PZ z w [.ref (z.2.1 0), .int x1]) (QW z (some (.int r)) w') 0 0 (az z) := by
  refine mk_Wi (cc := cX11_read) (maxL := 3) (by decide +kernel) rfl (Nat.le_of_ble_eq_true rfl) ?_
  intro p e s m args below meth c hx hb hml hts hown hK hW Q hret ls hl
  have hl : lv_has ls 3 [(0, .ref (z.2.1 0)), (1, .int x1)] := hl
  unfold f_X11_read at hf
  have START : ∀ (H : Heap) (locs : List Loc), hd z w H → va_S (az z) s.heap H locs → W p l e (rm 3 64) s m args below meth c H locs 0 0 Q (F0 m 0 ls []) := by
    intro H locs hW hS
    refine lv_iload_n hx hb dX11_read_0 rfl (lv_at hl 1 rfl) ?_
    obtain ⟨r_1, hq_2, hf⟩ := of_bd hf
    refine m_goRi (va_runS (As := [.int x1]) (rest := []) ⟨hx, hb, hml, hown, hts⟩ (c_X11_isTape l hz x1 w hq_2) (va_cwS 1 hts gX11_read_X11_isTape rfl rfl rfl (by decide +kernel) ⟨Nat.le_of_ble_eq_true rfl, Nat.le_of_ble_eq_true rfl⟩) (m_preS hK hW _) rfl rfl hl.1 rfl (lv_room (Nat.le_of_ble_eq_true rfl)) dX11_read_1 ⟨Nat.le_refl _, Nat.le_refl _⟩) ?_
    refine lv_if_ne (tgt := 9) hx hb dX11_read_4 (by decide) (fun c_3 => ?_) (fun c_3 => ?_)
    · have hf := of_f c_3 hf
      refine lv_aload_n hx hb dX11_read_9 rfl (lv_at hl 0 rfl) ?_
      refine get_X11_26 hx hb hts in_X11_read_X11 hown hK hz hW lk_X11_read_0 dX11_read_10 ?_
      refine lv_iload_n hx hb dX11_read_13 rfl (lv_at hl 1 rfl) ?_
      obtain ⟨g_4, hf⟩ := of_gd hf
      refine ld_M15 hx hb hK hz hW g_4 dX11_read_14 ?_
      refine lv_if_ne (tgt := 25) hx hb dX11_read_15 (by decide) (fun c_5 => ?_) (fun c_5 => ?_)
      · have hf := of_f c_5 hf
        refine lv_aload_n hx hb dX11_read_25 rfl (lv_at hl 0 rfl) ?_
        refine get_X11_26 hx hb hts in_X11_read_X11 hown hK hz hW lk_X11_read_0 dX11_read_26 ?_
        refine lv_iload_n hx hb dX11_read_29 rfl (lv_at hl 1 rfl) ?_
        refine ld_M15 hx hb hK hz hW g_4 dX11_read_30 ?_
        refine lv_iconst (v := 1) hx hb dX11_read_31 (by decide) ?_
        refine lv_icmp_eq (tgt := 42) hx hb dX11_read_32 (by decide) (fun c_6 => ?_) (fun c_6 => ?_)
        · have hf := of_t c_6 hf
          refine lv_aload_n hx hb dX11_read_42 rfl (lv_at hl 0 rfl) ?_
          refine lv_iload_n hx hb dX11_read_43 rfl (lv_at hl 1 rfl) ?_
          refine put_X11_31 hx hb hts in_X11_read_X11 hown hK hz hW hS lk_X11_read_1 dX11_read_44 (fun H locs hW hS => ?_)
          obtain ⟨w_7, ew_7⟩ : ∃ y : Mem, y = mS w 0 31 x1 := ⟨_, rfl⟩
          have hW : hd z w_7 H := by rw [ew_7]; exact hW
          have hf := of_lt ew_7 hf
          refine lv_aload_n hx hb dX11_read_47 rfl (lv_at hl 0 rfl) ?_
          refine lv_aload_n hx hb dX11_read_48 rfl (lv_at hl 0 rfl) ?_
          refine get_X11_27 hx hb hts in_X11_read_X11 hown hK hz hW lk_X11_read_2 dX11_read_49 ?_
          refine lv_iload_n hx hb dX11_read_52 rfl (lv_at hl 1 rfl) ?_
          refine ld_M16 hx hb hK hz hW g_4 dX11_read_53 ?_
          refine lv_topi (fun v_8 ev_8 => ?_)
          have hf := of_lt ev_8 hf
          refine put_X11_30 hx hb hts in_X11_read_X11 hown hK hz hW hS lk_X11_read_3 dX11_read_54 (fun H locs hW hS => ?_)
          obtain ⟨w_9, ew_9⟩ : ∃ y : Mem, y = mS w_7 0 30 v_8 := ⟨_, rfl⟩
          have hW : hd z w_9 H := by rw [ew_9]; exact hW
          have hf := of_lt ew_9 hf
          refine lv_aload_n hx hb dX11_read_57 rfl (lv_at hl 0 rfl) ?_
          refine lv_iconst (v := 0) hx hb dX11_read_58 (by decide) ?_
          refine put_X11_29 hx hb hts in_X11_read_X11 hown hK hz hW hS lk_X11_read_4 dX11_read_59 (fun H locs hW hS => ?_)
          obtain ⟨w_10, ew_10⟩ : ∃ y : Mem, y = mS w_9 0 29 0 := ⟨_, rfl⟩
          have hW : hd z w_10 H := by rw [ew_10]; exact hW
          have hf := of_lt ew_10 hf
          refine lv_aload_n hx hb dX11_read_62 rfl (lv_at hl 0 rfl) ?_
          refine lv_iconst (v := 0) hx hb dX11_read_63 (by decide) ?_
          refine put_X11_32 hx hb hts in_X11_read_X11 hown hK hz hW hS lk_X11_read_5 dX11_read_64 (fun H locs hW hS => ?_)
          obtain ⟨w_11, ew_11⟩ : ∃ y : Mem, y = mS w_10 0 32 0 := ⟨_, rfl⟩
          have hW : hd z w_11 H := by rw [ew_11]; exact hW
          have hf := of_lt ew_11 hf
          refine lv_aload_n hx hb dX11_read_67 rfl (lv_at hl 0 rfl) ?_
          refine lv_iconst (v := 0) hx hb dX11_read_68 (by decide) ?_
          refine put_X11_33 hx hb hts in_X11_read_X11 hown hK hz hW hS lk_X11_read_6 dX11_read_69 (fun H locs hW hS => ?_)
          obtain ⟨w_12, ew_12⟩ : ∃ y : Mem, y = mS w_11 0 33 0 := ⟨_, rfl⟩
          have hW : hd z w_12 H := by rw [ew_12]; exact hW
          have hf := of_lt ew_12 hf
          refine lv_aload_n hx hb dX11_read_72 rfl (lv_at hl 0 rfl) ?_
          refine lv_iconst (v := 0) hx hb dX11_read_73 (by decide) ?_
          refine put_X11_34 hx hb hts in_X11_read_X11 hown hK hz hW hS lk_X11_read_7 dX11_read_74 (fun H locs hW hS => ?_)
          obtain ⟨w_13, ew_13⟩ : ∃ y : Mem, y = mS w_12 0 34 0 := ⟨_, rfl⟩
          have hW : hd z w_13 H := by rw [ew_13]; exact hW
          have hf := of_lt ew_13 hf
          refine lv_aload_n hx hb dX11_read_77 rfl (lv_at hl 0 rfl) ?_
          refine lv_iconst (v := 0) hx hb dX11_read_78 (by decide) ?_
          refine put_X11_35 hx hb hts in_X11_read_X11 hown hK hz hW hS (Or.inl rfl) lk_X11_read_8 dX11_read_79 (fun H locs hW hS => ?_)
          obtain ⟨w_14, ew_14⟩ : ∃ y : Mem, y = mS w_13 0 35 0 := ⟨_, rfl⟩
          have hW : hd z w_14 H := by rw [ew_14]; exact hW
          have hf := of_lt ew_14 hf
          refine lv_aload_n hx hb dX11_read_82 rfl (lv_at hl 0 rfl) ?_
          refine lv_iconst (v := 0) hx hb dX11_read_83 (by decide) ?_
          refine put_X11_36 hx hb hts in_X11_read_X11 hown hK hz hW hS (Or.inl rfl) lk_X11_read_9 dX11_read_84 (fun H locs hW hS => ?_)
          obtain ⟨w_15, ew_15⟩ : ∃ y : Mem, y = mS w_14 0 36 0 := ⟨_, rfl⟩
          have hW : hd z w_15 H := by rw [ew_15]; exact hW
          have hf := of_lt ew_15 hf
          refine lv_aload_n hx hb dX11_read_87 rfl (lv_at hl 0 rfl) ?_
          refine lv_iconst (v := 0) hx hb dX11_read_88 (by decide) ?_
          refine put_X11_38 hx hb hts in_X11_read_X11 hown hK hz hW hS lk_X11_read_10 dX11_read_89 (fun H locs hW hS => ?_)
          obtain ⟨w_16, ew_16⟩ : ∃ y : Mem, y = mS w_15 0 38 0 := ⟨_, rfl⟩
          have hW : hd z w_16 H := by rw [ew_16]; exact hW
          have hf := of_lt ew_16 hf
          refine lv_aload_n hx hb dX11_read_92 rfl (lv_at hl 0 rfl) ?_
          refine lv_iconst (v := 0) hx hb dX11_read_93 (by decide) ?_
          refine put_X11_39 hx hb hts in_X11_read_X11 hown hK hz hW hS (Or.inl rfl) lk_X11_read_11 dX11_read_94 (fun H locs hW hS => ?_)
          obtain ⟨w_17, ew_17⟩ : ∃ y : Mem, y = mS w_16 0 39 0 := ⟨_, rfl⟩
          have hW : hd z w_17 H := by rw [ew_17]; exact hW
          have hf := of_lt ew_17 hf
          have L_19 : ∀ (n : Nat) (w_18 : Mem) (exL_19 : Sum (Int32 × Mem) (Mem)) (H : Heap) (locs : List Loc) (ls : Array Slot), f_X11_read_L97 n w_18 = some exL_19 → hd z w_18 H → va_S (az z) s.heap H locs → lv_has ls 3 [(0, .ref (z.2.1 0))] → (∀ ret, exL_19 = .inl ret → some (ret) = some (r, w')) → (∀ x, exL_19 = .inr x → ∀ (H : Heap) (locs : List Loc) (ls : Array Slot), hd z (x) H → va_S (az z) s.heap H locs → lv_has ls 3 [(0, .ref (z.2.1 0))] → W p l e (rm 3 64) s m args below meth c H locs 0 0 Q (F0 m 130 ls [])) → W p l e (rm 3 64) s m args below meth c H locs 0 0 Q (F0 m 97 ls []) := by
            intro n
            induction n with
            | zero =>
              intro w_18 exL_19 H locs ls hf
              have hf : (none : Option (Sum (Int32 × Mem) (Mem))) = some exL_19 := hf
              cases hf
            | succ n ihL_19 =>
              intro w_18 exL_19 H locs ls hf hW hS hl hRL_19 hEL_19
              rw [f_X11_read_L97_s] at hf
              refine lv_aload_n hx hb dX11_read_97 rfl (lv_at hl 0 rfl) ?_
              refine get_X11_39 hx hb hts in_X11_read_X11 hown hK hz hW lk_X11_read_11 dX11_read_98 ?_
              refine lv_if_ne (tgt := 130) hx hb dX11_read_101 (by decide) (fun c_20 => ?_) (fun c_20 => ?_)
              · have hf := of_f c_20 hf
                exact hEL_19 _ (Option.some.inj hf).symm _ _ _ hW hS (lv_sub hl [0] rfl)
              · have hf := of_t c_20 hf
                refine lv_aload_n hx hb dX11_read_104 rfl (lv_at hl 0 rfl) ?_
                refine get_X11_29 hx hb hts in_X11_read_X11 hown hK hz hW lk_X11_read_4 dX11_read_105 ?_
                refine lv_aload_n hx hb dX11_read_108 rfl (lv_at hl 0 rfl) ?_
                refine get_X11_30 hx hb hts in_X11_read_X11 hown hK hz hW lk_X11_read_3 dX11_read_109 ?_
                refine lv_icmp_eq (tgt := 122) hx hb dX11_read_112 (by decide) (fun c_21 => ?_) (fun c_21 => ?_)
                · have hf := of_t c_21 hf
                  refine lv_bipush (v := (-100)) hx hb dX11_read_122 (by decide) ?_
                  refine lv_aload_n hx hb dX11_read_124 rfl (lv_at hl 0 rfl) ?_
                  refine get_X11_29 hx hb hts in_X11_read_X11 hown hK hz hW lk_X11_read_4 dX11_read_125 ?_
                  refine lv_isub hx hb dX11_read_128 ?_
                  exact hret _ _ _ _ _ _ (hRL_19 _ (Option.some.inj hf).symm) hW hS dX11_read_129
                · have hf := of_f c_21 hf
                  refine lv_aload_n hx hb dX11_read_115 rfl (lv_at hl 0 rfl) ?_
                  obtain ⟨r_22, w_24, hq_23, hf⟩ := of_b2 hf
                  refine m_goWi (va_runV (As := []) (rest := []) ⟨hx, hb, hml, hown, hts⟩ (c_X11_does l hz w_18 hq_23) (cwV 0 hts gX11_read_X11_does rfl rfl rfl (by decide +kernel) ⟨Nat.le_of_ble_eq_true rfl, Nat.le_of_ble_eq_true rfl⟩) (pre_X11 hK hz hW _) rfl rfl hl.1 rfl (lv_room (Nat.le_of_ble_eq_true rfl)) dX11_read_116 ⟨Nat.le_refl _, Nat.le_refl _⟩) hS (fun H locs hW hS => ?_)
                  refine lv_if_ne (tgt := 97) hx hb dX11_read_119 (by decide) (fun c_25 => ?_) (fun c_25 => ?_)
                  · have hf := of_f c_25 hf
                    exact ihL_19 _ _ _ _ _ hf hW hS (lv_sub hl [0] rfl) hRL_19 hEL_19
                  · have hf := of_t c_25 hf
                    refine lv_bipush (v := (-100)) hx hb dX11_read_122 (by decide) ?_
                    refine lv_aload_n hx hb dX11_read_124 rfl (lv_at hl 0 rfl) ?_
                    refine get_X11_29 hx hb hts in_X11_read_X11 hown hK hz hW lk_X11_read_4 dX11_read_125 ?_
                    refine lv_isub hx hb dX11_read_128 ?_
                    exact hret _ _ _ _ _ _ (hRL_19 _ (Option.some.inj hf).symm) hW hS dX11_read_129
          obtain ⟨ex_27, hq_26, hf⟩ := of_bd hf
          refine L_19 FU _ _ _ _ _ hq_26 hW hS (lv_sub hl [0] rfl) (fun ret he => by subst he; exact hf) (fun x he H locs ls hW hS hl => ?_)
          subst he
          obtain ⟨w_28, ew_28⟩ : ∃ y, y = x := ⟨_, rfl⟩
          subst ew_28
          have hf := of_sr hf
          have hW : hd z w_28 H := hW
          have hl : lv_has ls 3 [(0, .ref (z.2.1 0))] := hl
          refine lv_aload_n hx hb dX11_read_130 rfl (lv_at hl 0 rfl) ?_
          refine lv_aload_n hx hb dX11_read_131 rfl (lv_at hl 0 rfl) ?_
          refine get_X11_32 hx hb hts in_X11_read_X11 hown hK hz hW lk_X11_read_5 dX11_read_132 ?_
          refine put_X11_1 hx hb hts in_X11_read_X11 hown hK hz hW hS lk_X11_read_12 dX11_read_135 (fun H locs hW hS => ?_)
          obtain ⟨w_29, ew_29⟩ : ∃ y : Mem, y = mS w_28 0 1 (w_28.1 0 32) := ⟨_, rfl⟩
          have hW : hd z w_29 H := by rw [ew_29]; exact hW
          have hf := of_lt ew_29 hf
          refine lv_aload_n hx hb dX11_read_138 rfl (lv_at hl 0 rfl) ?_
          refine lv_aload_n hx hb dX11_read_139 rfl (lv_at hl 0 rfl) ?_
          refine get_X11_37 hx hb hts in_X11_read_X11 hown hK hz hW lk_X11_read_13 dX11_read_140 ?_
          refine put_X11_4 hx hb hts in_X11_read_X11 hown hK hz hW hS lk_X11_read_14 dX11_read_143 (fun H locs hW hS => ?_)
          obtain ⟨w_30, ew_30⟩ : ∃ y : Mem, y = mS w_29 0 4 (w_29.1 0 37) := ⟨_, rfl⟩
          have hW : hd z w_30 H := by rw [ew_30]; exact hW
          have hf := of_lt ew_30 hf
          refine lv_iconst (v := 0) hx hb dX11_read_146 (by decide) ?_
          refine lv_istore_n (lv' := [(2, .int 0), (0, .ref (z.2.1 0))]) hx hb dX11_read_147 rfl hl (by decide) rfl (fun ls hl => ?_)
          have L_33 : ∀ (n : Nat) (x2_31 : Int32) (w_32 : Mem) (exL_33 : Mem) (H : Heap) (locs : List Loc) (ls : Array Slot), f_X11_read_L148 n x2_31 w_32 = some exL_33 → hd z w_32 H → va_S (az z) s.heap H locs → lv_has ls 3 [(0, .ref (z.2.1 0)), (2, .int x2_31)] → (∀ (H : Heap) (locs : List Loc) (ls : Array Slot), hd z (exL_33) H → va_S (az z) s.heap H locs → lv_has ls 3 [(0, .ref (z.2.1 0))] → W p l e (rm 3 64) s m args below meth c H locs 0 0 Q (F0 m 186 ls [])) → W p l e (rm 3 64) s m args below meth c H locs 0 0 Q (F0 m 148 ls []) := by
            intro n
            induction n with
            | zero =>
              intro x2_31 w_32 exL_33 H locs ls hf
              have hf : (none : Option (Mem)) = some exL_33 := hf
              cases hf
            | succ n ihL_33 =>
              intro x2_31 w_32 exL_33 H locs ls hf hW hS hl hEL_33
              rw [f_X11_read_L148_s] at hf
              refine lv_iload_n hx hb dX11_read_148 rfl (lv_at hl 1 rfl) ?_
              refine lv_aload_n hx hb dX11_read_149 rfl (lv_at hl 0 rfl) ?_
              refine get_X11_1 hx hb hts in_X11_read_X11 hown hK hz hW lk_X11_read_12 dX11_read_150 ?_
              refine lv_icmp_ge (tgt := 186) hx hb dX11_read_153 (by decide) (fun c_34 => ?_) (fun c_34 => ?_)
              · have hf := of_t c_34 hf
                have hf := Option.some.inj hf
                subst hf
                exact hEL_33 _ _ _ hW hS (lv_sub hl [0] rfl)
              · have hf := of_f c_34 hf
                refine lv_aload_n hx hb dX11_read_156 rfl (lv_at hl 0 rfl) ?_
                refine get_X11_2 hx hb hts in_X11_read_X11 hown hK hz hW lk_X11_read_15 dX11_read_157 ?_
                refine lv_iload_n hx hb dX11_read_160 rfl (lv_at hl 1 rfl) ?_
                refine lv_aload_n hx hb dX11_read_161 rfl (lv_at hl 0 rfl) ?_
                refine get_X11_40 hx hb hts in_X11_read_X11 hown hK hz hW lk_X11_read_16 dX11_read_162 ?_
                refine lv_iload_n hx hb dX11_read_165 rfl (lv_at hl 1 rfl) ?_
                obtain ⟨g_35, hf⟩ := of_gd hf
                refine ld_M18 hx hb hK hz hW g_35 dX11_read_166 ?_
                refine lv_topi (fun v_36 ev_36 => ?_)
                have hf := of_lt ev_36 hf
                refine st_M1 hx hb hK hz hW hS g_35 dX11_read_167 (fun H locs hW hS => ?_)
                obtain ⟨w_37, ew_37⟩ : ∃ y : Mem, y = mS w_32 1 x2_31.toNatClampNeg v_36 := ⟨_, rfl⟩
                have hW : hd z w_37 H := by rw [ew_37]; exact hW
                have hf := of_lt ew_37 hf
                refine lv_aload_n hx hb dX11_read_168 rfl (lv_at hl 0 rfl) ?_
                refine get_X11_3 hx hb hts in_X11_read_X11 hown hK hz hW lk_X11_read_17 dX11_read_169 ?_
                refine lv_iload_n hx hb dX11_read_172 rfl (lv_at hl 1 rfl) ?_
                refine lv_aload_n hx hb dX11_read_173 rfl (lv_at hl 0 rfl) ?_
                refine get_X11_41 hx hb hts in_X11_read_X11 hown hK hz hW lk_X11_read_18 dX11_read_174 ?_
                refine lv_iload_n hx hb dX11_read_177 rfl (lv_at hl 1 rfl) ?_
                refine ld_M19 hx hb hK hz hW g_35 dX11_read_178 ?_
                refine lv_topi (fun v_38 ev_38 => ?_)
                have hf := of_lt ev_38 hf
                refine st_M2 hx hb hK hz hW hS g_35 dX11_read_179 (fun H locs hW hS => ?_)
                obtain ⟨w_39, ew_39⟩ : ∃ y : Mem, y = mS w_37 2 x2_31.toNatClampNeg v_38 := ⟨_, rfl⟩
                have hW : hd z w_39 H := by rw [ew_39]; exact hW
                have hf := of_lt ew_39 hf
                obtain ⟨x2_40, ex2_40⟩ : ∃ y : Int32, y = x2_31 + 1 := ⟨_, rfl⟩
                have hf := of_lt ex2_40 hf
                refine lv_iinc (v := x2_40) (lv' := [(2, .int x2_40), (0, .ref (z.2.1 0))]) hx hb dX11_read_180 hl (k := 1) rfl (by rw [ex2_40]; rfl) (by decide) rfl (fun ls hl => ?_)
                refine lv_goto (tgt := 148) hx hb dX11_read_183 (by decide) ?_
                exact ihL_33 _ _ _ _ _ _ hf hW hS (lv_sub hl [1, 0] rfl) hEL_33
          obtain ⟨ex_42, hq_41, hf⟩ := of_bd hf
          obtain ⟨w_43, ew_43⟩ : ∃ y, y = ex_42 := ⟨_, rfl⟩
          rw [← ew_43] at hf
          rw [← ew_43] at hq_41
          refine L_33 FU _ _ _ _ _ _ hq_41 hW hS (lv_sub hl [1, 0] rfl) (fun H locs ls hW hS hl => ?_)
          have hW : hd z w_43 H := hW
          have hl : lv_has ls 3 [(0, .ref (z.2.1 0))] := hl
          refine lv_aload_n hx hb dX11_read_186 rfl (lv_at hl 0 rfl) ?_
          refine get_X11_1 hx hb hts in_X11_read_X11 hown hK hz hW lk_X11_read_12 dX11_read_187 ?_
          exact hret _ _ _ _ _ _ hf hW hS dX11_read_190
        · have hf := of_f c_6 hf
          refine lv_aload_n hx hb dX11_read_35 rfl (lv_at hl 0 rfl) ?_
          refine lv_bipush (v := (-12)) hx hb dX11_read_36 (by decide) ?_
          obtain ⟨r_44, w_46, hq_45, hf⟩ := of_b2 hf
          refine m_goWi (va_runV (As := [.int (-12)]) (rest := []) ⟨hx, hb, hml, hown, hts⟩ (c_X11_refuse l hz (-12) w hq_45) (cwV 1 hts gX11_read_X11_refuse rfl rfl rfl (by decide +kernel) ⟨Nat.le_of_ble_eq_true rfl, Nat.le_of_ble_eq_true rfl⟩) (pre_X11 hK hz hW _) rfl rfl hl.1 rfl (lv_room (Nat.le_of_ble_eq_true rfl)) dX11_read_38 ⟨Nat.le_refl _, Nat.le_refl _⟩) hS (fun H locs hW hS => ?_)
          exact hret _ _ _ _ _ _ hf hW hS dX11_read_41
      · have hf := of_t c_5 hf
        refine lv_aload_n hx hb dX11_read_18 rfl (lv_at hl 0 rfl) ?_
        refine lv_bipush (v := (-11)) hx hb dX11_read_19 (by decide) ?_
        obtain ⟨r_47, w_49, hq_48, hf⟩ := of_b2 hf
        refine m_goWi (va_runV (As := [.int (-11)]) (rest := []) ⟨hx, hb, hml, hown, hts⟩ (c_X11_refuse l hz (-11) w hq_48) (cwV 1 hts gX11_read_X11_refuse rfl rfl rfl (by decide +kernel) ⟨Nat.le_of_ble_eq_true rfl, Nat.le_of_ble_eq_true rfl⟩) (pre_X11 hK hz hW _) rfl rfl hl.1 rfl (lv_room (Nat.le_of_ble_eq_true rfl)) dX11_read_21 ⟨Nat.le_refl _, Nat.le_refl _⟩) hS (fun H locs hW hS => ?_)
        exact hret _ _ _ _ _ _ hf hW hS dX11_read_24
    · have hf := of_t c_3 hf
      refine lv_iconst (v := (-1)) hx hb dX11_read_7 (by decide) ?_
      exact hret _ _ _ _ _ _ hf hW hS dX11_read_8
  exact START _ _ hW va_S.rf
theorem in_X11_point_X11 : ∀ w ∈ wsX110, w ∈ wsX11_point := by decide +kernel
theorem lk_X11_point_0 : Cond.fieldLink RX11 109 "CamStitchModel" "points" "I" ∈ wsX11_point := by decide +kernel
theorem lk_X11_point_1 : Cond.fieldLink RX11 103 "CamStitchModel" "thrown" "I" ∈ wsX11_point := by decide +kernel
theorem lk_X11_point_2 : Cond.fieldLink RX11 13 "CamStitchModel" "py" "[I" ∈ wsX11_point := by decide +kernel
theorem lk_X11_point_3 : Cond.fieldLink RX11 7 "CamStitchModel" "px" "[I" ∈ wsX11_point := by decide +kernel
set_option maxHeartbeats 4000000 in
set_option maxRecDepth 100000 in
theorem c_X11_point (l : Launch) {z : LZ} (hz : IM z) (x1 : Int32) (x2 : Int32) (w : Mem) {r : Int32} {w' : Mem} (hf : f_X11_point x1 x2 w = some (r, w')) : Met l yX11_point wsX11_point (rm 1 22) (PZ z w [.ref (z.2.1 0), .int x1, .int x2]) (QW z (some (.int r)) w') 0 0 (az z) := by
  refine mk_Wi (cc := cX11_point) (maxL := 3) (by decide +kernel) rfl (Nat.le_of_ble_eq_true rfl) ?_
  intro p e s m args below meth c hx hb hml hts hown hK hW Q hret ls hl
  have hl : lv_has ls 3 [(0, .ref (z.2.1 0)), (1, .int x1), (2, .int x2)] := hl
  unfold f_X11_point at hf
  have START : ∀ (H : Heap) (locs : List Loc), hd z w H → va_S (az z) s.heap H locs → W p l e (rm 1 22) s m args below meth c H locs 0 0 Q (F0 m 0 ls []) := by
    intro H locs hW hS
    refine lv_aload_n hx hb dX11_point_0 rfl (lv_at hl 0 rfl) ?_
    refine lv_iload_n hx hb dX11_point_1 rfl (lv_at hl 2 rfl) ?_
    refine lv_iconst (v := 0) hx hb dX11_point_2 (by decide) ?_
    refine lv_iconst (v := 1) hx hb dX11_point_3 (by decide) ?_
    obtain ⟨r_1, hq_2, hf⟩ := of_bd hf
    refine m_goRi (va_runS (As := [.int x2, .int 0, .int 1]) (rest := [.ref (z.2.1 0)]) ⟨hx, hb, hml, hown, hts⟩ (c_X11_in l hz x2 0 1 w hq_2) (va_cwS 3 hts gX11_point_X11_in rfl rfl rfl (by decide +kernel) ⟨Nat.le_of_ble_eq_true rfl, Nat.le_of_ble_eq_true rfl⟩) (m_preS hK hW _) rfl rfl hl.1 rfl (lv_room (Nat.le_of_ble_eq_true rfl)) dX11_point_4 ⟨Nat.le_refl _, Nat.le_refl _⟩) ?_
    obtain ⟨k_3, ek_3, hf⟩ := of_lz hf
    have Jk_3 : ∀ (t_4 : Int32) (ls : Array Slot), k_3 t_4 = some (r, w') → lv_has ls 3 [(0, .ref (z.2.1 0)), (1, .int x1), (2, .int x2)] → W p l e (rm 1 22) s m args below meth c H locs 0 0 Q (F0 m 33 ls [.int t_4, .ref (z.2.1 0)]) := by
      intro t_4 ls hf hl
      have hf := of_j1 ek_3 hf
      refine put_X11_0 hx hb hts in_X11_point_X11 hown hK hz hW hS lk_X11_point_1 dX11_point_33 (fun H locs hW hS => ?_)
      obtain ⟨w_5, ew_5⟩ : ∃ y : Mem, y = mS w 0 0 t_4 := ⟨_, rfl⟩
      have hW : hd z w_5 H := by rw [ew_5]; exact hW
      have hf := of_lt ew_5 hf
      refine lv_aload_n hx hb dX11_point_36 rfl (lv_at hl 0 rfl) ?_
      refine get_X11_0 hx hb hts in_X11_point_X11 hown hK hz hW lk_X11_point_1 dX11_point_37 ?_
      refine lv_if_eq (tgt := 47) hx hb dX11_point_40 (by decide) (fun c_6 => ?_) (fun c_6 => ?_)
      · have hf := of_t c_6 hf
        refine lv_iload_n hx hb dX11_point_47 rfl (lv_at hl 2 rfl) ?_
        refine lv_if_ne (tgt := 60) hx hb dX11_point_48 (by decide) (fun c_7 => ?_) (fun c_7 => ?_)
        · have hf := of_f c_7 hf
          refine lv_aload_n hx hb dX11_point_60 rfl (lv_at hl 0 rfl) ?_
          refine get_X11_3 hx hb hts in_X11_point_X11 hown hK hz hW lk_X11_point_2 dX11_point_61 ?_
          refine lv_iload_n hx hb dX11_point_64 rfl (lv_at hl 1 rfl) ?_
          obtain ⟨g_8, hf⟩ := of_gd hf
          refine ld_M2 hx hb hK hz hW g_8 dX11_point_65 ?_
          exact hret _ _ _ _ _ _ hf hW hS dX11_point_66
        · have hf := of_t c_7 hf
          refine lv_aload_n hx hb dX11_point_51 rfl (lv_at hl 0 rfl) ?_
          refine get_X11_2 hx hb hts in_X11_point_X11 hown hK hz hW lk_X11_point_3 dX11_point_52 ?_
          refine lv_iload_n hx hb dX11_point_55 rfl (lv_at hl 1 rfl) ?_
          obtain ⟨g_9, hf⟩ := of_gd hf
          refine ld_M1 hx hb hK hz hW g_9 dX11_point_56 ?_
          refine lv_goto (tgt := 66) hx hb dX11_point_57 (by decide) ?_
          exact hret _ _ _ _ _ _ hf hW hS dX11_point_66
      · have hf := of_f c_6 hf
        refine lv_iconst (v := 0) hx hb dX11_point_43 (by decide) ?_
        refine lv_goto (tgt := 66) hx hb dX11_point_44 (by decide) ?_
        exact hret _ _ _ _ _ _ hf hW hS dX11_point_66
    refine lv_if_ne (tgt := 14) hx hb dX11_point_7 (by decide) (fun c_10 => ?_) (fun c_10 => ?_)
    · have hf := of_f c_10 hf
      refine lv_iload_n hx hb dX11_point_14 rfl (lv_at hl 1 rfl) ?_
      refine lv_iconst (v := 0) hx hb dX11_point_15 (by decide) ?_
      refine lv_aload_n hx hb dX11_point_16 rfl (lv_at hl 0 rfl) ?_
      refine get_X11_1 hx hb hts in_X11_point_X11 hown hK hz hW lk_X11_point_0 dX11_point_17 ?_
      refine lv_iconst (v := 1) hx hb dX11_point_20 (by decide) ?_
      refine lv_isub hx hb dX11_point_21 ?_
      obtain ⟨r_11, hq_12, hf⟩ := of_bd hf
      refine m_goRi (va_runS (As := [.int x1, .int 0, .int ((w.1 0 1) - 1)]) (rest := [.ref (z.2.1 0)]) ⟨hx, hb, hml, hown, hts⟩ (c_X11_in l hz x1 0 ((w.1 0 1) - 1) w hq_12) (va_cwS 3 hts gX11_point_X11_in rfl rfl rfl (by decide +kernel) ⟨Nat.le_of_ble_eq_true rfl, Nat.le_of_ble_eq_true rfl⟩) (m_preS hK hW _) rfl rfl hl.1 rfl (lv_room (Nat.le_of_ble_eq_true rfl)) dX11_point_22 ⟨Nat.le_refl _, Nat.le_refl _⟩) ?_
      refine lv_if_ne (tgt := 32) hx hb dX11_point_25 (by decide) (fun c_13 => ?_) (fun c_13 => ?_)
      · have hf := of_f c_13 hf
        refine lv_iconst (v := 0) hx hb dX11_point_32 (by decide) ?_
        exact Jk_3 _ _ hf (lv_sub hl [0, 1, 2] rfl)
      · have hf := of_t c_13 hf
        refine lv_iconst (v := 2) hx hb dX11_point_28 (by decide) ?_
        refine lv_goto (tgt := 33) hx hb dX11_point_29 (by decide) ?_
        exact Jk_3 _ _ hf (lv_sub hl [0, 1, 2] rfl)
    · have hf := of_t c_10 hf
      refine lv_iconst (v := 1) hx hb dX11_point_10 (by decide) ?_
      refine lv_goto (tgt := 33) hx hb dX11_point_11 (by decide) ?_
      exact Jk_3 _ _ hf (lv_sub hl [0, 1, 2] rfl)
  exact START _ _ hW va_S.rf
theorem in_X11_advance_X11 : ∀ w ∈ wsX110, w ∈ wsX11_advance := by decide +kernel
theorem lk_X11_advance_0 : Cond.fieldLink RX11 109 "CamStitchModel" "points" "I" ∈ wsX11_advance := by decide +kernel
theorem lk_X11_advance_1 : Cond.fieldLink RX11 103 "CamStitchModel" "thrown" "I" ∈ wsX11_advance := by decide +kernel
theorem lk_X11_advance_2 : Cond.fieldLink RX11 192 "CamStitchModel" "advance" "I" ∈ wsX11_advance := by decide +kernel
set_option maxHeartbeats 4000000 in
set_option maxRecDepth 100000 in
theorem c_X11_advance (l : Launch) {z : LZ} (hz : IM z)  (w : Mem) {r : Int32} {w' : Mem} (hf : f_X11_advance w = some (r, w')) : Met l yX11_advance wsX11_advance (rm 0 0) (PZ z w [.ref (z.2.1 0)]) (QW z (some (.int r)) w') 0 0 (az z) := by
  refine mk_Wi (cc := cX11_advance) (maxL := 1) (by decide +kernel) rfl (Nat.le_of_ble_eq_true rfl) ?_
  intro p e s m args below meth c hx hb hml hts hown hK hW Q hret ls hl
  have hl : lv_has ls 1 [(0, .ref (z.2.1 0))] := hl
  unfold f_X11_advance at hf
  have START : ∀ (H : Heap) (locs : List Loc), hd z w H → va_S (az z) s.heap H locs → W p l e (rm 0 0) s m args below meth c H locs 0 0 Q (F0 m 0 ls []) := by
    intro H locs hW hS
    refine lv_aload_n hx hb dX11_advance_0 rfl (lv_at hl 0 rfl) ?_
    refine lv_aload_n hx hb dX11_advance_1 rfl (lv_at hl 0 rfl) ?_
    refine get_X11_1 hx hb hts in_X11_advance_X11 hown hK hz hW lk_X11_advance_0 dX11_advance_2 ?_
    have J_2 : ∀ (v_1 : Int32) (ls : Array Slot), v_1 = (if (w.1 0 1) = 0 then 1 else 0) → lv_has ls 1 [(0, .ref (z.2.1 0))] → W p l e (rm 0 0) s m args below meth c H locs 0 0 Q (F0 m 13 ls [.int v_1, .ref (z.2.1 0)]) := by
      intro v_1 ls ev_1 hl
      have hf := of_lt ev_1 hf
      refine put_X11_0 hx hb hts in_X11_advance_X11 hown hK hz hW hS lk_X11_advance_1 dX11_advance_13 (fun H locs hW hS => ?_)
      obtain ⟨w_3, ew_3⟩ : ∃ y : Mem, y = mS w 0 0 v_1 := ⟨_, rfl⟩
      have hW : hd z w_3 H := by rw [ew_3]; exact hW
      have hf := of_lt ew_3 hf
      refine lv_aload_n hx hb dX11_advance_16 rfl (lv_at hl 0 rfl) ?_
      refine get_X11_0 hx hb hts in_X11_advance_X11 hown hK hz hW lk_X11_advance_1 dX11_advance_17 ?_
      have J_5 : ∀ (v_4 : Int32) (ls : Array Slot), v_4 = (if (w_3.1 0 0) = 0 then (w_3.1 0 4) else 0) → lv_has ls 1 [] → W p l e (rm 0 0) s m args below meth c H locs 0 0 Q (F0 m 31 ls [.int v_4]) := by
        intro v_4 ls ev_4 hl
        have hf := of_lt ev_4 hf
        exact hret _ _ _ _ _ _ hf hW hS dX11_advance_31
      refine lv_if_eq (tgt := 27) hx hb dX11_advance_20 (by decide) (fun c_6 => ?_) (fun c_6 => ?_)
      · refine lv_aload_n hx hb dX11_advance_27 rfl (lv_at hl 0 rfl) ?_
        refine get_X11_4 hx hb hts in_X11_advance_X11 hown hK hz hW lk_X11_advance_2 dX11_advance_28 ?_
        exact J_5 _ _ (by rw [if_pos c_6]) (lv_sub hl [] rfl)
      · refine lv_iconst (v := 0) hx hb dX11_advance_23 (by decide) ?_
        refine lv_goto (tgt := 31) hx hb dX11_advance_24 (by decide) ?_
        exact J_5 _ _ (by rw [if_neg c_6]) (lv_sub hl [] rfl)
    refine lv_if_ne (tgt := 12) hx hb dX11_advance_5 (by decide) (fun c_7 => ?_) (fun c_7 => ?_)
    · refine lv_iconst (v := 0) hx hb dX11_advance_12 (by decide) ?_
      exact J_2 _ _ (by rw [if_neg c_7]) (lv_sub hl [0] rfl)
    · refine lv_iconst (v := 1) hx hb dX11_advance_8 (by decide) ?_
      refine lv_goto (tgt := 13) hx hb dX11_advance_9 (by decide) ?_
      exact J_2 _ _ (by rw [if_pos c_7]) (lv_sub hl [0] rfl)
  exact START _ _ hW va_S.rf
theorem in_X11_toX_X11 : ∀ w ∈ wsX110, w ∈ wsX11_toX := by decide +kernel
theorem lk_X11_toX_0 : Cond.fieldLink RX11 7 "CamStitchModel" "px" "[I" ∈ wsX11_toX := by decide +kernel
theorem lk_X11_toX_1 : Cond.fieldLink RX11 109 "CamStitchModel" "points" "I" ∈ wsX11_toX := by decide +kernel
set_option maxHeartbeats 4000000 in
set_option maxRecDepth 100000 in
theorem c_X11_toX (l : Launch) {z : LZ} (hz : IM z) (x1 : Int32) (w : Mem) {r : Int32} (hf : f_X11_toX x1 w = some r) : Met l yX11_toX wsX11_toX (rm 0 0) (PZ z w [.ref (z.2.1 0), .int x1]) (QR (some (.int r))) 0 0 (fun _ => False) := by
  refine mk_Ri (cc := cX11_toX) (maxL := 2) (by decide +kernel) rfl (Nat.le_of_ble_eq_true rfl) ?_
  intro p e s m args below meth c hx hb hml hts hown hK hW Q hret ls hl
  have hl : lv_has ls 2 [(0, .ref (z.2.1 0)), (1, .int x1)] := hl
  unfold f_X11_toX at hf
  refine lv_aload_n hx hb dX11_toX_0 rfl (lv_at hl 0 rfl) ?_
  refine get_X11_2 hx hb hts in_X11_toX_X11 hown hK hz hW lk_X11_toX_0 dX11_toX_1 ?_
  refine lv_iload_n hx hb dX11_toX_4 rfl (lv_at hl 1 rfl) ?_
  refine lv_iconst (v := 1) hx hb dX11_toX_5 (by decide) ?_
  refine lv_iadd hx hb dX11_toX_6 ?_
  refine lv_aload_n hx hb dX11_toX_7 rfl (lv_at hl 0 rfl) ?_
  refine get_X11_1 hx hb hts in_X11_toX_X11 hown hK hz hW lk_X11_toX_1 dX11_toX_8 ?_
  obtain ⟨g_1, hf⟩ := of_gd hf
  refine lv_irem hx hb dX11_toX_11 g_1 ?_
  refine lv_topi (fun v_2 ev_2 => ?_)
  have hf := of_lt (e := irm (x1 + 1) (w.1 0 1)) ev_2 hf
  obtain ⟨g_3, hf⟩ := of_gd hf
  refine ld_M1 hx hb hK hz hW g_3 dX11_toX_12 ?_
  exact hret _ _ _ hf dX11_toX_13
theorem in_X11_toY_X11 : ∀ w ∈ wsX110, w ∈ wsX11_toY := by decide +kernel
theorem lk_X11_toY_0 : Cond.fieldLink RX11 109 "CamStitchModel" "points" "I" ∈ wsX11_toY := by decide +kernel
theorem lk_X11_toY_1 : Cond.fieldLink RX11 13 "CamStitchModel" "py" "[I" ∈ wsX11_toY := by decide +kernel
theorem lk_X11_toY_2 : Cond.fieldLink RX11 192 "CamStitchModel" "advance" "I" ∈ wsX11_toY := by decide +kernel
set_option maxHeartbeats 4000000 in
set_option maxRecDepth 100000 in
theorem c_X11_toY (l : Launch) {z : LZ} (hz : IM z) (x1 : Int32) (w : Mem) {r : Int32} (hf : f_X11_toY x1 w = some r) : Met l yX11_toY wsX11_toY (rm 0 0) (PZ z w [.ref (z.2.1 0), .int x1]) (QR (some (.int r))) 0 0 (fun _ => False) := by
  refine mk_Ri (cc := cX11_toY) (maxL := 2) (by decide +kernel) rfl (Nat.le_of_ble_eq_true rfl) ?_
  intro p e s m args below meth c hx hb hml hts hown hK hW Q hret ls hl
  have hl : lv_has ls 2 [(0, .ref (z.2.1 0)), (1, .int x1)] := hl
  unfold f_X11_toY at hf
  refine lv_iload_n hx hb dX11_toY_0 rfl (lv_at hl 1 rfl) ?_
  refine lv_iconst (v := 1) hx hb dX11_toY_1 (by decide) ?_
  refine lv_iadd hx hb dX11_toY_2 ?_
  refine lv_aload_n hx hb dX11_toY_3 rfl (lv_at hl 0 rfl) ?_
  refine get_X11_1 hx hb hts in_X11_toY_X11 hown hK hz hW lk_X11_toY_0 dX11_toY_4 ?_
  refine lv_icmp_ge (tgt := 21) hx hb dX11_toY_7 (by decide) (fun c_1 => ?_) (fun c_1 => ?_)
  · have hf := of_t c_1 hf
    refine lv_aload_n hx hb dX11_toY_21 rfl (lv_at hl 0 rfl) ?_
    refine get_X11_3 hx hb hts in_X11_toY_X11 hown hK hz hW lk_X11_toY_1 dX11_toY_22 ?_
    refine lv_iconst (v := 0) hx hb dX11_toY_25 (by decide) ?_
    obtain ⟨g_2, hf⟩ := of_gd hf
    refine ld_M2 hx hb hK hz hW g_2 dX11_toY_26 ?_
    refine lv_topi (fun v_3 ev_3 => ?_)
    have hf := of_lt ev_3 hf
    refine lv_aload_n hx hb dX11_toY_27 rfl (lv_at hl 0 rfl) ?_
    refine get_X11_4 hx hb hts in_X11_toY_X11 hown hK hz hW lk_X11_toY_2 dX11_toY_28 ?_
    refine lv_iadd hx hb dX11_toY_31 ?_
    exact hret _ _ _ hf dX11_toY_32
  · have hf := of_f c_1 hf
    refine lv_aload_n hx hb dX11_toY_10 rfl (lv_at hl 0 rfl) ?_
    refine get_X11_3 hx hb hts in_X11_toY_X11 hown hK hz hW lk_X11_toY_1 dX11_toY_11 ?_
    refine lv_iload_n hx hb dX11_toY_14 rfl (lv_at hl 1 rfl) ?_
    refine lv_iconst (v := 1) hx hb dX11_toY_15 (by decide) ?_
    refine lv_iadd hx hb dX11_toY_16 ?_
    obtain ⟨g_4, hf⟩ := of_gd hf
    refine ld_M2 hx hb hK hz hW g_4 dX11_toY_17 ?_
    refine lv_topi (fun v_5 ev_5 => ?_)
    have hf := of_lt ev_5 hf
    refine lv_goto (tgt := 32) hx hb dX11_toY_18 (by decide) ?_
    exact hret _ _ _ hf dX11_toY_32
theorem in_X11_parts_X11 : ∀ w ∈ wsX110, w ∈ wsX11_parts := by decide +kernel
theorem lk_X11_parts_0 : Cond.fieldLink RX11 7 "CamStitchModel" "px" "[I" ∈ wsX11_parts := by decide +kernel
theorem lk_X11_parts_1 : Cond.fieldLink RX11 13 "CamStitchModel" "py" "[I" ∈ wsX11_parts := by decide +kernel
set_option maxHeartbeats 4000000 in
set_option maxRecDepth 100000 in
theorem c_X11_parts (l : Launch) {z : LZ} (hz : IM z) (x1 : Int32) (x2 : Int32) (x3 : Int32) (w : Mem) {r : Int32} (hf : f_X11_parts x1 x2 x3 w = some r) : Met l yX11_parts wsX11_parts (rm 1 21) (PZ z w [.ref (z.2.1 0), .int x1, .int x2, .int x3]) (QR (some (.int r))) 0 0 (fun _ => False) := by
  refine mk_Ri (cc := cX11_parts) (maxL := 5) (by decide +kernel) rfl (Nat.le_of_ble_eq_true rfl) ?_
  intro p e s m args below meth c hx hb hml hts hown hK hW Q hret ls hl
  have hl : lv_has ls 5 [(0, .ref (z.2.1 0)), (1, .int x1), (2, .int x2), (3, .int x3)] := hl
  unfold f_X11_parts at hf
  refine lv_iconst (v := 1) hx hb dX11_parts_0 (by decide) ?_
  refine lv_istore (lv' := [(4, .int 1), (0, .ref (z.2.1 0)), (1, .int x1), (2, .int x2), (3, .int x3)]) hx hb dX11_parts_1 hl (by decide) rfl (fun ls hl => ?_)
  have L_2 : ∀ (n : Nat) (x4_1 : Int32) (exL_2 : Int32) (ls : Array Slot), f_X11_parts_L3 w x1 x2 x3 n x4_1 = some exL_2 → lv_has ls 5 [(0, .ref (z.2.1 0)), (1, .int x1), (2, .int x2), (3, .int x3), (4, .int x4_1)] → (∀ (ls : Array Slot), lv_has ls 5 [(4, .int exL_2)] → W p l e (rm 1 21) s m args below meth c s.heap [] 0 0 Q (F0 m 53 ls [])) → W p l e (rm 1 21) s m args below meth c s.heap [] 0 0 Q (F0 m 3 ls []) := by
    intro n
    induction n with
    | zero =>
      intro x4_1 exL_2 ls hf
      have hf : (none : Option (Int32)) = some exL_2 := hf
      cases hf
    | succ n ihL_2 =>
      intro x4_1 exL_2 ls hf hl hEL_2
      rw [f_X11_parts_L3_s] at hf
      refine lv_iload hx hb dX11_parts_3 (lv_at hl 4 rfl) ?_
      refine lv_iload_n hx hb dX11_parts_5 rfl (lv_at hl 2 rfl) ?_
      refine lv_imul hx hb dX11_parts_6 ?_
      refine lv_aload_n hx hb dX11_parts_7 rfl (lv_at hl 0 rfl) ?_
      refine lv_iload_n hx hb dX11_parts_8 rfl (lv_at hl 1 rfl) ?_
      obtain ⟨r_3, hq_4, hf⟩ := of_bd hf
      refine m_goRi (va_runV (As := [.int x1]) (rest := [.int (x4_1 * x2)]) ⟨hx, hb, hml, hown, hts⟩ (c_X11_toX l hz x1 w hq_4) (cwV 1 hts gX11_parts_X11_toX rfl rfl rfl (by decide +kernel) ⟨Nat.le_of_ble_eq_true rfl, Nat.le_of_ble_eq_true rfl⟩) (pre_X11 hK hz hW _) rfl rfl hl.1 rfl (lv_room (Nat.le_of_ble_eq_true rfl)) dX11_parts_9 ⟨Nat.le_refl _, Nat.le_refl _⟩) ?_
      refine lv_aload_n hx hb dX11_parts_12 rfl (lv_at hl 0 rfl) ?_
      refine get_X11_2 hx hb hts in_X11_parts_X11 hown hK hz hW lk_X11_parts_0 dX11_parts_13 ?_
      refine lv_iload_n hx hb dX11_parts_16 rfl (lv_at hl 1 rfl) ?_
      obtain ⟨g_5, hf⟩ := of_gd hf
      refine ld_M1 hx hb hK hz hW g_5 dX11_parts_17 ?_
      refine lv_isub hx hb dX11_parts_18 ?_
      refine lv_topi (fun v_6 ev_6 => ?_)
      have hf := of_lt ev_6 hf
      obtain ⟨r_7, hq_8, hf⟩ := of_bd hf
      refine m_goRi (va_runS (As := [.int v_6]) (rest := [.int (x4_1 * x2)]) ⟨hx, hb, hml, hown, hts⟩ (c_X11_away l hz v_6 w hq_8) (va_cwS 1 hts gX11_parts_X11_away rfl rfl rfl (by decide +kernel) ⟨Nat.le_of_ble_eq_true rfl, Nat.le_of_ble_eq_true rfl⟩) (m_preS hK hW _) rfl rfl hl.1 rfl (lv_room (Nat.le_of_ble_eq_true rfl)) dX11_parts_19 ⟨Nat.le_refl _, Nat.le_refl _⟩) ?_
      refine lv_icmp_lt (tgt := 47) hx hb dX11_parts_22 (by decide) (fun c_9 => ?_) (fun c_9 => ?_)
      · have hf := of_t c_9 hf
        obtain ⟨x4_10, ex4_10⟩ : ∃ y : Int32, y = x4_1 + 1 := ⟨_, rfl⟩
        have hf := of_lt ex4_10 hf
        refine lv_iinc (v := x4_10) (lv' := [(4, .int x4_10), (0, .ref (z.2.1 0)), (1, .int x1), (2, .int x2), (3, .int x3)]) hx hb dX11_parts_47 hl (k := 4) rfl (by rw [ex4_10]; rfl) (by decide) rfl (fun ls hl => ?_)
        refine lv_goto (tgt := 3) hx hb dX11_parts_50 (by decide) ?_
        exact ihL_2 _ _ _ hf (lv_sub hl [1, 2, 3, 4, 0] rfl) hEL_2
      · have hf := of_f c_9 hf
        refine lv_iload hx hb dX11_parts_25 (lv_at hl 4 rfl) ?_
        refine lv_iload_n hx hb dX11_parts_27 rfl (lv_at hl 3 rfl) ?_
        refine lv_imul hx hb dX11_parts_28 ?_
        refine lv_aload_n hx hb dX11_parts_29 rfl (lv_at hl 0 rfl) ?_
        refine lv_iload_n hx hb dX11_parts_30 rfl (lv_at hl 1 rfl) ?_
        obtain ⟨r_11, hq_12, hf⟩ := of_bd hf
        refine m_goRi (va_runV (As := [.int x1]) (rest := [.int (x4_1 * x3)]) ⟨hx, hb, hml, hown, hts⟩ (c_X11_toY l hz x1 w hq_12) (cwV 1 hts gX11_parts_X11_toY rfl rfl rfl (by decide +kernel) ⟨Nat.le_of_ble_eq_true rfl, Nat.le_of_ble_eq_true rfl⟩) (pre_X11 hK hz hW _) rfl rfl hl.1 rfl (lv_room (Nat.le_of_ble_eq_true rfl)) dX11_parts_31 ⟨Nat.le_refl _, Nat.le_refl _⟩) ?_
        refine lv_aload_n hx hb dX11_parts_34 rfl (lv_at hl 0 rfl) ?_
        refine get_X11_3 hx hb hts in_X11_parts_X11 hown hK hz hW lk_X11_parts_1 dX11_parts_35 ?_
        refine lv_iload_n hx hb dX11_parts_38 rfl (lv_at hl 1 rfl) ?_
        refine ld_M2 hx hb hK hz hW g_5 dX11_parts_39 ?_
        refine lv_isub hx hb dX11_parts_40 ?_
        refine lv_topi (fun v_13 ev_13 => ?_)
        have hf := of_lt ev_13 hf
        obtain ⟨r_14, hq_15, hf⟩ := of_bd hf
        refine m_goRi (va_runS (As := [.int v_13]) (rest := [.int (x4_1 * x3)]) ⟨hx, hb, hml, hown, hts⟩ (c_X11_away l hz v_13 w hq_15) (va_cwS 1 hts gX11_parts_X11_away rfl rfl rfl (by decide +kernel) ⟨Nat.le_of_ble_eq_true rfl, Nat.le_of_ble_eq_true rfl⟩) (m_preS hK hW _) rfl rfl hl.1 rfl (lv_room (Nat.le_of_ble_eq_true rfl)) dX11_parts_41 ⟨Nat.le_refl _, Nat.le_refl _⟩) ?_
        refine lv_icmp_ge (tgt := 53) hx hb dX11_parts_44 (by decide) (fun c_16 => ?_) (fun c_16 => ?_)
        · have hf := of_t c_16 hf
          have hf := Option.some.inj hf
          subst hf
          exact hEL_2 _ (lv_sub hl [4] rfl)
        · have hf := of_f c_16 hf
          obtain ⟨x4_17, ex4_17⟩ : ∃ y : Int32, y = x4_1 + 1 := ⟨_, rfl⟩
          have hf := of_lt ex4_17 hf
          refine lv_iinc (v := x4_17) (lv' := [(4, .int x4_17), (0, .ref (z.2.1 0)), (1, .int x1), (2, .int x2), (3, .int x3)]) hx hb dX11_parts_47 hl (k := 4) rfl (by rw [ex4_17]; rfl) (by decide) rfl (fun ls hl => ?_)
          refine lv_goto (tgt := 3) hx hb dX11_parts_50 (by decide) ?_
          exact ihL_2 _ _ _ hf (lv_sub hl [1, 2, 3, 4, 0] rfl) hEL_2
  obtain ⟨ex_19, hq_18, hf⟩ := of_bd hf
  obtain ⟨x4_20, ex4_20⟩ : ∃ y, y = ex_19 := ⟨_, rfl⟩
  rw [← ex4_20] at hf
  rw [← ex4_20] at hq_18
  refine L_2 FU _ _ _ hq_18 (lv_sub hl [1, 2, 3, 4, 0] rfl) (fun ls hl => ?_)
  have hl : lv_has ls 5 [(4, .int x4_20)] := hl
  refine lv_iload hx hb dX11_parts_53 (lv_at hl 0 rfl) ?_
  exact hret _ _ _ hf dX11_parts_55
theorem in_X11_make_X11 : ∀ w ∈ wsX110, w ∈ wsX11_make := by decide +kernel
theorem lk_X11_make_0 : Cond.fieldLink RX11 109 "CamStitchModel" "points" "I" ∈ wsX11_make := by decide +kernel
theorem lk_X11_make_1 : Cond.fieldLink RX11 13 "CamStitchModel" "py" "[I" ∈ wsX11_make := by decide +kernel
theorem lk_X11_make_2 : Cond.fieldLink RX11 19 "CamStitchModel" "swing" "[I" ∈ wsX11_make := by decide +kernel
theorem lk_X11_make_3 : Cond.fieldLink RX11 7 "CamStitchModel" "px" "[I" ∈ wsX11_make := by decide +kernel
theorem lk_X11_make_4 : Cond.fieldLink RX11 22 "CamStitchModel" "feed" "[I" ∈ wsX11_make := by decide +kernel
theorem lk_X11_make_5 : Cond.fieldLink RX11 16 "CamStitchModel" "many" "[I" ∈ wsX11_make := by decide +kernel
set_option maxHeartbeats 4000000 in
set_option maxRecDepth 100000 in
theorem c_X11_make (l : Launch) {z : LZ} (hz : IM z) (x1 : Int32) (x2 : Int32) (w : Mem) {r : Int32} {w' : Mem} (hf : f_X11_make x1 x2 w = some (r, w')) : Met l yX11_make wsX11_make (rm 2 45) (PZ z w [.ref (z.2.1 0), .int x1, .int x2]) (QW z (some (.int r)) w') 0 0 (az z) := by
  refine mk_Wi (cc := cX11_make) (maxL := 10) (by decide +kernel) rfl (Nat.le_of_ble_eq_true rfl) ?_
  intro p e s m args below meth c hx hb hml hts hown hK hW Q hret ls hl
  have hl : lv_has ls 10 [(0, .ref (z.2.1 0)), (1, .int x1), (2, .int x2)] := hl
  unfold f_X11_make at hf
  have START : ∀ (H : Heap) (locs : List Loc), hd z w H → va_S (az z) s.heap H locs → W p l e (rm 2 45) s m args below meth c H locs 0 0 Q (F0 m 0 ls []) := by
    intro H locs hW hS
    refine lv_iload_n hx hb dX11_make_0 rfl (lv_at hl 1 rfl) ?_
    refine lv_iconst (v := 1) hx hb dX11_make_1 (by decide) ?_
    refine lv_bipush (v := 12) hx hb dX11_make_2 (by decide) ?_
    obtain ⟨r_1, hq_2, hf⟩ := of_bd hf
    refine m_goRi (va_runS (As := [.int x1, .int 1, .int 12]) (rest := []) ⟨hx, hb, hml, hown, hts⟩ (c_X11_in l hz x1 1 12 w hq_2) (va_cwS 3 hts gX11_make_X11_in rfl rfl rfl (by decide +kernel) ⟨Nat.le_of_ble_eq_true rfl, Nat.le_of_ble_eq_true rfl⟩) (m_preS hK hW _) rfl rfl hl.1 rfl (lv_room (Nat.le_of_ble_eq_true rfl)) dX11_make_4 ⟨Nat.le_refl _, Nat.le_refl _⟩) ?_
    refine lv_if_eq (tgt := 20) hx hb dX11_make_7 (by decide) (fun c_3 => ?_) (fun c_3 => ?_)
    · have hf := of_t c_3 hf
      refine lv_iconst (v := (-1)) hx hb dX11_make_20 (by decide) ?_
      exact hret _ _ _ _ _ _ hf hW hS dX11_make_21
    · have hf := of_f c_3 hf
      refine lv_iload_n hx hb dX11_make_10 rfl (lv_at hl 2 rfl) ?_
      refine lv_iconst (v := 1) hx hb dX11_make_11 (by decide) ?_
      refine lv_bipush (v := 12) hx hb dX11_make_12 (by decide) ?_
      obtain ⟨r_4, hq_5, hf⟩ := of_bd hf
      refine m_goRi (va_runS (As := [.int x2, .int 1, .int 12]) (rest := []) ⟨hx, hb, hml, hown, hts⟩ (c_X11_in l hz x2 1 12 w hq_5) (va_cwS 3 hts gX11_make_X11_in rfl rfl rfl (by decide +kernel) ⟨Nat.le_of_ble_eq_true rfl, Nat.le_of_ble_eq_true rfl⟩) (m_preS hK hW _) rfl rfl hl.1 rfl (lv_room (Nat.le_of_ble_eq_true rfl)) dX11_make_14 ⟨Nat.le_refl _, Nat.le_refl _⟩) ?_
      refine lv_if_ne (tgt := 22) hx hb dX11_make_17 (by decide) (fun c_6 => ?_) (fun c_6 => ?_)
      · have hf := of_f c_6 hf
        refine lv_aload_n hx hb dX11_make_22 rfl (lv_at hl 0 rfl) ?_
        refine get_X11_1 hx hb hts in_X11_make_X11 hown hK hz hW lk_X11_make_0 dX11_make_23 ?_
        refine lv_if_ne (tgt := 32) hx hb dX11_make_26 (by decide) (fun c_7 => ?_) (fun c_7 => ?_)
        · have hf := of_f c_7 hf
          refine lv_iconst (v := 0) hx hb dX11_make_32 (by decide) ?_
          refine lv_istore_n (lv' := [(3, .int 0), (0, .ref (z.2.1 0)), (1, .int x1), (2, .int x2)]) hx hb dX11_make_33 rfl hl (by decide) rfl (fun ls hl => ?_)
          refine lv_iconst (v := 0) hx hb dX11_make_34 (by decide) ?_
          refine lv_istore (lv' := [(4, .int 0), (3, .int 0), (0, .ref (z.2.1 0)), (1, .int x1), (2, .int x2)]) hx hb dX11_make_35 hl (by decide) rfl (fun ls hl => ?_)
          have L_10 : ∀ (n : Nat) (x3_8 : Int32) (x4_9 : Int32) (exL_10 : Int32) (ls : Array Slot), f_X11_make_L37 w x1 x2 n x3_8 x4_9 = some exL_10 → lv_has ls 10 [(0, .ref (z.2.1 0)), (1, .int x1), (2, .int x2), (3, .int x3_8), (4, .int x4_9)] → (∀ (ls : Array Slot), lv_has ls 10 [(0, .ref (z.2.1 0)), (1, .int x1), (2, .int x2), (3, .int exL_10)] → W p l e (rm 2 45) s m args below meth c H locs 0 0 Q (F0 m 63 ls [])) → W p l e (rm 2 45) s m args below meth c H locs 0 0 Q (F0 m 37 ls []) := by
            intro n
            induction n with
            | zero =>
              intro x3_8 x4_9 exL_10 ls hf
              have hf : (none : Option (Int32)) = some exL_10 := hf
              cases hf
            | succ n ihL_10 =>
              intro x3_8 x4_9 exL_10 ls hf hl hEL_10
              rw [f_X11_make_L37_s] at hf
              refine lv_iload hx hb dX11_make_37 (lv_at hl 4 rfl) ?_
              refine lv_aload_n hx hb dX11_make_39 rfl (lv_at hl 0 rfl) ?_
              refine get_X11_1 hx hb hts in_X11_make_X11 hown hK hz hW lk_X11_make_0 dX11_make_40 ?_
              refine lv_icmp_ge (tgt := 63) hx hb dX11_make_43 (by decide) (fun c_11 => ?_) (fun c_11 => ?_)
              · have hf := of_t c_11 hf
                have hf := Option.some.inj hf
                subst hf
                exact hEL_10 _ (lv_sub hl [0, 1, 2, 3] rfl)
              · have hf := of_f c_11 hf
                refine lv_iload_n hx hb dX11_make_46 rfl (lv_at hl 3 rfl) ?_
                refine lv_aload_n hx hb dX11_make_47 rfl (lv_at hl 0 rfl) ?_
                refine lv_iload hx hb dX11_make_48 (lv_at hl 4 rfl) ?_
                refine lv_iload_n hx hb dX11_make_50 rfl (lv_at hl 1 rfl) ?_
                refine lv_iload_n hx hb dX11_make_51 rfl (lv_at hl 2 rfl) ?_
                obtain ⟨r_12, hq_13, hf⟩ := of_bd hf
                refine m_goRi (va_runV (As := [.int x4_9, .int x1, .int x2]) (rest := [.int x3_8]) ⟨hx, hb, hml, hown, hts⟩ (c_X11_parts l hz x4_9 x1 x2 w hq_13) (cwV 3 hts gX11_make_X11_parts rfl rfl rfl (by decide +kernel) ⟨Nat.le_of_ble_eq_true rfl, Nat.le_of_ble_eq_true rfl⟩) (pre_X11 hK hz hW _) rfl rfl hl.1 rfl (lv_room (Nat.le_of_ble_eq_true rfl)) dX11_make_52 ⟨Nat.le_refl _, Nat.le_refl _⟩) ?_
                refine lv_iadd hx hb dX11_make_55 ?_
                refine lv_topi (fun v_14 ev_14 => ?_)
                have hf := of_lt ev_14 hf
                refine lv_istore_n (lv' := [(3, .int v_14), (0, .ref (z.2.1 0)), (1, .int x1), (2, .int x2), (4, .int x4_9)]) hx hb dX11_make_56 rfl hl (by decide) rfl (fun ls hl => ?_)
                obtain ⟨x4_15, ex4_15⟩ : ∃ y : Int32, y = x4_9 + 1 := ⟨_, rfl⟩
                have hf := of_lt ex4_15 hf
                refine lv_iinc (v := x4_15) (lv' := [(4, .int x4_15), (3, .int v_14), (0, .ref (z.2.1 0)), (1, .int x1), (2, .int x2)]) hx hb dX11_make_57 hl (k := 4) rfl (by rw [ex4_15]; rfl) (by decide) rfl (fun ls hl => ?_)
                refine lv_goto (tgt := 37) hx hb dX11_make_60 (by decide) ?_
                exact ihL_10 _ _ _ _ hf (lv_sub hl [2, 3, 4, 1, 0] rfl) hEL_10
          obtain ⟨ex_17, hq_16, hf⟩ := of_bd hf
          obtain ⟨x3_18, ex3_18⟩ : ∃ y, y = ex_17 := ⟨_, rfl⟩
          rw [← ex3_18] at hf
          rw [← ex3_18] at hq_16
          refine L_10 FU _ _ _ _ hq_16 (lv_sub hl [2, 3, 4, 1, 0] rfl) (fun ls hl => ?_)
          have hl : lv_has ls 10 [(0, .ref (z.2.1 0)), (1, .int x1), (2, .int x2), (3, .int x3_18)] := hl
          refine lv_iload_n hx hb dX11_make_63 rfl (lv_at hl 3 rfl) ?_
          refine lv_bipush (v := 48) hx hb dX11_make_64 (by decide) ?_
          refine lv_icmp_le (tgt := 72) hx hb dX11_make_66 (by decide) (fun c_19 => ?_) (fun c_19 => ?_)
          · have hf := of_t c_19 hf
            refine lv_sipush (v := 672) hx hb dX11_make_72 (by decide) ?_
            refine lv_istore (lv' := [(4, .int 672), (0, .ref (z.2.1 0)), (1, .int x1), (2, .int x2), (3, .int x3_18)]) hx hb dX11_make_75 hl (by decide) rfl (fun ls hl => ?_)
            refine lv_iconst (v := 0) hx hb dX11_make_77 (by decide) ?_
            refine lv_istore (lv' := [(5, .int 0), (4, .int 672), (0, .ref (z.2.1 0)), (1, .int x1), (2, .int x2), (3, .int x3_18)]) hx hb dX11_make_78 hl (by decide) rfl (fun ls hl => ?_)
            have L_23 : ∀ (n : Nat) (x4_20 : Int32) (x5_21 : Int32) (w_22 : Mem) (exL_23 : Mem) (H : Heap) (locs : List Loc) (ls : Array Slot), f_X11_make_L80 x1 x2 n x4_20 x5_21 w_22 = some exL_23 → hd z w_22 H → va_S (az z) s.heap H locs → lv_has ls 10 [(0, .ref (z.2.1 0)), (1, .int x1), (2, .int x2), (3, .int x3_18), (4, .int x4_20), (5, .int x5_21)] → (∀ (H : Heap) (locs : List Loc) (ls : Array Slot), hd z (exL_23) H → va_S (az z) s.heap H locs → lv_has ls 10 [(0, .ref (z.2.1 0)), (3, .int x3_18)] → W p l e (rm 2 45) s m args below meth c H locs 0 0 Q (F0 m 204 ls [])) → W p l e (rm 2 45) s m args below meth c H locs 0 0 Q (F0 m 80 ls []) := by
              intro n
              induction n with
              | zero =>
                intro x4_20 x5_21 w_22 exL_23 H locs ls hf
                have hf : (none : Option (Mem)) = some exL_23 := hf
                cases hf
              | succ n ihL_23 =>
                intro x4_20 x5_21 w_22 exL_23 H locs ls hf hW hS hl hEL_23
                rw [f_X11_make_L80_s] at hf
                refine lv_iload hx hb dX11_make_80 (lv_at hl 5 rfl) ?_
                refine lv_aload_n hx hb dX11_make_82 rfl (lv_at hl 0 rfl) ?_
                refine get_X11_1 hx hb hts in_X11_make_X11 hown hK hz hW lk_X11_make_0 dX11_make_83 ?_
                refine lv_icmp_ge (tgt := 204) hx hb dX11_make_86 (by decide) (fun c_24 => ?_) (fun c_24 => ?_)
                · have hf := of_t c_24 hf
                  have hf := Option.some.inj hf
                  subst hf
                  exact hEL_23 _ _ _ hW hS (lv_sub hl [0, 3] rfl)
                · have hf := of_f c_24 hf
                  refine lv_aload_n hx hb dX11_make_89 rfl (lv_at hl 0 rfl) ?_
                  refine lv_iload hx hb dX11_make_90 (lv_at hl 5 rfl) ?_
                  refine lv_iload_n hx hb dX11_make_92 rfl (lv_at hl 1 rfl) ?_
                  refine lv_iload_n hx hb dX11_make_93 rfl (lv_at hl 2 rfl) ?_
                  obtain ⟨r_25, hq_26, hf⟩ := of_bd hf
                  refine m_goRi (va_runV (As := [.int x5_21, .int x1, .int x2]) (rest := []) ⟨hx, hb, hml, hown, hts⟩ (c_X11_parts l hz x5_21 x1 x2 w_22 hq_26) (cwV 3 hts gX11_make_X11_parts rfl rfl rfl (by decide +kernel) ⟨Nat.le_of_ble_eq_true rfl, Nat.le_of_ble_eq_true rfl⟩) (pre_X11 hK hz hW _) rfl rfl hl.1 rfl (lv_room (Nat.le_of_ble_eq_true rfl)) dX11_make_94 ⟨Nat.le_refl _, Nat.le_refl _⟩) ?_
                  refine lv_istore (lv' := [(6, .int r_25), (0, .ref (z.2.1 0)), (1, .int x1), (2, .int x2), (3, .int x3_18), (4, .int x4_20), (5, .int x5_21)]) hx hb dX11_make_97 hl (by decide) rfl (fun ls hl => ?_)
                  refine lv_iconst (v := 0) hx hb dX11_make_99 (by decide) ?_
                  refine lv_istore (lv' := [(7, .int 0), (6, .int r_25), (0, .ref (z.2.1 0)), (1, .int x1), (2, .int x2), (3, .int x3_18), (4, .int x4_20), (5, .int x5_21)]) hx hb dX11_make_100 hl (by decide) rfl (fun ls hl => ?_)
                  refine lv_iconst (v := 1) hx hb dX11_make_102 (by decide) ?_
                  refine lv_istore (lv' := [(8, .int 1), (7, .int 0), (6, .int r_25), (0, .ref (z.2.1 0)), (1, .int x1), (2, .int x2), (3, .int x3_18), (4, .int x4_20), (5, .int x5_21)]) hx hb dX11_make_103 hl (by decide) rfl (fun ls hl => ?_)
                  have L_31 : ∀ (n : Nat) (x4_27 : Int32) (x7_28 : Int32) (x8_29 : Int32) (w_30 : Mem) (exL_31 : Int32 × Mem) (H : Heap) (locs : List Loc) (ls : Array Slot), f_X11_make_L105 x5_21 r_25 n x4_27 x7_28 x8_29 w_30 = some exL_31 → hd z w_30 H → va_S (az z) s.heap H locs → lv_has ls 10 [(0, .ref (z.2.1 0)), (1, .int x1), (2, .int x2), (3, .int x3_18), (4, .int x4_27), (5, .int x5_21), (6, .int r_25), (7, .int x7_28), (8, .int x8_29)] → (∀ (H : Heap) (locs : List Loc) (ls : Array Slot), hd z (exL_31.2) H → va_S (az z) s.heap H locs → lv_has ls 10 [(0, .ref (z.2.1 0)), (1, .int x1), (2, .int x2), (3, .int x3_18), (4, .int exL_31.1), (5, .int x5_21)] → W p l e (rm 2 45) s m args below meth c H locs 0 0 Q (F0 m 198 ls [])) → W p l e (rm 2 45) s m args below meth c H locs 0 0 Q (F0 m 105 ls []) := by
                    intro n
                    induction n with
                    | zero =>
                      intro x4_27 x7_28 x8_29 w_30 exL_31 H locs ls hf
                      have hf : (none : Option (Int32 × Mem)) = some exL_31 := hf
                      cases hf
                    | succ n ihL_31 =>
                      intro x4_27 x7_28 x8_29 w_30 exL_31 H locs ls hf hW hS hl hEL_31
                      rw [f_X11_make_L105_s] at hf
                      refine lv_iload hx hb dX11_make_105 (lv_at hl 8 rfl) ?_
                      refine lv_iload hx hb dX11_make_107 (lv_at hl 6 rfl) ?_
                      refine lv_icmp_gt (tgt := 198) hx hb dX11_make_109 (by decide) (fun c_32 => ?_) (fun c_32 => ?_)
                      · have hf := of_t c_32 hf
                        have hf := Option.some.inj hf
                        subst hf
                        exact hEL_31 _ _ _ hW hS (lv_sub hl [0, 1, 2, 3, 4, 5] rfl)
                      · have hf := of_f c_32 hf
                        refine lv_aload_n hx hb dX11_make_112 rfl (lv_at hl 0 rfl) ?_
                        refine lv_iload hx hb dX11_make_113 (lv_at hl 5 rfl) ?_
                        obtain ⟨r_33, hq_34, hf⟩ := of_bd hf
                        refine m_goRi (va_runV (As := [.int x5_21]) (rest := []) ⟨hx, hb, hml, hown, hts⟩ (c_X11_toY l hz x5_21 w_30 hq_34) (cwV 1 hts gX11_make_X11_toY rfl rfl rfl (by decide +kernel) ⟨Nat.le_of_ble_eq_true rfl, Nat.le_of_ble_eq_true rfl⟩) (pre_X11 hK hz hW _) rfl rfl hl.1 rfl (lv_room (Nat.le_of_ble_eq_true rfl)) dX11_make_115 ⟨Nat.le_refl _, Nat.le_refl _⟩) ?_
                        refine lv_aload_n hx hb dX11_make_118 rfl (lv_at hl 0 rfl) ?_
                        refine get_X11_3 hx hb hts in_X11_make_X11 hown hK hz hW lk_X11_make_1 dX11_make_119 ?_
                        refine lv_iload hx hb dX11_make_122 (lv_at hl 5 rfl) ?_
                        obtain ⟨g_35, hf⟩ := of_gd hf
                        refine ld_M2 hx hb hK hz hW g_35 dX11_make_124 ?_
                        refine lv_topi (fun v_36 ev_36 => ?_)
                        have hf := of_lt ev_36 hf
                        refine lv_isub hx hb dX11_make_125 ?_
                        refine lv_iload hx hb dX11_make_126 (lv_at hl 8 rfl) ?_
                        refine lv_imul hx hb dX11_make_128 ?_
                        refine lv_iload hx hb dX11_make_129 (lv_at hl 6 rfl) ?_
                        obtain ⟨r_37, hq_38, hf⟩ := of_bd hf
                        refine m_goRi (va_runS (As := [.int ((r_33 - v_36) * x8_29), .int r_25]) (rest := []) ⟨hx, hb, hml, hown, hts⟩ (c_X11_floor l hz ((r_33 - v_36) * x8_29) r_25 w_30 hq_38) (va_cwS 2 hts gX11_make_X11_floor rfl rfl rfl (by decide +kernel) ⟨Nat.le_of_ble_eq_true rfl, Nat.le_of_ble_eq_true rfl⟩) (m_preS hK hW _) rfl rfl hl.1 rfl (lv_room (Nat.le_of_ble_eq_true rfl)) dX11_make_131 ⟨Nat.le_refl _, Nat.le_refl _⟩) ?_
                        refine lv_istore (lv' := [(9, .int r_37), (0, .ref (z.2.1 0)), (1, .int x1), (2, .int x2), (3, .int x3_18), (4, .int x4_27), (5, .int x5_21), (6, .int r_25), (7, .int x7_28), (8, .int x8_29)]) hx hb dX11_make_134 hl (by decide) rfl (fun ls hl => ?_)
                        refine lv_aload_n hx hb dX11_make_136 rfl (lv_at hl 1 rfl) ?_
                        refine get_X11_6 hx hb hts in_X11_make_X11 hown hK hz hW lk_X11_make_2 dX11_make_137 ?_
                        refine lv_iload hx hb dX11_make_140 (lv_at hl 5 rfl) ?_
                        refine lv_aload_n hx hb dX11_make_142 rfl (lv_at hl 1 rfl) ?_
                        refine get_X11_2 hx hb hts in_X11_make_X11 hown hK hz hW lk_X11_make_3 dX11_make_143 ?_
                        refine lv_iload hx hb dX11_make_146 (lv_at hl 6 rfl) ?_
                        refine ld_M1 hx hb hK hz hW g_35 dX11_make_148 ?_
                        refine lv_topi (fun v_39 ev_39 => ?_)
                        have hf := of_lt ev_39 hf
                        refine lv_aload_n hx hb dX11_make_149 rfl (lv_at hl 1 rfl) ?_
                        refine lv_iload hx hb dX11_make_150 (lv_at hl 6 rfl) ?_
                        obtain ⟨r_40, hq_41, hf⟩ := of_bd hf
                        refine m_goRi (va_runV (As := [.int x5_21]) (rest := [.int v_39, .int x4_27, .ref (z.2.1 4)]) ⟨hx, hb, hml, hown, hts⟩ (c_X11_toX l hz x5_21 w_30 hq_41) (cwV 1 hts gX11_make_X11_toX rfl rfl rfl (by decide +kernel) ⟨Nat.le_of_ble_eq_true rfl, Nat.le_of_ble_eq_true rfl⟩) (pre_X11 hK hz hW _) rfl rfl hl.1 rfl (lv_room (Nat.le_of_ble_eq_true rfl)) dX11_make_152 ⟨Nat.le_refl _, Nat.le_refl _⟩) ?_
                        refine lv_aload_n hx hb dX11_make_155 rfl (lv_at hl 1 rfl) ?_
                        refine get_X11_2 hx hb hts in_X11_make_X11 hown hK hz hW lk_X11_make_3 dX11_make_156 ?_
                        refine lv_iload hx hb dX11_make_159 (lv_at hl 6 rfl) ?_
                        refine ld_M1 hx hb hK hz hW g_35 dX11_make_161 ?_
                        refine lv_topi (fun v_42 ev_42 => ?_)
                        have hf := of_lt ev_42 hf
                        refine lv_isub hx hb dX11_make_162 ?_
                        refine lv_iload hx hb dX11_make_163 (lv_at hl 9 rfl) ?_
                        refine lv_imul hx hb dX11_make_165 ?_
                        refine lv_iload hx hb dX11_make_166 (lv_at hl 7 rfl) ?_
                        obtain ⟨r_43, hq_44, hf⟩ := of_bd hf
                        refine m_goRi (va_runS (As := [.int ((r_40 - v_42) * x8_29), .int r_25]) (rest := [.int v_39, .int x4_27, .ref (z.2.1 4)]) ⟨hx, hb, hml, hown, hts⟩ (c_X11_floor l hz ((r_40 - v_42) * x8_29) r_25 w_30 hq_44) (va_cwS 2 hts gX11_make_X11_floor rfl rfl rfl (by decide +kernel) ⟨Nat.le_of_ble_eq_true rfl, Nat.le_of_ble_eq_true rfl⟩) (m_preS hK hW _) rfl rfl hl.1 rfl (lv_room (Nat.le_of_ble_eq_true rfl)) dX11_make_168 ⟨Nat.le_refl _, Nat.le_refl _⟩) ?_
                        refine lv_iadd hx hb dX11_make_171 ?_
                        obtain ⟨g_45, hf⟩ := of_gd hf
                        refine st_M4 hx hb hK hz hW hS g_45 dX11_make_172 (fun H locs hW hS => ?_)
                        obtain ⟨w_46, ew_46⟩ : ∃ y : Mem, y = mS w_30 4 x4_27.toNatClampNeg (v_39 + r_43) := ⟨_, rfl⟩
                        have hW : hd z w_46 H := by rw [ew_46]; exact hW
                        have hf := of_lt ew_46 hf
                        refine lv_aload_n hx hb dX11_make_173 rfl (lv_at hl 1 rfl) ?_
                        refine get_X11_7 hx hb hts in_X11_make_X11 hown hK hz hW lk_X11_make_4 dX11_make_174 ?_
                        refine lv_iload hx hb dX11_make_177 (lv_at hl 5 rfl) ?_
                        refine lv_iload hx hb dX11_make_179 (lv_at hl 0 rfl) ?_
                        refine lv_iload hx hb dX11_make_181 (lv_at hl 8 rfl) ?_
                        refine lv_isub hx hb dX11_make_183 ?_
                        refine st_M5 hx hb hK hz hW hS g_45 dX11_make_184 (fun H locs hW hS => ?_)
                        obtain ⟨w_47, ew_47⟩ : ∃ y : Mem, y = mS w_46 5 x4_27.toNatClampNeg (r_37 - x7_28) := ⟨_, rfl⟩
                        have hW : hd z w_47 H := by rw [ew_47]; exact hW
                        have hf := of_lt ew_47 hf
                        refine lv_iload hx hb dX11_make_185 (lv_at hl 0 rfl) ?_
                        refine lv_istore (lv' := [(7, .int r_37), (9, .int r_37), (0, .ref (z.2.1 0)), (1, .int x1), (2, .int x2), (3, .int x3_18), (4, .int x4_27), (5, .int x5_21), (6, .int r_25), (8, .int x8_29)]) hx hb dX11_make_187 hl (by decide) rfl (fun ls hl => ?_)
                        obtain ⟨x4_48, ex4_48⟩ : ∃ y : Int32, y = x4_27 + 1 := ⟨_, rfl⟩
                        have hf := of_lt ex4_48 hf
                        refine lv_iinc (v := x4_48) (lv' := [(4, .int x4_48), (7, .int r_37), (9, .int r_37), (0, .ref (z.2.1 0)), (1, .int x1), (2, .int x2), (3, .int x3_18), (5, .int x5_21), (6, .int r_25), (8, .int x8_29)]) hx hb dX11_make_189 hl (k := 6) rfl (by rw [ex4_48]; rfl) (by decide) rfl (fun ls hl => ?_)
                        obtain ⟨x8_49, ex8_49⟩ : ∃ y : Int32, y = x8_29 + 1 := ⟨_, rfl⟩
                        have hf := of_lt ex8_49 hf
                        refine lv_iinc (v := x8_49) (lv' := [(8, .int x8_49), (4, .int x4_48), (7, .int r_37), (9, .int r_37), (0, .ref (z.2.1 0)), (1, .int x1), (2, .int x2), (3, .int x3_18), (5, .int x5_21), (6, .int r_25)]) hx hb dX11_make_192 hl (k := 9) rfl (by rw [ex8_49]; rfl) (by decide) rfl (fun ls hl => ?_)
                        refine lv_goto (tgt := 105) hx hb dX11_make_195 (by decide) ?_
                        exact ihL_31 _ _ _ _ _ _ _ _ hf hW hS (lv_sub hl [4, 5, 6, 7, 1, 8, 9, 2, 0] rfl) hEL_31
                  obtain ⟨ex_51, hq_50, hf⟩ := of_bd hf
                  obtain ⟨x4_52, w_53⟩ := ex_51
                  have hf := of_tp2 hf
                  refine L_31 FU _ _ _ _ _ _ _ _ hq_50 hW hS (lv_sub hl [3, 4, 5, 6, 7, 8, 2, 1, 0] rfl) (fun H locs ls hW hS hl => ?_)
                  have hW : hd z w_53 H := hW
                  have hl : lv_has ls 10 [(0, .ref (z.2.1 0)), (1, .int x1), (2, .int x2), (3, .int x3_18), (4, .int x4_52), (5, .int x5_21)] := hl
                  obtain ⟨x5_54, ex5_54⟩ : ∃ y : Int32, y = x5_21 + 1 := ⟨_, rfl⟩
                  have hf := of_lt ex5_54 hf
                  refine lv_iinc (v := x5_54) (lv' := [(5, .int x5_54), (0, .ref (z.2.1 0)), (1, .int x1), (2, .int x2), (3, .int x3_18), (4, .int x4_52)]) hx hb dX11_make_198 hl (k := 5) rfl (by rw [ex5_54]; rfl) (by decide) rfl (fun ls hl => ?_)
                  refine lv_goto (tgt := 80) hx hb dX11_make_201 (by decide) ?_
                  exact ihL_23 _ _ _ _ _ _ _ hf hW hS (lv_sub hl [1, 2, 3, 4, 5, 0] rfl) hEL_23
            obtain ⟨ex_56, hq_55, hf⟩ := of_bd hf
            obtain ⟨w_57, ew_57⟩ : ∃ y, y = ex_56 := ⟨_, rfl⟩
            rw [← ew_57] at hf
            rw [← ew_57] at hq_55
            refine L_23 FU _ _ _ _ _ _ _ hq_55 hW hS (lv_sub hl [2, 3, 4, 5, 1, 0] rfl) (fun H locs ls hW hS hl => ?_)
            have hW : hd z w_57 H := hW
            have hl : lv_has ls 10 [(0, .ref (z.2.1 0)), (3, .int x3_18)] := hl
            refine lv_aload_n hx hb dX11_make_204 rfl (lv_at hl 0 rfl) ?_
            refine get_X11_5 hx hb hts in_X11_make_X11 hown hK hz hW lk_X11_make_5 dX11_make_205 ?_
            refine lv_bipush (v := 14) hx hb dX11_make_208 (by decide) ?_
            refine lv_iload_n hx hb dX11_make_210 rfl (lv_at hl 1 rfl) ?_
            obtain ⟨g_58, hf⟩ := of_gd hf
            refine st_M3 hx hb hK hz hW hS g_58 dX11_make_211 (fun H locs hW hS => ?_)
            obtain ⟨w_59, ew_59⟩ : ∃ y : Mem, y = mS w_57 3 ((14 : Int32).toNatClampNeg) x3_18 := ⟨_, rfl⟩
            have hW : hd z w_59 H := by rw [ew_59]; exact hW
            have hf := of_lt ew_59 hf
            refine lv_iload_n hx hb dX11_make_212 rfl (lv_at hl 1 rfl) ?_
            exact hret _ _ _ _ _ _ hf hW hS dX11_make_213
          · have hf := of_f c_19 hf
            refine lv_bipush (v := (-2)) hx hb dX11_make_69 (by decide) ?_
            exact hret _ _ _ _ _ _ hf hW hS dX11_make_71
        · have hf := of_t c_7 hf
          refine lv_bipush (v := (-3)) hx hb dX11_make_29 (by decide) ?_
          exact hret _ _ _ _ _ _ hf hW hS dX11_make_31
      · have hf := of_t c_6 hf
        refine lv_iconst (v := (-1)) hx hb dX11_make_20 (by decide) ?_
        exact hret _ _ _ _ _ _ hf hW hS dX11_make_21
  exact START _ _ hW va_S.rf
theorem in_X11_lengthOf_X11 : ∀ w ∈ wsX110, w ∈ wsX11_lengthOf := by decide +kernel
theorem lk_X11_lengthOf_0 : Cond.fieldLink RX11 16 "CamStitchModel" "many" "[I" ∈ wsX11_lengthOf := by decide +kernel
theorem lk_X11_lengthOf_1 : Cond.fieldLink RX11 22 "CamStitchModel" "feed" "[I" ∈ wsX11_lengthOf := by decide +kernel
set_option maxHeartbeats 4000000 in
set_option maxRecDepth 100000 in
theorem c_X11_lengthOf (l : Launch) {z : LZ} (hz : IM z) (x1 : Int32) (w : Mem) {r : Int32} (hf : f_X11_lengthOf x1 w = some r) : Met l yX11_lengthOf wsX11_lengthOf (rm 0 0) (PZ z w [.ref (z.2.1 0), .int x1]) (QR (some (.int r))) 0 0 (fun _ => False) := by
  refine mk_Ri (cc := cX11_lengthOf) (maxL := 4) (by decide +kernel) rfl (Nat.le_of_ble_eq_true rfl) ?_
  intro p e s m args below meth c hx hb hml hts hown hK hW Q hret ls hl
  have hl : lv_has ls 4 [(0, .ref (z.2.1 0)), (1, .int x1)] := hl
  unfold f_X11_lengthOf at hf
  refine lv_iconst (v := 0) hx hb dX11_lengthOf_0 (by decide) ?_
  refine lv_istore_n (lv' := [(2, .int 0), (0, .ref (z.2.1 0)), (1, .int x1)]) hx hb dX11_lengthOf_1 rfl hl (by decide) rfl (fun ls hl => ?_)
  refine lv_bipush (v := 48) hx hb dX11_lengthOf_2 (by decide) ?_
  refine lv_iload_n hx hb dX11_lengthOf_4 rfl (lv_at hl 2 rfl) ?_
  refine lv_imul hx hb dX11_lengthOf_5 ?_
  refine lv_topi (fun v_1 ev_1 => ?_)
  have hf := of_lt ev_1 hf
  refine lv_istore_n (lv' := [(3, .int v_1), (2, .int 0), (0, .ref (z.2.1 0)), (1, .int x1)]) hx hb dX11_lengthOf_6 rfl hl (by decide) rfl (fun ls hl => ?_)
  have L_4 : ∀ (n : Nat) (x2_2 : Int32) (x3_3 : Int32) (exL_4 : Int32) (ls : Array Slot), f_X11_lengthOf_L7 w x1 n x2_2 x3_3 = some exL_4 → lv_has ls 4 [(0, .ref (z.2.1 0)), (1, .int x1), (2, .int x2_2), (3, .int x3_3)] → (∀ (ls : Array Slot), lv_has ls 4 [(2, .int exL_4)] → W p l e (rm 0 0) s m args below meth c s.heap [] 0 0 Q (F0 m 37 ls [])) → W p l e (rm 0 0) s m args below meth c s.heap [] 0 0 Q (F0 m 7 ls []) := by
    intro n
    induction n with
    | zero =>
      intro x2_2 x3_3 exL_4 ls hf
      have hf : (none : Option (Int32)) = some exL_4 := hf
      cases hf
    | succ n ihL_4 =>
      intro x2_2 x3_3 exL_4 ls hf hl hEL_4
      rw [f_X11_lengthOf_L7_s] at hf
      refine lv_iload_n hx hb dX11_lengthOf_7 rfl (lv_at hl 3 rfl) ?_
      refine lv_bipush (v := 48) hx hb dX11_lengthOf_8 (by decide) ?_
      refine lv_iload_n hx hb dX11_lengthOf_10 rfl (lv_at hl 1 rfl) ?_
      refine lv_imul hx hb dX11_lengthOf_11 ?_
      refine lv_aload_n hx hb dX11_lengthOf_12 rfl (lv_at hl 0 rfl) ?_
      refine get_X11_5 hx hb hts in_X11_lengthOf_X11 hown hK hz hW lk_X11_lengthOf_0 dX11_lengthOf_13 ?_
      refine lv_iload_n hx hb dX11_lengthOf_16 rfl (lv_at hl 1 rfl) ?_
      obtain ⟨g_5, hf⟩ := of_gd hf
      refine ld_M3 hx hb hK hz hW g_5 dX11_lengthOf_17 ?_
      refine lv_iadd hx hb dX11_lengthOf_18 ?_
      refine lv_topi (fun v_6 ev_6 => ?_)
      have hf := of_lt ev_6 hf
      refine lv_icmp_ge (tgt := 37) hx hb dX11_lengthOf_19 (by decide) (fun c_7 => ?_) (fun c_7 => ?_)
      · have hf := of_t c_7 hf
        have hf := Option.some.inj hf
        subst hf
        exact hEL_4 _ (lv_sub hl [2] rfl)
      · have hf := of_f c_7 hf
        refine lv_iload_n hx hb dX11_lengthOf_22 rfl (lv_at hl 2 rfl) ?_
        refine lv_aload_n hx hb dX11_lengthOf_23 rfl (lv_at hl 0 rfl) ?_
        refine get_X11_7 hx hb hts in_X11_lengthOf_X11 hown hK hz hW lk_X11_lengthOf_1 dX11_lengthOf_24 ?_
        refine lv_iload_n hx hb dX11_lengthOf_27 rfl (lv_at hl 3 rfl) ?_
        obtain ⟨g_8, hf⟩ := of_gd hf
        refine ld_M5 hx hb hK hz hW g_8 dX11_lengthOf_28 ?_
        refine lv_iadd hx hb dX11_lengthOf_29 ?_
        refine lv_topi (fun v_9 ev_9 => ?_)
        have hf := of_lt ev_9 hf
        refine lv_istore_n (lv' := [(2, .int v_9), (0, .ref (z.2.1 0)), (1, .int x1), (3, .int x3_3)]) hx hb dX11_lengthOf_30 rfl hl (by decide) rfl (fun ls hl => ?_)
        obtain ⟨x3_10, ex3_10⟩ : ∃ y : Int32, y = x3_3 + 1 := ⟨_, rfl⟩
        have hf := of_lt ex3_10 hf
        refine lv_iinc (v := x3_10) (lv' := [(3, .int x3_10), (2, .int v_9), (0, .ref (z.2.1 0)), (1, .int x1)]) hx hb dX11_lengthOf_31 hl (k := 3) rfl (by rw [ex3_10]; rfl) (by decide) rfl (fun ls hl => ?_)
        refine lv_goto (tgt := 7) hx hb dX11_lengthOf_34 (by decide) ?_
        exact ihL_4 _ _ _ _ hf (lv_sub hl [2, 3, 1, 0] rfl) hEL_4
  obtain ⟨ex_12, hq_11, hf⟩ := of_bd hf
  obtain ⟨x2_13, ex2_13⟩ : ∃ y, y = ex_12 := ⟨_, rfl⟩
  rw [← ex2_13] at hf
  rw [← ex2_13] at hq_11
  refine L_4 FU _ _ _ _ hq_11 (lv_sub hl [2, 3, 1, 0] rfl) (fun ls hl => ?_)
  have hl : lv_has ls 4 [(2, .int x2_13)] := hl
  refine lv_iload_n hx hb dX11_lengthOf_37 rfl (lv_at hl 0 rfl) ?_
  exact hret _ _ _ hf dX11_lengthOf_38
theorem in_X11_steepOf_X11 : ∀ w ∈ wsX110, w ∈ wsX11_steepOf := by decide +kernel
theorem lk_X11_steepOf_0 : Cond.fieldLink RX11 19 "CamStitchModel" "swing" "[I" ∈ wsX11_steepOf := by decide +kernel
theorem lk_X11_steepOf_1 : Cond.fieldLink RX11 16 "CamStitchModel" "many" "[I" ∈ wsX11_steepOf := by decide +kernel
set_option maxHeartbeats 4000000 in
set_option maxRecDepth 100000 in
theorem c_X11_steepOf (l : Launch) {z : LZ} (hz : IM z) (x1 : Int32) (w : Mem) {r : Int32} (hf : f_X11_steepOf x1 w = some r) : Met l yX11_steepOf wsX11_steepOf (rm 1 20) (PZ z w [.ref (z.2.1 0), .int x1]) (QR (some (.int r))) 0 0 (fun _ => False) := by
  refine mk_Ri (cc := cX11_steepOf) (maxL := 5) (by decide +kernel) rfl (Nat.le_of_ble_eq_true rfl) ?_
  intro p e s m args below meth c hx hb hml hts hown hK hW Q hret ls hl
  have hl : lv_has ls 5 [(0, .ref (z.2.1 0)), (1, .int x1)] := hl
  unfold f_X11_steepOf at hf
  refine lv_iconst (v := 0) hx hb dX11_steepOf_0 (by decide) ?_
  refine lv_istore_n (lv' := [(2, .int 0), (0, .ref (z.2.1 0)), (1, .int x1)]) hx hb dX11_steepOf_1 rfl hl (by decide) rfl (fun ls hl => ?_)
  refine lv_aload_n hx hb dX11_steepOf_2 rfl (lv_at hl 1 rfl) ?_
  refine get_X11_6 hx hb hts in_X11_steepOf_X11 hown hK hz hW lk_X11_steepOf_0 dX11_steepOf_3 ?_
  refine lv_bipush (v := 48) hx hb dX11_steepOf_6 (by decide) ?_
  refine lv_iload_n hx hb dX11_steepOf_8 rfl (lv_at hl 2 rfl) ?_
  refine lv_imul hx hb dX11_steepOf_9 ?_
  refine lv_aload_n hx hb dX11_steepOf_10 rfl (lv_at hl 1 rfl) ?_
  refine get_X11_5 hx hb hts in_X11_steepOf_X11 hown hK hz hW lk_X11_steepOf_1 dX11_steepOf_11 ?_
  refine lv_iload_n hx hb dX11_steepOf_14 rfl (lv_at hl 2 rfl) ?_
  obtain ⟨g_1, hf⟩ := of_gd hf
  refine ld_M3 hx hb hK hz hW g_1 dX11_steepOf_15 ?_
  refine lv_iadd hx hb dX11_steepOf_16 ?_
  refine lv_topi (fun v_2 ev_2 => ?_)
  have hf := of_lt ev_2 hf
  refine lv_iconst (v := 1) hx hb dX11_steepOf_17 (by decide) ?_
  refine lv_isub hx hb dX11_steepOf_18 ?_
  obtain ⟨g_3, hf⟩ := of_gd hf
  refine ld_M4 hx hb hK hz hW g_3 dX11_steepOf_19 ?_
  refine lv_topi (fun v_4 ev_4 => ?_)
  have hf := of_lt ev_4 hf
  refine lv_istore_n (lv' := [(3, .int v_4), (2, .int 0), (0, .ref (z.2.1 0)), (1, .int x1)]) hx hb dX11_steepOf_20 rfl hl (by decide) rfl (fun ls hl => ?_)
  refine lv_bipush (v := 48) hx hb dX11_steepOf_21 (by decide) ?_
  refine lv_iload_n hx hb dX11_steepOf_23 rfl (lv_at hl 3 rfl) ?_
  refine lv_imul hx hb dX11_steepOf_24 ?_
  refine lv_topi (fun v_5 ev_5 => ?_)
  have hf := of_lt ev_5 hf
  refine lv_istore (lv' := [(4, .int v_5), (3, .int v_4), (2, .int 0), (0, .ref (z.2.1 0)), (1, .int x1)]) hx hb dX11_steepOf_25 hl (by decide) rfl (fun ls hl => ?_)
  have L_9 : ∀ (n : Nat) (x2_6 : Int32) (x3_7 : Int32) (x4_8 : Int32) (exL_9 : Int32) (ls : Array Slot), f_X11_steepOf_L27 w x1 n x2_6 x3_7 x4_8 = some exL_9 → lv_has ls 5 [(0, .ref (z.2.1 0)), (1, .int x1), (2, .int x2_6), (3, .int x3_7), (4, .int x4_8)] → (∀ (ls : Array Slot), lv_has ls 5 [(2, .int exL_9)] → W p l e (rm 1 20) s m args below meth c s.heap [] 0 0 Q (F0 m 90 ls [])) → W p l e (rm 1 20) s m args below meth c s.heap [] 0 0 Q (F0 m 27 ls []) := by
    intro n
    induction n with
    | zero =>
      intro x2_6 x3_7 x4_8 exL_9 ls hf
      have hf : (none : Option (Int32)) = some exL_9 := hf
      cases hf
    | succ n ihL_9 =>
      intro x2_6 x3_7 x4_8 exL_9 ls hf hl hEL_9
      rw [f_X11_steepOf_L27_s] at hf
      refine lv_iload hx hb dX11_steepOf_27 (lv_at hl 4 rfl) ?_
      refine lv_bipush (v := 48) hx hb dX11_steepOf_29 (by decide) ?_
      refine lv_iload_n hx hb dX11_steepOf_31 rfl (lv_at hl 1 rfl) ?_
      refine lv_imul hx hb dX11_steepOf_32 ?_
      refine lv_aload_n hx hb dX11_steepOf_33 rfl (lv_at hl 0 rfl) ?_
      refine get_X11_5 hx hb hts in_X11_steepOf_X11 hown hK hz hW lk_X11_steepOf_1 dX11_steepOf_34 ?_
      refine lv_iload_n hx hb dX11_steepOf_37 rfl (lv_at hl 1 rfl) ?_
      refine ld_M3 hx hb hK hz hW g_1 dX11_steepOf_38 ?_
      refine lv_iadd hx hb dX11_steepOf_39 ?_
      refine lv_topi (fun v_10 ev_10 => ?_)
      have hf := of_lt ev_10 hf
      refine lv_icmp_ge (tgt := 90) hx hb dX11_steepOf_40 (by decide) (fun c_11 => ?_) (fun c_11 => ?_)
      · have hf := of_t c_11 hf
        have hf := Option.some.inj hf
        subst hf
        exact hEL_9 _ (lv_sub hl [2] rfl)
      · have hf := of_f c_11 hf
        refine lv_aload_n hx hb dX11_steepOf_43 rfl (lv_at hl 0 rfl) ?_
        refine get_X11_6 hx hb hts in_X11_steepOf_X11 hown hK hz hW lk_X11_steepOf_0 dX11_steepOf_44 ?_
        refine lv_iload hx hb dX11_steepOf_47 (lv_at hl 4 rfl) ?_
        obtain ⟨g_12, hf⟩ := of_gd hf
        refine ld_M4 hx hb hK hz hW g_12 dX11_steepOf_49 ?_
        refine lv_iload_n hx hb dX11_steepOf_50 rfl (lv_at hl 3 rfl) ?_
        refine lv_isub hx hb dX11_steepOf_51 ?_
        refine lv_topi (fun v_13 ev_13 => ?_)
        have hf := of_lt ev_13 hf
        obtain ⟨r_14, hq_15, hf⟩ := of_bd hf
        refine m_goRi (va_runS (As := [.int v_13]) (rest := []) ⟨hx, hb, hml, hown, hts⟩ (c_X11_away l hz v_13 w hq_15) (va_cwS 1 hts gX11_steepOf_X11_away rfl rfl rfl (by decide +kernel) ⟨Nat.le_of_ble_eq_true rfl, Nat.le_of_ble_eq_true rfl⟩) (m_preS hK hW _) rfl rfl hl.1 rfl (lv_room (Nat.le_of_ble_eq_true rfl)) dX11_steepOf_52 ⟨Nat.le_refl _, Nat.le_refl _⟩) ?_
        refine lv_iload_n hx hb dX11_steepOf_55 rfl (lv_at hl 2 rfl) ?_
        refine lv_icmp_le (tgt := 74) hx hb dX11_steepOf_56 (by decide) (fun c_16 => ?_) (fun c_16 => ?_)
        · have hf := of_t c_16 hf
          refine lv_iload_n hx hb dX11_steepOf_74 rfl (lv_at hl 2 rfl) ?_
          refine lv_istore_n (lv' := [(2, .int x2_6), (0, .ref (z.2.1 0)), (1, .int x1), (3, .int x3_7), (4, .int x4_8)]) hx hb dX11_steepOf_75 rfl hl (by decide) rfl (fun ls hl => ?_)
          refine lv_aload_n hx hb dX11_steepOf_76 rfl (lv_at hl 1 rfl) ?_
          refine get_X11_6 hx hb hts in_X11_steepOf_X11 hown hK hz hW lk_X11_steepOf_0 dX11_steepOf_77 ?_
          refine lv_iload hx hb dX11_steepOf_80 (lv_at hl 4 rfl) ?_
          refine ld_M4 hx hb hK hz hW g_12 dX11_steepOf_82 ?_
          refine lv_topi (fun v_17 ev_17 => ?_)
          have hf := of_lt ev_17 hf
          refine lv_istore_n (lv' := [(3, .int v_17), (2, .int x2_6), (0, .ref (z.2.1 0)), (1, .int x1), (4, .int x4_8)]) hx hb dX11_steepOf_83 rfl hl (by decide) rfl (fun ls hl => ?_)
          obtain ⟨x4_18, ex4_18⟩ : ∃ y : Int32, y = x4_8 + 1 := ⟨_, rfl⟩
          have hf := of_lt ex4_18 hf
          refine lv_iinc (v := x4_18) (lv' := [(4, .int x4_18), (3, .int v_17), (2, .int x2_6), (0, .ref (z.2.1 0)), (1, .int x1)]) hx hb dX11_steepOf_84 hl (k := 4) rfl (by rw [ex4_18]; rfl) (by decide) rfl (fun ls hl => ?_)
          refine lv_goto (tgt := 27) hx hb dX11_steepOf_87 (by decide) ?_
          exact ihL_9 _ _ _ _ _ hf (lv_sub hl [3, 4, 2, 1, 0] rfl) hEL_9
        · have hf := of_f c_16 hf
          refine lv_aload_n hx hb dX11_steepOf_59 rfl (lv_at hl 0 rfl) ?_
          refine get_X11_6 hx hb hts in_X11_steepOf_X11 hown hK hz hW lk_X11_steepOf_0 dX11_steepOf_60 ?_
          refine lv_iload hx hb dX11_steepOf_63 (lv_at hl 4 rfl) ?_
          refine ld_M4 hx hb hK hz hW g_12 dX11_steepOf_65 ?_
          refine lv_iload_n hx hb dX11_steepOf_66 rfl (lv_at hl 3 rfl) ?_
          refine lv_isub hx hb dX11_steepOf_67 ?_
          refine lv_topi (fun v_19 ev_19 => ?_)
          have hf := of_lt ev_19 hf
          obtain ⟨r_20, hq_21, hf⟩ := of_bd hf
          refine m_goRi (va_runS (As := [.int v_19]) (rest := []) ⟨hx, hb, hml, hown, hts⟩ (c_X11_away l hz v_19 w hq_21) (va_cwS 1 hts gX11_steepOf_X11_away rfl rfl rfl (by decide +kernel) ⟨Nat.le_of_ble_eq_true rfl, Nat.le_of_ble_eq_true rfl⟩) (m_preS hK hW _) rfl rfl hl.1 rfl (lv_room (Nat.le_of_ble_eq_true rfl)) dX11_steepOf_68 ⟨Nat.le_refl _, Nat.le_refl _⟩) ?_
          refine lv_goto (tgt := 75) hx hb dX11_steepOf_71 (by decide) ?_
          refine lv_istore_n (lv' := [(2, .int r_20), (0, .ref (z.2.1 0)), (1, .int x1), (3, .int x3_7), (4, .int x4_8)]) hx hb dX11_steepOf_75 rfl hl (by decide) rfl (fun ls hl => ?_)
          refine lv_aload_n hx hb dX11_steepOf_76 rfl (lv_at hl 1 rfl) ?_
          refine get_X11_6 hx hb hts in_X11_steepOf_X11 hown hK hz hW lk_X11_steepOf_0 dX11_steepOf_77 ?_
          refine lv_iload hx hb dX11_steepOf_80 (lv_at hl 4 rfl) ?_
          refine ld_M4 hx hb hK hz hW g_12 dX11_steepOf_82 ?_
          refine lv_topi (fun v_22 ev_22 => ?_)
          have hf := of_lt ev_22 hf
          refine lv_istore_n (lv' := [(3, .int v_22), (2, .int r_20), (0, .ref (z.2.1 0)), (1, .int x1), (4, .int x4_8)]) hx hb dX11_steepOf_83 rfl hl (by decide) rfl (fun ls hl => ?_)
          obtain ⟨x4_23, ex4_23⟩ : ∃ y : Int32, y = x4_8 + 1 := ⟨_, rfl⟩
          have hf := of_lt ex4_23 hf
          refine lv_iinc (v := x4_23) (lv' := [(4, .int x4_23), (3, .int v_22), (2, .int r_20), (0, .ref (z.2.1 0)), (1, .int x1)]) hx hb dX11_steepOf_84 hl (k := 4) rfl (by rw [ex4_23]; rfl) (by decide) rfl (fun ls hl => ?_)
          refine lv_goto (tgt := 27) hx hb dX11_steepOf_87 (by decide) ?_
          exact ihL_9 _ _ _ _ _ hf (lv_sub hl [3, 4, 2, 1, 0] rfl) hEL_9
  obtain ⟨ex_25, hq_24, hf⟩ := of_bd hf
  obtain ⟨x2_26, ex2_26⟩ : ∃ y, y = ex_25 := ⟨_, rfl⟩
  rw [← ex2_26] at hf
  rw [← ex2_26] at hq_24
  refine L_9 FU _ _ _ _ _ hq_24 (lv_sub hl [3, 4, 2, 1, 0] rfl) (fun ls hl => ?_)
  have hl : lv_has ls 5 [(2, .int x2_26)] := hl
  refine lv_iload_n hx hb dX11_steepOf_90 rfl (lv_at hl 0 rfl) ?_
  exact hret _ _ _ hf dX11_steepOf_91
theorem in_X11_edge_X11 : ∀ w ∈ wsX110, w ∈ wsX11_edge := by decide +kernel
theorem lk_X11_edge_0 : Cond.fieldLink RX11 16 "CamStitchModel" "many" "[I" ∈ wsX11_edge := by decide +kernel
theorem lk_X11_edge_1 : Cond.fieldLink RX11 19 "CamStitchModel" "swing" "[I" ∈ wsX11_edge := by decide +kernel
theorem lk_X11_edge_2 : Cond.fieldLink RX11 22 "CamStitchModel" "feed" "[I" ∈ wsX11_edge := by decide +kernel
set_option maxHeartbeats 4000000 in
set_option maxRecDepth 100000 in
theorem c_X11_edge (l : Launch) {z : LZ} (hz : IM z) (x1 : Int32) (x2 : Int32) (w : Mem) {r : Int32} (hf : f_X11_edge x1 x2 w = some r) : Met l yX11_edge wsX11_edge (rm 0 0) (PZ z w [.ref (z.2.1 0), .int x1, .int x2]) (QR (some (.int r))) 0 0 (fun _ => False) := by
  refine mk_Ri (cc := cX11_edge) (maxL := 6) (by decide +kernel) rfl (Nat.le_of_ble_eq_true rfl) ?_
  intro p e s m args below meth c hx hb hml hts hown hK hW Q hret ls hl
  have hl : lv_has ls 6 [(0, .ref (z.2.1 0)), (1, .int x1), (2, .int x2)] := hl
  unfold f_X11_edge at hf
  refine lv_iconst (v := 0) hx hb dX11_edge_0 (by decide) ?_
  refine lv_istore_n (lv' := [(3, .int 0), (0, .ref (z.2.1 0)), (1, .int x1), (2, .int x2)]) hx hb dX11_edge_1 rfl hl (by decide) rfl (fun ls hl => ?_)
  refine lv_iconst (v := 0) hx hb dX11_edge_2 (by decide) ?_
  refine lv_istore (lv' := [(4, .int 0), (3, .int 0), (0, .ref (z.2.1 0)), (1, .int x1), (2, .int x2)]) hx hb dX11_edge_3 hl (by decide) rfl (fun ls hl => ?_)
  have L_3 : ∀ (n : Nat) (x3_1 : Int32) (x4_2 : Int32) (exL_3 : Int32) (ls : Array Slot), f_X11_edge_L5 w x1 x2 n x3_1 x4_2 = some exL_3 → lv_has ls 6 [(0, .ref (z.2.1 0)), (1, .int x1), (2, .int x2), (3, .int x3_1), (4, .int x4_2)] → (∀ (ls : Array Slot), lv_has ls 6 [(3, .int exL_3)] → W p l e (rm 0 0) s m args below meth c s.heap [] 0 0 Q (F0 m 85 ls [])) → W p l e (rm 0 0) s m args below meth c s.heap [] 0 0 Q (F0 m 5 ls []) := by
    intro n
    induction n with
    | zero =>
      intro x3_1 x4_2 exL_3 ls hf
      have hf : (none : Option (Int32)) = some exL_3 := hf
      cases hf
    | succ n ihL_3 =>
      intro x3_1 x4_2 exL_3 ls hf hl hEL_3
      rw [f_X11_edge_L5_s] at hf
      refine lv_iload hx hb dX11_edge_5 (lv_at hl 4 rfl) ?_
      refine lv_aload_n hx hb dX11_edge_7 rfl (lv_at hl 0 rfl) ?_
      refine get_X11_5 hx hb hts in_X11_edge_X11 hown hK hz hW lk_X11_edge_0 dX11_edge_8 ?_
      refine lv_bipush (v := 14) hx hb dX11_edge_11 (by decide) ?_
      obtain ⟨g_4, hf⟩ := of_gd hf
      refine ld_M3 hx hb hK hz hW g_4 dX11_edge_13 ?_
      refine lv_topi (fun v_5 ev_5 => ?_)
      have hf := of_lt ev_5 hf
      refine lv_icmp_ge (tgt := 85) hx hb dX11_edge_14 (by decide) (fun c_6 => ?_) (fun c_6 => ?_)
      · have hf := of_t c_6 hf
        have hf := Option.some.inj hf
        subst hf
        exact hEL_3 _ (lv_sub hl [3] rfl)
      · have hf := of_f c_6 hf
        refine lv_iload_n hx hb dX11_edge_17 rfl (lv_at hl 1 rfl) ?_
        obtain ⟨k_7, ek_7, hf⟩ := of_lz hf
        have Jk_7 : ∀ (t_8 : Int32) (ls : Array Slot), k_7 t_8 = some exL_3 → lv_has ls 6 [(0, .ref (z.2.1 0)), (1, .int x1), (2, .int x2), (3, .int x3_1), (4, .int x4_2)] → W p l e (rm 0 0) s m args below meth c s.heap [] 0 0 Q (F0 m 46 ls [.int t_8]) := by
          intro t_8 ls hf hl
          have hf := of_j1 ek_7 hf
          refine lv_istore (lv' := [(5, .int t_8), (0, .ref (z.2.1 0)), (1, .int x1), (2, .int x2), (3, .int x3_1), (4, .int x4_2)]) hx hb dX11_edge_46 hl (by decide) rfl (fun ls hl => ?_)
          refine lv_iload hx hb dX11_edge_48 (lv_at hl 5 rfl) ?_
          have J_10 : ∀ (v_9 : Int32) (ls : Array Slot), v_9 = (if x4_2 = 0 then t_8 else (if x2 = 0 then (if x3_1 ≤ t_8 then x3_1 else t_8) else (if t_8 ≤ x3_1 then x3_1 else t_8))) → lv_has ls 6 [(0, .ref (z.2.1 0)), (1, .int x1), (2, .int x2), (4, .int x4_2)] → W p l e (rm 0 0) s m args below meth c s.heap [] 0 0 Q (F0 m 78 ls [.int v_9]) := by
            intro v_9 ls ev_9 hl
            have hf := of_lt ev_9 hf
            refine lv_istore_n (lv' := [(3, .int v_9), (0, .ref (z.2.1 0)), (1, .int x1), (2, .int x2), (4, .int x4_2)]) hx hb dX11_edge_78 rfl hl (by decide) rfl (fun ls hl => ?_)
            obtain ⟨x4_11, ex4_11⟩ : ∃ y : Int32, y = x4_2 + 1 := ⟨_, rfl⟩
            have hf := of_lt ex4_11 hf
            refine lv_iinc (v := x4_11) (lv' := [(4, .int x4_11), (3, .int v_9), (0, .ref (z.2.1 0)), (1, .int x1), (2, .int x2)]) hx hb dX11_edge_79 hl (k := 4) rfl (by rw [ex4_11]; rfl) (by decide) rfl (fun ls hl => ?_)
            refine lv_goto (tgt := 5) hx hb dX11_edge_82 (by decide) ?_
            exact ihL_3 _ _ _ _ hf (lv_sub hl [2, 3, 4, 1, 0] rfl) hEL_3
          refine lv_if_eq (tgt := 72) hx hb dX11_edge_50 (by decide) (fun c_12 => ?_) (fun c_12 => ?_)
          · refine lv_iload hx hb dX11_edge_72 (lv_at hl 0 rfl) ?_
            refine lv_goto (tgt := 78) hx hb dX11_edge_74 (by decide) ?_
            exact J_10 _ _ (by rw [if_pos c_12]) (lv_sub hl [1, 2, 3, 5] rfl)
          · refine lv_iload_n hx hb dX11_edge_53 rfl (lv_at hl 3 rfl) ?_
            refine lv_if_eq (tgt := 66) hx hb dX11_edge_54 (by decide) (fun c_13 => ?_) (fun c_13 => ?_)
            · refine lv_iload hx hb dX11_edge_66 (lv_at hl 0 rfl) ?_
              refine lv_iload_n hx hb dX11_edge_68 rfl (lv_at hl 4 rfl) ?_
              refine lv_icmp_ge (tgt := 77) hx hb dX11_edge_69 (by decide) (fun c_14 => ?_) (fun c_14 => ?_)
              · refine lv_iload_n hx hb dX11_edge_77 rfl (lv_at hl 4 rfl) ?_
                exact J_10 _ _ (by rw [if_neg c_12, if_pos c_13, if_pos c_14]) (lv_sub hl [1, 2, 3, 5] rfl)
              · refine lv_iload hx hb dX11_edge_72 (lv_at hl 0 rfl) ?_
                refine lv_goto (tgt := 78) hx hb dX11_edge_74 (by decide) ?_
                exact J_10 _ _ (by rw [if_neg c_12, if_pos c_13, if_neg c_14]) (lv_sub hl [1, 2, 3, 5] rfl)
            · refine lv_iload hx hb dX11_edge_57 (lv_at hl 0 rfl) ?_
              refine lv_iload_n hx hb dX11_edge_59 rfl (lv_at hl 4 rfl) ?_
              refine lv_icmp_le (tgt := 77) hx hb dX11_edge_60 (by decide) (fun c_15 => ?_) (fun c_15 => ?_)
              · refine lv_iload_n hx hb dX11_edge_77 rfl (lv_at hl 4 rfl) ?_
                exact J_10 _ _ (by rw [if_neg c_12, if_neg c_13, if_pos c_15]) (lv_sub hl [1, 2, 3, 5] rfl)
              · refine lv_goto (tgt := 72) hx hb dX11_edge_63 (by decide) ?_
                refine lv_iload hx hb dX11_edge_72 (lv_at hl 0 rfl) ?_
                refine lv_goto (tgt := 78) hx hb dX11_edge_74 (by decide) ?_
                exact J_10 _ _ (by rw [if_neg c_12, if_neg c_13, if_neg c_15]) (lv_sub hl [1, 2, 3, 5] rfl)
        refine lv_if_eq (tgt := 35) hx hb dX11_edge_18 (by decide) (fun c_16 => ?_) (fun c_16 => ?_)
        · have hf := of_t c_16 hf
          refine lv_aload_n hx hb dX11_edge_35 rfl (lv_at hl 0 rfl) ?_
          refine get_X11_6 hx hb hts in_X11_edge_X11 hown hK hz hW lk_X11_edge_1 dX11_edge_36 ?_
          refine lv_sipush (v := 672) hx hb dX11_edge_39 (by decide) ?_
          refine lv_iload hx hb dX11_edge_42 (lv_at hl 4 rfl) ?_
          refine lv_iadd hx hb dX11_edge_44 ?_
          obtain ⟨g_17, hf⟩ := of_gd hf
          refine ld_M4 hx hb hK hz hW g_17 dX11_edge_45 ?_
          refine lv_topi (fun v_18 ev_18 => ?_)
          have hf := of_lt ev_18 hf
          exact Jk_7 _ _ hf (lv_sub hl [0, 1, 2, 3, 4] rfl)
        · have hf := of_f c_16 hf
          refine lv_aload_n hx hb dX11_edge_21 rfl (lv_at hl 0 rfl) ?_
          refine get_X11_7 hx hb hts in_X11_edge_X11 hown hK hz hW lk_X11_edge_2 dX11_edge_22 ?_
          refine lv_sipush (v := 672) hx hb dX11_edge_25 (by decide) ?_
          refine lv_iload hx hb dX11_edge_28 (lv_at hl 4 rfl) ?_
          refine lv_iadd hx hb dX11_edge_30 ?_
          obtain ⟨g_19, hf⟩ := of_gd hf
          refine ld_M5 hx hb hK hz hW g_19 dX11_edge_31 ?_
          refine lv_topi (fun v_20 ev_20 => ?_)
          have hf := of_lt ev_20 hf
          refine lv_goto (tgt := 46) hx hb dX11_edge_32 (by decide) ?_
          exact Jk_7 _ _ hf (lv_sub hl [0, 1, 2, 3, 4] rfl)
  obtain ⟨ex_22, hq_21, hf⟩ := of_bd hf
  obtain ⟨x3_23, ex3_23⟩ : ∃ y, y = ex_22 := ⟨_, rfl⟩
  rw [← ex3_23] at hf
  rw [← ex3_23] at hq_21
  refine L_3 FU _ _ _ _ hq_21 (lv_sub hl [2, 3, 4, 1, 0] rfl) (fun ls hl => ?_)
  have hl : lv_has ls 6 [(3, .int x3_23)] := hl
  refine lv_iload_n hx hb dX11_edge_85 rfl (lv_at hl 0 rfl) ?_
  exact hret _ _ _ hf dX11_edge_86
theorem in_X11_disc_X11 : ∀ w ∈ wsX110, w ∈ wsX11_disc := by decide +kernel
theorem lk_X11_disc_0 : Cond.fieldLink RX11 16 "CamStitchModel" "many" "[I" ∈ wsX11_disc := by decide +kernel
theorem lk_X11_disc_1 : Cond.fieldLink RX11 103 "CamStitchModel" "thrown" "I" ∈ wsX11_disc := by decide +kernel
set_option maxHeartbeats 4000000 in
set_option maxRecDepth 100000 in
theorem c_X11_disc (l : Launch) {z : LZ} (hz : IM z) (x1 : Int32) (w : Mem) {r : Int32} {w' : Mem} (hf : f_X11_disc x1 w = some (r, w')) : Met l yX11_disc wsX11_disc (rm 2 44) (PZ z w [.ref (z.2.1 0), .int x1]) (QW z (some (.int r)) w') 0 0 (az z) := by
  refine mk_Wi (cc := cX11_disc) (maxL := 2) (by decide +kernel) rfl (Nat.le_of_ble_eq_true rfl) ?_
  intro p e s m args below meth c hx hb hml hts hown hK hW Q hret ls hl
  have hl : lv_has ls 2 [(0, .ref (z.2.1 0)), (1, .int x1)] := hl
  unfold f_X11_disc at hf
  have START : ∀ (H : Heap) (locs : List Loc), hd z w H → va_S (az z) s.heap H locs → W p l e (rm 2 44) s m args below meth c H locs 0 0 Q (F0 m 0 ls []) := by
    intro H locs hW hS
    refine lv_aload_n hx hb dX11_disc_0 rfl (lv_at hl 0 rfl) ?_
    refine lv_iload_n hx hb dX11_disc_1 rfl (lv_at hl 1 rfl) ?_
    refine lv_iconst (v := 0) hx hb dX11_disc_2 (by decide) ?_
    refine lv_bipush (v := 6) hx hb dX11_disc_3 (by decide) ?_
    obtain ⟨r_1, hq_2, hf⟩ := of_bd hf
    refine m_goRi (va_runS (As := [.int x1, .int 0, .int 6]) (rest := [.ref (z.2.1 0)]) ⟨hx, hb, hml, hown, hts⟩ (c_X11_in l hz x1 0 6 w hq_2) (va_cwS 3 hts gX11_disc_X11_in rfl rfl rfl (by decide +kernel) ⟨Nat.le_of_ble_eq_true rfl, Nat.le_of_ble_eq_true rfl⟩) (m_preS hK hW _) rfl rfl hl.1 rfl (lv_room (Nat.le_of_ble_eq_true rfl)) dX11_disc_5 ⟨Nat.le_refl _, Nat.le_refl _⟩) ?_
    obtain ⟨k_3, ek_3, hf⟩ := of_lz hf
    have Jk_3 : ∀ (t_4 : Int32) (ls : Array Slot), k_3 t_4 = some (r, w') → lv_has ls 2 [(0, .ref (z.2.1 0)), (1, .int x1)] → W p l e (rm 2 44) s m args below meth c H locs 0 0 Q (F0 m 30 ls [.int t_4, .ref (z.2.1 0)]) := by
      intro t_4 ls hf hl
      have hf := of_j1 ek_3 hf
      refine put_X11_0 hx hb hts in_X11_disc_X11 hown hK hz hW hS lk_X11_disc_1 dX11_disc_30 (fun H locs hW hS => ?_)
      obtain ⟨w_5, ew_5⟩ : ∃ y : Mem, y = mS w 0 0 t_4 := ⟨_, rfl⟩
      have hW : hd z w_5 H := by rw [ew_5]; exact hW
      have hf := of_lt ew_5 hf
      refine lv_aload_n hx hb dX11_disc_33 rfl (lv_at hl 0 rfl) ?_
      refine get_X11_0 hx hb hts in_X11_disc_X11 hown hK hz hW lk_X11_disc_1 dX11_disc_34 ?_
      refine lv_if_eq (tgt := 42) hx hb dX11_disc_37 (by decide) (fun c_6 => ?_) (fun c_6 => ?_)
      · have hf := of_t c_6 hf
        refine lv_iload_n hx hb dX11_disc_42 rfl (lv_at hl 1 rfl) ?_
        by_cases c_7 : x1 = 0
        · have hf := of_t c_7 hf
          refine lv_tableIn (off := 25) (tgt := 68) hx hb dX11_disc_43 (by rw [c_7]; decide) (by rw [c_7]; decide) (by rw [c_7]; rfl) (by decide) ?_
          refine lv_aload_n hx hb dX11_disc_68 rfl (lv_at hl 0 rfl) ?_
          refine get_X11_5 hx hb hts in_X11_disc_X11 hown hK hz hW lk_X11_disc_0 dX11_disc_69 ?_
          refine lv_bipush (v := 14) hx hb dX11_disc_72 (by decide) ?_
          obtain ⟨g_8, hf⟩ := of_gd hf
          refine ld_M3 hx hb hK hz hW g_8 dX11_disc_74 ?_
          refine lv_topi (fun v_9 ev_9 => ?_)
          have hf := of_lt ev_9 hf
          exact hret _ _ _ _ _ _ hf hW hS dX11_disc_75
        have hf := of_f c_7 hf
        by_cases c_10 : x1 = 1
        · have hf := of_t c_10 hf
          refine lv_tableIn (off := 33) (tgt := 76) hx hb dX11_disc_43 (by rw [c_10]; decide) (by rw [c_10]; decide) (by rw [c_10]; rfl) (by decide) ?_
          refine lv_aload_n hx hb dX11_disc_76 rfl (lv_at hl 0 rfl) ?_
          refine lv_bipush (v := 14) hx hb dX11_disc_77 (by decide) ?_
          obtain ⟨r_11, hq_12, hf⟩ := of_bd hf
          refine m_goRi (va_runV (As := [.int 14]) (rest := []) ⟨hx, hb, hml, hown, hts⟩ (c_X11_lengthOf l hz 14 w_5 hq_12) (cwV 1 hts gX11_disc_X11_lengthOf rfl rfl rfl (by decide +kernel) ⟨Nat.le_of_ble_eq_true rfl, Nat.le_of_ble_eq_true rfl⟩) (pre_X11 hK hz hW _) rfl rfl hl.1 rfl (lv_room (Nat.le_of_ble_eq_true rfl)) dX11_disc_79 ⟨Nat.le_refl _, Nat.le_refl _⟩) ?_
          exact hret _ _ _ _ _ _ hf hW hS dX11_disc_82
        have hf := of_f c_10 hf
        by_cases c_13 : x1 = 2
        · have hf := of_t c_13 hf
          refine lv_tableIn (off := 40) (tgt := 83) hx hb dX11_disc_43 (by rw [c_13]; decide) (by rw [c_13]; decide) (by rw [c_13]; rfl) (by decide) ?_
          refine lv_aload_n hx hb dX11_disc_83 rfl (lv_at hl 0 rfl) ?_
          refine lv_bipush (v := 14) hx hb dX11_disc_84 (by decide) ?_
          obtain ⟨r_14, hq_15, hf⟩ := of_bd hf
          refine m_goRi (va_runV (As := [.int 14]) (rest := []) ⟨hx, hb, hml, hown, hts⟩ (c_X11_steepOf l hz 14 w_5 hq_15) (cwV 1 hts gX11_disc_X11_steepOf rfl rfl rfl (by decide +kernel) ⟨Nat.le_of_ble_eq_true rfl, Nat.le_of_ble_eq_true rfl⟩) (pre_X11 hK hz hW _) rfl rfl hl.1 rfl (lv_room (Nat.le_of_ble_eq_true rfl)) dX11_disc_86 ⟨Nat.le_refl _, Nat.le_refl _⟩) ?_
          exact hret _ _ _ _ _ _ hf hW hS dX11_disc_89
        have hf := of_f c_13 hf
        refine lv_tableOut (tgt := 90) hx hb dX11_disc_43 (by have qc_7 := lv_neT c_7 (show (0 : Int32).toInt = 0 by decide); have qc_10 := lv_neT c_10 (show (1 : Int32).toInt = 1 by decide); have qc_13 := lv_neT c_13 (show (2 : Int32).toInt = 2 by decide); omega) (by decide) ?_
        refine lv_aload_n hx hb dX11_disc_90 rfl (lv_at hl 0 rfl) ?_
        refine lv_iload_n hx hb dX11_disc_91 rfl (lv_at hl 1 rfl) ?_
        refine lv_iconst (v := 4) hx hb dX11_disc_92 (by decide) ?_
        have J_17 : ∀ (v_16 : Int32) (ls : Array Slot), v_16 = (if x1 ≤ 4 then 0 else 1) → lv_has ls 2 [(1, .int x1)] → W p l e (rm 2 44) s m args below meth c H locs 0 0 Q (F0 m 101 ls [.int v_16, .ref (z.2.1 0)]) := by
          intro v_16 ls ev_16 hl
          have hf := of_lt ev_16 hf
          refine lv_iload_n hx hb dX11_disc_101 rfl (lv_at hl 0 rfl) ?_
          refine lv_iconst (v := 3) hx hb dX11_disc_102 (by decide) ?_
          have J_19 : ∀ (v_18 : Int32) (ls : Array Slot), v_18 = (if x1 = 3 then 1 else (if x1 = 5 then 1 else 0)) → lv_has ls 2 [] → W p l e (rm 2 44) s m args below meth c H locs 0 0 Q (F0 m 116 ls [.int v_18, .int v_16, .ref (z.2.1 0)]) := by
            intro v_18 ls ev_18 hl
            have hf := of_lt ev_18 hf
            obtain ⟨r_20, hq_21, hf⟩ := of_bd hf
            refine m_goRi (va_runV (As := [.int v_16, .int v_18]) (rest := []) ⟨hx, hb, hml, hown, hts⟩ (c_X11_edge l hz v_16 v_18 w_5 hq_21) (cwV 2 hts gX11_disc_X11_edge rfl rfl rfl (by decide +kernel) ⟨Nat.le_of_ble_eq_true rfl, Nat.le_of_ble_eq_true rfl⟩) (pre_X11 hK hz hW _) rfl rfl hl.1 rfl (lv_room (Nat.le_of_ble_eq_true rfl)) dX11_disc_116 ⟨Nat.le_refl _, Nat.le_refl _⟩) ?_
            exact hret _ _ _ _ _ _ hf hW hS dX11_disc_119
          refine lv_icmp_eq (tgt := 111) hx hb dX11_disc_103 (by decide) (fun c_22 => ?_) (fun c_22 => ?_)
          · refine lv_iconst (v := 1) hx hb dX11_disc_111 (by decide) ?_
            refine lv_goto (tgt := 116) hx hb dX11_disc_112 (by decide) ?_
            exact J_19 _ _ (by rw [if_pos c_22]) (lv_sub hl [] rfl)
          · refine lv_iload_n hx hb dX11_disc_106 rfl (lv_at hl 0 rfl) ?_
            refine lv_iconst (v := 5) hx hb dX11_disc_107 (by decide) ?_
            refine lv_icmp_ne (tgt := 115) hx hb dX11_disc_108 (by decide) (fun c_23 => ?_) (fun c_23 => ?_)
            · refine lv_iconst (v := 0) hx hb dX11_disc_115 (by decide) ?_
              exact J_19 _ _ (by rw [if_neg c_22, if_neg c_23]) (lv_sub hl [] rfl)
            · refine lv_iconst (v := 1) hx hb dX11_disc_111 (by decide) ?_
              refine lv_goto (tgt := 116) hx hb dX11_disc_112 (by decide) ?_
              exact J_19 _ _ (by rw [if_neg c_22, if_pos c_23]) (lv_sub hl [] rfl)
        refine lv_icmp_le (tgt := 100) hx hb dX11_disc_93 (by decide) (fun c_24 => ?_) (fun c_24 => ?_)
        · refine lv_iconst (v := 0) hx hb dX11_disc_100 (by decide) ?_
          exact J_17 _ _ (by rw [if_pos c_24]) (lv_sub hl [1] rfl)
        · refine lv_iconst (v := 1) hx hb dX11_disc_96 (by decide) ?_
          refine lv_goto (tgt := 101) hx hb dX11_disc_97 (by decide) ?_
          exact J_17 _ _ (by rw [if_neg c_24]) (lv_sub hl [1] rfl)
      · have hf := of_f c_6 hf
        refine lv_iconst (v := 0) hx hb dX11_disc_40 (by decide) ?_
        exact hret _ _ _ _ _ _ hf hW hS dX11_disc_41
    refine lv_if_ne (tgt := 15) hx hb dX11_disc_8 (by decide) (fun c_25 => ?_) (fun c_25 => ?_)
    · have hf := of_f c_25 hf
      refine lv_aload_n hx hb dX11_disc_15 rfl (lv_at hl 0 rfl) ?_
      refine get_X11_5 hx hb hts in_X11_disc_X11 hown hK hz hW lk_X11_disc_0 dX11_disc_16 ?_
      refine lv_bipush (v := 14) hx hb dX11_disc_19 (by decide) ?_
      obtain ⟨g_26, hf⟩ := of_gd hf
      refine ld_M3 hx hb hK hz hW g_26 dX11_disc_21 ?_
      refine lv_topi (fun v_27 ev_27 => ?_)
      have hf := of_lt ev_27 hf
      refine lv_if_ne (tgt := 29) hx hb dX11_disc_22 (by decide) (fun c_28 => ?_) (fun c_28 => ?_)
      · have hf := of_f c_28 hf
        refine lv_iconst (v := 0) hx hb dX11_disc_29 (by decide) ?_
        exact Jk_3 _ _ hf (lv_sub hl [0, 1] rfl)
      · have hf := of_t c_28 hf
        refine lv_iconst (v := 2) hx hb dX11_disc_25 (by decide) ?_
        refine lv_goto (tgt := 30) hx hb dX11_disc_26 (by decide) ?_
        exact Jk_3 _ _ hf (lv_sub hl [0, 1] rfl)
    · have hf := of_t c_25 hf
      refine lv_iconst (v := 1) hx hb dX11_disc_11 (by decide) ?_
      refine lv_goto (tgt := 30) hx hb dX11_disc_12 (by decide) ?_
      exact Jk_3 _ _ hf (lv_sub hl [0, 1] rfl)
  exact START _ _ hW va_S.rf
theorem in_X11_stitch_X11 : ∀ w ∈ wsX110, w ∈ wsX11_stitch := by decide +kernel
theorem lk_X11_stitch_0 : Cond.fieldLink RX11 16 "CamStitchModel" "many" "[I" ∈ wsX11_stitch := by decide +kernel
theorem lk_X11_stitch_1 : Cond.fieldLink RX11 103 "CamStitchModel" "thrown" "I" ∈ wsX11_stitch := by decide +kernel
theorem lk_X11_stitch_2 : Cond.fieldLink RX11 22 "CamStitchModel" "feed" "[I" ∈ wsX11_stitch := by decide +kernel
theorem lk_X11_stitch_3 : Cond.fieldLink RX11 19 "CamStitchModel" "swing" "[I" ∈ wsX11_stitch := by decide +kernel
set_option maxHeartbeats 4000000 in
set_option maxRecDepth 100000 in
theorem c_X11_stitch (l : Launch) {z : LZ} (hz : IM z) (x1 : Int32) (x2 : Int32) (w : Mem) {r : Int32} {w' : Mem} (hf : f_X11_stitch x1 x2 w = some (r, w')) : Met l yX11_stitch wsX11_stitch (rm 1 22) (PZ z w [.ref (z.2.1 0), .int x1, .int x2]) (QW z (some (.int r)) w') 0 0 (az z) := by
  refine mk_Wi (cc := cX11_stitch) (maxL := 3) (by decide +kernel) rfl (Nat.le_of_ble_eq_true rfl) ?_
  intro p e s m args below meth c hx hb hml hts hown hK hW Q hret ls hl
  have hl : lv_has ls 3 [(0, .ref (z.2.1 0)), (1, .int x1), (2, .int x2)] := hl
  unfold f_X11_stitch at hf
  have START : ∀ (H : Heap) (locs : List Loc), hd z w H → va_S (az z) s.heap H locs → W p l e (rm 1 22) s m args below meth c H locs 0 0 Q (F0 m 0 ls []) := by
    intro H locs hW hS
    refine lv_aload_n hx hb dX11_stitch_0 rfl (lv_at hl 0 rfl) ?_
    refine lv_iload_n hx hb dX11_stitch_1 rfl (lv_at hl 2 rfl) ?_
    refine lv_iconst (v := 0) hx hb dX11_stitch_2 (by decide) ?_
    refine lv_iconst (v := 1) hx hb dX11_stitch_3 (by decide) ?_
    obtain ⟨r_1, hq_2, hf⟩ := of_bd hf
    refine m_goRi (va_runS (As := [.int x2, .int 0, .int 1]) (rest := [.ref (z.2.1 0)]) ⟨hx, hb, hml, hown, hts⟩ (c_X11_in l hz x2 0 1 w hq_2) (va_cwS 3 hts gX11_stitch_X11_in rfl rfl rfl (by decide +kernel) ⟨Nat.le_of_ble_eq_true rfl, Nat.le_of_ble_eq_true rfl⟩) (m_preS hK hW _) rfl rfl hl.1 rfl (lv_room (Nat.le_of_ble_eq_true rfl)) dX11_stitch_4 ⟨Nat.le_refl _, Nat.le_refl _⟩) ?_
    obtain ⟨k_3, ek_3, hf⟩ := of_lz hf
    have Jk_3 : ∀ (t_4 : Int32) (ls : Array Slot), k_3 t_4 = some (r, w') → lv_has ls 3 [(0, .ref (z.2.1 0)), (1, .int x1), (2, .int x2)] → W p l e (rm 1 22) s m args below meth c H locs 0 0 Q (F0 m 36 ls [.int t_4, .ref (z.2.1 0)]) := by
      intro t_4 ls hf hl
      have hf := of_j1 ek_3 hf
      refine put_X11_0 hx hb hts in_X11_stitch_X11 hown hK hz hW hS lk_X11_stitch_1 dX11_stitch_36 (fun H locs hW hS => ?_)
      obtain ⟨w_5, ew_5⟩ : ∃ y : Mem, y = mS w 0 0 t_4 := ⟨_, rfl⟩
      have hW : hd z w_5 H := by rw [ew_5]; exact hW
      have hf := of_lt ew_5 hf
      refine lv_aload_n hx hb dX11_stitch_39 rfl (lv_at hl 0 rfl) ?_
      refine get_X11_0 hx hb hts in_X11_stitch_X11 hown hK hz hW lk_X11_stitch_1 dX11_stitch_40 ?_
      refine lv_if_eq (tgt := 50) hx hb dX11_stitch_43 (by decide) (fun c_6 => ?_) (fun c_6 => ?_)
      · have hf := of_t c_6 hf
        refine lv_iload_n hx hb dX11_stitch_50 rfl (lv_at hl 2 rfl) ?_
        refine lv_if_ne (tgt := 67) hx hb dX11_stitch_51 (by decide) (fun c_7 => ?_) (fun c_7 => ?_)
        · have hf := of_f c_7 hf
          refine lv_aload_n hx hb dX11_stitch_67 rfl (lv_at hl 0 rfl) ?_
          refine get_X11_7 hx hb hts in_X11_stitch_X11 hown hK hz hW lk_X11_stitch_2 dX11_stitch_68 ?_
          refine lv_sipush (v := 672) hx hb dX11_stitch_71 (by decide) ?_
          refine lv_iload_n hx hb dX11_stitch_74 rfl (lv_at hl 1 rfl) ?_
          refine lv_iadd hx hb dX11_stitch_75 ?_
          obtain ⟨g_8, hf⟩ := of_gd hf
          refine ld_M5 hx hb hK hz hW g_8 dX11_stitch_76 ?_
          refine lv_topi (fun v_9 ev_9 => ?_)
          have hf := of_lt ev_9 hf
          exact hret _ _ _ _ _ _ hf hW hS dX11_stitch_77
        · have hf := of_t c_7 hf
          refine lv_aload_n hx hb dX11_stitch_54 rfl (lv_at hl 0 rfl) ?_
          refine get_X11_6 hx hb hts in_X11_stitch_X11 hown hK hz hW lk_X11_stitch_3 dX11_stitch_55 ?_
          refine lv_sipush (v := 672) hx hb dX11_stitch_58 (by decide) ?_
          refine lv_iload_n hx hb dX11_stitch_61 rfl (lv_at hl 1 rfl) ?_
          refine lv_iadd hx hb dX11_stitch_62 ?_
          obtain ⟨g_10, hf⟩ := of_gd hf
          refine ld_M4 hx hb hK hz hW g_10 dX11_stitch_63 ?_
          refine lv_topi (fun v_11 ev_11 => ?_)
          have hf := of_lt ev_11 hf
          refine lv_goto (tgt := 77) hx hb dX11_stitch_64 (by decide) ?_
          exact hret _ _ _ _ _ _ hf hW hS dX11_stitch_77
      · have hf := of_f c_6 hf
        refine lv_iconst (v := 0) hx hb dX11_stitch_46 (by decide) ?_
        refine lv_goto (tgt := 77) hx hb dX11_stitch_47 (by decide) ?_
        exact hret _ _ _ _ _ _ hf hW hS dX11_stitch_77
    refine lv_if_ne (tgt := 14) hx hb dX11_stitch_7 (by decide) (fun c_12 => ?_) (fun c_12 => ?_)
    · have hf := of_f c_12 hf
      refine lv_iload_n hx hb dX11_stitch_14 rfl (lv_at hl 1 rfl) ?_
      refine lv_iconst (v := 0) hx hb dX11_stitch_15 (by decide) ?_
      refine lv_aload_n hx hb dX11_stitch_16 rfl (lv_at hl 0 rfl) ?_
      refine get_X11_5 hx hb hts in_X11_stitch_X11 hown hK hz hW lk_X11_stitch_0 dX11_stitch_17 ?_
      refine lv_bipush (v := 14) hx hb dX11_stitch_20 (by decide) ?_
      obtain ⟨g_13, hf⟩ := of_gd hf
      refine ld_M3 hx hb hK hz hW g_13 dX11_stitch_22 ?_
      refine lv_topi (fun v_14 ev_14 => ?_)
      have hf := of_lt ev_14 hf
      refine lv_iconst (v := 1) hx hb dX11_stitch_23 (by decide) ?_
      refine lv_isub hx hb dX11_stitch_24 ?_
      obtain ⟨r_15, hq_16, hf⟩ := of_bd hf
      refine m_goRi (va_runS (As := [.int x1, .int 0, .int (v_14 - 1)]) (rest := [.ref (z.2.1 0)]) ⟨hx, hb, hml, hown, hts⟩ (c_X11_in l hz x1 0 (v_14 - 1) w hq_16) (va_cwS 3 hts gX11_stitch_X11_in rfl rfl rfl (by decide +kernel) ⟨Nat.le_of_ble_eq_true rfl, Nat.le_of_ble_eq_true rfl⟩) (m_preS hK hW _) rfl rfl hl.1 rfl (lv_room (Nat.le_of_ble_eq_true rfl)) dX11_stitch_25 ⟨Nat.le_refl _, Nat.le_refl _⟩) ?_
      refine lv_if_ne (tgt := 35) hx hb dX11_stitch_28 (by decide) (fun c_17 => ?_) (fun c_17 => ?_)
      · have hf := of_f c_17 hf
        refine lv_iconst (v := 0) hx hb dX11_stitch_35 (by decide) ?_
        exact Jk_3 _ _ hf (lv_sub hl [0, 1, 2] rfl)
      · have hf := of_t c_17 hf
        refine lv_iconst (v := 2) hx hb dX11_stitch_31 (by decide) ?_
        refine lv_goto (tgt := 36) hx hb dX11_stitch_32 (by decide) ?_
        exact Jk_3 _ _ hf (lv_sub hl [0, 1, 2] rfl)
    · have hf := of_t c_12 hf
      refine lv_iconst (v := 1) hx hb dX11_stitch_10 (by decide) ?_
      refine lv_goto (tgt := 36) hx hb dX11_stitch_11 (by decide) ?_
      exact Jk_3 _ _ hf (lv_sub hl [0, 1, 2] rfl)
  exact START _ _ hW va_S.rf
theorem in_X11_file_X11 : ∀ w ∈ wsX110, w ∈ wsX11_file := by decide +kernel
theorem lk_X11_file_0 : Cond.fieldLink RX11 16 "CamStitchModel" "many" "[I" ∈ wsX11_file := by decide +kernel
theorem lk_X11_file_1 : Cond.fieldLink RX11 19 "CamStitchModel" "swing" "[I" ∈ wsX11_file := by decide +kernel
theorem lk_X11_file_2 : Cond.fieldLink RX11 22 "CamStitchModel" "feed" "[I" ∈ wsX11_file := by decide +kernel
set_option maxHeartbeats 4000000 in
set_option maxRecDepth 100000 in
theorem c_X11_file (l : Launch) {z : LZ} (hz : IM z) (x1 : Int32) (x2 : Int32) (x3 : Int32) (w : Mem) {r : Int32} {w' : Mem} (hf : f_X11_file x1 x2 x3 w = some (r, w')) : Met l yX11_file wsX11_file (rm 1 22) (PZ z w [.ref (z.2.1 0), .int x1, .int x2, .int x3]) (QW z (some (.int r)) w') 0 0 (az z) := by
  refine mk_Wi (cc := cX11_file) (maxL := 4) (by decide +kernel) rfl (Nat.le_of_ble_eq_true rfl) ?_
  intro p e s m args below meth c hx hb hml hts hown hK hW Q hret ls hl
  have hl : lv_has ls 4 [(0, .ref (z.2.1 0)), (1, .int x1), (2, .int x2), (3, .int x3)] := hl
  unfold f_X11_file at hf
  have START : ∀ (H : Heap) (locs : List Loc), hd z w H → va_S (az z) s.heap H locs → W p l e (rm 1 22) s m args below meth c H locs 0 0 Q (F0 m 0 ls []) := by
    intro H locs hW hS
    refine lv_iload_n hx hb dX11_file_0 rfl (lv_at hl 1 rfl) ?_
    refine lv_iconst (v := 0) hx hb dX11_file_1 (by decide) ?_
    refine lv_aload_n hx hb dX11_file_2 rfl (lv_at hl 0 rfl) ?_
    refine get_X11_5 hx hb hts in_X11_file_X11 hown hK hz hW lk_X11_file_0 dX11_file_3 ?_
    refine lv_bipush (v := 14) hx hb dX11_file_6 (by decide) ?_
    obtain ⟨g_1, hf⟩ := of_gd hf
    refine ld_M3 hx hb hK hz hW g_1 dX11_file_8 ?_
    refine lv_topi (fun v_2 ev_2 => ?_)
    have hf := of_lt ev_2 hf
    refine lv_iconst (v := 1) hx hb dX11_file_9 (by decide) ?_
    refine lv_isub hx hb dX11_file_10 ?_
    obtain ⟨r_3, hq_4, hf⟩ := of_bd hf
    refine m_goRi (va_runS (As := [.int x1, .int 0, .int (v_2 - 1)]) (rest := []) ⟨hx, hb, hml, hown, hts⟩ (c_X11_in l hz x1 0 (v_2 - 1) w hq_4) (va_cwS 3 hts gX11_file_X11_in rfl rfl rfl (by decide +kernel) ⟨Nat.le_of_ble_eq_true rfl, Nat.le_of_ble_eq_true rfl⟩) (m_preS hK hW _) rfl rfl hl.1 rfl (lv_room (Nat.le_of_ble_eq_true rfl)) dX11_file_11 ⟨Nat.le_refl _, Nat.le_refl _⟩) ?_
    refine lv_if_eq (tgt := 39) hx hb dX11_file_14 (by decide) (fun c_5 => ?_) (fun c_5 => ?_)
    · have hf := of_t c_5 hf
      refine lv_iconst (v := (-1)) hx hb dX11_file_39 (by decide) ?_
      exact hret _ _ _ _ _ _ hf hW hS dX11_file_40
    · have hf := of_f c_5 hf
      refine lv_iload_n hx hb dX11_file_17 rfl (lv_at hl 2 rfl) ?_
      refine lv_bipush (v := (-12)) hx hb dX11_file_18 (by decide) ?_
      refine lv_bipush (v := 12) hx hb dX11_file_20 (by decide) ?_
      obtain ⟨r_6, hq_7, hf⟩ := of_bd hf
      refine m_goRi (va_runS (As := [.int x2, .int (-12), .int 12]) (rest := []) ⟨hx, hb, hml, hown, hts⟩ (c_X11_in l hz x2 (-12) 12 w hq_7) (va_cwS 3 hts gX11_file_X11_in rfl rfl rfl (by decide +kernel) ⟨Nat.le_of_ble_eq_true rfl, Nat.le_of_ble_eq_true rfl⟩) (m_preS hK hW _) rfl rfl hl.1 rfl (lv_room (Nat.le_of_ble_eq_true rfl)) dX11_file_22 ⟨Nat.le_refl _, Nat.le_refl _⟩) ?_
      refine lv_if_eq (tgt := 39) hx hb dX11_file_25 (by decide) (fun c_8 => ?_) (fun c_8 => ?_)
      · have hf := of_t c_8 hf
        refine lv_iconst (v := (-1)) hx hb dX11_file_39 (by decide) ?_
        exact hret _ _ _ _ _ _ hf hW hS dX11_file_40
      · have hf := of_f c_8 hf
        refine lv_iload_n hx hb dX11_file_28 rfl (lv_at hl 3 rfl) ?_
        refine lv_bipush (v := (-12)) hx hb dX11_file_29 (by decide) ?_
        refine lv_bipush (v := 12) hx hb dX11_file_31 (by decide) ?_
        obtain ⟨r_9, hq_10, hf⟩ := of_bd hf
        refine m_goRi (va_runS (As := [.int x3, .int (-12), .int 12]) (rest := []) ⟨hx, hb, hml, hown, hts⟩ (c_X11_in l hz x3 (-12) 12 w hq_10) (va_cwS 3 hts gX11_file_X11_in rfl rfl rfl (by decide +kernel) ⟨Nat.le_of_ble_eq_true rfl, Nat.le_of_ble_eq_true rfl⟩) (m_preS hK hW _) rfl rfl hl.1 rfl (lv_room (Nat.le_of_ble_eq_true rfl)) dX11_file_33 ⟨Nat.le_refl _, Nat.le_refl _⟩) ?_
        refine lv_if_ne (tgt := 41) hx hb dX11_file_36 (by decide) (fun c_11 => ?_) (fun c_11 => ?_)
        · have hf := of_f c_11 hf
          refine lv_aload_n hx hb dX11_file_41 rfl (lv_at hl 0 rfl) ?_
          refine get_X11_6 hx hb hts in_X11_file_X11 hown hK hz hW lk_X11_file_1 dX11_file_42 ?_
          refine lv_sipush (v := 672) hx hb dX11_file_45 (by decide) ?_
          refine lv_iload_n hx hb dX11_file_48 rfl (lv_at hl 1 rfl) ?_
          refine lv_iadd hx hb dX11_file_49 ?_
          refine lv_iload_n hx hb dX11_file_50 rfl (lv_at hl 2 rfl) ?_
          obtain ⟨g_12, hf⟩ := of_gd hf
          refine st_M4 hx hb hK hz hW hS g_12 dX11_file_51 (fun H locs hW hS => ?_)
          obtain ⟨w_13, ew_13⟩ : ∃ y : Mem, y = mS w 4 ((672 + x1).toNatClampNeg) x2 := ⟨_, rfl⟩
          have hW : hd z w_13 H := by rw [ew_13]; exact hW
          have hf := of_lt ew_13 hf
          refine lv_aload_n hx hb dX11_file_52 rfl (lv_at hl 0 rfl) ?_
          refine get_X11_7 hx hb hts in_X11_file_X11 hown hK hz hW lk_X11_file_2 dX11_file_53 ?_
          refine lv_sipush (v := 672) hx hb dX11_file_56 (by decide) ?_
          refine lv_iload_n hx hb dX11_file_59 rfl (lv_at hl 1 rfl) ?_
          refine lv_iadd hx hb dX11_file_60 ?_
          refine lv_iload_n hx hb dX11_file_61 rfl (lv_at hl 3 rfl) ?_
          refine st_M5 hx hb hK hz hW hS g_12 dX11_file_62 (fun H locs hW hS => ?_)
          obtain ⟨w_14, ew_14⟩ : ∃ y : Mem, y = mS w_13 5 ((672 + x1).toNatClampNeg) x3 := ⟨_, rfl⟩
          have hW : hd z w_14 H := by rw [ew_14]; exact hW
          have hf := of_lt ew_14 hf
          refine lv_iconst (v := 1) hx hb dX11_file_63 (by decide) ?_
          exact hret _ _ _ _ _ _ hf hW hS dX11_file_64
        · have hf := of_t c_11 hf
          refine lv_iconst (v := (-1)) hx hb dX11_file_39 (by decide) ?_
          exact hret _ _ _ _ _ _ hf hW hS dX11_file_40
  exact START _ _ hW va_S.rf
theorem in_X11_makes_X11 : ∀ w ∈ wsX110, w ∈ wsX11_makes := by decide +kernel
theorem lk_X11_makes_0 : Cond.fieldLink RX11 109 "CamStitchModel" "points" "I" ∈ wsX11_makes := by decide +kernel
theorem lk_X11_makes_1 : Cond.fieldLink RX11 16 "CamStitchModel" "many" "[I" ∈ wsX11_makes := by decide +kernel
theorem lk_X11_makes_2 : Cond.fieldLink RX11 13 "CamStitchModel" "py" "[I" ∈ wsX11_makes := by decide +kernel
theorem lk_X11_makes_3 : Cond.fieldLink RX11 22 "CamStitchModel" "feed" "[I" ∈ wsX11_makes := by decide +kernel
theorem lk_X11_makes_4 : Cond.fieldLink RX11 19 "CamStitchModel" "swing" "[I" ∈ wsX11_makes := by decide +kernel
theorem lk_X11_makes_5 : Cond.fieldLink RX11 7 "CamStitchModel" "px" "[I" ∈ wsX11_makes := by decide +kernel
theorem lk_X11_makes_6 : Cond.fieldLink RX11 192 "CamStitchModel" "advance" "I" ∈ wsX11_makes := by decide +kernel
set_option maxHeartbeats 4000000 in
set_option maxRecDepth 100000 in
theorem c_X11_makes (l : Launch) {z : LZ} (hz : IM z)  (w : Mem) {r : Int32} (hf : f_X11_makes w = some r) : Met l yX11_makes wsX11_makes (rm 0 0) (PZ z w [.ref (z.2.1 0)]) (QR (some (.int r))) 0 0 (fun _ => False) := by
  refine mk_Ri (cc := cX11_makes) (maxL := 6) (by decide +kernel) rfl (Nat.le_of_ble_eq_true rfl) ?_
  intro p e s m args below meth c hx hb hml hts hown hK hW Q hret ls hl
  have hl : lv_has ls 6 [(0, .ref (z.2.1 0))] := hl
  unfold f_X11_makes at hf
  refine lv_aload_n hx hb dX11_makes_0 rfl (lv_at hl 0 rfl) ?_
  refine get_X11_1 hx hb hts in_X11_makes_X11 hown hK hz hW lk_X11_makes_0 dX11_makes_1 ?_
  refine lv_if_eq (tgt := 17) hx hb dX11_makes_4 (by decide) (fun c_1 => ?_) (fun c_1 => ?_)
  · have hf := of_t c_1 hf
    refine lv_bipush (v := (-3)) hx hb dX11_makes_17 (by decide) ?_
    exact hret _ _ _ hf dX11_makes_19
  · have hf := of_f c_1 hf
    refine lv_aload_n hx hb dX11_makes_7 rfl (lv_at hl 0 rfl) ?_
    refine get_X11_5 hx hb hts in_X11_makes_X11 hown hK hz hW lk_X11_makes_1 dX11_makes_8 ?_
    refine lv_bipush (v := 14) hx hb dX11_makes_11 (by decide) ?_
    obtain ⟨g_2, hf⟩ := of_gd hf
    refine ld_M3 hx hb hK hz hW g_2 dX11_makes_13 ?_
    refine lv_topi (fun v_3 ev_3 => ?_)
    have hf := of_lt ev_3 hf
    refine lv_if_ne (tgt := 20) hx hb dX11_makes_14 (by decide) (fun c_4 => ?_) (fun c_4 => ?_)
    · have hf := of_f c_4 hf
      refine lv_iconst (v := 1) hx hb dX11_makes_20 (by decide) ?_
      refine lv_istore_n (lv' := [(1, .int 1), (0, .ref (z.2.1 0))]) hx hb dX11_makes_21 rfl hl (by decide) rfl (fun ls hl => ?_)
      refine lv_aload_n hx hb dX11_makes_22 rfl (lv_at hl 1 rfl) ?_
      refine get_X11_3 hx hb hts in_X11_makes_X11 hown hK hz hW lk_X11_makes_2 dX11_makes_23 ?_
      refine lv_iconst (v := 0) hx hb dX11_makes_26 (by decide) ?_
      obtain ⟨g_5, hf⟩ := of_gd hf
      refine ld_M2 hx hb hK hz hW g_5 dX11_makes_27 ?_
      refine lv_topi (fun v_6 ev_6 => ?_)
      have hf := of_lt ev_6 hf
      refine lv_istore_n (lv' := [(2, .int v_6), (1, .int 1), (0, .ref (z.2.1 0))]) hx hb dX11_makes_28 rfl hl (by decide) rfl (fun ls hl => ?_)
      refine lv_aload_n hx hb dX11_makes_29 rfl (lv_at hl 2 rfl) ?_
      refine get_X11_5 hx hb hts in_X11_makes_X11 hown hK hz hW lk_X11_makes_1 dX11_makes_30 ?_
      refine lv_bipush (v := 14) hx hb dX11_makes_33 (by decide) ?_
      refine ld_M3 hx hb hK hz hW g_2 dX11_makes_35 ?_
      refine lv_topi (fun v_7 ev_7 => ?_)
      have hf := of_lt ev_7 hf
      refine lv_istore_n (lv' := [(3, .int v_7), (2, .int v_6), (1, .int 1), (0, .ref (z.2.1 0))]) hx hb dX11_makes_36 rfl hl (by decide) rfl (fun ls hl => ?_)
      refine lv_iconst (v := 0) hx hb dX11_makes_37 (by decide) ?_
      refine lv_istore (lv' := [(4, .int 0), (3, .int v_7), (2, .int v_6), (1, .int 1), (0, .ref (z.2.1 0))]) hx hb dX11_makes_38 hl (by decide) rfl (fun ls hl => ?_)
      have L_11 : ∀ (n : Nat) (x1_8 : Int32) (x2_9 : Int32) (x4_10 : Int32) (exL_11 : Sum (Int32) (Int32)) (ls : Array Slot), f_X11_makes_L40 w v_7 n x1_8 x2_9 x4_10 = some exL_11 → lv_has ls 6 [(0, .ref (z.2.1 0)), (1, .int x1_8), (2, .int x2_9), (3, .int v_7), (4, .int x4_10)] → (∀ ret, exL_11 = .inl ret → some (ret) = some r) → (∀ x, exL_11 = .inr x → ∀ (ls : Array Slot), lv_has ls 6 [(1, .int x)] → W p l e (rm 0 0) s m args below meth c s.heap [] 0 0 Q (F0 m 161 ls [])) → W p l e (rm 0 0) s m args below meth c s.heap [] 0 0 Q (F0 m 40 ls []) := by
        intro n
        induction n with
        | zero =>
          intro x1_8 x2_9 x4_10 exL_11 ls hf
          have hf : (none : Option (Sum (Int32) (Int32))) = some exL_11 := hf
          cases hf
        | succ n ihL_11 =>
          intro x1_8 x2_9 x4_10 exL_11 ls hf hl hRL_11 hEL_11
          rw [f_X11_makes_L40_s] at hf
          refine lv_iload hx hb dX11_makes_40 (lv_at hl 4 rfl) ?_
          refine lv_iload_n hx hb dX11_makes_42 rfl (lv_at hl 3 rfl) ?_
          refine lv_icmp_ge (tgt := 161) hx hb dX11_makes_43 (by decide) (fun c_12 => ?_) (fun c_12 => ?_)
          · have hf := of_t c_12 hf
            exact hEL_11 _ (Option.some.inj hf).symm _ (lv_sub hl [1] rfl)
          · have hf := of_f c_12 hf
            refine lv_sipush (v := 672) hx hb dX11_makes_46 (by decide) ?_
            refine lv_iload hx hb dX11_makes_49 (lv_at hl 4 rfl) ?_
            refine lv_iadd hx hb dX11_makes_51 ?_
            refine lv_topi (fun v_13 ev_13 => ?_)
            have hf := of_lt ev_13 hf
            refine lv_istore (lv' := [(5, .int v_13), (0, .ref (z.2.1 0)), (1, .int x1_8), (2, .int x2_9), (3, .int v_7), (4, .int x4_10)]) hx hb dX11_makes_52 hl (by decide) rfl (fun ls hl => ?_)
            refine lv_iload_n hx hb dX11_makes_54 rfl (lv_at hl 3 rfl) ?_
            refine lv_aload_n hx hb dX11_makes_55 rfl (lv_at hl 1 rfl) ?_
            refine get_X11_7 hx hb hts in_X11_makes_X11 hown hK hz hW lk_X11_makes_3 dX11_makes_56 ?_
            refine lv_iload hx hb dX11_makes_59 (lv_at hl 0 rfl) ?_
            obtain ⟨g_14, hf⟩ := of_gd hf
            refine ld_M5 hx hb hK hz hW g_14 dX11_makes_61 ?_
            refine lv_iadd hx hb dX11_makes_62 ?_
            refine lv_topi (fun v_15 ev_15 => ?_)
            have hf := of_lt ev_15 hf
            refine lv_istore_n (lv' := [(2, .int v_15), (5, .int v_13), (0, .ref (z.2.1 0)), (1, .int x1_8), (3, .int v_7), (4, .int x4_10)]) hx hb dX11_makes_63 rfl hl (by decide) rfl (fun ls hl => ?_)
            refine lv_iload_n hx hb dX11_makes_64 rfl (lv_at hl 3 rfl) ?_
            refine lv_aload_n hx hb dX11_makes_65 rfl (lv_at hl 2 rfl) ?_
            refine get_X11_1 hx hb hts in_X11_makes_X11 hown hK hz hW lk_X11_makes_0 dX11_makes_66 ?_
            obtain ⟨k_16, ek_16, hf⟩ := of_lz hf
            have Jk_16 : ∀ (x1_17 : Int32) (x4_18 : Int32) (ls : Array Slot), k_16 x1_17 x4_18 = some exL_11 → lv_has ls 6 [(0, .ref (z.2.1 0)), (1, .int x1_17), (2, .int v_15), (3, .int v_7), (4, .int x4_18), (5, .int v_13)] → W p l e (rm 0 0) s m args below meth c s.heap [] 0 0 Q (F0 m 104 ls []) := by
              intro x1_17 x4_18 ls hf hl
              have hf := of_j2 ek_16 hf
              refine lv_iload_n hx hb dX11_makes_104 rfl (lv_at hl 1 rfl) ?_
              refine lv_aload_n hx hb dX11_makes_105 rfl (lv_at hl 0 rfl) ?_
              refine get_X11_1 hx hb hts in_X11_makes_X11 hown hK hz hW lk_X11_makes_0 dX11_makes_106 ?_
              refine lv_icmp_ne (tgt := 155) hx hb dX11_makes_109 (by decide) (fun c_19 => ?_) (fun c_19 => ?_)
              · have hf := of_f c_19 hf
                obtain ⟨x4_20, ex4_20⟩ : ∃ y : Int32, y = x4_18 + 1 := ⟨_, rfl⟩
                have hf := of_lt ex4_20 hf
                refine lv_iinc (v := x4_20) (lv' := [(4, .int x4_20), (0, .ref (z.2.1 0)), (1, .int x1_17), (2, .int v_15), (3, .int v_7), (5, .int v_13)]) hx hb dX11_makes_155 hl (k := 4) rfl (by rw [ex4_20]; rfl) (by decide) rfl (fun ls hl => ?_)
                refine lv_goto (tgt := 40) hx hb dX11_makes_158 (by decide) ?_
                exact ihL_11 _ _ _ _ _ hf (lv_sub hl [1, 2, 3, 4, 0] rfl) hRL_11 hEL_11
              · have hf := of_t c_19 hf
                refine lv_iload hx hb dX11_makes_112 (lv_at hl 4 rfl) ?_
                refine lv_iload_n hx hb dX11_makes_114 rfl (lv_at hl 3 rfl) ?_
                refine lv_iconst (v := 1) hx hb dX11_makes_115 (by decide) ?_
                refine lv_isub hx hb dX11_makes_116 ?_
                refine lv_icmp_ne (tgt := 155) hx hb dX11_makes_117 (by decide) (fun c_21 => ?_) (fun c_21 => ?_)
                · have hf := of_f c_21 hf
                  obtain ⟨x4_22, ex4_22⟩ : ∃ y : Int32, y = x4_18 + 1 := ⟨_, rfl⟩
                  have hf := of_lt ex4_22 hf
                  refine lv_iinc (v := x4_22) (lv' := [(4, .int x4_22), (0, .ref (z.2.1 0)), (1, .int x1_17), (2, .int v_15), (3, .int v_7), (5, .int v_13)]) hx hb dX11_makes_155 hl (k := 4) rfl (by rw [ex4_22]; rfl) (by decide) rfl (fun ls hl => ?_)
                  refine lv_goto (tgt := 40) hx hb dX11_makes_158 (by decide) ?_
                  exact ihL_11 _ _ _ _ _ hf (lv_sub hl [1, 2, 3, 4, 0] rfl) hRL_11 hEL_11
                · have hf := of_t c_21 hf
                  refine lv_aload_n hx hb dX11_makes_120 rfl (lv_at hl 0 rfl) ?_
                  refine get_X11_6 hx hb hts in_X11_makes_X11 hown hK hz hW lk_X11_makes_4 dX11_makes_121 ?_
                  refine lv_iload hx hb dX11_makes_124 (lv_at hl 5 rfl) ?_
                  refine ld_M4 hx hb hK hz hW g_14 dX11_makes_126 ?_
                  refine lv_aload_n hx hb dX11_makes_127 rfl (lv_at hl 0 rfl) ?_
                  refine get_X11_2 hx hb hts in_X11_makes_X11 hown hK hz hW lk_X11_makes_5 dX11_makes_128 ?_
                  refine lv_iconst (v := 0) hx hb dX11_makes_131 (by decide) ?_
                  refine ld_M1 hx hb hK hz hW g_5 dX11_makes_132 ?_
                  refine lv_topi (fun v_23 ev_23 => ?_)
                  have hf := of_lt ev_23 hf
                  refine lv_icmp_ne (tgt := 155) hx hb dX11_makes_133 (by decide) (fun c_24 => ?_) (fun c_24 => ?_)
                  · have hf := of_f c_24 hf
                    obtain ⟨x4_25, ex4_25⟩ : ∃ y : Int32, y = x4_18 + 1 := ⟨_, rfl⟩
                    have hf := of_lt ex4_25 hf
                    refine lv_iinc (v := x4_25) (lv' := [(4, .int x4_25), (0, .ref (z.2.1 0)), (1, .int x1_17), (2, .int v_15), (3, .int v_7), (5, .int v_13)]) hx hb dX11_makes_155 hl (k := 4) rfl (by rw [ex4_25]; rfl) (by decide) rfl (fun ls hl => ?_)
                    refine lv_goto (tgt := 40) hx hb dX11_makes_158 (by decide) ?_
                    exact ihL_11 _ _ _ _ _ hf (lv_sub hl [1, 2, 3, 4, 0] rfl) hRL_11 hEL_11
                  · have hf := of_t c_24 hf
                    refine lv_iload_n hx hb dX11_makes_136 rfl (lv_at hl 2 rfl) ?_
                    refine lv_aload_n hx hb dX11_makes_137 rfl (lv_at hl 0 rfl) ?_
                    refine get_X11_3 hx hb hts in_X11_makes_X11 hown hK hz hW lk_X11_makes_2 dX11_makes_138 ?_
                    refine lv_iconst (v := 0) hx hb dX11_makes_141 (by decide) ?_
                    refine ld_M2 hx hb hK hz hW g_5 dX11_makes_142 ?_
                    refine lv_topi (fun v_26 ev_26 => ?_)
                    have hf := of_lt ev_26 hf
                    refine lv_aload_n hx hb dX11_makes_143 rfl (lv_at hl 0 rfl) ?_
                    refine get_X11_4 hx hb hts in_X11_makes_X11 hown hK hz hW lk_X11_makes_6 dX11_makes_144 ?_
                    refine lv_iadd hx hb dX11_makes_147 ?_
                    refine lv_icmp_ne (tgt := 155) hx hb dX11_makes_148 (by decide) (fun c_27 => ?_) (fun c_27 => ?_)
                    · have hf := of_f c_27 hf
                      obtain ⟨x4_28, ex4_28⟩ : ∃ y : Int32, y = x4_18 + 1 := ⟨_, rfl⟩
                      have hf := of_lt ex4_28 hf
                      refine lv_iinc (v := x4_28) (lv' := [(4, .int x4_28), (0, .ref (z.2.1 0)), (1, .int x1_17), (2, .int v_15), (3, .int v_7), (5, .int v_13)]) hx hb dX11_makes_155 hl (k := 4) rfl (by rw [ex4_28]; rfl) (by decide) rfl (fun ls hl => ?_)
                      refine lv_goto (tgt := 40) hx hb dX11_makes_158 (by decide) ?_
                      exact ihL_11 _ _ _ _ _ hf (lv_sub hl [1, 2, 3, 4, 0] rfl) hRL_11 hEL_11
                    · have hf := of_t c_27 hf
                      refine lv_sipush (v := 9999) hx hb dX11_makes_151 (by decide) ?_
                      exact hret _ _ _ (hRL_11 _ (Option.some.inj hf).symm) dX11_makes_154
            refine lv_icmp_ge (tgt := 104) hx hb dX11_makes_69 (by decide) (fun c_29 => ?_) (fun c_29 => ?_)
            · have hf := of_t c_29 hf
              exact Jk_16 _ _ _ hf (lv_sub hl [2, 3, 0, 4, 5, 1] rfl)
            · have hf := of_f c_29 hf
              refine lv_aload_n hx hb dX11_makes_72 rfl (lv_at hl 2 rfl) ?_
              refine get_X11_6 hx hb hts in_X11_makes_X11 hown hK hz hW lk_X11_makes_4 dX11_makes_73 ?_
              refine lv_iload hx hb dX11_makes_76 (lv_at hl 1 rfl) ?_
              refine ld_M4 hx hb hK hz hW g_14 dX11_makes_78 ?_
              refine lv_aload_n hx hb dX11_makes_79 rfl (lv_at hl 2 rfl) ?_
              refine get_X11_2 hx hb hts in_X11_makes_X11 hown hK hz hW lk_X11_makes_5 dX11_makes_80 ?_
              refine lv_iload_n hx hb dX11_makes_83 rfl (lv_at hl 3 rfl) ?_
              obtain ⟨g_30, hf⟩ := of_gd hf
              refine ld_M1 hx hb hK hz hW g_30 dX11_makes_84 ?_
              refine lv_icmp_ne (tgt := 104) hx hb dX11_makes_85 (by decide) (fun c_31 => ?_) (fun c_31 => ?_)
              · have hf := of_f c_31 hf
                exact Jk_16 _ _ _ hf (lv_sub hl [2, 3, 0, 4, 5, 1] rfl)
              · have hf := of_t c_31 hf
                refine lv_iload_n hx hb dX11_makes_88 rfl (lv_at hl 0 rfl) ?_
                refine lv_aload_n hx hb dX11_makes_89 rfl (lv_at hl 2 rfl) ?_
                refine get_X11_3 hx hb hts in_X11_makes_X11 hown hK hz hW lk_X11_makes_2 dX11_makes_90 ?_
                refine lv_iload_n hx hb dX11_makes_93 rfl (lv_at hl 3 rfl) ?_
                refine ld_M2 hx hb hK hz hW g_30 dX11_makes_94 ?_
                refine lv_icmp_ne (tgt := 104) hx hb dX11_makes_95 (by decide) (fun c_32 => ?_) (fun c_32 => ?_)
                · have hf := of_f c_32 hf
                  exact Jk_16 _ _ _ hf (lv_sub hl [2, 3, 0, 4, 5, 1] rfl)
                · have hf := of_t c_32 hf
                  obtain ⟨x1_33, ex1_33⟩ : ∃ y : Int32, y = x1_8 + 1 := ⟨_, rfl⟩
                  have hf := of_lt ex1_33 hf
                  refine lv_iinc (v := x1_33) (lv' := [(1, .int x1_33), (2, .int v_15), (5, .int v_13), (0, .ref (z.2.1 0)), (3, .int v_7), (4, .int x4_10)]) hx hb dX11_makes_98 hl (k := 3) rfl (by rw [ex1_33]; rfl) (by decide) rfl (fun ls hl => ?_)
                  refine lv_goto (tgt := 155) hx hb dX11_makes_101 (by decide) ?_
                  obtain ⟨x4_34, ex4_34⟩ : ∃ y : Int32, y = x4_10 + 1 := ⟨_, rfl⟩
                  have hf := of_lt ex4_34 hf
                  refine lv_iinc (v := x4_34) (lv' := [(4, .int x4_34), (1, .int x1_33), (2, .int v_15), (5, .int v_13), (0, .ref (z.2.1 0)), (3, .int v_7)]) hx hb dX11_makes_155 hl (k := 5) rfl (by rw [ex4_34]; rfl) (by decide) rfl (fun ls hl => ?_)
                  refine lv_goto (tgt := 40) hx hb dX11_makes_158 (by decide) ?_
                  exact ihL_11 _ _ _ _ _ hf (lv_sub hl [4, 1, 2, 5, 0] rfl) hRL_11 hEL_11
      obtain ⟨ex_36, hq_35, hf⟩ := of_bd hf
      refine L_11 FU _ _ _ _ _ hq_35 (lv_sub hl [4, 3, 2, 1, 0] rfl) (fun ret he => by subst he; exact hf) (fun x he ls hl => ?_)
      subst he
      obtain ⟨x1_37, ex1_37⟩ : ∃ y, y = x := ⟨_, rfl⟩
      subst ex1_37
      have hf := of_sr hf
      have hl : lv_has ls 6 [(1, .int x1_37)] := hl
      refine lv_iload_n hx hb dX11_makes_161 rfl (lv_at hl 0 rfl) ?_
      exact hret _ _ _ hf dX11_makes_162
    · have hf := of_t c_4 hf
      refine lv_bipush (v := (-3)) hx hb dX11_makes_17 (by decide) ?_
      exact hret _ _ _ hf dX11_makes_19
theorem in_X11_copies_X11 : ∀ w ∈ wsX110, w ∈ wsX11_copies := by decide +kernel
theorem lk_X11_copies_0 : Cond.fieldLink RX11 16 "CamStitchModel" "many" "[I" ∈ wsX11_copies := by decide +kernel
theorem lk_X11_copies_1 : Cond.fieldLink RX11 19 "CamStitchModel" "swing" "[I" ∈ wsX11_copies := by decide +kernel
theorem lk_X11_copies_2 : Cond.fieldLink RX11 22 "CamStitchModel" "feed" "[I" ∈ wsX11_copies := by decide +kernel
set_option maxHeartbeats 4000000 in
set_option maxRecDepth 100000 in
theorem c_X11_copies (l : Launch) {z : LZ} (hz : IM z) (x1 : Int32) (x2 : Int32) (w : Mem) {w' : Mem} (hf : f_X11_copies x1 x2 w = some w') : Met l yX11_copies wsX11_copies (rm 0 0) (PZ z w [.ref (z.2.1 0), .int x1, .int x2]) (QW z none w') 0 0 (az z) := by
  refine mk_Wv (cc := cX11_copies) (maxL := 4) (by decide +kernel) rfl (Nat.le_of_ble_eq_true rfl) ?_
  intro p e s m args below meth c hx hb hml hts hown hK hW Q hret ls hl
  have hl : lv_has ls 4 [(0, .ref (z.2.1 0)), (1, .int x1), (2, .int x2)] := hl
  unfold f_X11_copies at hf
  have START : ∀ (H : Heap) (locs : List Loc), hd z w H → va_S (az z) s.heap H locs → W p l e (rm 0 0) s m args below meth c H locs 0 0 Q (F0 m 0 ls []) := by
    intro H locs hW hS
    refine lv_aload_n hx hb dX11_copies_0 rfl (lv_at hl 0 rfl) ?_
    refine get_X11_5 hx hb hts in_X11_copies_X11 hown hK hz hW lk_X11_copies_0 dX11_copies_1 ?_
    refine lv_iload_n hx hb dX11_copies_4 rfl (lv_at hl 2 rfl) ?_
    refine lv_aload_n hx hb dX11_copies_5 rfl (lv_at hl 0 rfl) ?_
    refine get_X11_5 hx hb hts in_X11_copies_X11 hown hK hz hW lk_X11_copies_0 dX11_copies_6 ?_
    refine lv_iload_n hx hb dX11_copies_9 rfl (lv_at hl 1 rfl) ?_
    obtain ⟨g_1, hf⟩ := of_gd hf
    refine ld_M3 hx hb hK hz hW g_1 dX11_copies_10 ?_
    obtain ⟨g_2, hf⟩ := of_gd hf
    refine st_M3 hx hb hK hz hW hS g_2 dX11_copies_11 (fun H locs hW hS => ?_)
    obtain ⟨w_3, ew_3⟩ : ∃ y : Mem, y = mS w 3 x2.toNatClampNeg (w.1 3 x1.toNatClampNeg) := ⟨_, rfl⟩
    have hW : hd z w_3 H := by rw [ew_3]; exact hW
    have hf := of_lt ew_3 hf
    refine lv_iconst (v := 0) hx hb dX11_copies_12 (by decide) ?_
    refine lv_istore_n (lv' := [(3, .int 0), (0, .ref (z.2.1 0)), (1, .int x1), (2, .int x2)]) hx hb dX11_copies_13 rfl hl (by decide) rfl (fun ls hl => ?_)
    have L_6 : ∀ (n : Nat) (x3_4 : Int32) (w_5 : Mem) (exL_6 : Mem) (H : Heap) (locs : List Loc) (ls : Array Slot), f_X11_copies_L14 x1 x2 n x3_4 w_5 = some exL_6 → hd z w_5 H → va_S (az z) s.heap H locs → lv_has ls 4 [(0, .ref (z.2.1 0)), (1, .int x1), (2, .int x2), (3, .int x3_4)] → (∀ (H : Heap) (locs : List Loc) (ls : Array Slot), hd z (exL_6) H → va_S (az z) s.heap H locs → lv_has ls 4 [] → W p l e (rm 0 0) s m args below meth c H locs 0 0 Q (F0 m 74 ls [])) → W p l e (rm 0 0) s m args below meth c H locs 0 0 Q (F0 m 14 ls []) := by
      intro n
      induction n with
      | zero =>
        intro x3_4 w_5 exL_6 H locs ls hf
        have hf : (none : Option (Mem)) = some exL_6 := hf
        cases hf
      | succ n ihL_6 =>
        intro x3_4 w_5 exL_6 H locs ls hf hW hS hl hEL_6
        rw [f_X11_copies_L14_s] at hf
        refine lv_iload_n hx hb dX11_copies_14 rfl (lv_at hl 3 rfl) ?_
        refine lv_aload_n hx hb dX11_copies_15 rfl (lv_at hl 0 rfl) ?_
        refine get_X11_5 hx hb hts in_X11_copies_X11 hown hK hz hW lk_X11_copies_0 dX11_copies_16 ?_
        refine lv_iload_n hx hb dX11_copies_19 rfl (lv_at hl 1 rfl) ?_
        refine ld_M3 hx hb hK hz hW g_1 dX11_copies_20 ?_
        refine lv_icmp_ge (tgt := 74) hx hb dX11_copies_21 (by decide) (fun c_7 => ?_) (fun c_7 => ?_)
        · have hf := of_t c_7 hf
          have hf := Option.some.inj hf
          subst hf
          exact hEL_6 _ _ _ hW hS (lv_sub hl [] rfl)
        · have hf := of_f c_7 hf
          refine lv_aload_n hx hb dX11_copies_24 rfl (lv_at hl 0 rfl) ?_
          refine get_X11_6 hx hb hts in_X11_copies_X11 hown hK hz hW lk_X11_copies_1 dX11_copies_25 ?_
          refine lv_bipush (v := 48) hx hb dX11_copies_28 (by decide) ?_
          refine lv_iload_n hx hb dX11_copies_30 rfl (lv_at hl 2 rfl) ?_
          refine lv_imul hx hb dX11_copies_31 ?_
          refine lv_iload_n hx hb dX11_copies_32 rfl (lv_at hl 3 rfl) ?_
          refine lv_iadd hx hb dX11_copies_33 ?_
          refine lv_aload_n hx hb dX11_copies_34 rfl (lv_at hl 0 rfl) ?_
          refine get_X11_6 hx hb hts in_X11_copies_X11 hown hK hz hW lk_X11_copies_1 dX11_copies_35 ?_
          refine lv_bipush (v := 48) hx hb dX11_copies_38 (by decide) ?_
          refine lv_iload_n hx hb dX11_copies_40 rfl (lv_at hl 1 rfl) ?_
          refine lv_imul hx hb dX11_copies_41 ?_
          refine lv_iload_n hx hb dX11_copies_42 rfl (lv_at hl 3 rfl) ?_
          refine lv_iadd hx hb dX11_copies_43 ?_
          obtain ⟨g_8, hf⟩ := of_gd hf
          refine ld_M4 hx hb hK hz hW g_8 dX11_copies_44 ?_
          refine lv_topi (fun v_9 ev_9 => ?_)
          have hf := of_lt ev_9 hf
          obtain ⟨g_10, hf⟩ := of_gd hf
          refine st_M4 hx hb hK hz hW hS g_10 dX11_copies_45 (fun H locs hW hS => ?_)
          obtain ⟨w_11, ew_11⟩ : ∃ y : Mem, y = mS w_5 4 (((48 * x2) + x3_4).toNatClampNeg) v_9 := ⟨_, rfl⟩
          have hW : hd z w_11 H := by rw [ew_11]; exact hW
          have hf := of_lt ew_11 hf
          refine lv_aload_n hx hb dX11_copies_46 rfl (lv_at hl 0 rfl) ?_
          refine get_X11_7 hx hb hts in_X11_copies_X11 hown hK hz hW lk_X11_copies_2 dX11_copies_47 ?_
          refine lv_bipush (v := 48) hx hb dX11_copies_50 (by decide) ?_
          refine lv_iload_n hx hb dX11_copies_52 rfl (lv_at hl 2 rfl) ?_
          refine lv_imul hx hb dX11_copies_53 ?_
          refine lv_iload_n hx hb dX11_copies_54 rfl (lv_at hl 3 rfl) ?_
          refine lv_iadd hx hb dX11_copies_55 ?_
          refine lv_aload_n hx hb dX11_copies_56 rfl (lv_at hl 0 rfl) ?_
          refine get_X11_7 hx hb hts in_X11_copies_X11 hown hK hz hW lk_X11_copies_2 dX11_copies_57 ?_
          refine lv_bipush (v := 48) hx hb dX11_copies_60 (by decide) ?_
          refine lv_iload_n hx hb dX11_copies_62 rfl (lv_at hl 1 rfl) ?_
          refine lv_imul hx hb dX11_copies_63 ?_
          refine lv_iload_n hx hb dX11_copies_64 rfl (lv_at hl 3 rfl) ?_
          refine lv_iadd hx hb dX11_copies_65 ?_
          refine ld_M5 hx hb hK hz hW g_8 dX11_copies_66 ?_
          refine lv_topi (fun v_12 ev_12 => ?_)
          have hf := of_lt ev_12 hf
          refine st_M5 hx hb hK hz hW hS g_10 dX11_copies_67 (fun H locs hW hS => ?_)
          obtain ⟨w_13, ew_13⟩ : ∃ y : Mem, y = mS w_11 5 (((48 * x2) + x3_4).toNatClampNeg) v_12 := ⟨_, rfl⟩
          have hW : hd z w_13 H := by rw [ew_13]; exact hW
          have hf := of_lt ew_13 hf
          obtain ⟨x3_14, ex3_14⟩ : ∃ y : Int32, y = x3_4 + 1 := ⟨_, rfl⟩
          have hf := of_lt ex3_14 hf
          refine lv_iinc (v := x3_14) (lv' := [(3, .int x3_14), (0, .ref (z.2.1 0)), (1, .int x1), (2, .int x2)]) hx hb dX11_copies_68 hl (k := 3) rfl (by rw [ex3_14]; rfl) (by decide) rfl (fun ls hl => ?_)
          refine lv_goto (tgt := 14) hx hb dX11_copies_71 (by decide) ?_
          exact ihL_6 _ _ _ _ _ _ hf hW hS (lv_sub hl [1, 2, 3, 0] rfl) hEL_6
    obtain ⟨ex_16, hq_15, hf⟩ := of_bd hf
    obtain ⟨w_17, ew_17⟩ : ∃ y, y = ex_16 := ⟨_, rfl⟩
    rw [← ew_17] at hf
    rw [← ew_17] at hq_15
    refine L_6 FU _ _ _ _ _ _ hq_15 hW hS (lv_sub hl [1, 2, 3, 0] rfl) (fun H locs ls hW hS hl => ?_)
    have hW : hd z w_17 H := hW
    have hl : lv_has ls 4 [] := hl
    exact hret _ _ _ _ _ hf hW hS dX11_copies_74
  exact START _ _ hW va_S.rf
theorem in_X11_lay_X11 : ∀ w ∈ wsX110, w ∈ wsX11_lay := by decide +kernel
theorem lk_X11_lay_0 : Cond.fieldLink RX11 16 "CamStitchModel" "many" "[I" ∈ wsX11_lay := by decide +kernel
set_option maxHeartbeats 4000000 in
set_option maxRecDepth 100000 in
theorem c_X11_lay (l : Launch) {z : LZ} (hz : IM z) (x1 : Int32) (w : Mem) {r : Int32} {w' : Mem} (hf : f_X11_lay x1 w = some (r, w')) : Met l yX11_lay wsX11_lay (rm 1 23) (PZ z w [.ref (z.2.1 0), .int x1]) (QW z (some (.int r)) w') 0 0 (az z) := by
  refine mk_Wi (cc := cX11_lay) (maxL := 2) (by decide +kernel) rfl (Nat.le_of_ble_eq_true rfl) ?_
  intro p e s m args below meth c hx hb hml hts hown hK hW Q hret ls hl
  have hl : lv_has ls 2 [(0, .ref (z.2.1 0)), (1, .int x1)] := hl
  unfold f_X11_lay at hf
  have START : ∀ (H : Heap) (locs : List Loc), hd z w H → va_S (az z) s.heap H locs → W p l e (rm 1 23) s m args below meth c H locs 0 0 Q (F0 m 0 ls []) := by
    intro H locs hW hS
    refine lv_iload_n hx hb dX11_lay_0 rfl (lv_at hl 1 rfl) ?_
    refine lv_iconst (v := 0) hx hb dX11_lay_1 (by decide) ?_
    refine lv_bipush (v := 7) hx hb dX11_lay_2 (by decide) ?_
    obtain ⟨r_1, hq_2, hf⟩ := of_bd hf
    refine m_goRi (va_runS (As := [.int x1, .int 0, .int 7]) (rest := []) ⟨hx, hb, hml, hown, hts⟩ (c_X11_in l hz x1 0 7 w hq_2) (va_cwS 3 hts gX11_lay_X11_in rfl rfl rfl (by decide +kernel) ⟨Nat.le_of_ble_eq_true rfl, Nat.le_of_ble_eq_true rfl⟩) (m_preS hK hW _) rfl rfl hl.1 rfl (lv_room (Nat.le_of_ble_eq_true rfl)) dX11_lay_4 ⟨Nat.le_refl _, Nat.le_refl _⟩) ?_
    refine lv_if_ne (tgt := 12) hx hb dX11_lay_7 (by decide) (fun c_3 => ?_) (fun c_3 => ?_)
    · have hf := of_f c_3 hf
      refine lv_aload_n hx hb dX11_lay_12 rfl (lv_at hl 0 rfl) ?_
      refine get_X11_5 hx hb hts in_X11_lay_X11 hown hK hz hW lk_X11_lay_0 dX11_lay_13 ?_
      refine lv_bipush (v := 14) hx hb dX11_lay_16 (by decide) ?_
      obtain ⟨g_4, hf⟩ := of_gd hf
      refine ld_M3 hx hb hK hz hW g_4 dX11_lay_18 ?_
      refine lv_topi (fun v_5 ev_5 => ?_)
      have hf := of_lt ev_5 hf
      refine lv_if_ne (tgt := 25) hx hb dX11_lay_19 (by decide) (fun c_6 => ?_) (fun c_6 => ?_)
      · have hf := of_f c_6 hf
        refine lv_aload_n hx hb dX11_lay_25 rfl (lv_at hl 0 rfl) ?_
        refine lv_bipush (v := 14) hx hb dX11_lay_26 (by decide) ?_
        refine lv_iload_n hx hb dX11_lay_28 rfl (lv_at hl 1 rfl) ?_
        obtain ⟨w_9, hq_8, hf⟩ := of_bd hf
        refine m_goWv (va_runV (As := [.int 14, .int x1]) (rest := []) ⟨hx, hb, hml, hown, hts⟩ (c_X11_copies l hz 14 x1 w hq_8) (cwV 2 hts gX11_lay_X11_copies rfl rfl rfl (by decide +kernel) ⟨Nat.le_of_ble_eq_true rfl, Nat.le_of_ble_eq_true rfl⟩) (pre_X11 hK hz hW _) rfl rfl hl.1 rfl (lv_room (Nat.le_of_ble_eq_true rfl)) dX11_lay_29 ⟨Nat.le_refl _, Nat.le_refl _⟩) hS (fun H locs hW hS => ?_)
        refine lv_aload_n hx hb dX11_lay_32 rfl (lv_at hl 0 rfl) ?_
        refine get_X11_5 hx hb hts in_X11_lay_X11 hown hK hz hW lk_X11_lay_0 dX11_lay_33 ?_
        refine lv_bipush (v := 14) hx hb dX11_lay_36 (by decide) ?_
        refine ld_M3 hx hb hK hz hW g_4 dX11_lay_38 ?_
        refine lv_topi (fun v_10 ev_10 => ?_)
        have hf := of_lt ev_10 hf
        exact hret _ _ _ _ _ _ hf hW hS dX11_lay_39
      · have hf := of_t c_6 hf
        refine lv_bipush (v := (-3)) hx hb dX11_lay_22 (by decide) ?_
        exact hret _ _ _ _ _ _ hf hW hS dX11_lay_24
    · have hf := of_t c_3 hf
      refine lv_iconst (v := (-1)) hx hb dX11_lay_10 (by decide) ?_
      exact hret _ _ _ _ _ _ hf hW hS dX11_lay_11
  exact START _ _ hW va_S.rf
theorem in_X11_take_X11 : ∀ w ∈ wsX110, w ∈ wsX11_take := by decide +kernel
theorem lk_X11_take_0 : Cond.fieldLink RX11 16 "CamStitchModel" "many" "[I" ∈ wsX11_take := by decide +kernel
set_option maxHeartbeats 4000000 in
set_option maxRecDepth 100000 in
theorem c_X11_take (l : Launch) {z : LZ} (hz : IM z) (x1 : Int32) (w : Mem) {r : Int32} {w' : Mem} (hf : f_X11_take x1 w = some (r, w')) : Met l yX11_take wsX11_take (rm 1 23) (PZ z w [.ref (z.2.1 0), .int x1]) (QW z (some (.int r)) w') 0 0 (az z) := by
  refine mk_Wi (cc := cX11_take) (maxL := 2) (by decide +kernel) rfl (Nat.le_of_ble_eq_true rfl) ?_
  intro p e s m args below meth c hx hb hml hts hown hK hW Q hret ls hl
  have hl : lv_has ls 2 [(0, .ref (z.2.1 0)), (1, .int x1)] := hl
  unfold f_X11_take at hf
  have START : ∀ (H : Heap) (locs : List Loc), hd z w H → va_S (az z) s.heap H locs → W p l e (rm 1 23) s m args below meth c H locs 0 0 Q (F0 m 0 ls []) := by
    intro H locs hW hS
    refine lv_iload_n hx hb dX11_take_0 rfl (lv_at hl 1 rfl) ?_
    refine lv_iconst (v := 0) hx hb dX11_take_1 (by decide) ?_
    refine lv_bipush (v := 7) hx hb dX11_take_2 (by decide) ?_
    obtain ⟨r_1, hq_2, hf⟩ := of_bd hf
    refine m_goRi (va_runS (As := [.int x1, .int 0, .int 7]) (rest := []) ⟨hx, hb, hml, hown, hts⟩ (c_X11_in l hz x1 0 7 w hq_2) (va_cwS 3 hts gX11_take_X11_in rfl rfl rfl (by decide +kernel) ⟨Nat.le_of_ble_eq_true rfl, Nat.le_of_ble_eq_true rfl⟩) (m_preS hK hW _) rfl rfl hl.1 rfl (lv_room (Nat.le_of_ble_eq_true rfl)) dX11_take_4 ⟨Nat.le_refl _, Nat.le_refl _⟩) ?_
    refine lv_if_ne (tgt := 12) hx hb dX11_take_7 (by decide) (fun c_3 => ?_) (fun c_3 => ?_)
    · have hf := of_f c_3 hf
      refine lv_aload_n hx hb dX11_take_12 rfl (lv_at hl 0 rfl) ?_
      refine get_X11_5 hx hb hts in_X11_take_X11 hown hK hz hW lk_X11_take_0 dX11_take_13 ?_
      refine lv_iload_n hx hb dX11_take_16 rfl (lv_at hl 1 rfl) ?_
      obtain ⟨g_4, hf⟩ := of_gd hf
      refine ld_M3 hx hb hK hz hW g_4 dX11_take_17 ?_
      refine lv_if_ne (tgt := 24) hx hb dX11_take_18 (by decide) (fun c_5 => ?_) (fun c_5 => ?_)
      · have hf := of_f c_5 hf
        refine lv_aload_n hx hb dX11_take_24 rfl (lv_at hl 0 rfl) ?_
        refine lv_iload_n hx hb dX11_take_25 rfl (lv_at hl 1 rfl) ?_
        refine lv_bipush (v := 14) hx hb dX11_take_26 (by decide) ?_
        obtain ⟨w_8, hq_7, hf⟩ := of_bd hf
        refine m_goWv (va_runV (As := [.int x1, .int 14]) (rest := []) ⟨hx, hb, hml, hown, hts⟩ (c_X11_copies l hz x1 14 w hq_7) (cwV 2 hts gX11_take_X11_copies rfl rfl rfl (by decide +kernel) ⟨Nat.le_of_ble_eq_true rfl, Nat.le_of_ble_eq_true rfl⟩) (pre_X11 hK hz hW _) rfl rfl hl.1 rfl (lv_room (Nat.le_of_ble_eq_true rfl)) dX11_take_28 ⟨Nat.le_refl _, Nat.le_refl _⟩) hS (fun H locs hW hS => ?_)
        refine lv_aload_n hx hb dX11_take_31 rfl (lv_at hl 0 rfl) ?_
        refine get_X11_5 hx hb hts in_X11_take_X11 hown hK hz hW lk_X11_take_0 dX11_take_32 ?_
        refine lv_bipush (v := 14) hx hb dX11_take_35 (by decide) ?_
        obtain ⟨g_9, hf⟩ := of_gd hf
        refine ld_M3 hx hb hK hz hW g_9 dX11_take_37 ?_
        refine lv_topi (fun v_10 ev_10 => ?_)
        have hf := of_lt ev_10 hf
        exact hret _ _ _ _ _ _ hf hW hS dX11_take_38
      · have hf := of_t c_5 hf
        refine lv_bipush (v := (-3)) hx hb dX11_take_21 (by decide) ?_
        exact hret _ _ _ _ _ _ hf hW hS dX11_take_23
    · have hf := of_t c_3 hf
      refine lv_iconst (v := (-1)) hx hb dX11_take_10 (by decide) ?_
      exact hret _ _ _ _ _ _ hf hW hS dX11_take_11
  exact START _ _ hW va_S.rf
theorem in_X11_turn_X11 : ∀ w ∈ wsX110, w ∈ wsX11_turn := by decide +kernel
theorem lk_X11_turn_0 : Cond.fieldLink RX11 16 "CamStitchModel" "many" "[I" ∈ wsX11_turn := by decide +kernel
theorem lk_X11_turn_1 : Cond.fieldLink RX11 19 "CamStitchModel" "swing" "[I" ∈ wsX11_turn := by decide +kernel
theorem lk_X11_turn_2 : Cond.fieldLink RX11 88 "CamStitchModel" "turnedSwing" "[I" ∈ wsX11_turn := by decide +kernel
theorem lk_X11_turn_3 : Cond.fieldLink RX11 91 "CamStitchModel" "turnedFeed" "[I" ∈ wsX11_turn := by decide +kernel
theorem lk_X11_turn_4 : Cond.fieldLink RX11 22 "CamStitchModel" "feed" "[I" ∈ wsX11_turn := by decide +kernel
set_option maxHeartbeats 4000000 in
set_option maxRecDepth 100000 in
theorem c_X11_turn (l : Launch) {z : LZ} (hz : IM z) (x1 : Int32) (x2 : Int32) (w : Mem) {r : Int32} {w' : Mem} (hf : f_X11_turn x1 x2 w = some (r, w')) : Met l yX11_turn wsX11_turn (rm 1 22) (PZ z w [.ref (z.2.1 0), .int x1, .int x2]) (QW z (some (.int r)) w') 0 0 (az z) := by
  refine mk_Wi (cc := cX11_turn) (maxL := 6) (by decide +kernel) rfl (Nat.le_of_ble_eq_true rfl) ?_
  intro p e s m args below meth c hx hb hml hts hown hK hW Q hret ls hl
  have hl : lv_has ls 6 [(0, .ref (z.2.1 0)), (1, .int x1), (2, .int x2)] := hl
  unfold f_X11_turn at hf
  have START : ∀ (H : Heap) (locs : List Loc), hd z w H → va_S (az z) s.heap H locs → W p l e (rm 1 22) s m args below meth c H locs 0 0 Q (F0 m 0 ls []) := by
    intro H locs hW hS
    refine lv_aload_n hx hb dX11_turn_0 rfl (lv_at hl 0 rfl) ?_
    refine get_X11_5 hx hb hts in_X11_turn_X11 hown hK hz hW lk_X11_turn_0 dX11_turn_1 ?_
    refine lv_bipush (v := 14) hx hb dX11_turn_4 (by decide) ?_
    obtain ⟨g_1, hf⟩ := of_gd hf
    refine ld_M3 hx hb hK hz hW g_1 dX11_turn_6 ?_
    refine lv_topi (fun v_2 ev_2 => ?_)
    have hf := of_lt ev_2 hf
    refine lv_istore_n (lv' := [(3, .int v_2), (0, .ref (z.2.1 0)), (1, .int x1), (2, .int x2)]) hx hb dX11_turn_7 rfl hl (by decide) rfl (fun ls hl => ?_)
    refine lv_iload_n hx hb dX11_turn_8 rfl (lv_at hl 2 rfl) ?_
    refine lv_iconst (v := 0) hx hb dX11_turn_9 (by decide) ?_
    refine lv_iload_n hx hb dX11_turn_10 rfl (lv_at hl 0 rfl) ?_
    refine lv_iconst (v := 1) hx hb dX11_turn_11 (by decide) ?_
    refine lv_isub hx hb dX11_turn_12 ?_
    obtain ⟨r_3, hq_4, hf⟩ := of_bd hf
    refine m_goRi (va_runS (As := [.int x1, .int 0, .int (v_2 - 1)]) (rest := []) ⟨hx, hb, hml, hown, hts⟩ (c_X11_in l hz x1 0 (v_2 - 1) w hq_4) (va_cwS 3 hts gX11_turn_X11_in rfl rfl rfl (by decide +kernel) ⟨Nat.le_of_ble_eq_true rfl, Nat.le_of_ble_eq_true rfl⟩) (m_preS hK hW _) rfl rfl hl.1 rfl (lv_room (Nat.le_of_ble_eq_true rfl)) dX11_turn_13 ⟨Nat.le_refl _, Nat.le_refl _⟩) ?_
    refine lv_if_eq (tgt := 28) hx hb dX11_turn_16 (by decide) (fun c_5 => ?_) (fun c_5 => ?_)
    · have hf := of_t c_5 hf
      refine lv_iconst (v := (-1)) hx hb dX11_turn_28 (by decide) ?_
      exact hret _ _ _ _ _ _ hf hW hS dX11_turn_29
    · have hf := of_f c_5 hf
      refine lv_iload_n hx hb dX11_turn_19 rfl (lv_at hl 3 rfl) ?_
      refine lv_iconst (v := 0) hx hb dX11_turn_20 (by decide) ?_
      refine lv_iconst (v := 1) hx hb dX11_turn_21 (by decide) ?_
      obtain ⟨r_6, hq_7, hf⟩ := of_bd hf
      refine m_goRi (va_runS (As := [.int x2, .int 0, .int 1]) (rest := []) ⟨hx, hb, hml, hown, hts⟩ (c_X11_in l hz x2 0 1 w hq_7) (va_cwS 3 hts gX11_turn_X11_in rfl rfl rfl (by decide +kernel) ⟨Nat.le_of_ble_eq_true rfl, Nat.le_of_ble_eq_true rfl⟩) (m_preS hK hW _) rfl rfl hl.1 rfl (lv_room (Nat.le_of_ble_eq_true rfl)) dX11_turn_22 ⟨Nat.le_refl _, Nat.le_refl _⟩) ?_
      refine lv_if_ne (tgt := 30) hx hb dX11_turn_25 (by decide) (fun c_8 => ?_) (fun c_8 => ?_)
      · have hf := of_f c_8 hf
        refine lv_iconst (v := 0) hx hb dX11_turn_30 (by decide) ?_
        refine lv_istore (lv' := [(4, .int 0), (3, .int v_2), (0, .ref (z.2.1 0)), (1, .int x1), (2, .int x2)]) hx hb dX11_turn_31 hl (by decide) rfl (fun ls hl => ?_)
        have L_11 : ∀ (n : Nat) (x4_9 : Int32) (w_10 : Mem) (exL_11 : Mem) (H : Heap) (locs : List Loc) (ls : Array Slot), f_X11_turn_L33 x1 x2 v_2 n x4_9 w_10 = some exL_11 → hd z w_10 H → va_S (az z) s.heap H locs → lv_has ls 6 [(0, .ref (z.2.1 0)), (1, .int x1), (2, .int x2), (3, .int v_2), (4, .int x4_9)] → (∀ (H : Heap) (locs : List Loc) (ls : Array Slot), hd z (exL_11) H → va_S (az z) s.heap H locs → lv_has ls 6 [(0, .ref (z.2.1 0)), (3, .int v_2)] → W p l e (rm 1 22) s m args below meth c H locs 0 0 Q (F0 m 104 ls [])) → W p l e (rm 1 22) s m args below meth c H locs 0 0 Q (F0 m 33 ls []) := by
          intro n
          induction n with
          | zero =>
            intro x4_9 w_10 exL_11 H locs ls hf
            have hf : (none : Option (Mem)) = some exL_11 := hf
            cases hf
          | succ n ihL_11 =>
            intro x4_9 w_10 exL_11 H locs ls hf hW hS hl hEL_11
            rw [f_X11_turn_L33_s] at hf
            refine lv_iload hx hb dX11_turn_33 (lv_at hl 4 rfl) ?_
            refine lv_iload_n hx hb dX11_turn_35 rfl (lv_at hl 3 rfl) ?_
            refine lv_icmp_ge (tgt := 104) hx hb dX11_turn_36 (by decide) (fun c_12 => ?_) (fun c_12 => ?_)
            · have hf := of_t c_12 hf
              have hf := Option.some.inj hf
              subst hf
              exact hEL_11 _ _ _ hW hS (lv_sub hl [0, 3] rfl)
            · have hf := of_f c_12 hf
              refine lv_aload_n hx hb dX11_turn_39 rfl (lv_at hl 0 rfl) ?_
              refine get_X11_6 hx hb hts in_X11_turn_X11 hown hK hz hW lk_X11_turn_1 dX11_turn_40 ?_
              refine lv_sipush (v := 672) hx hb dX11_turn_43 (by decide) ?_
              refine lv_iload_n hx hb dX11_turn_46 rfl (lv_at hl 1 rfl) ?_
              refine lv_iload hx hb dX11_turn_47 (lv_at hl 4 rfl) ?_
              refine lv_iadd hx hb dX11_turn_49 ?_
              refine lv_iload_n hx hb dX11_turn_50 rfl (lv_at hl 3 rfl) ?_
              obtain ⟨g_13, hf⟩ := of_gd hf
              refine lv_irem hx hb dX11_turn_51 g_13 ?_
              refine lv_topi (fun v_14 ev_14 => ?_)
              have hf := of_lt (e := irm (x1 + x4_9) v_2) ev_14 hf
              refine lv_iadd hx hb dX11_turn_52 ?_
              obtain ⟨g_15, hf⟩ := of_gd hf
              refine ld_M4 hx hb hK hz hW g_15 dX11_turn_53 ?_
              refine lv_topi (fun v_16 ev_16 => ?_)
              have hf := of_lt ev_16 hf
              refine lv_istore (lv' := [(5, .int v_16), (0, .ref (z.2.1 0)), (1, .int x1), (2, .int x2), (3, .int v_2), (4, .int x4_9)]) hx hb dX11_turn_54 hl (by decide) rfl (fun ls hl => ?_)
              refine lv_aload_n hx hb dX11_turn_56 rfl (lv_at hl 1 rfl) ?_
              refine get_X11_44 hx hb hts in_X11_turn_X11 hown hK hz hW lk_X11_turn_2 dX11_turn_57 ?_
              refine lv_iload hx hb dX11_turn_60 (lv_at hl 5 rfl) ?_
              refine lv_iload_n hx hb dX11_turn_62 rfl (lv_at hl 3 rfl) ?_
              refine lv_iconst (v := 1) hx hb dX11_turn_63 (by decide) ?_
              have J_18 : ∀ (v_17 : Int32) (ls : Array Slot), v_17 = (if x2 = 1 then (-v_16) else v_16) → lv_has ls 6 [(0, .ref (z.2.1 0)), (1, .int x1), (2, .int x2), (3, .int v_2), (4, .int x4_9)] → W p l e (rm 1 22) s m args below meth c H locs 0 0 Q (F0 m 75 ls [.int v_17, .int x4_9, .ref (z.2.1 22)]) := by
                intro v_17 ls ev_17 hl
                have hf := of_lt ev_17 hf
                obtain ⟨g_19, hf⟩ := of_gd hf
                refine st_M22 hx hb hK hz hW hS g_19 dX11_turn_75 (fun H locs hW hS => ?_)
                obtain ⟨w_20, ew_20⟩ : ∃ y : Mem, y = mS w_10 22 x4_9.toNatClampNeg v_17 := ⟨_, rfl⟩
                have hW : hd z w_20 H := by rw [ew_20]; exact hW
                have hf := of_lt ew_20 hf
                refine lv_aload_n hx hb dX11_turn_76 rfl (lv_at hl 0 rfl) ?_
                refine get_X11_45 hx hb hts in_X11_turn_X11 hown hK hz hW lk_X11_turn_3 dX11_turn_77 ?_
                refine lv_iload hx hb dX11_turn_80 (lv_at hl 4 rfl) ?_
                refine lv_aload_n hx hb dX11_turn_82 rfl (lv_at hl 0 rfl) ?_
                refine get_X11_7 hx hb hts in_X11_turn_X11 hown hK hz hW lk_X11_turn_4 dX11_turn_83 ?_
                refine lv_sipush (v := 672) hx hb dX11_turn_86 (by decide) ?_
                refine lv_iload_n hx hb dX11_turn_89 rfl (lv_at hl 1 rfl) ?_
                refine lv_iload hx hb dX11_turn_90 (lv_at hl 4 rfl) ?_
                refine lv_iadd hx hb dX11_turn_92 ?_
                refine lv_iload_n hx hb dX11_turn_93 rfl (lv_at hl 3 rfl) ?_
                refine lv_irem hx hb dX11_turn_94 g_13 ?_
                refine lv_topi (fun v_21 ev_21 => ?_)
                have hf := of_lt (e := irm (x1 + x4_9) v_2) ev_21 hf
                refine lv_iadd hx hb dX11_turn_95 ?_
                obtain ⟨g_22, hf⟩ := of_gd hf
                refine ld_M5 hx hb hK hz hW g_22 dX11_turn_96 ?_
                refine lv_topi (fun v_23 ev_23 => ?_)
                have hf := of_lt ev_23 hf
                refine st_M23 hx hb hK hz hW hS g_19 dX11_turn_97 (fun H locs hW hS => ?_)
                obtain ⟨w_24, ew_24⟩ : ∃ y : Mem, y = mS w_20 23 x4_9.toNatClampNeg v_23 := ⟨_, rfl⟩
                have hW : hd z w_24 H := by rw [ew_24]; exact hW
                have hf := of_lt ew_24 hf
                obtain ⟨x4_25, ex4_25⟩ : ∃ y : Int32, y = x4_9 + 1 := ⟨_, rfl⟩
                have hf := of_lt ex4_25 hf
                refine lv_iinc (v := x4_25) (lv' := [(4, .int x4_25), (0, .ref (z.2.1 0)), (1, .int x1), (2, .int x2), (3, .int v_2)]) hx hb dX11_turn_98 hl (k := 4) rfl (by rw [ex4_25]; rfl) (by decide) rfl (fun ls hl => ?_)
                refine lv_goto (tgt := 33) hx hb dX11_turn_101 (by decide) ?_
                exact ihL_11 _ _ _ _ _ _ hf hW hS (lv_sub hl [1, 2, 3, 4, 0] rfl) hEL_11
              refine lv_icmp_ne (tgt := 73) hx hb dX11_turn_64 (by decide) (fun c_26 => ?_) (fun c_26 => ?_)
              · refine lv_iload hx hb dX11_turn_73 (lv_at hl 0 rfl) ?_
                exact J_18 _ _ (by rw [if_neg c_26]) (lv_sub hl [1, 2, 3, 4, 5] rfl)
              · refine lv_iload hx hb dX11_turn_67 (lv_at hl 0 rfl) ?_
                refine lv_ineg hx hb dX11_turn_69 ?_
                refine lv_goto (tgt := 75) hx hb dX11_turn_70 (by decide) ?_
                exact J_18 _ _ (by rw [if_pos c_26]) (lv_sub hl [1, 2, 3, 4, 5] rfl)
        obtain ⟨ex_28, hq_27, hf⟩ := of_bd hf
        obtain ⟨w_29, ew_29⟩ : ∃ y, y = ex_28 := ⟨_, rfl⟩
        rw [← ew_29] at hf
        rw [← ew_29] at hq_27
        refine L_11 FU _ _ _ _ _ _ hq_27 hW hS (lv_sub hl [2, 3, 4, 1, 0] rfl) (fun H locs ls hW hS hl => ?_)
        have hW : hd z w_29 H := hW
        have hl : lv_has ls 6 [(0, .ref (z.2.1 0)), (3, .int v_2)] := hl
        refine lv_iconst (v := 0) hx hb dX11_turn_104 (by decide) ?_
        refine lv_istore (lv' := [(4, .int 0), (0, .ref (z.2.1 0)), (3, .int v_2)]) hx hb dX11_turn_105 hl (by decide) rfl (fun ls hl => ?_)
        have L_32 : ∀ (n : Nat) (x4_30 : Int32) (w_31 : Mem) (exL_32 : Mem) (H : Heap) (locs : List Loc) (ls : Array Slot), f_X11_turn_L107 v_2 n x4_30 w_31 = some exL_32 → hd z w_31 H → va_S (az z) s.heap H locs → lv_has ls 6 [(0, .ref (z.2.1 0)), (3, .int v_2), (4, .int x4_30)] → (∀ (H : Heap) (locs : List Loc) (ls : Array Slot), hd z (exL_32) H → va_S (az z) s.heap H locs → lv_has ls 6 [] → W p l e (rm 1 22) s m args below meth c H locs 0 0 Q (F0 m 155 ls [])) → W p l e (rm 1 22) s m args below meth c H locs 0 0 Q (F0 m 107 ls []) := by
          intro n
          induction n with
          | zero =>
            intro x4_30 w_31 exL_32 H locs ls hf
            have hf : (none : Option (Mem)) = some exL_32 := hf
            cases hf
          | succ n ihL_32 =>
            intro x4_30 w_31 exL_32 H locs ls hf hW hS hl hEL_32
            rw [f_X11_turn_L107_s] at hf
            refine lv_iload hx hb dX11_turn_107 (lv_at hl 2 rfl) ?_
            refine lv_iload_n hx hb dX11_turn_109 rfl (lv_at hl 1 rfl) ?_
            refine lv_icmp_ge (tgt := 155) hx hb dX11_turn_110 (by decide) (fun c_33 => ?_) (fun c_33 => ?_)
            · have hf := of_t c_33 hf
              have hf := Option.some.inj hf
              subst hf
              exact hEL_32 _ _ _ hW hS (lv_sub hl [] rfl)
            · have hf := of_f c_33 hf
              refine lv_aload_n hx hb dX11_turn_113 rfl (lv_at hl 0 rfl) ?_
              refine get_X11_6 hx hb hts in_X11_turn_X11 hown hK hz hW lk_X11_turn_1 dX11_turn_114 ?_
              refine lv_sipush (v := 672) hx hb dX11_turn_117 (by decide) ?_
              refine lv_iload hx hb dX11_turn_120 (lv_at hl 2 rfl) ?_
              refine lv_iadd hx hb dX11_turn_122 ?_
              refine lv_aload_n hx hb dX11_turn_123 rfl (lv_at hl 0 rfl) ?_
              refine get_X11_44 hx hb hts in_X11_turn_X11 hown hK hz hW lk_X11_turn_2 dX11_turn_124 ?_
              refine lv_iload hx hb dX11_turn_127 (lv_at hl 2 rfl) ?_
              obtain ⟨g_34, hf⟩ := of_gd hf
              refine ld_M22 hx hb hK hz hW g_34 dX11_turn_129 ?_
              refine lv_topi (fun v_35 ev_35 => ?_)
              have hf := of_lt ev_35 hf
              obtain ⟨g_36, hf⟩ := of_gd hf
              refine st_M4 hx hb hK hz hW hS g_36 dX11_turn_130 (fun H locs hW hS => ?_)
              obtain ⟨w_37, ew_37⟩ : ∃ y : Mem, y = mS w_31 4 ((672 + x4_30).toNatClampNeg) v_35 := ⟨_, rfl⟩
              have hW : hd z w_37 H := by rw [ew_37]; exact hW
              have hf := of_lt ew_37 hf
              refine lv_aload_n hx hb dX11_turn_131 rfl (lv_at hl 0 rfl) ?_
              refine get_X11_7 hx hb hts in_X11_turn_X11 hown hK hz hW lk_X11_turn_4 dX11_turn_132 ?_
              refine lv_sipush (v := 672) hx hb dX11_turn_135 (by decide) ?_
              refine lv_iload hx hb dX11_turn_138 (lv_at hl 2 rfl) ?_
              refine lv_iadd hx hb dX11_turn_140 ?_
              refine lv_aload_n hx hb dX11_turn_141 rfl (lv_at hl 0 rfl) ?_
              refine get_X11_45 hx hb hts in_X11_turn_X11 hown hK hz hW lk_X11_turn_3 dX11_turn_142 ?_
              refine lv_iload hx hb dX11_turn_145 (lv_at hl 2 rfl) ?_
              refine ld_M23 hx hb hK hz hW g_34 dX11_turn_147 ?_
              refine lv_topi (fun v_38 ev_38 => ?_)
              have hf := of_lt ev_38 hf
              refine st_M5 hx hb hK hz hW hS g_36 dX11_turn_148 (fun H locs hW hS => ?_)
              obtain ⟨w_39, ew_39⟩ : ∃ y : Mem, y = mS w_37 5 ((672 + x4_30).toNatClampNeg) v_38 := ⟨_, rfl⟩
              have hW : hd z w_39 H := by rw [ew_39]; exact hW
              have hf := of_lt ew_39 hf
              obtain ⟨x4_40, ex4_40⟩ : ∃ y : Int32, y = x4_30 + 1 := ⟨_, rfl⟩
              have hf := of_lt ex4_40 hf
              refine lv_iinc (v := x4_40) (lv' := [(4, .int x4_40), (0, .ref (z.2.1 0)), (3, .int v_2)]) hx hb dX11_turn_149 hl (k := 2) rfl (by rw [ex4_40]; rfl) (by decide) rfl (fun ls hl => ?_)
              refine lv_goto (tgt := 107) hx hb dX11_turn_152 (by decide) ?_
              exact ihL_32 _ _ _ _ _ _ hf hW hS (lv_sub hl [1, 2, 0] rfl) hEL_32
        obtain ⟨ex_42, hq_41, hf⟩ := of_bd hf
        obtain ⟨w_43, ew_43⟩ : ∃ y, y = ex_42 := ⟨_, rfl⟩
        rw [← ew_43] at hf
        rw [← ew_43] at hq_41
        refine L_32 FU _ _ _ _ _ _ hq_41 hW hS (lv_sub hl [1, 2, 0] rfl) (fun H locs ls hW hS hl => ?_)
        have hW : hd z w_43 H := hW
        have hl : lv_has ls 6 [] := hl
        refine lv_iconst (v := 1) hx hb dX11_turn_155 (by decide) ?_
        exact hret _ _ _ _ _ _ hf hW hS dX11_turn_156
      · have hf := of_t c_8 hf
        refine lv_iconst (v := (-1)) hx hb dX11_turn_28 (by decide) ?_
        exact hret _ _ _ _ _ _ hf hW hS dX11_turn_29
  exact START _ _ hW va_S.rf
theorem in_X11_side_X11 : ∀ w ∈ wsX110, w ∈ wsX11_side := by decide +kernel
theorem lk_X11_side_0 : Cond.fieldLink RX11 112 "CamStitchModel" "sides" "I" ∈ wsX11_side := by decide +kernel
theorem lk_X11_side_1 : Cond.fieldLink RX11 25 "CamStitchModel" "side" "[I" ∈ wsX11_side := by decide +kernel
set_option maxHeartbeats 4000000 in
set_option maxRecDepth 100000 in
theorem c_X11_side (l : Launch) {z : LZ} (hz : IM z) (x1 : Int32) (w : Mem) {r : Int32} {w' : Mem} (hf : f_X11_side x1 w = some (r, w')) : Met l yX11_side wsX11_side (rm 1 22) (PZ z w [.ref (z.2.1 0), .int x1]) (QW z (some (.int r)) w') 0 0 (az z) := by
  refine mk_Wi (cc := cX11_side) (maxL := 2) (by decide +kernel) rfl (Nat.le_of_ble_eq_true rfl) ?_
  intro p e s m args below meth c hx hb hml hts hown hK hW Q hret ls hl
  have hl : lv_has ls 2 [(0, .ref (z.2.1 0)), (1, .int x1)] := hl
  unfold f_X11_side at hf
  have START : ∀ (H : Heap) (locs : List Loc), hd z w H → va_S (az z) s.heap H locs → W p l e (rm 1 22) s m args below meth c H locs 0 0 Q (F0 m 0 ls []) := by
    intro H locs hW hS
    refine lv_iload_n hx hb dX11_side_0 rfl (lv_at hl 1 rfl) ?_
    refine lv_iconst (v := 1) hx hb dX11_side_1 (by decide) ?_
    refine lv_sipush (v := 999) hx hb dX11_side_2 (by decide) ?_
    obtain ⟨r_1, hq_2, hf⟩ := of_bd hf
    refine m_goRi (va_runS (As := [.int x1, .int 1, .int 999]) (rest := []) ⟨hx, hb, hml, hown, hts⟩ (c_X11_in l hz x1 1 999 w hq_2) (va_cwS 3 hts gX11_side_X11_in rfl rfl rfl (by decide +kernel) ⟨Nat.le_of_ble_eq_true rfl, Nat.le_of_ble_eq_true rfl⟩) (m_preS hK hW _) rfl rfl hl.1 rfl (lv_room (Nat.le_of_ble_eq_true rfl)) dX11_side_5 ⟨Nat.le_refl _, Nat.le_refl _⟩) ?_
    refine lv_if_ne (tgt := 13) hx hb dX11_side_8 (by decide) (fun c_3 => ?_) (fun c_3 => ?_)
    · have hf := of_f c_3 hf
      refine lv_aload_n hx hb dX11_side_13 rfl (lv_at hl 0 rfl) ?_
      refine get_X11_8 hx hb hts in_X11_side_X11 hown hK hz hW lk_X11_side_0 dX11_side_14 ?_
      refine lv_bipush (v := 8) hx hb dX11_side_17 (by decide) ?_
      refine lv_icmp_ne (tgt := 25) hx hb dX11_side_19 (by decide) (fun c_4 => ?_) (fun c_4 => ?_)
      · have hf := of_f c_4 hf
        refine lv_aload_n hx hb dX11_side_25 rfl (lv_at hl 0 rfl) ?_
        refine get_X11_9 hx hb hts in_X11_side_X11 hown hK hz hW lk_X11_side_1 dX11_side_26 ?_
        refine lv_aload_n hx hb dX11_side_29 rfl (lv_at hl 0 rfl) ?_
        refine get_X11_8 hx hb hts in_X11_side_X11 hown hK hz hW lk_X11_side_0 dX11_side_30 ?_
        refine lv_iload_n hx hb dX11_side_33 rfl (lv_at hl 1 rfl) ?_
        obtain ⟨g_5, hf⟩ := of_gd hf
        refine st_M6 hx hb hK hz hW hS g_5 dX11_side_34 (fun H locs hW hS => ?_)
        obtain ⟨w_6, ew_6⟩ : ∃ y : Mem, y = mS w 6 ((w.1 0 8).toNatClampNeg) x1 := ⟨_, rfl⟩
        have hW : hd z w_6 H := by rw [ew_6]; exact hW
        have hf := of_lt ew_6 hf
        refine lv_aload_n hx hb dX11_side_35 rfl (lv_at hl 0 rfl) ?_
        refine lv_dup hx hb dX11_side_36 rfl ?_
        refine get_X11_8 hx hb hts in_X11_side_X11 hown hK hz hW lk_X11_side_0 dX11_side_37 ?_
        refine lv_iconst (v := 1) hx hb dX11_side_40 (by decide) ?_
        refine lv_iadd hx hb dX11_side_41 ?_
        refine put_X11_8 hx hb hts in_X11_side_X11 hown hK hz hW hS lk_X11_side_0 dX11_side_42 (fun H locs hW hS => ?_)
        obtain ⟨w_7, ew_7⟩ : ∃ y : Mem, y = mS w_6 0 8 ((w_6.1 0 8) + 1) := ⟨_, rfl⟩
        have hW : hd z w_7 H := by rw [ew_7]; exact hW
        have hf := of_lt ew_7 hf
        refine lv_aload_n hx hb dX11_side_45 rfl (lv_at hl 0 rfl) ?_
        refine get_X11_8 hx hb hts in_X11_side_X11 hown hK hz hW lk_X11_side_0 dX11_side_46 ?_
        exact hret _ _ _ _ _ _ hf hW hS dX11_side_49
      · have hf := of_t c_4 hf
        refine lv_bipush (v := (-2)) hx hb dX11_side_22 (by decide) ?_
        exact hret _ _ _ _ _ _ hf hW hS dX11_side_24
    · have hf := of_t c_3 hf
      refine lv_iconst (v := (-1)) hx hb dX11_side_11 (by decide) ?_
      exact hret _ _ _ _ _ _ hf hW hS dX11_side_12
  exact START _ _ hW va_S.rf
theorem in_X11_sideless_X11 : ∀ w ∈ wsX110, w ∈ wsX11_sideless := by decide +kernel
theorem lk_X11_sideless_0 : Cond.fieldLink RX11 112 "CamStitchModel" "sides" "I" ∈ wsX11_sideless := by decide +kernel
set_option maxHeartbeats 4000000 in
set_option maxRecDepth 100000 in
theorem c_X11_sideless (l : Launch) {z : LZ} (hz : IM z)  (w : Mem) {r : Int32} {w' : Mem} (hf : f_X11_sideless w = some (r, w')) : Met l yX11_sideless wsX11_sideless (rm 0 0) (PZ z w [.ref (z.2.1 0)]) (QW z (some (.int r)) w') 0 0 (az z) := by
  refine mk_Wi (cc := cX11_sideless) (maxL := 2) (by decide +kernel) rfl (Nat.le_of_ble_eq_true rfl) ?_
  intro p e s m args below meth c hx hb hml hts hown hK hW Q hret ls hl
  have hl : lv_has ls 2 [(0, .ref (z.2.1 0))] := hl
  unfold f_X11_sideless at hf
  have START : ∀ (H : Heap) (locs : List Loc), hd z w H → va_S (az z) s.heap H locs → W p l e (rm 0 0) s m args below meth c H locs 0 0 Q (F0 m 0 ls []) := by
    intro H locs hW hS
    refine lv_aload_n hx hb dX11_sideless_0 rfl (lv_at hl 0 rfl) ?_
    refine get_X11_8 hx hb hts in_X11_sideless_X11 hown hK hz hW lk_X11_sideless_0 dX11_sideless_1 ?_
    refine lv_topi (fun v_1 ev_1 => ?_)
    have hf := of_lt ev_1 hf
    refine lv_istore_n (lv' := [(1, .int v_1), (0, .ref (z.2.1 0))]) hx hb dX11_sideless_4 rfl hl (by decide) rfl (fun ls hl => ?_)
    refine lv_aload_n hx hb dX11_sideless_5 rfl (lv_at hl 1 rfl) ?_
    refine lv_iconst (v := 0) hx hb dX11_sideless_6 (by decide) ?_
    refine put_X11_8 hx hb hts in_X11_sideless_X11 hown hK hz hW hS lk_X11_sideless_0 dX11_sideless_7 (fun H locs hW hS => ?_)
    obtain ⟨w_2, ew_2⟩ : ∃ y : Mem, y = mS w 0 8 0 := ⟨_, rfl⟩
    have hW : hd z w_2 H := by rw [ew_2]; exact hW
    have hf := of_lt ew_2 hf
    refine lv_iload_n hx hb dX11_sideless_10 rfl (lv_at hl 0 rfl) ?_
    exact hret _ _ _ _ _ _ hf hW hS dX11_sideless_11
  exact START _ _ hW va_S.rf
