/-! ===== contracts (by program: wip/gen/gen.py): X11_lefts X11_shareOf X11_bestOf X11_left X11_state X11_best X11_share X11_hunt X11_tape X11_keep X11_lacks X11_back X11_toss X11_clear X11_narrowed X11_put X11_at X11_copy X11_count ===== -/
theorem in_X11_lefts_X11 : ∀ w ∈ wsX110, w ∈ wsX11_lefts := by decide +kernel
theorem lk_X11_lefts_0 : Cond.fieldLink RX11 312 "CamStitchModel" "leftMany" "I" ∈ wsX11_lefts := by decide +kernel
theorem lk_X11_lefts_1 : Cond.fieldLink RX11 122 "CamStitchModel" "notes" "I" ∈ wsX11_lefts := by decide +kernel
theorem lk_X11_lefts_2 : Cond.fieldLink RX11 60 "CamStitchModel" "noteTrial" "[I" ∈ wsX11_lefts := by decide +kernel
theorem lk_X11_lefts_3 : Cond.fieldLink RX11 63 "CamStitchModel" "noteOutcome" "[I" ∈ wsX11_lefts := by decide +kernel
theorem lk_X11_lefts_4 : Cond.fieldLink RX11 94 "CamStitchModel" "leftState" "[I" ∈ wsX11_lefts := by decide +kernel
set_option maxHeartbeats 4000000 in
set_option maxRecDepth 100000 in
theorem c_X11_lefts (l : Launch) {z : LZ} (hz : IM z) (x1 : Int32) (w : Mem) {w' : Mem} (hf : f_X11_lefts x1 w = some w') : Met l yX11_lefts wsX11_lefts (rm 2 48) (PZ z w [.ref (z.2.1 0), .int x1]) (QW z none w') 0 0 (az z) := by
  refine mk_Wv (cc := cX11_lefts) (maxL := 5) (by decide +kernel) rfl (Nat.le_of_ble_eq_true rfl) ?_
  intro p e s m args below meth c hx hb hml hts hown hK hW Q hret ls hl
  have hl : lv_has ls 5 [(0, .ref (z.2.1 0)), (1, .int x1)] := hl
  unfold f_X11_lefts at hf
  have START : ∀ (H : Heap) (locs : List Loc), hd z w H → va_S (az z) s.heap H locs → W p l e (rm 2 48) s m args below meth c H locs 0 0 Q (F0 m 0 ls []) := by
    intro H locs hW hS
    refine lv_aload_n hx hb dX11_lefts_0 rfl (lv_at hl 0 rfl) ?_
    refine lv_iconst (v := 0) hx hb dX11_lefts_1 (by decide) ?_
    refine put_X11_59 hx hb hts in_X11_lefts_X11 hown hK hz hW hS lk_X11_lefts_0 dX11_lefts_2 (fun H locs hW hS => ?_)
    obtain ⟨w_1, ew_1⟩ : ∃ y : Mem, y = mS w 0 59 0 := ⟨_, rfl⟩
    have hW : hd z w_1 H := by rw [ew_1]; exact hW
    have hf := of_lt ew_1 hf
    refine lv_iconst (v := 0) hx hb dX11_lefts_5 (by decide) ?_
    refine lv_istore_n (lv' := [(2, .int 0), (0, .ref (z.2.1 0)), (1, .int x1)]) hx hb dX11_lefts_6 rfl hl (by decide) rfl (fun ls hl => ?_)
    have L_4 : ∀ (n : Nat) (x2_2 : Int32) (w_3 : Mem) (exL_4 : Mem) (H : Heap) (locs : List Loc) (ls : Array Slot), f_X11_lefts_L7 x1 n x2_2 w_3 = some exL_4 → hd z w_3 H → va_S (az z) s.heap H locs → lv_has ls 5 [(0, .ref (z.2.1 0)), (1, .int x1), (2, .int x2_2)] → (∀ (H : Heap) (locs : List Loc) (ls : Array Slot), hd z (exL_4) H → va_S (az z) s.heap H locs → lv_has ls 5 [] → W p l e (rm 2 48) s m args below meth c H locs 0 0 Q (F0 m 107 ls [])) → W p l e (rm 2 48) s m args below meth c H locs 0 0 Q (F0 m 7 ls []) := by
      intro n
      induction n with
      | zero =>
        intro x2_2 w_3 exL_4 H locs ls hf
        have hf : (none : Option (Mem)) = some exL_4 := hf
        cases hf
      | succ n ihL_4 =>
        intro x2_2 w_3 exL_4 H locs ls hf hW hS hl hEL_4
        rw [f_X11_lefts_L7_s] at hf
        refine lv_iload_n hx hb dX11_lefts_7 rfl (lv_at hl 2 rfl) ?_
        refine lv_sipush (v := 2772) hx hb dX11_lefts_8 (by decide) ?_
        refine lv_icmp_ge (tgt := 107) hx hb dX11_lefts_11 (by decide) (fun c_5 => ?_) (fun c_5 => ?_)
        · have hf := of_t c_5 hf
          have hf := Option.some.inj hf
          subst hf
          exact hEL_4 _ _ _ hW hS (lv_sub hl [] rfl)
        · have hf := of_f c_5 hf
          refine lv_iload_n hx hb dX11_lefts_14 rfl (lv_at hl 2 rfl) ?_
          obtain ⟨r_6, hq_7, hf⟩ := of_bd hf
          refine m_goRi (va_runS (As := [.int x2_2]) (rest := []) ⟨hx, hb, hml, hown, hts⟩ (c_X11_causes l hz x2_2 w_3 hq_7) (va_cwS 1 hts gX11_lefts_X11_causes rfl rfl rfl (by decide +kernel) ⟨Nat.le_of_ble_eq_true rfl, Nat.le_of_ble_eq_true rfl⟩) (m_preS hK hW _) rfl rfl hl.1 rfl (lv_room (Nat.le_of_ble_eq_true rfl)) dX11_lefts_15 ⟨Nat.le_refl _, Nat.le_refl _⟩) ?_
          refine lv_iload_n hx hb dX11_lefts_18 rfl (lv_at hl 1 rfl) ?_
          have J_9 : ∀ (v_8 : Int32) (ls : Array Slot), v_8 = (if x1 < r_6 then 0 else 1) → lv_has ls 5 [(0, .ref (z.2.1 0)), (1, .int x1), (2, .int x2_2)] → W p l e (rm 2 48) s m args below meth c H locs 0 0 Q (F0 m 27 ls [.int v_8]) := by
            intro v_8 ls ev_8 hl
            have hf := of_lt ev_8 hf
            refine lv_istore_n (lv' := [(3, .int v_8), (0, .ref (z.2.1 0)), (1, .int x1), (2, .int x2_2)]) hx hb dX11_lefts_27 rfl hl (by decide) rfl (fun ls hl => ?_)
            refine lv_iconst (v := 0) hx hb dX11_lefts_28 (by decide) ?_
            refine lv_istore (lv' := [(4, .int 0), (3, .int v_8), (0, .ref (z.2.1 0)), (1, .int x1), (2, .int x2_2)]) hx hb dX11_lefts_29 hl (by decide) rfl (fun ls hl => ?_)
            have L_12 : ∀ (n : Nat) (x3_10 : Int32) (x4_11 : Int32) (exL_12 : Int32) (ls : Array Slot), f_X11_lefts_L31 x2_2 w_3 n x3_10 x4_11 = some exL_12 → lv_has ls 5 [(0, .ref (z.2.1 0)), (1, .int x1), (2, .int x2_2), (3, .int x3_10), (4, .int x4_11)] → (∀ (ls : Array Slot), lv_has ls 5 [(0, .ref (z.2.1 0)), (1, .int x1), (2, .int x2_2), (3, .int exL_12)] → W p l e (rm 2 48) s m args below meth c H locs 0 0 Q (F0 m 77 ls [])) → W p l e (rm 2 48) s m args below meth c H locs 0 0 Q (F0 m 31 ls []) := by
              intro n
              induction n with
              | zero =>
                intro x3_10 x4_11 exL_12 ls hf
                have hf : (none : Option (Int32)) = some exL_12 := hf
                cases hf
              | succ n ihL_12 =>
                intro x3_10 x4_11 exL_12 ls hf hl hEL_12
                rw [f_X11_lefts_L31_s] at hf
                refine lv_iload hx hb dX11_lefts_31 (lv_at hl 4 rfl) ?_
                refine lv_aload_n hx hb dX11_lefts_33 rfl (lv_at hl 0 rfl) ?_
                refine get_X11_22 hx hb hts in_X11_lefts_X11 hown hK hz hW lk_X11_lefts_1 dX11_lefts_34 ?_
                refine lv_icmp_ge (tgt := 77) hx hb dX11_lefts_37 (by decide) (fun c_13 => ?_) (fun c_13 => ?_)
                · have hf := of_t c_13 hf
                  have hf := Option.some.inj hf
                  subst hf
                  exact hEL_12 _ (lv_sub hl [0, 1, 2, 3] rfl)
                · have hf := of_f c_13 hf
                  refine lv_iload_n hx hb dX11_lefts_40 rfl (lv_at hl 3 rfl) ?_
                  refine lv_if_eq (tgt := 77) hx hb dX11_lefts_41 (by decide) (fun c_14 => ?_) (fun c_14 => ?_)
                  · have hf := of_t c_14 hf
                    have hf := Option.some.inj hf
                    subst hf
                    exact hEL_12 _ (lv_sub hl [0, 1, 2, 3] rfl)
                  · have hf := of_f c_14 hf
                    refine lv_iload_n hx hb dX11_lefts_44 rfl (lv_at hl 2 rfl) ?_
                    refine lv_aload_n hx hb dX11_lefts_45 rfl (lv_at hl 0 rfl) ?_
                    refine get_X11_23 hx hb hts in_X11_lefts_X11 hown hK hz hW lk_X11_lefts_2 dX11_lefts_46 ?_
                    refine lv_iload hx hb dX11_lefts_49 (lv_at hl 4 rfl) ?_
                    obtain ⟨g_15, hf⟩ := of_gd hf
                    refine ld_M13 hx hb hK hz hW g_15 dX11_lefts_51 ?_
                    refine lv_topi (fun v_16 ev_16 => ?_)
                    have hf := of_lt ev_16 hf
                    obtain ⟨r_17, hq_18, hf⟩ := of_bd hf
                    refine m_goRi (va_runS (As := [.int x2_2, .int v_16]) (rest := []) ⟨hx, hb, hml, hown, hts⟩ (c_X11_outcomeOf l hz x2_2 v_16 w_3 hq_18) (va_cwS 2 hts gX11_lefts_X11_outcomeOf rfl rfl rfl (by decide +kernel) ⟨Nat.le_of_ble_eq_true rfl, Nat.le_of_ble_eq_true rfl⟩) (m_preS hK hW _) rfl rfl hl.1 rfl (lv_room (Nat.le_of_ble_eq_true rfl)) dX11_lefts_52 ⟨Nat.le_refl _, Nat.le_refl _⟩) ?_
                    refine lv_aload_n hx hb dX11_lefts_55 rfl (lv_at hl 0 rfl) ?_
                    refine get_X11_24 hx hb hts in_X11_lefts_X11 hown hK hz hW lk_X11_lefts_3 dX11_lefts_56 ?_
                    refine lv_iload hx hb dX11_lefts_59 (lv_at hl 4 rfl) ?_
                    refine ld_M14 hx hb hK hz hW g_15 dX11_lefts_61 ?_
                    refine lv_topi (fun v_19 ev_19 => ?_)
                    have hf := of_lt ev_19 hf
                    have J_21 : ∀ (v_20 : Int32) (ls : Array Slot), v_20 = (if r_17 = v_19 then 1 else 0) → lv_has ls 5 [(0, .ref (z.2.1 0)), (1, .int x1), (2, .int x2_2), (4, .int x4_11)] → W p l e (rm 2 48) s m args below meth c H locs 0 0 Q (F0 m 70 ls [.int v_20]) := by
                      intro v_20 ls ev_20 hl
                      have hf := of_lt ev_20 hf
                      refine lv_istore_n (lv' := [(3, .int v_20), (0, .ref (z.2.1 0)), (1, .int x1), (2, .int x2_2), (4, .int x4_11)]) hx hb dX11_lefts_70 rfl hl (by decide) rfl (fun ls hl => ?_)
                      obtain ⟨x4_22, ex4_22⟩ : ∃ y : Int32, y = x4_11 + 1 := ⟨_, rfl⟩
                      have hf := of_lt ex4_22 hf
                      refine lv_iinc (v := x4_22) (lv' := [(4, .int x4_22), (3, .int v_20), (0, .ref (z.2.1 0)), (1, .int x1), (2, .int x2_2)]) hx hb dX11_lefts_71 hl (k := 4) rfl (by rw [ex4_22]; rfl) (by decide) rfl (fun ls hl => ?_)
                      refine lv_goto (tgt := 31) hx hb dX11_lefts_74 (by decide) ?_
                      exact ihL_12 _ _ _ _ hf (lv_sub hl [2, 3, 4, 1, 0] rfl) hEL_12
                    refine lv_icmp_ne (tgt := 69) hx hb dX11_lefts_62 (by decide) (fun c_23 => ?_) (fun c_23 => ?_)
                    · refine lv_iconst (v := 0) hx hb dX11_lefts_69 (by decide) ?_
                      exact J_21 _ _ (by rw [if_neg c_23]) (lv_sub hl [0, 1, 2, 4] rfl)
                    · refine lv_iconst (v := 1) hx hb dX11_lefts_65 (by decide) ?_
                      refine lv_goto (tgt := 70) hx hb dX11_lefts_66 (by decide) ?_
                      exact J_21 _ _ (by rw [if_pos c_23]) (lv_sub hl [0, 1, 2, 4] rfl)
            obtain ⟨ex_25, hq_24, hf⟩ := of_bd hf
            obtain ⟨x3_26, ex3_26⟩ : ∃ y, y = ex_25 := ⟨_, rfl⟩
            rw [← ex3_26] at hf
            rw [← ex3_26] at hq_24
            refine L_12 FU _ _ _ _ hq_24 (lv_sub hl [2, 3, 4, 1, 0] rfl) (fun ls hl => ?_)
            have hl : lv_has ls 5 [(0, .ref (z.2.1 0)), (1, .int x1), (2, .int x2_2), (3, .int x3_26)] := hl
            refine lv_iload_n hx hb dX11_lefts_77 rfl (lv_at hl 3 rfl) ?_
            refine lv_if_eq (tgt := 101) hx hb dX11_lefts_78 (by decide) (fun c_27 => ?_) (fun c_27 => ?_)
            · have hf := of_t c_27 hf
              obtain ⟨x2_28, ex2_28⟩ : ∃ y : Int32, y = x2_2 + 1 := ⟨_, rfl⟩
              have hf := of_lt ex2_28 hf
              refine lv_iinc (v := x2_28) (lv' := [(2, .int x2_28), (0, .ref (z.2.1 0)), (1, .int x1), (3, .int x3_26)]) hx hb dX11_lefts_101 hl (k := 2) rfl (by rw [ex2_28]; rfl) (by decide) rfl (fun ls hl => ?_)
              refine lv_goto (tgt := 7) hx hb dX11_lefts_104 (by decide) ?_
              exact ihL_4 _ _ _ _ _ _ hf hW hS (lv_sub hl [1, 2, 0] rfl) hEL_4
            · have hf := of_f c_27 hf
              refine lv_aload_n hx hb dX11_lefts_81 rfl (lv_at hl 0 rfl) ?_
              refine get_X11_58 hx hb hts in_X11_lefts_X11 hown hK hz hW lk_X11_lefts_4 dX11_lefts_82 ?_
              refine lv_aload_n hx hb dX11_lefts_85 rfl (lv_at hl 0 rfl) ?_
              refine get_X11_59 hx hb hts in_X11_lefts_X11 hown hK hz hW lk_X11_lefts_0 dX11_lefts_86 ?_
              refine lv_iload_n hx hb dX11_lefts_89 rfl (lv_at hl 2 rfl) ?_
              obtain ⟨g_29, hf⟩ := of_gd hf
              refine st_M24 hx hb hK hz hW hS g_29 dX11_lefts_90 (fun H locs hW hS => ?_)
              obtain ⟨w_30, ew_30⟩ : ∃ y : Mem, y = mS w_3 24 ((w_3.1 0 59).toNatClampNeg) x2_2 := ⟨_, rfl⟩
              have hW : hd z w_30 H := by rw [ew_30]; exact hW
              have hf := of_lt ew_30 hf
              refine lv_aload_n hx hb dX11_lefts_91 rfl (lv_at hl 0 rfl) ?_
              refine lv_dup hx hb dX11_lefts_92 rfl ?_
              refine get_X11_59 hx hb hts in_X11_lefts_X11 hown hK hz hW lk_X11_lefts_0 dX11_lefts_93 ?_
              refine lv_iconst (v := 1) hx hb dX11_lefts_96 (by decide) ?_
              refine lv_iadd hx hb dX11_lefts_97 ?_
              refine put_X11_59 hx hb hts in_X11_lefts_X11 hown hK hz hW hS lk_X11_lefts_0 dX11_lefts_98 (fun H locs hW hS => ?_)
              obtain ⟨w_31, ew_31⟩ : ∃ y : Mem, y = mS w_30 0 59 ((w_30.1 0 59) + 1) := ⟨_, rfl⟩
              have hW : hd z w_31 H := by rw [ew_31]; exact hW
              have hf := of_lt ew_31 hf
              obtain ⟨x2_32, ex2_32⟩ : ∃ y : Int32, y = x2_2 + 1 := ⟨_, rfl⟩
              have hf := of_lt ex2_32 hf
              refine lv_iinc (v := x2_32) (lv' := [(2, .int x2_32), (0, .ref (z.2.1 0)), (1, .int x1), (3, .int x3_26)]) hx hb dX11_lefts_101 hl (k := 2) rfl (by rw [ex2_32]; rfl) (by decide) rfl (fun ls hl => ?_)
              refine lv_goto (tgt := 7) hx hb dX11_lefts_104 (by decide) ?_
              exact ihL_4 _ _ _ _ _ _ hf hW hS (lv_sub hl [1, 2, 0] rfl) hEL_4
          refine lv_icmp_gt (tgt := 26) hx hb dX11_lefts_19 (by decide) (fun c_33 => ?_) (fun c_33 => ?_)
          · refine lv_iconst (v := 0) hx hb dX11_lefts_26 (by decide) ?_
            exact J_9 _ _ (by rw [if_pos c_33]) (lv_sub hl [0, 1, 2] rfl)
          · refine lv_iconst (v := 1) hx hb dX11_lefts_22 (by decide) ?_
            refine lv_goto (tgt := 27) hx hb dX11_lefts_23 (by decide) ?_
            exact J_9 _ _ (by rw [if_neg c_33]) (lv_sub hl [0, 1, 2] rfl)
    obtain ⟨ex_35, hq_34, hf⟩ := of_bd hf
    obtain ⟨w_36, ew_36⟩ : ∃ y, y = ex_35 := ⟨_, rfl⟩
    rw [← ew_36] at hf
    rw [← ew_36] at hq_34
    refine L_4 FU _ _ _ _ _ _ hq_34 hW hS (lv_sub hl [1, 2, 0] rfl) (fun H locs ls hW hS hl => ?_)
    have hW : hd z w_36 H := hW
    have hl : lv_has ls 5 [] := hl
    exact hret _ _ _ _ _ hf hW hS dX11_lefts_107
  exact START _ _ hW va_S.rf
theorem in_X11_shareOf_X11 : ∀ w ∈ wsX110, w ∈ wsX11_shareOf := by decide +kernel
theorem lk_X11_shareOf_0 : Cond.fieldLink RX11 97 "CamStitchModel" "parted" "[I" ∈ wsX11_shareOf := by decide +kernel
theorem lk_X11_shareOf_1 : Cond.fieldLink RX11 312 "CamStitchModel" "leftMany" "I" ∈ wsX11_shareOf := by decide +kernel
theorem lk_X11_shareOf_2 : Cond.fieldLink RX11 94 "CamStitchModel" "leftState" "[I" ∈ wsX11_shareOf := by decide +kernel
set_option maxHeartbeats 4000000 in
set_option maxRecDepth 100000 in
theorem c_X11_shareOf (l : Launch) {z : LZ} (hz : IM z) (x1 : Int32) (w : Mem) {r : Int32} {w' : Mem} (hf : f_X11_shareOf x1 w = some (r, w')) : Met l yX11_shareOf wsX11_shareOf (rm 2 48) (PZ z w [.ref (z.2.1 0), .int x1]) (QW z (some (.int r)) w') 0 0 (az z) := by
  refine mk_Wi (cc := cX11_shareOf) (maxL := 5) (by decide +kernel) rfl (Nat.le_of_ble_eq_true rfl) ?_
  intro p e s m args below meth c hx hb hml hts hown hK hW Q hret ls hl
  have hl : lv_has ls 5 [(0, .ref (z.2.1 0)), (1, .int x1)] := hl
  unfold f_X11_shareOf at hf
  have START : ∀ (H : Heap) (locs : List Loc), hd z w H → va_S (az z) s.heap H locs → W p l e (rm 2 48) s m args below meth c H locs 0 0 Q (F0 m 0 ls []) := by
    intro H locs hW hS
    refine lv_iconst (v := 0) hx hb dX11_shareOf_0 (by decide) ?_
    refine lv_istore_n (lv' := [(2, .int 0), (0, .ref (z.2.1 0)), (1, .int x1)]) hx hb dX11_shareOf_1 rfl hl (by decide) rfl (fun ls hl => ?_)
    have L_3 : ∀ (n : Nat) (x2_1 : Int32) (w_2 : Mem) (exL_3 : Mem) (H : Heap) (locs : List Loc) (ls : Array Slot), f_X11_shareOf_L2 n x2_1 w_2 = some exL_3 → hd z w_2 H → va_S (az z) s.heap H locs → lv_has ls 5 [(0, .ref (z.2.1 0)), (1, .int x1), (2, .int x2_1)] → (∀ (H : Heap) (locs : List Loc) (ls : Array Slot), hd z (exL_3) H → va_S (az z) s.heap H locs → lv_has ls 5 [(0, .ref (z.2.1 0)), (1, .int x1)] → W p l e (rm 2 48) s m args below meth c H locs 0 0 Q (F0 m 20 ls [])) → W p l e (rm 2 48) s m args below meth c H locs 0 0 Q (F0 m 2 ls []) := by
      intro n
      induction n with
      | zero =>
        intro x2_1 w_2 exL_3 H locs ls hf
        have hf : (none : Option (Mem)) = some exL_3 := hf
        cases hf
      | succ n ihL_3 =>
        intro x2_1 w_2 exL_3 H locs ls hf hW hS hl hEL_3
        rw [f_X11_shareOf_L2_s] at hf
        refine lv_iload_n hx hb dX11_shareOf_2 rfl (lv_at hl 2 rfl) ?_
        refine lv_iconst (v := 5) hx hb dX11_shareOf_3 (by decide) ?_
        refine lv_icmp_ge (tgt := 20) hx hb dX11_shareOf_4 (by decide) (fun c_4 => ?_) (fun c_4 => ?_)
        · have hf := of_t c_4 hf
          have hf := Option.some.inj hf
          subst hf
          exact hEL_3 _ _ _ hW hS (lv_sub hl [0, 1] rfl)
        · have hf := of_f c_4 hf
          refine lv_aload_n hx hb dX11_shareOf_7 rfl (lv_at hl 0 rfl) ?_
          refine get_X11_60 hx hb hts in_X11_shareOf_X11 hown hK hz hW lk_X11_shareOf_0 dX11_shareOf_8 ?_
          refine lv_iload_n hx hb dX11_shareOf_11 rfl (lv_at hl 2 rfl) ?_
          refine lv_iconst (v := 0) hx hb dX11_shareOf_12 (by decide) ?_
          obtain ⟨g_5, hf⟩ := of_gd hf
          refine st_M25 hx hb hK hz hW hS g_5 dX11_shareOf_13 (fun H locs hW hS => ?_)
          obtain ⟨w_6, ew_6⟩ : ∃ y : Mem, y = mS w_2 25 x2_1.toNatClampNeg 0 := ⟨_, rfl⟩
          have hW : hd z w_6 H := by rw [ew_6]; exact hW
          have hf := of_lt ew_6 hf
          obtain ⟨x2_7, ex2_7⟩ : ∃ y : Int32, y = x2_1 + 1 := ⟨_, rfl⟩
          have hf := of_lt ex2_7 hf
          refine lv_iinc (v := x2_7) (lv' := [(2, .int x2_7), (0, .ref (z.2.1 0)), (1, .int x1)]) hx hb dX11_shareOf_14 hl (k := 2) rfl (by rw [ex2_7]; rfl) (by decide) rfl (fun ls hl => ?_)
          refine lv_goto (tgt := 2) hx hb dX11_shareOf_17 (by decide) ?_
          exact ihL_3 _ _ _ _ _ _ hf hW hS (lv_sub hl [1, 2, 0] rfl) hEL_3
    obtain ⟨ex_9, hq_8, hf⟩ := of_bd hf
    obtain ⟨w_10, ew_10⟩ : ∃ y, y = ex_9 := ⟨_, rfl⟩
    rw [← ew_10] at hf
    rw [← ew_10] at hq_8
    refine L_3 FU _ _ _ _ _ _ hq_8 hW hS (lv_sub hl [1, 2, 0] rfl) (fun H locs ls hW hS hl => ?_)
    have hW : hd z w_10 H := hW
    have hl : lv_has ls 5 [(0, .ref (z.2.1 0)), (1, .int x1)] := hl
    refine lv_iconst (v := 0) hx hb dX11_shareOf_20 (by decide) ?_
    refine lv_istore_n (lv' := [(2, .int 0), (0, .ref (z.2.1 0)), (1, .int x1)]) hx hb dX11_shareOf_21 rfl hl (by decide) rfl (fun ls hl => ?_)
    refine lv_iconst (v := 0) hx hb dX11_shareOf_22 (by decide) ?_
    refine lv_istore_n (lv' := [(3, .int 0), (2, .int 0), (0, .ref (z.2.1 0)), (1, .int x1)]) hx hb dX11_shareOf_23 rfl hl (by decide) rfl (fun ls hl => ?_)
    have L_14 : ∀ (n : Nat) (x2_11 : Int32) (x3_12 : Int32) (w_13 : Mem) (exL_14 : Int32 × Mem) (H : Heap) (locs : List Loc) (ls : Array Slot), f_X11_shareOf_L24 x1 n x2_11 x3_12 w_13 = some exL_14 → hd z w_13 H → va_S (az z) s.heap H locs → lv_has ls 5 [(0, .ref (z.2.1 0)), (1, .int x1), (2, .int x2_11), (3, .int x3_12)] → (∀ (H : Heap) (locs : List Loc) (ls : Array Slot), hd z (exL_14.2) H → va_S (az z) s.heap H locs → lv_has ls 5 [(2, .int exL_14.1)] → W p l e (rm 2 48) s m args below meth c H locs 0 0 Q (F0 m 84 ls [])) → W p l e (rm 2 48) s m args below meth c H locs 0 0 Q (F0 m 24 ls []) := by
      intro n
      induction n with
      | zero =>
        intro x2_11 x3_12 w_13 exL_14 H locs ls hf
        have hf : (none : Option (Int32 × Mem)) = some exL_14 := hf
        cases hf
      | succ n ihL_14 =>
        intro x2_11 x3_12 w_13 exL_14 H locs ls hf hW hS hl hEL_14
        rw [f_X11_shareOf_L24_s] at hf
        refine lv_iload_n hx hb dX11_shareOf_24 rfl (lv_at hl 3 rfl) ?_
        refine lv_aload_n hx hb dX11_shareOf_25 rfl (lv_at hl 0 rfl) ?_
        refine get_X11_59 hx hb hts in_X11_shareOf_X11 hown hK hz hW lk_X11_shareOf_1 dX11_shareOf_26 ?_
        refine lv_icmp_ge (tgt := 84) hx hb dX11_shareOf_29 (by decide) (fun c_15 => ?_) (fun c_15 => ?_)
        · have hf := of_t c_15 hf
          have hf := Option.some.inj hf
          subst hf
          exact hEL_14 _ _ _ hW hS (lv_sub hl [2] rfl)
        · have hf := of_f c_15 hf
          refine lv_aload_n hx hb dX11_shareOf_32 rfl (lv_at hl 0 rfl) ?_
          refine get_X11_58 hx hb hts in_X11_shareOf_X11 hown hK hz hW lk_X11_shareOf_2 dX11_shareOf_33 ?_
          refine lv_iload_n hx hb dX11_shareOf_36 rfl (lv_at hl 3 rfl) ?_
          obtain ⟨g_16, hf⟩ := of_gd hf
          refine ld_M24 hx hb hK hz hW g_16 dX11_shareOf_37 ?_
          refine lv_topi (fun v_17 ev_17 => ?_)
          have hf := of_lt ev_17 hf
          refine lv_iload_n hx hb dX11_shareOf_38 rfl (lv_at hl 1 rfl) ?_
          obtain ⟨r_18, hq_19, hf⟩ := of_bd hf
          refine m_goRi (va_runS (As := [.int v_17, .int x1]) (rest := []) ⟨hx, hb, hml, hown, hts⟩ (c_X11_outcomeOf l hz v_17 x1 w_13 hq_19) (va_cwS 2 hts gX11_shareOf_X11_outcomeOf rfl rfl rfl (by decide +kernel) ⟨Nat.le_of_ble_eq_true rfl, Nat.le_of_ble_eq_true rfl⟩) (m_preS hK hW _) rfl rfl hl.1 rfl (lv_room (Nat.le_of_ble_eq_true rfl)) dX11_shareOf_39 ⟨Nat.le_refl _, Nat.le_refl _⟩) ?_
          refine lv_istore (lv' := [(4, .int r_18), (0, .ref (z.2.1 0)), (1, .int x1), (2, .int x2_11), (3, .int x3_12)]) hx hb dX11_shareOf_42 hl (by decide) rfl (fun ls hl => ?_)
          refine lv_aload_n hx hb dX11_shareOf_44 rfl (lv_at hl 1 rfl) ?_
          refine get_X11_60 hx hb hts in_X11_shareOf_X11 hown hK hz hW lk_X11_shareOf_0 dX11_shareOf_45 ?_
          refine lv_iload hx hb dX11_shareOf_48 (lv_at hl 0 rfl) ?_
          refine lv_dup2_11 hx hb dX11_shareOf_50 rfl rfl ?_
          obtain ⟨g_20, hf⟩ := of_gd hf
          refine ld_M25 hx hb hK hz hW g_20 dX11_shareOf_51 ?_
          refine lv_topi (fun v_21 ev_21 => ?_)
          have hf := of_lt ev_21 hf
          refine lv_iconst (v := 1) hx hb dX11_shareOf_52 (by decide) ?_
          refine lv_iadd hx hb dX11_shareOf_53 ?_
          refine st_M25 hx hb hK hz hW hS g_20 dX11_shareOf_54 (fun H locs hW hS => ?_)
          obtain ⟨w_22, ew_22⟩ : ∃ y : Mem, y = mS w_13 25 r_18.toNatClampNeg (v_21 + 1) := ⟨_, rfl⟩
          have hW : hd z w_22 H := by rw [ew_22]; exact hW
          have hf := of_lt ew_22 hf
          refine lv_aload_n hx hb dX11_shareOf_55 rfl (lv_at hl 1 rfl) ?_
          refine get_X11_60 hx hb hts in_X11_shareOf_X11 hown hK hz hW lk_X11_shareOf_0 dX11_shareOf_56 ?_
          refine lv_iload hx hb dX11_shareOf_59 (lv_at hl 0 rfl) ?_
          refine ld_M25 hx hb hK hz hW g_20 dX11_shareOf_61 ?_
          refine lv_topi (fun v_23 ev_23 => ?_)
          have hf := of_lt ev_23 hf
          refine lv_iload_n hx hb dX11_shareOf_62 rfl (lv_at hl 3 rfl) ?_
          have J_25 : ∀ (v_24 : Int32) (ls : Array Slot), v_24 = (if v_23 ≤ x2_11 then x2_11 else (w_22.1 25 r_18.toNatClampNeg)) → lv_has ls 5 [(0, .ref (z.2.1 0)), (1, .int x1), (3, .int x3_12)] → W p l e (rm 2 48) s m args below meth c H locs 0 0 Q (F0 m 77 ls [.int v_24]) := by
            intro v_24 ls ev_24 hl
            have hf := of_lt ev_24 hf
            refine lv_istore_n (lv' := [(2, .int v_24), (0, .ref (z.2.1 0)), (1, .int x1), (3, .int x3_12)]) hx hb dX11_shareOf_77 rfl hl (by decide) rfl (fun ls hl => ?_)
            obtain ⟨x3_26, ex3_26⟩ : ∃ y : Int32, y = x3_12 + 1 := ⟨_, rfl⟩
            have hf := of_lt ex3_26 hf
            refine lv_iinc (v := x3_26) (lv' := [(3, .int x3_26), (2, .int v_24), (0, .ref (z.2.1 0)), (1, .int x1)]) hx hb dX11_shareOf_78 hl (k := 3) rfl (by rw [ex3_26]; rfl) (by decide) rfl (fun ls hl => ?_)
            refine lv_goto (tgt := 24) hx hb dX11_shareOf_81 (by decide) ?_
            exact ihL_14 _ _ _ _ _ _ _ hf hW hS (lv_sub hl [2, 3, 1, 0] rfl) hEL_14
          refine lv_icmp_le (tgt := 76) hx hb dX11_shareOf_63 (by decide) (fun c_27 => ?_) (fun c_27 => ?_)
          · refine lv_iload_n hx hb dX11_shareOf_76 rfl (lv_at hl 3 rfl) ?_
            exact J_25 _ _ (by rw [if_pos c_27]) (lv_sub hl [1, 2, 4] rfl)
          · refine lv_aload_n hx hb dX11_shareOf_66 rfl (lv_at hl 1 rfl) ?_
            refine get_X11_60 hx hb hts in_X11_shareOf_X11 hown hK hz hW lk_X11_shareOf_0 dX11_shareOf_67 ?_
            refine lv_iload hx hb dX11_shareOf_70 (lv_at hl 0 rfl) ?_
            refine ld_M25 hx hb hK hz hW g_20 dX11_shareOf_72 ?_
            refine lv_goto (tgt := 77) hx hb dX11_shareOf_73 (by decide) ?_
            exact J_25 _ _ (by rw [if_neg c_27]) (lv_sub hl [1, 2, 4] rfl)
    obtain ⟨ex_29, hq_28, hf⟩ := of_bd hf
    obtain ⟨x2_30, w_31⟩ := ex_29
    have hf := of_tp2 hf
    refine L_14 FU _ _ _ _ _ _ _ hq_28 hW hS (lv_sub hl [2, 3, 1, 0] rfl) (fun H locs ls hW hS hl => ?_)
    have hW : hd z w_31 H := hW
    have hl : lv_has ls 5 [(2, .int x2_30)] := hl
    refine lv_iload_n hx hb dX11_shareOf_84 rfl (lv_at hl 0 rfl) ?_
    exact hret _ _ _ _ _ _ hf hW hS dX11_shareOf_85
  exact START _ _ hW va_S.rf
theorem in_X11_bestOf_X11 : ∀ w ∈ wsX110, w ∈ wsX11_bestOf := by decide +kernel
theorem lk_X11_bestOf_0 : Cond.fieldLink RX11 312 "CamStitchModel" "leftMany" "I" ∈ wsX11_bestOf := by decide +kernel
set_option maxHeartbeats 4000000 in
set_option maxRecDepth 100000 in
theorem c_X11_bestOf (l : Launch) {z : LZ} (hz : IM z)  (w : Mem) {r : Int32} {w' : Mem} (hf : f_X11_bestOf w = some (r, w')) : Met l yX11_bestOf wsX11_bestOf (rm 3 72) (PZ z w [.ref (z.2.1 0)]) (QW z (some (.int r)) w') 0 0 (az z) := by
  refine mk_Wi (cc := cX11_bestOf) (maxL := 5) (by decide +kernel) rfl (Nat.le_of_ble_eq_true rfl) ?_
  intro p e s m args below meth c hx hb hml hts hown hK hW Q hret ls hl
  have hl : lv_has ls 5 [(0, .ref (z.2.1 0))] := hl
  unfold f_X11_bestOf at hf
  have START : ∀ (H : Heap) (locs : List Loc), hd z w H → va_S (az z) s.heap H locs → W p l e (rm 3 72) s m args below meth c H locs 0 0 Q (F0 m 0 ls []) := by
    intro H locs hW hS
    refine lv_iconst (v := 0) hx hb dX11_bestOf_0 (by decide) ?_
    refine lv_istore_n (lv' := [(1, .int 0), (0, .ref (z.2.1 0))]) hx hb dX11_bestOf_1 rfl hl (by decide) rfl (fun ls hl => ?_)
    refine lv_aload_n hx hb dX11_bestOf_2 rfl (lv_at hl 1 rfl) ?_
    refine lv_iconst (v := 0) hx hb dX11_bestOf_3 (by decide) ?_
    obtain ⟨r_1, w_3, hq_2, hf⟩ := of_b2 hf
    refine m_goWi (va_runV (As := [.int 0]) (rest := []) ⟨hx, hb, hml, hown, hts⟩ (c_X11_shareOf l hz 0 w hq_2) (cwV 1 hts gX11_bestOf_X11_shareOf rfl rfl rfl (by decide +kernel) ⟨Nat.le_of_ble_eq_true rfl, Nat.le_of_ble_eq_true rfl⟩) (pre_X11 hK hz hW _) rfl rfl hl.1 rfl (lv_room (Nat.le_of_ble_eq_true rfl)) dX11_bestOf_4 ⟨Nat.le_refl _, Nat.le_refl _⟩) hS (fun H locs hW hS => ?_)
    refine lv_istore_n (lv' := [(2, .int r_1), (1, .int 0), (0, .ref (z.2.1 0))]) hx hb dX11_bestOf_7 rfl hl (by decide) rfl (fun ls hl => ?_)
    refine lv_iconst (v := 1) hx hb dX11_bestOf_8 (by decide) ?_
    refine lv_istore_n (lv' := [(3, .int 1), (2, .int r_1), (1, .int 0), (0, .ref (z.2.1 0))]) hx hb dX11_bestOf_9 rfl hl (by decide) rfl (fun ls hl => ?_)
    have L_8 : ∀ (n : Nat) (x1_4 : Int32) (x2_5 : Int32) (x3_6 : Int32) (w_7 : Mem) (exL_8 : Int32 × Int32 × Mem) (H : Heap) (locs : List Loc) (ls : Array Slot), f_X11_bestOf_L10 n x1_4 x2_5 x3_6 w_7 = some exL_8 → hd z w_7 H → va_S (az z) s.heap H locs → lv_has ls 5 [(0, .ref (z.2.1 0)), (1, .int x1_4), (2, .int x2_5), (3, .int x3_6)] → (∀ (H : Heap) (locs : List Loc) (ls : Array Slot), hd z (exL_8.2.2) H → va_S (az z) s.heap H locs → lv_has ls 5 [(0, .ref (z.2.1 0)), (1, .int exL_8.1), (2, .int exL_8.2.1)] → W p l e (rm 3 72) s m args below meth c H locs 0 0 Q (F0 m 55 ls [])) → W p l e (rm 3 72) s m args below meth c H locs 0 0 Q (F0 m 10 ls []) := by
      intro n
      induction n with
      | zero =>
        intro x1_4 x2_5 x3_6 w_7 exL_8 H locs ls hf
        have hf : (none : Option (Int32 × Int32 × Mem)) = some exL_8 := hf
        cases hf
      | succ n ihL_8 =>
        intro x1_4 x2_5 x3_6 w_7 exL_8 H locs ls hf hW hS hl hEL_8
        rw [f_X11_bestOf_L10_s] at hf
        refine lv_iload_n hx hb dX11_bestOf_10 rfl (lv_at hl 3 rfl) ?_
        refine lv_sipush (v := 325) hx hb dX11_bestOf_11 (by decide) ?_
        refine lv_icmp_ge (tgt := 55) hx hb dX11_bestOf_14 (by decide) (fun c_9 => ?_) (fun c_9 => ?_)
        · have hf := of_t c_9 hf
          have hf := Option.some.inj hf
          subst hf
          exact hEL_8 _ _ _ hW hS (lv_sub hl [0, 1, 2] rfl)
        · have hf := of_f c_9 hf
          refine lv_aload_n hx hb dX11_bestOf_17 rfl (lv_at hl 0 rfl) ?_
          refine lv_iload_n hx hb dX11_bestOf_18 rfl (lv_at hl 3 rfl) ?_
          obtain ⟨r_10, w_12, hq_11, hf⟩ := of_b2 hf
          refine m_goWi (va_runV (As := [.int x3_6]) (rest := []) ⟨hx, hb, hml, hown, hts⟩ (c_X11_shareOf l hz x3_6 w_7 hq_11) (cwV 1 hts gX11_bestOf_X11_shareOf rfl rfl rfl (by decide +kernel) ⟨Nat.le_of_ble_eq_true rfl, Nat.le_of_ble_eq_true rfl⟩) (pre_X11 hK hz hW _) rfl rfl hl.1 rfl (lv_room (Nat.le_of_ble_eq_true rfl)) dX11_bestOf_19 ⟨Nat.le_refl _, Nat.le_refl _⟩) hS (fun H locs hW hS => ?_)
          refine lv_istore (lv' := [(4, .int r_10), (0, .ref (z.2.1 0)), (1, .int x1_4), (2, .int x2_5), (3, .int x3_6)]) hx hb dX11_bestOf_22 hl (by decide) rfl (fun ls hl => ?_)
          refine lv_iload hx hb dX11_bestOf_24 (lv_at hl 0 rfl) ?_
          refine lv_iload_n hx hb dX11_bestOf_26 rfl (lv_at hl 3 rfl) ?_
          have J_14 : ∀ (v_13 : Int32) (ls : Array Slot), v_13 = (if x2_5 ≤ r_10 then x1_4 else x3_6) → lv_has ls 5 [(0, .ref (z.2.1 0)), (2, .int x2_5), (3, .int x3_6), (4, .int r_10)] → W p l e (rm 3 72) s m args below meth c H locs 0 0 Q (F0 m 35 ls [.int v_13]) := by
            intro v_13 ls ev_13 hl
            have hf := of_lt ev_13 hf
            refine lv_istore_n (lv' := [(1, .int v_13), (0, .ref (z.2.1 0)), (2, .int x2_5), (3, .int x3_6), (4, .int r_10)]) hx hb dX11_bestOf_35 rfl hl (by decide) rfl (fun ls hl => ?_)
            refine lv_iload hx hb dX11_bestOf_36 (lv_at hl 4 rfl) ?_
            refine lv_iload_n hx hb dX11_bestOf_38 rfl (lv_at hl 2 rfl) ?_
            have J_16 : ∀ (v_15 : Int32) (ls : Array Slot), v_15 = (if x2_5 ≤ r_10 then x2_5 else r_10) → lv_has ls 5 [(0, .ref (z.2.1 0)), (1, .int v_13), (3, .int x3_6)] → W p l e (rm 3 72) s m args below meth c H locs 0 0 Q (F0 m 48 ls [.int v_15]) := by
              intro v_15 ls ev_15 hl
              have hf := of_lt ev_15 hf
              refine lv_istore_n (lv' := [(2, .int v_15), (0, .ref (z.2.1 0)), (1, .int v_13), (3, .int x3_6)]) hx hb dX11_bestOf_48 rfl hl (by decide) rfl (fun ls hl => ?_)
              obtain ⟨x3_17, ex3_17⟩ : ∃ y : Int32, y = x3_6 + 1 := ⟨_, rfl⟩
              have hf := of_lt ex3_17 hf
              refine lv_iinc (v := x3_17) (lv' := [(3, .int x3_17), (2, .int v_15), (0, .ref (z.2.1 0)), (1, .int v_13)]) hx hb dX11_bestOf_49 hl (k := 3) rfl (by rw [ex3_17]; rfl) (by decide) rfl (fun ls hl => ?_)
              refine lv_goto (tgt := 10) hx hb dX11_bestOf_52 (by decide) ?_
              exact ihL_8 _ _ _ _ _ _ _ _ hf hW hS (lv_sub hl [2, 3, 1, 0] rfl) hEL_8
            refine lv_icmp_ge (tgt := 47) hx hb dX11_bestOf_39 (by decide) (fun c_18 => ?_) (fun c_18 => ?_)
            · refine lv_iload_n hx hb dX11_bestOf_47 rfl (lv_at hl 2 rfl) ?_
              exact J_16 _ _ (by rw [if_pos c_18]) (lv_sub hl [1, 0, 3] rfl)
            · refine lv_iload hx hb dX11_bestOf_42 (lv_at hl 4 rfl) ?_
              refine lv_goto (tgt := 48) hx hb dX11_bestOf_44 (by decide) ?_
              exact J_16 _ _ (by rw [if_neg c_18]) (lv_sub hl [1, 0, 3] rfl)
          refine lv_icmp_ge (tgt := 34) hx hb dX11_bestOf_27 (by decide) (fun c_19 => ?_) (fun c_19 => ?_)
          · refine lv_iload_n hx hb dX11_bestOf_34 rfl (lv_at hl 2 rfl) ?_
            exact J_14 _ _ (by rw [if_pos c_19]) (lv_sub hl [1, 3, 4, 0] rfl)
          · refine lv_iload_n hx hb dX11_bestOf_30 rfl (lv_at hl 4 rfl) ?_
            refine lv_goto (tgt := 35) hx hb dX11_bestOf_31 (by decide) ?_
            exact J_14 _ _ (by rw [if_neg c_19]) (lv_sub hl [1, 3, 4, 0] rfl)
    obtain ⟨ex_21, hq_20, hf⟩ := of_bd hf
    obtain ⟨x1_22, x2_23, w_24⟩ := ex_21
    have hf := of_tp3 hf
    refine L_8 FU _ _ _ _ _ _ _ _ hq_20 hW hS (lv_sub hl [3, 2, 1, 0] rfl) (fun H locs ls hW hS hl => ?_)
    have hW : hd z w_24 H := hW
    have hl : lv_has ls 5 [(0, .ref (z.2.1 0)), (1, .int x1_22), (2, .int x2_23)] := hl
    refine lv_iload_n hx hb dX11_bestOf_55 rfl (lv_at hl 2 rfl) ?_
    refine lv_aload_n hx hb dX11_bestOf_56 rfl (lv_at hl 0 rfl) ?_
    refine get_X11_59 hx hb hts in_X11_bestOf_X11 hown hK hz hW lk_X11_bestOf_0 dX11_bestOf_57 ?_
    have J_26 : ∀ (v_25 : Int32) (ls : Array Slot), v_25 = (if (w_24.1 0 59) ≤ x2_23 then (-1) else x1_22) → lv_has ls 5 [] → W p l e (rm 3 72) s m args below meth c H locs 0 0 Q (F0 m 68 ls [.int v_25]) := by
      intro v_25 ls ev_25 hl
      have hf := of_lt ev_25 hf
      exact hret _ _ _ _ _ _ hf hW hS dX11_bestOf_68
    refine lv_icmp_ge (tgt := 67) hx hb dX11_bestOf_60 (by decide) (fun c_27 => ?_) (fun c_27 => ?_)
    · refine lv_iconst (v := (-1)) hx hb dX11_bestOf_67 (by decide) ?_
      exact J_26 _ _ (by rw [if_pos c_27]) (lv_sub hl [] rfl)
    · refine lv_iload_n hx hb dX11_bestOf_63 rfl (lv_at hl 1 rfl) ?_
      refine lv_goto (tgt := 68) hx hb dX11_bestOf_64 (by decide) ?_
      exact J_26 _ _ (by rw [if_neg c_27]) (lv_sub hl [] rfl)
  exact START _ _ hW va_S.rf
theorem in_X11_left_X11 : ∀ w ∈ wsX110, w ∈ wsX11_left := by decide +kernel
theorem lk_X11_left_0 : Cond.fieldLink RX11 312 "CamStitchModel" "leftMany" "I" ∈ wsX11_left := by decide +kernel
set_option maxHeartbeats 4000000 in
set_option maxRecDepth 100000 in
theorem c_X11_left (l : Launch) {z : LZ} (hz : IM z) (x1 : Int32) (w : Mem) {r : Int32} {w' : Mem} (hf : f_X11_left x1 w = some (r, w')) : Met l yX11_left wsX11_left (rm 3 72) (PZ z w [.ref (z.2.1 0), .int x1]) (QW z (some (.int r)) w') 0 0 (az z) := by
  refine mk_Wi (cc := cX11_left) (maxL := 2) (by decide +kernel) rfl (Nat.le_of_ble_eq_true rfl) ?_
  intro p e s m args below meth c hx hb hml hts hown hK hW Q hret ls hl
  have hl : lv_has ls 2 [(0, .ref (z.2.1 0)), (1, .int x1)] := hl
  unfold f_X11_left at hf
  have START : ∀ (H : Heap) (locs : List Loc), hd z w H → va_S (az z) s.heap H locs → W p l e (rm 3 72) s m args below meth c H locs 0 0 Q (F0 m 0 ls []) := by
    intro H locs hW hS
    refine lv_iload_n hx hb dX11_left_0 rfl (lv_at hl 1 rfl) ?_
    refine lv_iconst (v := 0) hx hb dX11_left_1 (by decide) ?_
    refine lv_iconst (v := 4) hx hb dX11_left_2 (by decide) ?_
    obtain ⟨r_1, hq_2, hf⟩ := of_bd hf
    refine m_goRi (va_runS (As := [.int x1, .int 0, .int 4]) (rest := []) ⟨hx, hb, hml, hown, hts⟩ (c_X11_in l hz x1 0 4 w hq_2) (va_cwS 3 hts gX11_left_X11_in rfl rfl rfl (by decide +kernel) ⟨Nat.le_of_ble_eq_true rfl, Nat.le_of_ble_eq_true rfl⟩) (m_preS hK hW _) rfl rfl hl.1 rfl (lv_room (Nat.le_of_ble_eq_true rfl)) dX11_left_3 ⟨Nat.le_refl _, Nat.le_refl _⟩) ?_
    refine lv_if_ne (tgt := 11) hx hb dX11_left_6 (by decide) (fun c_3 => ?_) (fun c_3 => ?_)
    · have hf := of_f c_3 hf
      refine lv_aload_n hx hb dX11_left_11 rfl (lv_at hl 0 rfl) ?_
      refine lv_iload_n hx hb dX11_left_12 rfl (lv_at hl 1 rfl) ?_
      obtain ⟨w_6, hq_5, hf⟩ := of_bd hf
      refine m_goWv (va_runV (As := [.int x1]) (rest := []) ⟨hx, hb, hml, hown, hts⟩ (c_X11_lefts l hz x1 w hq_5) (cwV 1 hts gX11_left_X11_lefts rfl rfl rfl (by decide +kernel) ⟨Nat.le_of_ble_eq_true rfl, Nat.le_of_ble_eq_true rfl⟩) (pre_X11 hK hz hW _) rfl rfl hl.1 rfl (lv_room (Nat.le_of_ble_eq_true rfl)) dX11_left_13 ⟨Nat.le_refl _, Nat.le_refl _⟩) hS (fun H locs hW hS => ?_)
      refine lv_aload_n hx hb dX11_left_16 rfl (lv_at hl 0 rfl) ?_
      refine get_X11_59 hx hb hts in_X11_left_X11 hown hK hz hW lk_X11_left_0 dX11_left_17 ?_
      exact hret _ _ _ _ _ _ hf hW hS dX11_left_20
    · have hf := of_t c_3 hf
      refine lv_iconst (v := (-1)) hx hb dX11_left_9 (by decide) ?_
      exact hret _ _ _ _ _ _ hf hW hS dX11_left_10
  exact START _ _ hW va_S.rf
theorem in_X11_state_X11 : ∀ w ∈ wsX110, w ∈ wsX11_state := by decide +kernel
theorem lk_X11_state_0 : Cond.fieldLink RX11 312 "CamStitchModel" "leftMany" "I" ∈ wsX11_state := by decide +kernel
theorem lk_X11_state_1 : Cond.fieldLink RX11 94 "CamStitchModel" "leftState" "[I" ∈ wsX11_state := by decide +kernel
set_option maxHeartbeats 4000000 in
set_option maxRecDepth 100000 in
theorem c_X11_state (l : Launch) {z : LZ} (hz : IM z) (x1 : Int32) (x2 : Int32) (w : Mem) {r : Int32} {w' : Mem} (hf : f_X11_state x1 x2 w = some (r, w')) : Met l yX11_state wsX11_state (rm 3 72) (PZ z w [.ref (z.2.1 0), .int x1, .int x2]) (QW z (some (.int r)) w') 0 0 (az z) := by
  refine mk_Wi (cc := cX11_state) (maxL := 3) (by decide +kernel) rfl (Nat.le_of_ble_eq_true rfl) ?_
  intro p e s m args below meth c hx hb hml hts hown hK hW Q hret ls hl
  have hl : lv_has ls 3 [(0, .ref (z.2.1 0)), (1, .int x1), (2, .int x2)] := hl
  unfold f_X11_state at hf
  have START : ∀ (H : Heap) (locs : List Loc), hd z w H → va_S (az z) s.heap H locs → W p l e (rm 3 72) s m args below meth c H locs 0 0 Q (F0 m 0 ls []) := by
    intro H locs hW hS
    refine lv_iload_n hx hb dX11_state_0 rfl (lv_at hl 1 rfl) ?_
    refine lv_iconst (v := 0) hx hb dX11_state_1 (by decide) ?_
    refine lv_iconst (v := 4) hx hb dX11_state_2 (by decide) ?_
    obtain ⟨r_1, hq_2, hf⟩ := of_bd hf
    refine m_goRi (va_runS (As := [.int x1, .int 0, .int 4]) (rest := []) ⟨hx, hb, hml, hown, hts⟩ (c_X11_in l hz x1 0 4 w hq_2) (va_cwS 3 hts gX11_state_X11_in rfl rfl rfl (by decide +kernel) ⟨Nat.le_of_ble_eq_true rfl, Nat.le_of_ble_eq_true rfl⟩) (m_preS hK hW _) rfl rfl hl.1 rfl (lv_room (Nat.le_of_ble_eq_true rfl)) dX11_state_3 ⟨Nat.le_refl _, Nat.le_refl _⟩) ?_
    refine lv_if_ne (tgt := 11) hx hb dX11_state_6 (by decide) (fun c_3 => ?_) (fun c_3 => ?_)
    · have hf := of_f c_3 hf
      refine lv_aload_n hx hb dX11_state_11 rfl (lv_at hl 0 rfl) ?_
      refine lv_iload_n hx hb dX11_state_12 rfl (lv_at hl 1 rfl) ?_
      obtain ⟨w_6, hq_5, hf⟩ := of_bd hf
      refine m_goWv (va_runV (As := [.int x1]) (rest := []) ⟨hx, hb, hml, hown, hts⟩ (c_X11_lefts l hz x1 w hq_5) (cwV 1 hts gX11_state_X11_lefts rfl rfl rfl (by decide +kernel) ⟨Nat.le_of_ble_eq_true rfl, Nat.le_of_ble_eq_true rfl⟩) (pre_X11 hK hz hW _) rfl rfl hl.1 rfl (lv_room (Nat.le_of_ble_eq_true rfl)) dX11_state_13 ⟨Nat.le_refl _, Nat.le_refl _⟩) hS (fun H locs hW hS => ?_)
      refine lv_iload_n hx hb dX11_state_16 rfl (lv_at hl 2 rfl) ?_
      refine lv_iconst (v := 0) hx hb dX11_state_17 (by decide) ?_
      refine lv_aload_n hx hb dX11_state_18 rfl (lv_at hl 0 rfl) ?_
      refine get_X11_59 hx hb hts in_X11_state_X11 hown hK hz hW lk_X11_state_0 dX11_state_19 ?_
      refine lv_iconst (v := 1) hx hb dX11_state_22 (by decide) ?_
      refine lv_isub hx hb dX11_state_23 ?_
      obtain ⟨r_7, hq_8, hf⟩ := of_bd hf
      refine m_goRi (va_runS (As := [.int x2, .int 0, .int ((w_6.1 0 59) - 1)]) (rest := []) ⟨hx, hb, hml, hown, hts⟩ (c_X11_in l hz x2 0 ((w_6.1 0 59) - 1) w_6 hq_8) (va_cwS 3 hts gX11_state_X11_in rfl rfl rfl (by decide +kernel) ⟨Nat.le_of_ble_eq_true rfl, Nat.le_of_ble_eq_true rfl⟩) (m_preS hK hW _) rfl rfl hl.1 rfl (lv_room (Nat.le_of_ble_eq_true rfl)) dX11_state_24 ⟨Nat.le_refl _, Nat.le_refl _⟩) ?_
      refine lv_if_eq (tgt := 39) hx hb dX11_state_27 (by decide) (fun c_9 => ?_) (fun c_9 => ?_)
      · have hf := of_t c_9 hf
        refine lv_iconst (v := (-1)) hx hb dX11_state_39 (by decide) ?_
        exact hret _ _ _ _ _ _ hf hW hS dX11_state_40
      · have hf := of_f c_9 hf
        refine lv_aload_n hx hb dX11_state_30 rfl (lv_at hl 0 rfl) ?_
        refine get_X11_58 hx hb hts in_X11_state_X11 hown hK hz hW lk_X11_state_1 dX11_state_31 ?_
        refine lv_iload_n hx hb dX11_state_34 rfl (lv_at hl 2 rfl) ?_
        obtain ⟨g_10, hf⟩ := of_gd hf
        refine ld_M24 hx hb hK hz hW g_10 dX11_state_35 ?_
        refine lv_topi (fun v_11 ev_11 => ?_)
        have hf := of_lt ev_11 hf
        refine lv_goto (tgt := 40) hx hb dX11_state_36 (by decide) ?_
        exact hret _ _ _ _ _ _ hf hW hS dX11_state_40
    · have hf := of_t c_3 hf
      refine lv_iconst (v := (-1)) hx hb dX11_state_9 (by decide) ?_
      exact hret _ _ _ _ _ _ hf hW hS dX11_state_10
  exact START _ _ hW va_S.rf
theorem in_X11_best_X11 : ∀ w ∈ wsX110, w ∈ wsX11_best := by decide +kernel
theorem lk_X11_best_0 : Cond.fieldLink RX11 312 "CamStitchModel" "leftMany" "I" ∈ wsX11_best := by decide +kernel
set_option maxHeartbeats 4000000 in
set_option maxRecDepth 100000 in
theorem c_X11_best (l : Launch) {z : LZ} (hz : IM z) (x1 : Int32) (w : Mem) {r : Int32} {w' : Mem} (hf : f_X11_best x1 w = some (r, w')) : Met l yX11_best wsX11_best (rm 4 96) (PZ z w [.ref (z.2.1 0), .int x1]) (QW z (some (.int r)) w') 0 0 (az z) := by
  refine mk_Wi (cc := cX11_best) (maxL := 3) (by decide +kernel) rfl (Nat.le_of_ble_eq_true rfl) ?_
  intro p e s m args below meth c hx hb hml hts hown hK hW Q hret ls hl
  have hl : lv_has ls 3 [(0, .ref (z.2.1 0)), (1, .int x1)] := hl
  unfold f_X11_best at hf
  have START : ∀ (H : Heap) (locs : List Loc), hd z w H → va_S (az z) s.heap H locs → W p l e (rm 4 96) s m args below meth c H locs 0 0 Q (F0 m 0 ls []) := by
    intro H locs hW hS
    refine lv_iload_n hx hb dX11_best_0 rfl (lv_at hl 1 rfl) ?_
    refine lv_iconst (v := 0) hx hb dX11_best_1 (by decide) ?_
    refine lv_iconst (v := 4) hx hb dX11_best_2 (by decide) ?_
    obtain ⟨r_1, hq_2, hf⟩ := of_bd hf
    refine m_goRi (va_runS (As := [.int x1, .int 0, .int 4]) (rest := []) ⟨hx, hb, hml, hown, hts⟩ (c_X11_in l hz x1 0 4 w hq_2) (va_cwS 3 hts gX11_best_X11_in rfl rfl rfl (by decide +kernel) ⟨Nat.le_of_ble_eq_true rfl, Nat.le_of_ble_eq_true rfl⟩) (m_preS hK hW _) rfl rfl hl.1 rfl (lv_room (Nat.le_of_ble_eq_true rfl)) dX11_best_3 ⟨Nat.le_refl _, Nat.le_refl _⟩) ?_
    refine lv_if_ne (tgt := 11) hx hb dX11_best_6 (by decide) (fun c_3 => ?_) (fun c_3 => ?_)
    · have hf := of_f c_3 hf
      refine lv_aload_n hx hb dX11_best_11 rfl (lv_at hl 0 rfl) ?_
      refine lv_iload_n hx hb dX11_best_12 rfl (lv_at hl 1 rfl) ?_
      obtain ⟨w_6, hq_5, hf⟩ := of_bd hf
      refine m_goWv (va_runV (As := [.int x1]) (rest := []) ⟨hx, hb, hml, hown, hts⟩ (c_X11_lefts l hz x1 w hq_5) (cwV 1 hts gX11_best_X11_lefts rfl rfl rfl (by decide +kernel) ⟨Nat.le_of_ble_eq_true rfl, Nat.le_of_ble_eq_true rfl⟩) (pre_X11 hK hz hW _) rfl rfl hl.1 rfl (lv_room (Nat.le_of_ble_eq_true rfl)) dX11_best_13 ⟨Nat.le_refl _, Nat.le_refl _⟩) hS (fun H locs hW hS => ?_)
      refine lv_aload_n hx hb dX11_best_16 rfl (lv_at hl 0 rfl) ?_
      refine get_X11_59 hx hb hts in_X11_best_X11 hown hK hz hW lk_X11_best_0 dX11_best_17 ?_
      refine lv_iconst (v := 2) hx hb dX11_best_20 (by decide) ?_
      refine lv_icmp_ge (tgt := 28) hx hb dX11_best_21 (by decide) (fun c_7 => ?_) (fun c_7 => ?_)
      · have hf := of_t c_7 hf
        refine lv_aload_n hx hb dX11_best_28 rfl (lv_at hl 0 rfl) ?_
        obtain ⟨r_8, w_10, hq_9, hf⟩ := of_b2 hf
        refine m_goWi (va_runV (As := []) (rest := []) ⟨hx, hb, hml, hown, hts⟩ (c_X11_bestOf l hz w_6 hq_9) (cwV 0 hts gX11_best_X11_bestOf rfl rfl rfl (by decide +kernel) ⟨Nat.le_of_ble_eq_true rfl, Nat.le_of_ble_eq_true rfl⟩) (pre_X11 hK hz hW _) rfl rfl hl.1 rfl (lv_room (Nat.le_of_ble_eq_true rfl)) dX11_best_29 ⟨Nat.le_refl _, Nat.le_refl _⟩) hS (fun H locs hW hS => ?_)
        refine lv_istore_n (lv' := [(2, .int r_8), (0, .ref (z.2.1 0)), (1, .int x1)]) hx hb dX11_best_32 rfl hl (by decide) rfl (fun ls hl => ?_)
        refine lv_iload_n hx hb dX11_best_33 rfl (lv_at hl 0 rfl) ?_
        refine lv_iconst (v := (-1)) hx hb dX11_best_34 (by decide) ?_
        have J_12 : ∀ (v_11 : Int32) (ls : Array Slot), v_11 = (if r_8 = (-1) then (-4) else r_8) → lv_has ls 3 [] → W p l e (rm 4 96) s m args below meth c H locs 0 0 Q (F0 m 44 ls [.int v_11]) := by
          intro v_11 ls ev_11 hl
          have hf := of_lt ev_11 hf
          exact hret _ _ _ _ _ _ hf hW hS dX11_best_44
        refine lv_icmp_ne (tgt := 43) hx hb dX11_best_35 (by decide) (fun c_13 => ?_) (fun c_13 => ?_)
        · refine lv_iload_n hx hb dX11_best_43 rfl (lv_at hl 0 rfl) ?_
          exact J_12 _ _ (by rw [if_neg c_13]) (lv_sub hl [] rfl)
        · refine lv_bipush (v := (-4)) hx hb dX11_best_38 (by decide) ?_
          refine lv_goto (tgt := 44) hx hb dX11_best_40 (by decide) ?_
          exact J_12 _ _ (by rw [if_pos c_13]) (lv_sub hl [] rfl)
      · have hf := of_f c_7 hf
        refine lv_iconst (v := (-1)) hx hb dX11_best_24 (by decide) ?_
        refine lv_goto (tgt := 32) hx hb dX11_best_25 (by decide) ?_
        refine lv_istore_n (lv' := [(2, .int (-1)), (0, .ref (z.2.1 0)), (1, .int x1)]) hx hb dX11_best_32 rfl hl (by decide) rfl (fun ls hl => ?_)
        refine lv_iload_n hx hb dX11_best_33 rfl (lv_at hl 0 rfl) ?_
        refine lv_iconst (v := (-1)) hx hb dX11_best_34 (by decide) ?_
        have J_15 : ∀ (v_14 : Int32) (ls : Array Slot), v_14 = (if ((-1) : Int32) = (-1) then (-4) else (-1)) → lv_has ls 3 [] → W p l e (rm 4 96) s m args below meth c H locs 0 0 Q (F0 m 44 ls [.int v_14]) := by
          intro v_14 ls ev_14 hl
          have hf := of_lt ev_14 hf
          exact hret _ _ _ _ _ _ hf hW hS dX11_best_44
        refine lv_icmp_ne (tgt := 43) hx hb dX11_best_35 (by decide) (fun c_16 => ?_) (fun c_16 => ?_)
        · refine lv_iload_n hx hb dX11_best_43 rfl (lv_at hl 0 rfl) ?_
          exact J_15 _ _ (by rw [if_neg c_16]) (lv_sub hl [] rfl)
        · refine lv_bipush (v := (-4)) hx hb dX11_best_38 (by decide) ?_
          refine lv_goto (tgt := 44) hx hb dX11_best_40 (by decide) ?_
          exact J_15 _ _ (by rw [if_pos c_16]) (lv_sub hl [] rfl)
    · have hf := of_t c_3 hf
      refine lv_iconst (v := (-1)) hx hb dX11_best_9 (by decide) ?_
      exact hret _ _ _ _ _ _ hf hW hS dX11_best_10
  exact START _ _ hW va_S.rf
set_option maxHeartbeats 4000000 in
set_option maxRecDepth 100000 in
theorem c_X11_share (l : Launch) {z : LZ} (hz : IM z) (x1 : Int32) (x2 : Int32) (w : Mem) {r : Int32} {w' : Mem} (hf : f_X11_share x1 x2 w = some (r, w')) : Met l yX11_share wsX11_share (rm 3 72) (PZ z w [.ref (z.2.1 0), .int x1, .int x2]) (QW z (some (.int r)) w') 0 0 (az z) := by
  refine mk_Wi (cc := cX11_share) (maxL := 3) (by decide +kernel) rfl (Nat.le_of_ble_eq_true rfl) ?_
  intro p e s m args below meth c hx hb hml hts hown hK hW Q hret ls hl
  have hl : lv_has ls 3 [(0, .ref (z.2.1 0)), (1, .int x1), (2, .int x2)] := hl
  unfold f_X11_share at hf
  have START : ∀ (H : Heap) (locs : List Loc), hd z w H → va_S (az z) s.heap H locs → W p l e (rm 3 72) s m args below meth c H locs 0 0 Q (F0 m 0 ls []) := by
    intro H locs hW hS
    refine lv_iload_n hx hb dX11_share_0 rfl (lv_at hl 1 rfl) ?_
    refine lv_iconst (v := 0) hx hb dX11_share_1 (by decide) ?_
    refine lv_iconst (v := 4) hx hb dX11_share_2 (by decide) ?_
    obtain ⟨r_1, hq_2, hf⟩ := of_bd hf
    refine m_goRi (va_runS (As := [.int x1, .int 0, .int 4]) (rest := []) ⟨hx, hb, hml, hown, hts⟩ (c_X11_in l hz x1 0 4 w hq_2) (va_cwS 3 hts gX11_share_X11_in rfl rfl rfl (by decide +kernel) ⟨Nat.le_of_ble_eq_true rfl, Nat.le_of_ble_eq_true rfl⟩) (m_preS hK hW _) rfl rfl hl.1 rfl (lv_room (Nat.le_of_ble_eq_true rfl)) dX11_share_3 ⟨Nat.le_refl _, Nat.le_refl _⟩) ?_
    refine lv_if_eq (tgt := 20) hx hb dX11_share_6 (by decide) (fun c_3 => ?_) (fun c_3 => ?_)
    · have hf := of_t c_3 hf
      refine lv_iconst (v := (-1)) hx hb dX11_share_20 (by decide) ?_
      exact hret _ _ _ _ _ _ hf hW hS dX11_share_21
    · have hf := of_f c_3 hf
      refine lv_iload_n hx hb dX11_share_9 rfl (lv_at hl 2 rfl) ?_
      refine lv_iconst (v := 0) hx hb dX11_share_10 (by decide) ?_
      refine lv_sipush (v := 324) hx hb dX11_share_11 (by decide) ?_
      obtain ⟨r_4, hq_5, hf⟩ := of_bd hf
      refine m_goRi (va_runS (As := [.int x2, .int 0, .int 324]) (rest := []) ⟨hx, hb, hml, hown, hts⟩ (c_X11_in l hz x2 0 324 w hq_5) (va_cwS 3 hts gX11_share_X11_in rfl rfl rfl (by decide +kernel) ⟨Nat.le_of_ble_eq_true rfl, Nat.le_of_ble_eq_true rfl⟩) (m_preS hK hW _) rfl rfl hl.1 rfl (lv_room (Nat.le_of_ble_eq_true rfl)) dX11_share_14 ⟨Nat.le_refl _, Nat.le_refl _⟩) ?_
      refine lv_if_ne (tgt := 22) hx hb dX11_share_17 (by decide) (fun c_6 => ?_) (fun c_6 => ?_)
      · have hf := of_f c_6 hf
        refine lv_aload_n hx hb dX11_share_22 rfl (lv_at hl 0 rfl) ?_
        refine lv_iload_n hx hb dX11_share_23 rfl (lv_at hl 1 rfl) ?_
        obtain ⟨w_9, hq_8, hf⟩ := of_bd hf
        refine m_goWv (va_runV (As := [.int x1]) (rest := []) ⟨hx, hb, hml, hown, hts⟩ (c_X11_lefts l hz x1 w hq_8) (cwV 1 hts gX11_share_X11_lefts rfl rfl rfl (by decide +kernel) ⟨Nat.le_of_ble_eq_true rfl, Nat.le_of_ble_eq_true rfl⟩) (pre_X11 hK hz hW _) rfl rfl hl.1 rfl (lv_room (Nat.le_of_ble_eq_true rfl)) dX11_share_24 ⟨Nat.le_refl _, Nat.le_refl _⟩) hS (fun H locs hW hS => ?_)
        refine lv_aload_n hx hb dX11_share_27 rfl (lv_at hl 0 rfl) ?_
        refine lv_iload_n hx hb dX11_share_28 rfl (lv_at hl 2 rfl) ?_
        obtain ⟨r_10, w_12, hq_11, hf⟩ := of_b2 hf
        refine m_goWi (va_runV (As := [.int x2]) (rest := []) ⟨hx, hb, hml, hown, hts⟩ (c_X11_shareOf l hz x2 w_9 hq_11) (cwV 1 hts gX11_share_X11_shareOf rfl rfl rfl (by decide +kernel) ⟨Nat.le_of_ble_eq_true rfl, Nat.le_of_ble_eq_true rfl⟩) (pre_X11 hK hz hW _) rfl rfl hl.1 rfl (lv_room (Nat.le_of_ble_eq_true rfl)) dX11_share_29 ⟨Nat.le_refl _, Nat.le_refl _⟩) hS (fun H locs hW hS => ?_)
        exact hret _ _ _ _ _ _ hf hW hS dX11_share_32
      · have hf := of_t c_6 hf
        refine lv_iconst (v := (-1)) hx hb dX11_share_20 (by decide) ?_
        exact hret _ _ _ _ _ _ hf hW hS dX11_share_21
  exact START _ _ hW va_S.rf
theorem in_X11_hunt_X11 : ∀ w ∈ wsX110, w ∈ wsX11_hunt := by decide +kernel
theorem lk_X11_hunt_0 : Cond.fieldLink RX11 312 "CamStitchModel" "leftMany" "I" ∈ wsX11_hunt := by decide +kernel
theorem lk_X11_hunt_1 : Cond.fieldLink RX11 94 "CamStitchModel" "leftState" "[I" ∈ wsX11_hunt := by decide +kernel
set_option maxHeartbeats 4000000 in
set_option maxRecDepth 100000 in
theorem c_X11_hunt (l : Launch) {z : LZ} (hz : IM z) (x1 : Int32) (x2 : Int32) (x3 : Int32) (w : Mem) {r : Int32} {w' : Mem} (hf : f_X11_hunt x1 x2 x3 w = some (r, w')) : Met l yX11_hunt wsX11_hunt (rm 4 96) (PZ z w [.ref (z.2.1 0), .int x1, .int x2, .int x3]) (QW z (some (.int r)) w') 0 0 (az z) := by
  refine mk_Wi (cc := cX11_hunt) (maxL := 10) (by decide +kernel) rfl (Nat.le_of_ble_eq_true rfl) ?_
  intro p e s m args below meth c hx hb hml hts hown hK hW Q hret ls hl
  have hl : lv_has ls 10 [(0, .ref (z.2.1 0)), (1, .int x1), (2, .int x2), (3, .int x3)] := hl
  unfold f_X11_hunt at hf
  have START : ∀ (H : Heap) (locs : List Loc), hd z w H → va_S (az z) s.heap H locs → W p l e (rm 4 96) s m args below meth c H locs 0 0 Q (F0 m 0 ls []) := by
    intro H locs hW hS
    refine lv_iload_n hx hb dX11_hunt_0 rfl (lv_at hl 1 rfl) ?_
    refine lv_iconst (v := 0) hx hb dX11_hunt_1 (by decide) ?_
    refine lv_sipush (v := 2771) hx hb dX11_hunt_2 (by decide) ?_
    obtain ⟨r_1, hq_2, hf⟩ := of_bd hf
    refine m_goRi (va_runS (As := [.int x1, .int 0, .int 2771]) (rest := []) ⟨hx, hb, hml, hown, hts⟩ (c_X11_in l hz x1 0 2771 w hq_2) (va_cwS 3 hts gX11_hunt_X11_in rfl rfl rfl (by decide +kernel) ⟨Nat.le_of_ble_eq_true rfl, Nat.le_of_ble_eq_true rfl⟩) (m_preS hK hW _) rfl rfl hl.1 rfl (lv_room (Nat.le_of_ble_eq_true rfl)) dX11_hunt_5 ⟨Nat.le_refl _, Nat.le_refl _⟩) ?_
    refine lv_if_eq (tgt := 29) hx hb dX11_hunt_8 (by decide) (fun c_3 => ?_) (fun c_3 => ?_)
    · have hf := of_t c_3 hf
      refine lv_iconst (v := (-1)) hx hb dX11_hunt_29 (by decide) ?_
      exact hret _ _ _ _ _ _ hf hW hS dX11_hunt_30
    · have hf := of_f c_3 hf
      refine lv_iload_n hx hb dX11_hunt_11 rfl (lv_at hl 2 rfl) ?_
      refine lv_iconst (v := 0) hx hb dX11_hunt_12 (by decide) ?_
      refine lv_iconst (v := 4) hx hb dX11_hunt_13 (by decide) ?_
      obtain ⟨r_4, hq_5, hf⟩ := of_bd hf
      refine m_goRi (va_runS (As := [.int x2, .int 0, .int 4]) (rest := []) ⟨hx, hb, hml, hown, hts⟩ (c_X11_in l hz x2 0 4 w hq_5) (va_cwS 3 hts gX11_hunt_X11_in rfl rfl rfl (by decide +kernel) ⟨Nat.le_of_ble_eq_true rfl, Nat.le_of_ble_eq_true rfl⟩) (m_preS hK hW _) rfl rfl hl.1 rfl (lv_room (Nat.le_of_ble_eq_true rfl)) dX11_hunt_14 ⟨Nat.le_refl _, Nat.le_refl _⟩) ?_
      refine lv_if_eq (tgt := 29) hx hb dX11_hunt_17 (by decide) (fun c_6 => ?_) (fun c_6 => ?_)
      · have hf := of_t c_6 hf
        refine lv_iconst (v := (-1)) hx hb dX11_hunt_29 (by decide) ?_
        exact hret _ _ _ _ _ _ hf hW hS dX11_hunt_30
      · have hf := of_f c_6 hf
        refine lv_iload_n hx hb dX11_hunt_20 rfl (lv_at hl 3 rfl) ?_
        refine lv_iconst (v := 0) hx hb dX11_hunt_21 (by decide) ?_
        refine lv_iconst (v := 3) hx hb dX11_hunt_22 (by decide) ?_
        obtain ⟨r_7, hq_8, hf⟩ := of_bd hf
        refine m_goRi (va_runS (As := [.int x3, .int 0, .int 3]) (rest := []) ⟨hx, hb, hml, hown, hts⟩ (c_X11_in l hz x3 0 3 w hq_8) (va_cwS 3 hts gX11_hunt_X11_in rfl rfl rfl (by decide +kernel) ⟨Nat.le_of_ble_eq_true rfl, Nat.le_of_ble_eq_true rfl⟩) (m_preS hK hW _) rfl rfl hl.1 rfl (lv_room (Nat.le_of_ble_eq_true rfl)) dX11_hunt_23 ⟨Nat.le_refl _, Nat.le_refl _⟩) ?_
        refine lv_if_ne (tgt := 31) hx hb dX11_hunt_26 (by decide) (fun c_9 => ?_) (fun c_9 => ?_)
        · have hf := of_f c_9 hf
          refine lv_aload_n hx hb dX11_hunt_31 rfl (lv_at hl 0 rfl) ?_
          refine lv_iconst (v := 0) hx hb dX11_hunt_32 (by decide) ?_
          refine put_X11_59 hx hb hts in_X11_hunt_X11 hown hK hz hW hS lk_X11_hunt_0 dX11_hunt_33 (fun H locs hW hS => ?_)
          obtain ⟨w_10, ew_10⟩ : ∃ y : Mem, y = mS w 0 59 0 := ⟨_, rfl⟩
          have hW : hd z w_10 H := by rw [ew_10]; exact hW
          have hf := of_lt ew_10 hf
          refine lv_iconst (v := 0) hx hb dX11_hunt_36 (by decide) ?_
          refine lv_istore (lv' := [(4, .int 0), (0, .ref (z.2.1 0)), (1, .int x1), (2, .int x2), (3, .int x3)]) hx hb dX11_hunt_37 hl (by decide) rfl (fun ls hl => ?_)
          have L_13 : ∀ (n : Nat) (x4_11 : Int32) (w_12 : Mem) (exL_13 : Mem) (H : Heap) (locs : List Loc) (ls : Array Slot), f_X11_hunt_L39 x2 n x4_11 w_12 = some exL_13 → hd z w_12 H → va_S (az z) s.heap H locs → lv_has ls 10 [(0, .ref (z.2.1 0)), (1, .int x1), (2, .int x2), (3, .int x3), (4, .int x4_11)] → (∀ (H : Heap) (locs : List Loc) (ls : Array Slot), hd z (exL_13) H → va_S (az z) s.heap H locs → lv_has ls 10 [(0, .ref (z.2.1 0)), (1, .int x1), (3, .int x3)] → W p l e (rm 4 96) s m args below meth c H locs 0 0 Q (F0 m 83 ls [])) → W p l e (rm 4 96) s m args below meth c H locs 0 0 Q (F0 m 39 ls []) := by
            intro n
            induction n with
            | zero =>
              intro x4_11 w_12 exL_13 H locs ls hf
              have hf : (none : Option (Mem)) = some exL_13 := hf
              cases hf
            | succ n ihL_13 =>
              intro x4_11 w_12 exL_13 H locs ls hf hW hS hl hEL_13
              rw [f_X11_hunt_L39_s] at hf
              refine lv_iload hx hb dX11_hunt_39 (lv_at hl 4 rfl) ?_
              refine lv_sipush (v := 2772) hx hb dX11_hunt_41 (by decide) ?_
              refine lv_icmp_ge (tgt := 83) hx hb dX11_hunt_44 (by decide) (fun c_14 => ?_) (fun c_14 => ?_)
              · have hf := of_t c_14 hf
                have hf := Option.some.inj hf
                subst hf
                exact hEL_13 _ _ _ hW hS (lv_sub hl [0, 1, 3] rfl)
              · have hf := of_f c_14 hf
                refine lv_iload hx hb dX11_hunt_47 (lv_at hl 4 rfl) ?_
                obtain ⟨r_15, hq_16, hf⟩ := of_bd hf
                refine m_goRi (va_runS (As := [.int x4_11]) (rest := []) ⟨hx, hb, hml, hown, hts⟩ (c_X11_causes l hz x4_11 w_12 hq_16) (va_cwS 1 hts gX11_hunt_X11_causes rfl rfl rfl (by decide +kernel) ⟨Nat.le_of_ble_eq_true rfl, Nat.le_of_ble_eq_true rfl⟩) (m_preS hK hW _) rfl rfl hl.1 rfl (lv_room (Nat.le_of_ble_eq_true rfl)) dX11_hunt_49 ⟨Nat.le_refl _, Nat.le_refl _⟩) ?_
                refine lv_iload_n hx hb dX11_hunt_52 rfl (lv_at hl 2 rfl) ?_
                refine lv_icmp_gt (tgt := 77) hx hb dX11_hunt_53 (by decide) (fun c_17 => ?_) (fun c_17 => ?_)
                · have hf := of_t c_17 hf
                  obtain ⟨x4_18, ex4_18⟩ : ∃ y : Int32, y = x4_11 + 1 := ⟨_, rfl⟩
                  have hf := of_lt ex4_18 hf
                  refine lv_iinc (v := x4_18) (lv' := [(4, .int x4_18), (0, .ref (z.2.1 0)), (1, .int x1), (2, .int x2), (3, .int x3)]) hx hb dX11_hunt_77 hl (k := 4) rfl (by rw [ex4_18]; rfl) (by decide) rfl (fun ls hl => ?_)
                  refine lv_goto (tgt := 39) hx hb dX11_hunt_80 (by decide) ?_
                  exact ihL_13 _ _ _ _ _ _ hf hW hS (lv_sub hl [1, 2, 3, 4, 0] rfl) hEL_13
                · have hf := of_f c_17 hf
                  refine lv_aload_n hx hb dX11_hunt_56 rfl (lv_at hl 0 rfl) ?_
                  refine get_X11_58 hx hb hts in_X11_hunt_X11 hown hK hz hW lk_X11_hunt_1 dX11_hunt_57 ?_
                  refine lv_aload_n hx hb dX11_hunt_60 rfl (lv_at hl 0 rfl) ?_
                  refine get_X11_59 hx hb hts in_X11_hunt_X11 hown hK hz hW lk_X11_hunt_0 dX11_hunt_61 ?_
                  refine lv_iload hx hb dX11_hunt_64 (lv_at hl 4 rfl) ?_
                  obtain ⟨g_19, hf⟩ := of_gd hf
                  refine st_M24 hx hb hK hz hW hS g_19 dX11_hunt_66 (fun H locs hW hS => ?_)
                  obtain ⟨w_20, ew_20⟩ : ∃ y : Mem, y = mS w_12 24 ((w_12.1 0 59).toNatClampNeg) x4_11 := ⟨_, rfl⟩
                  have hW : hd z w_20 H := by rw [ew_20]; exact hW
                  have hf := of_lt ew_20 hf
                  refine lv_aload_n hx hb dX11_hunt_67 rfl (lv_at hl 0 rfl) ?_
                  refine lv_dup hx hb dX11_hunt_68 rfl ?_
                  refine get_X11_59 hx hb hts in_X11_hunt_X11 hown hK hz hW lk_X11_hunt_0 dX11_hunt_69 ?_
                  refine lv_iconst (v := 1) hx hb dX11_hunt_72 (by decide) ?_
                  refine lv_iadd hx hb dX11_hunt_73 ?_
                  refine put_X11_59 hx hb hts in_X11_hunt_X11 hown hK hz hW hS lk_X11_hunt_0 dX11_hunt_74 (fun H locs hW hS => ?_)
                  obtain ⟨w_21, ew_21⟩ : ∃ y : Mem, y = mS w_20 0 59 ((w_20.1 0 59) + 1) := ⟨_, rfl⟩
                  have hW : hd z w_21 H := by rw [ew_21]; exact hW
                  have hf := of_lt ew_21 hf
                  obtain ⟨x4_22, ex4_22⟩ : ∃ y : Int32, y = x4_11 + 1 := ⟨_, rfl⟩
                  have hf := of_lt ex4_22 hf
                  refine lv_iinc (v := x4_22) (lv' := [(4, .int x4_22), (0, .ref (z.2.1 0)), (1, .int x1), (2, .int x2), (3, .int x3)]) hx hb dX11_hunt_77 hl (k := 4) rfl (by rw [ex4_22]; rfl) (by decide) rfl (fun ls hl => ?_)
                  refine lv_goto (tgt := 39) hx hb dX11_hunt_80 (by decide) ?_
                  exact ihL_13 _ _ _ _ _ _ hf hW hS (lv_sub hl [1, 2, 3, 4, 0] rfl) hEL_13
          obtain ⟨ex_24, hq_23, hf⟩ := of_bd hf
          obtain ⟨w_25, ew_25⟩ : ∃ y, y = ex_24 := ⟨_, rfl⟩
          rw [← ew_25] at hf
          rw [← ew_25] at hq_23
          refine L_13 FU _ _ _ _ _ _ hq_23 hW hS (lv_sub hl [1, 2, 3, 4, 0] rfl) (fun H locs ls hW hS hl => ?_)
          have hW : hd z w_25 H := hW
          have hl : lv_has ls 10 [(0, .ref (z.2.1 0)), (1, .int x1), (3, .int x3)] := hl
          refine lv_iconst (v := 0) hx hb dX11_hunt_83 (by decide) ?_
          refine lv_istore (lv' := [(4, .int 0), (0, .ref (z.2.1 0)), (1, .int x1), (3, .int x3)]) hx hb dX11_hunt_84 hl (by decide) rfl (fun ls hl => ?_)
          refine lv_bipush (v := (-2)) hx hb dX11_hunt_86 (by decide) ?_
          refine lv_istore (lv' := [(5, .int (-2)), (4, .int 0), (0, .ref (z.2.1 0)), (1, .int x1), (3, .int x3)]) hx hb dX11_hunt_88 hl (by decide) rfl (fun ls hl => ?_)
          refine lv_aload_n hx hb dX11_hunt_90 rfl (lv_at hl 2 rfl) ?_
          refine get_X11_59 hx hb hts in_X11_hunt_X11 hown hK hz hW lk_X11_hunt_0 dX11_hunt_91 ?_
          refine lv_iconst (v := 1) hx hb dX11_hunt_94 (by decide) ?_
          obtain ⟨k_26, ek_26, hf⟩ := of_lz hf
          have Jk_26 : ∀ (t_27 : Int32) (w_28 : Mem) (H : Heap) (locs : List Loc) (ls : Array Slot), k_26 t_27 w_28 = some (r, w') → hd z w_28 H → va_S (az z) s.heap H locs → lv_has ls 10 [(0, .ref (z.2.1 0)), (1, .int x1), (3, .int x3), (4, .int 0), (5, .int (-2))] → W p l e (rm 4 96) s m args below meth c H locs 0 0 Q (F0 m 106 ls [.int t_27]) := by
            intro t_27 w_28 H locs ls hf hW hS hl
            have hf := of_j2 ek_26 hf
            refine lv_istore (lv' := [(6, .int t_27), (0, .ref (z.2.1 0)), (1, .int x1), (3, .int x3), (4, .int 0), (5, .int (-2))]) hx hb dX11_hunt_106 hl (by decide) rfl (fun ls hl => ?_)
            have L_33 : ∀ (n : Nat) (x4_29 : Int32) (x5_30 : Int32) (x6_31 : Int32) (w_32 : Mem) (exL_33 : Int32 × Int32 × Mem) (H : Heap) (locs : List Loc) (ls : Array Slot), f_X11_hunt_L108 x1 n x4_29 x5_30 x6_31 w_32 = some exL_33 → hd z w_32 H → va_S (az z) s.heap H locs → lv_has ls 10 [(0, .ref (z.2.1 0)), (1, .int x1), (3, .int x3), (4, .int x4_29), (5, .int x5_30), (6, .int x6_31)] → (∀ (H : Heap) (locs : List Loc) (ls : Array Slot), hd z (exL_33.2.2) H → va_S (az z) s.heap H locs → lv_has ls 10 [(0, .ref (z.2.1 0)), (1, .int x1), (3, .int x3), (4, .int exL_33.1), (5, .int exL_33.2.1)] → W p l e (rm 4 96) s m args below meth c H locs 0 0 Q (F0 m 218 ls [])) → W p l e (rm 4 96) s m args below meth c H locs 0 0 Q (F0 m 108 ls []) := by
              intro n
              induction n with
              | zero =>
                intro x4_29 x5_30 x6_31 w_32 exL_33 H locs ls hf
                have hf : (none : Option (Int32 × Int32 × Mem)) = some exL_33 := hf
                cases hf
              | succ n ihL_33 =>
                intro x4_29 x5_30 x6_31 w_32 exL_33 H locs ls hf hW hS hl hEL_33
                rw [f_X11_hunt_L108_s] at hf
                refine lv_iload hx hb dX11_hunt_108 (lv_at hl 5 rfl) ?_
                refine lv_iconst (v := (-1)) hx hb dX11_hunt_110 (by decide) ?_
                refine lv_icmp_eq (tgt := 218) hx hb dX11_hunt_111 (by decide) (fun c_34 => ?_) (fun c_34 => ?_)
                · have hf := of_t c_34 hf
                  have hf := Option.some.inj hf
                  subst hf
                  exact hEL_33 _ _ _ hW hS (lv_sub hl [0, 1, 2, 3, 4] rfl)
                · have hf := of_f c_34 hf
                  refine lv_iload hx hb dX11_hunt_114 (lv_at hl 3 rfl) ?_
                  refine lv_bipush (v := 20) hx hb dX11_hunt_116 (by decide) ?_
                  refine lv_icmp_ge (tgt := 218) hx hb dX11_hunt_118 (by decide) (fun c_35 => ?_) (fun c_35 => ?_)
                  · have hf := of_t c_35 hf
                    have hf := Option.some.inj hf
                    subst hf
                    exact hEL_33 _ _ _ hW hS (lv_sub hl [0, 1, 2, 3, 4] rfl)
                  · have hf := of_f c_35 hf
                    refine lv_iload_n hx hb dX11_hunt_121 rfl (lv_at hl 1 rfl) ?_
                    refine lv_iload hx hb dX11_hunt_122 (lv_at hl 5 rfl) ?_
                    obtain ⟨r_36, hq_37, hf⟩ := of_bd hf
                    refine m_goRi (va_runS (As := [.int x1, .int x6_31]) (rest := []) ⟨hx, hb, hml, hown, hts⟩ (c_X11_outcomeOf l hz x1 x6_31 w_32 hq_37) (va_cwS 2 hts gX11_hunt_X11_outcomeOf rfl rfl rfl (by decide +kernel) ⟨Nat.le_of_ble_eq_true rfl, Nat.le_of_ble_eq_true rfl⟩) (m_preS hK hW _) rfl rfl hl.1 rfl (lv_room (Nat.le_of_ble_eq_true rfl)) dX11_hunt_124 ⟨Nat.le_refl _, Nat.le_refl _⟩) ?_
                    refine lv_istore (lv' := [(7, .int r_36), (0, .ref (z.2.1 0)), (1, .int x1), (3, .int x3), (4, .int x4_29), (5, .int x5_30), (6, .int x6_31)]) hx hb dX11_hunt_127 hl (by decide) rfl (fun ls hl => ?_)
                    refine lv_iconst (v := 0) hx hb dX11_hunt_129 (by decide) ?_
                    refine lv_istore (lv' := [(8, .int 0), (7, .int r_36), (0, .ref (z.2.1 0)), (1, .int x1), (3, .int x3), (4, .int x4_29), (5, .int x5_30), (6, .int x6_31)]) hx hb dX11_hunt_130 hl (by decide) rfl (fun ls hl => ?_)
                    refine lv_iconst (v := 0) hx hb dX11_hunt_132 (by decide) ?_
                    refine lv_istore (lv' := [(9, .int 0), (8, .int 0), (7, .int r_36), (0, .ref (z.2.1 0)), (1, .int x1), (3, .int x3), (4, .int x4_29), (5, .int x5_30), (6, .int x6_31)]) hx hb dX11_hunt_133 hl (by decide) rfl (fun ls hl => ?_)
                    have L_41 : ∀ (n : Nat) (x8_38 : Int32) (x9_39 : Int32) (w_40 : Mem) (exL_41 : Int32 × Mem) (H : Heap) (locs : List Loc) (ls : Array Slot), f_X11_hunt_L135 x6_31 r_36 n x8_38 x9_39 w_40 = some exL_41 → hd z w_40 H → va_S (az z) s.heap H locs → lv_has ls 10 [(0, .ref (z.2.1 0)), (1, .int x1), (3, .int x3), (4, .int x4_29), (6, .int x6_31), (7, .int r_36), (8, .int x8_38), (9, .int x9_39)] → (∀ (H : Heap) (locs : List Loc) (ls : Array Slot), hd z (exL_41.2) H → va_S (az z) s.heap H locs → lv_has ls 10 [(0, .ref (z.2.1 0)), (1, .int x1), (3, .int x3), (4, .int x4_29), (6, .int x6_31), (8, .int exL_41.1)] → W p l e (rm 4 96) s m args below meth c H locs 0 0 Q (F0 m 184 ls [])) → W p l e (rm 4 96) s m args below meth c H locs 0 0 Q (F0 m 135 ls []) := by
                      intro n
                      induction n with
                      | zero =>
                        intro x8_38 x9_39 w_40 exL_41 H locs ls hf
                        have hf : (none : Option (Int32 × Mem)) = some exL_41 := hf
                        cases hf
                      | succ n ihL_41 =>
                        intro x8_38 x9_39 w_40 exL_41 H locs ls hf hW hS hl hEL_41
                        rw [f_X11_hunt_L135_s] at hf
                        refine lv_iload hx hb dX11_hunt_135 (lv_at hl 7 rfl) ?_
                        refine lv_aload_n hx hb dX11_hunt_137 rfl (lv_at hl 0 rfl) ?_
                        refine get_X11_59 hx hb hts in_X11_hunt_X11 hown hK hz hW lk_X11_hunt_0 dX11_hunt_138 ?_
                        refine lv_icmp_ge (tgt := 184) hx hb dX11_hunt_141 (by decide) (fun c_42 => ?_) (fun c_42 => ?_)
                        · have hf := of_t c_42 hf
                          have hf := Option.some.inj hf
                          subst hf
                          exact hEL_41 _ _ _ hW hS (lv_sub hl [0, 1, 2, 3, 4, 6] rfl)
                        · have hf := of_f c_42 hf
                          refine lv_aload_n hx hb dX11_hunt_144 rfl (lv_at hl 0 rfl) ?_
                          refine get_X11_58 hx hb hts in_X11_hunt_X11 hown hK hz hW lk_X11_hunt_1 dX11_hunt_145 ?_
                          refine lv_iload hx hb dX11_hunt_148 (lv_at hl 7 rfl) ?_
                          obtain ⟨g_43, hf⟩ := of_gd hf
                          refine ld_M24 hx hb hK hz hW g_43 dX11_hunt_150 ?_
                          refine lv_topi (fun v_44 ev_44 => ?_)
                          have hf := of_lt ev_44 hf
                          refine lv_iload hx hb dX11_hunt_151 (lv_at hl 4 rfl) ?_
                          obtain ⟨r_45, hq_46, hf⟩ := of_bd hf
                          refine m_goRi (va_runS (As := [.int v_44, .int x6_31]) (rest := []) ⟨hx, hb, hml, hown, hts⟩ (c_X11_outcomeOf l hz v_44 x6_31 w_40 hq_46) (va_cwS 2 hts gX11_hunt_X11_outcomeOf rfl rfl rfl (by decide +kernel) ⟨Nat.le_of_ble_eq_true rfl, Nat.le_of_ble_eq_true rfl⟩) (m_preS hK hW _) rfl rfl hl.1 rfl (lv_room (Nat.le_of_ble_eq_true rfl)) dX11_hunt_153 ⟨Nat.le_refl _, Nat.le_refl _⟩) ?_
                          refine lv_iload hx hb dX11_hunt_156 (lv_at hl 5 rfl) ?_
                          refine lv_icmp_ne (tgt := 178) hx hb dX11_hunt_158 (by decide) (fun c_47 => ?_) (fun c_47 => ?_)
                          · have hf := of_f c_47 hf
                            obtain ⟨x9_48, ex9_48⟩ : ∃ y : Int32, y = x9_39 + 1 := ⟨_, rfl⟩
                            have hf := of_lt ex9_48 hf
                            refine lv_iinc (v := x9_48) (lv' := [(9, .int x9_48), (0, .ref (z.2.1 0)), (1, .int x1), (3, .int x3), (4, .int x4_29), (6, .int x6_31), (7, .int r_36), (8, .int x8_38)]) hx hb dX11_hunt_178 hl (k := 7) rfl (by rw [ex9_48]; rfl) (by decide) rfl (fun ls hl => ?_)
                            refine lv_goto (tgt := 135) hx hb dX11_hunt_181 (by decide) ?_
                            exact ihL_41 _ _ _ _ _ _ _ hf hW hS (lv_sub hl [1, 2, 3, 4, 5, 6, 7, 0] rfl) hEL_41
                          · have hf := of_t c_47 hf
                            refine lv_aload_n hx hb dX11_hunt_161 rfl (lv_at hl 0 rfl) ?_
                            refine get_X11_58 hx hb hts in_X11_hunt_X11 hown hK hz hW lk_X11_hunt_1 dX11_hunt_162 ?_
                            refine lv_iload hx hb dX11_hunt_165 (lv_at hl 6 rfl) ?_
                            refine lv_aload_n hx hb dX11_hunt_167 rfl (lv_at hl 0 rfl) ?_
                            refine get_X11_58 hx hb hts in_X11_hunt_X11 hown hK hz hW lk_X11_hunt_1 dX11_hunt_168 ?_
                            refine lv_iload hx hb dX11_hunt_171 (lv_at hl 7 rfl) ?_
                            refine ld_M24 hx hb hK hz hW g_43 dX11_hunt_173 ?_
                            refine lv_topi (fun v_49 ev_49 => ?_)
                            have hf := of_lt ev_49 hf
                            obtain ⟨g_50, hf⟩ := of_gd hf
                            refine st_M24 hx hb hK hz hW hS g_50 dX11_hunt_174 (fun H locs hW hS => ?_)
                            obtain ⟨w_51, ew_51⟩ : ∃ y : Mem, y = mS w_40 24 x8_38.toNatClampNeg v_49 := ⟨_, rfl⟩
                            have hW : hd z w_51 H := by rw [ew_51]; exact hW
                            have hf := of_lt ew_51 hf
                            obtain ⟨x8_52, ex8_52⟩ : ∃ y : Int32, y = x8_38 + 1 := ⟨_, rfl⟩
                            have hf := of_lt ex8_52 hf
                            refine lv_iinc (v := x8_52) (lv' := [(8, .int x8_52), (0, .ref (z.2.1 0)), (1, .int x1), (3, .int x3), (4, .int x4_29), (6, .int x6_31), (7, .int r_36), (9, .int x9_39)]) hx hb dX11_hunt_175 hl (k := 6) rfl (by rw [ex8_52]; rfl) (by decide) rfl (fun ls hl => ?_)
                            obtain ⟨x9_53, ex9_53⟩ : ∃ y : Int32, y = x9_39 + 1 := ⟨_, rfl⟩
                            have hf := of_lt ex9_53 hf
                            refine lv_iinc (v := x9_53) (lv' := [(9, .int x9_53), (8, .int x8_52), (0, .ref (z.2.1 0)), (1, .int x1), (3, .int x3), (4, .int x4_29), (6, .int x6_31), (7, .int r_36)]) hx hb dX11_hunt_178 hl (k := 7) rfl (by rw [ex9_53]; rfl) (by decide) rfl (fun ls hl => ?_)
                            refine lv_goto (tgt := 135) hx hb dX11_hunt_181 (by decide) ?_
                            exact ihL_41 _ _ _ _ _ _ _ hf hW hS (lv_sub hl [2, 3, 4, 5, 6, 7, 1, 0] rfl) hEL_41
                    obtain ⟨ex_55, hq_54, hf⟩ := of_bd hf
                    obtain ⟨x8_56, w_57⟩ := ex_55
                    have hf := of_tp2 hf
                    refine L_41 FU _ _ _ _ _ _ _ hq_54 hW hS (lv_sub hl [3, 4, 5, 6, 8, 2, 1, 0] rfl) (fun H locs ls hW hS hl => ?_)
                    have hW : hd z w_57 H := hW
                    have hl : lv_has ls 10 [(0, .ref (z.2.1 0)), (1, .int x1), (3, .int x3), (4, .int x4_29), (6, .int x6_31), (8, .int x8_56)] := hl
                    refine lv_aload_n hx hb dX11_hunt_184 rfl (lv_at hl 0 rfl) ?_
                    refine lv_iload hx hb dX11_hunt_185 (lv_at hl 5 rfl) ?_
                    refine put_X11_59 hx hb hts in_X11_hunt_X11 hown hK hz hW hS lk_X11_hunt_0 dX11_hunt_187 (fun H locs hW hS => ?_)
                    obtain ⟨w_58, ew_58⟩ : ∃ y : Mem, y = mS w_57 0 59 x8_56 := ⟨_, rfl⟩
                    have hW : hd z w_58 H := by rw [ew_58]; exact hW
                    have hf := of_lt ew_58 hf
                    obtain ⟨x4_59, ex4_59⟩ : ∃ y : Int32, y = x4_29 + 1 := ⟨_, rfl⟩
                    have hf := of_lt ex4_59 hf
                    refine lv_iinc (v := x4_59) (lv' := [(4, .int x4_59), (0, .ref (z.2.1 0)), (1, .int x1), (3, .int x3), (6, .int x6_31), (8, .int x8_56)]) hx hb dX11_hunt_190 hl (k := 3) rfl (by rw [ex4_59]; rfl) (by decide) rfl (fun ls hl => ?_)
                    refine lv_iload hx hb dX11_hunt_193 (lv_at hl 4 rfl) ?_
                    refine lv_istore (lv' := [(5, .int x6_31), (4, .int x4_59), (0, .ref (z.2.1 0)), (1, .int x1), (3, .int x3), (6, .int x6_31), (8, .int x8_56)]) hx hb dX11_hunt_195 hl (by decide) rfl (fun ls hl => ?_)
                    refine lv_aload_n hx hb dX11_hunt_197 rfl (lv_at hl 2 rfl) ?_
                    refine get_X11_59 hx hb hts in_X11_hunt_X11 hown hK hz hW lk_X11_hunt_0 dX11_hunt_198 ?_
                    refine lv_iconst (v := 1) hx hb dX11_hunt_201 (by decide) ?_
                    refine lv_icmp_le (tgt := 212) hx hb dX11_hunt_202 (by decide) (fun c_60 => ?_) (fun c_60 => ?_)
                    · have hf := of_t c_60 hf
                      refine lv_iconst (v := (-1)) hx hb dX11_hunt_212 (by decide) ?_
                      refine lv_istore (lv' := [(6, .int (-1)), (5, .int x6_31), (4, .int x4_59), (0, .ref (z.2.1 0)), (1, .int x1), (3, .int x3), (8, .int x8_56)]) hx hb dX11_hunt_213 hl (by decide) rfl (fun ls hl => ?_)
                      refine lv_goto (tgt := 108) hx hb dX11_hunt_215 (by decide) ?_
                      exact ihL_33 _ _ _ _ _ _ _ _ hf hW hS (lv_sub hl [3, 4, 5, 2, 1, 0] rfl) hEL_33
                    · have hf := of_f c_60 hf
                      refine lv_aload_n hx hb dX11_hunt_205 rfl (lv_at hl 2 rfl) ?_
                      obtain ⟨r_61, w_63, hq_62, hf⟩ := of_b2 hf
                      refine m_goWi (va_runV (As := []) (rest := []) ⟨hx, hb, hml, hown, hts⟩ (c_X11_bestOf l hz w_58 hq_62) (cwV 0 hts gX11_hunt_X11_bestOf rfl rfl rfl (by decide +kernel) ⟨Nat.le_of_ble_eq_true rfl, Nat.le_of_ble_eq_true rfl⟩) (pre_X11 hK hz hW _) rfl rfl hl.1 rfl (lv_room (Nat.le_of_ble_eq_true rfl)) dX11_hunt_206 ⟨Nat.le_refl _, Nat.le_refl _⟩) hS (fun H locs hW hS => ?_)
                      refine lv_goto (tgt := 213) hx hb dX11_hunt_209 (by decide) ?_
                      refine lv_istore (lv' := [(6, .int r_61), (5, .int x6_31), (4, .int x4_59), (0, .ref (z.2.1 0)), (1, .int x1), (3, .int x3), (8, .int x8_56)]) hx hb dX11_hunt_213 hl (by decide) rfl (fun ls hl => ?_)
                      refine lv_goto (tgt := 108) hx hb dX11_hunt_215 (by decide) ?_
                      exact ihL_33 _ _ _ _ _ _ _ _ hf hW hS (lv_sub hl [3, 4, 5, 2, 1, 0] rfl) hEL_33
            obtain ⟨ex_65, hq_64, hf⟩ := of_bd hf
            obtain ⟨x4_66, x5_67, w_68⟩ := ex_65
            have hf := of_tp3 hf
            refine L_33 FU _ _ _ _ _ _ _ _ hq_64 hW hS (lv_sub hl [1, 2, 3, 4, 5, 0] rfl) (fun H locs ls hW hS hl => ?_)
            have hW : hd z w_68 H := hW
            have hl : lv_has ls 10 [(0, .ref (z.2.1 0)), (1, .int x1), (3, .int x3), (4, .int x4_66), (5, .int x5_67)] := hl
            refine lv_iconst (v := 0) hx hb dX11_hunt_218 (by decide) ?_
            refine lv_istore (lv' := [(7, .int 0), (0, .ref (z.2.1 0)), (1, .int x1), (3, .int x3), (4, .int x4_66), (5, .int x5_67)]) hx hb dX11_hunt_219 hl (by decide) rfl (fun ls hl => ?_)
            refine lv_iconst (v := 0) hx hb dX11_hunt_221 (by decide) ?_
            refine lv_istore (lv' := [(8, .int 0), (7, .int 0), (0, .ref (z.2.1 0)), (1, .int x1), (3, .int x3), (4, .int x4_66), (5, .int x5_67)]) hx hb dX11_hunt_222 hl (by decide) rfl (fun ls hl => ?_)
            have L_71 : ∀ (n : Nat) (x7_69 : Int32) (x8_70 : Int32) (exL_71 : Int32) (ls : Array Slot), f_X11_hunt_L224 x1 w_68 n x7_69 x8_70 = some exL_71 → lv_has ls 10 [(0, .ref (z.2.1 0)), (1, .int x1), (3, .int x3), (4, .int x4_66), (5, .int x5_67), (7, .int x7_69), (8, .int x8_70)] → (∀ (ls : Array Slot), lv_has ls 10 [(0, .ref (z.2.1 0)), (3, .int x3), (4, .int x4_66), (5, .int x5_67), (7, .int exL_71)] → W p l e (rm 4 96) s m args below meth c H locs 0 0 Q (F0 m 258 ls [])) → W p l e (rm 4 96) s m args below meth c H locs 0 0 Q (F0 m 224 ls []) := by
              intro n
              induction n with
              | zero =>
                intro x7_69 x8_70 exL_71 ls hf
                have hf : (none : Option (Int32)) = some exL_71 := hf
                cases hf
              | succ n ihL_71 =>
                intro x7_69 x8_70 exL_71 ls hf hl hEL_71
                rw [f_X11_hunt_L224_s] at hf
                refine lv_iload hx hb dX11_hunt_224 (lv_at hl 6 rfl) ?_
                refine lv_aload_n hx hb dX11_hunt_226 rfl (lv_at hl 0 rfl) ?_
                refine get_X11_59 hx hb hts in_X11_hunt_X11 hown hK hz hW lk_X11_hunt_0 dX11_hunt_227 ?_
                refine lv_icmp_ge (tgt := 258) hx hb dX11_hunt_230 (by decide) (fun c_72 => ?_) (fun c_72 => ?_)
                · have hf := of_t c_72 hf
                  have hf := Option.some.inj hf
                  subst hf
                  exact hEL_71 _ (lv_sub hl [0, 2, 3, 4, 5] rfl)
                · have hf := of_f c_72 hf
                  refine lv_aload_n hx hb dX11_hunt_233 rfl (lv_at hl 0 rfl) ?_
                  refine get_X11_58 hx hb hts in_X11_hunt_X11 hown hK hz hW lk_X11_hunt_1 dX11_hunt_234 ?_
                  refine lv_iload hx hb dX11_hunt_237 (lv_at hl 6 rfl) ?_
                  obtain ⟨g_73, hf⟩ := of_gd hf
                  refine ld_M24 hx hb hK hz hW g_73 dX11_hunt_239 ?_
                  refine lv_topi (fun v_74 ev_74 => ?_)
                  have hf := of_lt ev_74 hf
                  refine lv_iload_n hx hb dX11_hunt_240 rfl (lv_at hl 1 rfl) ?_
                  have J_76 : ∀ (v_75 : Int32) (ls : Array Slot), v_75 = (if v_74 = x1 then 1 else x7_69) → lv_has ls 10 [(0, .ref (z.2.1 0)), (1, .int x1), (3, .int x3), (4, .int x4_66), (5, .int x5_67), (8, .int x8_70)] → W p l e (rm 4 96) s m args below meth c H locs 0 0 Q (F0 m 250 ls [.int v_75]) := by
                    intro v_75 ls ev_75 hl
                    have hf := of_lt ev_75 hf
                    refine lv_istore (lv' := [(7, .int v_75), (0, .ref (z.2.1 0)), (1, .int x1), (3, .int x3), (4, .int x4_66), (5, .int x5_67), (8, .int x8_70)]) hx hb dX11_hunt_250 hl (by decide) rfl (fun ls hl => ?_)
                    obtain ⟨x8_77, ex8_77⟩ : ∃ y : Int32, y = x8_70 + 1 := ⟨_, rfl⟩
                    have hf := of_lt ex8_77 hf
                    refine lv_iinc (v := x8_77) (lv' := [(8, .int x8_77), (7, .int v_75), (0, .ref (z.2.1 0)), (1, .int x1), (3, .int x3), (4, .int x4_66), (5, .int x5_67)]) hx hb dX11_hunt_252 hl (k := 6) rfl (by rw [ex8_77]; rfl) (by decide) rfl (fun ls hl => ?_)
                    refine lv_goto (tgt := 224) hx hb dX11_hunt_255 (by decide) ?_
                    exact ihL_71 _ _ _ _ hf (lv_sub hl [2, 3, 4, 5, 6, 1, 0] rfl) hEL_71
                  refine lv_icmp_ne (tgt := 248) hx hb dX11_hunt_241 (by decide) (fun c_78 => ?_) (fun c_78 => ?_)
                  · refine lv_iload hx hb dX11_hunt_248 (lv_at hl 5 rfl) ?_
                    exact J_76 _ _ (by rw [if_neg c_78]) (lv_sub hl [0, 1, 2, 3, 4, 6] rfl)
                  · refine lv_iconst (v := 1) hx hb dX11_hunt_244 (by decide) ?_
                    refine lv_goto (tgt := 250) hx hb dX11_hunt_245 (by decide) ?_
                    exact J_76 _ _ (by rw [if_pos c_78]) (lv_sub hl [0, 1, 2, 3, 4, 6] rfl)
            obtain ⟨ex_80, hq_79, hf⟩ := of_bd hf
            obtain ⟨x7_81, ex7_81⟩ : ∃ y, y = ex_80 := ⟨_, rfl⟩
            rw [← ex7_81] at hf
            rw [← ex7_81] at hq_79
            refine L_71 FU _ _ _ _ hq_79 (lv_sub hl [2, 3, 4, 5, 6, 1, 0] rfl) (fun ls hl => ?_)
            have hl : lv_has ls 10 [(0, .ref (z.2.1 0)), (3, .int x3), (4, .int x4_66), (5, .int x5_67), (7, .int x7_81)] := hl
            refine lv_iload_n hx hb dX11_hunt_258 rfl (lv_at hl 1 rfl) ?_
            have J_83 : ∀ (v_82 : Int32) (ls : Array Slot), v_82 = (if x3 = 0 then x4_66 else (if x3 = 1 then (w_68.1 0 59) else (if x3 = 2 then x7_81 else x5_67))) → lv_has ls 10 [] → W p l e (rm 4 96) s m args below meth c H locs 0 0 Q (F0 m 291 ls [.int v_82]) := by
              intro v_82 ls ev_82 hl
              have hf := of_lt ev_82 hf
              exact hret _ _ _ _ _ _ hf hW hS dX11_hunt_291
            refine lv_if_ne (tgt := 267) hx hb dX11_hunt_259 (by decide) (fun c_84 => ?_) (fun c_84 => ?_)
            · refine lv_iload_n hx hb dX11_hunt_267 rfl (lv_at hl 1 rfl) ?_
              refine lv_iconst (v := 1) hx hb dX11_hunt_268 (by decide) ?_
              refine lv_icmp_ne (tgt := 279) hx hb dX11_hunt_269 (by decide) (fun c_85 => ?_) (fun c_85 => ?_)
              · refine lv_iload_n hx hb dX11_hunt_279 rfl (lv_at hl 1 rfl) ?_
                refine lv_iconst (v := 2) hx hb dX11_hunt_280 (by decide) ?_
                refine lv_icmp_ne (tgt := 289) hx hb dX11_hunt_281 (by decide) (fun c_86 => ?_) (fun c_86 => ?_)
                · refine lv_iload hx hb dX11_hunt_289 (lv_at hl 3 rfl) ?_
                  exact J_83 _ _ (by rw [if_neg c_84, if_neg c_85, if_neg c_86]) (lv_sub hl [] rfl)
                · refine lv_iload hx hb dX11_hunt_284 (lv_at hl 4 rfl) ?_
                  refine lv_goto (tgt := 291) hx hb dX11_hunt_286 (by decide) ?_
                  exact J_83 _ _ (by rw [if_neg c_84, if_neg c_85, if_pos c_86]) (lv_sub hl [] rfl)
              · refine lv_aload_n hx hb dX11_hunt_272 rfl (lv_at hl 0 rfl) ?_
                refine get_X11_59 hx hb hts in_X11_hunt_X11 hown hK hz hW lk_X11_hunt_0 dX11_hunt_273 ?_
                refine lv_goto (tgt := 291) hx hb dX11_hunt_276 (by decide) ?_
                exact J_83 _ _ (by rw [if_neg c_84, if_pos c_85]) (lv_sub hl [] rfl)
            · refine lv_iload hx hb dX11_hunt_262 (lv_at hl 2 rfl) ?_
              refine lv_goto (tgt := 291) hx hb dX11_hunt_264 (by decide) ?_
              exact J_83 _ _ (by rw [if_pos c_84]) (lv_sub hl [] rfl)
          refine lv_icmp_le (tgt := 105) hx hb dX11_hunt_95 (by decide) (fun c_87 => ?_) (fun c_87 => ?_)
          · have hf := of_t c_87 hf
            refine lv_iconst (v := (-1)) hx hb dX11_hunt_105 (by decide) ?_
            exact Jk_26 _ _ _ _ _ hf hW hS (lv_sub hl [2, 3, 4, 1, 0] rfl)
          · have hf := of_f c_87 hf
            refine lv_aload_n hx hb dX11_hunt_98 rfl (lv_at hl 2 rfl) ?_
            obtain ⟨r_88, w_90, hq_89, hf⟩ := of_b2 hf
            refine m_goWi (va_runV (As := []) (rest := []) ⟨hx, hb, hml, hown, hts⟩ (c_X11_bestOf l hz w_25 hq_89) (cwV 0 hts gX11_hunt_X11_bestOf rfl rfl rfl (by decide +kernel) ⟨Nat.le_of_ble_eq_true rfl, Nat.le_of_ble_eq_true rfl⟩) (pre_X11 hK hz hW _) rfl rfl hl.1 rfl (lv_room (Nat.le_of_ble_eq_true rfl)) dX11_hunt_99 ⟨Nat.le_refl _, Nat.le_refl _⟩) hS (fun H locs hW hS => ?_)
            refine lv_goto (tgt := 106) hx hb dX11_hunt_102 (by decide) ?_
            exact Jk_26 _ _ _ _ _ hf hW hS (lv_sub hl [2, 3, 4, 1, 0] rfl)
        · have hf := of_t c_9 hf
          refine lv_iconst (v := (-1)) hx hb dX11_hunt_29 (by decide) ?_
          exact hret _ _ _ _ _ _ hf hW hS dX11_hunt_30
  exact START _ _ hW va_S.rf
set_option maxHeartbeats 4000000 in
set_option maxRecDepth 100000 in
theorem c_X11_tape (l : Launch) {z : LZ} (hz : IM z) (x1 : Int32) (x2 : Int32) (x3 : Int32) (w : Mem) {r : Int32} {w' : Mem} (hf : f_X11_tape x1 x2 x3 w = some (r, w')) : Met l yX11_tape wsX11_tape (rm 2 42) (PZ z w [.ref (z.2.1 0), .int x1, .int x2, .int x3]) (QW z (some (.int r)) w') 0 0 (az z) := by
  refine mk_Wi (cc := cX11_tape) (maxL := 4) (by decide +kernel) rfl (Nat.le_of_ble_eq_true rfl) ?_
  intro p e s m args below meth c hx hb hml hts hown hK hW Q hret ls hl
  have hl : lv_has ls 4 [(0, .ref (z.2.1 0)), (1, .int x1), (2, .int x2), (3, .int x3)] := hl
  unfold f_X11_tape at hf
  have START : ∀ (H : Heap) (locs : List Loc), hd z w H → va_S (az z) s.heap H locs → W p l e (rm 2 42) s m args below meth c H locs 0 0 Q (F0 m 0 ls []) := by
    intro H locs hW hS
    refine lv_iload_n hx hb dX11_tape_0 rfl (lv_at hl 1 rfl) ?_
    obtain ⟨r_1, hq_2, hf⟩ := of_bd hf
    refine m_goRi (va_runS (As := [.int x1]) (rest := []) ⟨hx, hb, hml, hown, hts⟩ (c_X11_isTape l hz x1 w hq_2) (va_cwS 1 hts gX11_tape_X11_isTape rfl rfl rfl (by decide +kernel) ⟨Nat.le_of_ble_eq_true rfl, Nat.le_of_ble_eq_true rfl⟩) (m_preS hK hW _) rfl rfl hl.1 rfl (lv_room (Nat.le_of_ble_eq_true rfl)) dX11_tape_1 ⟨Nat.le_refl _, Nat.le_refl _⟩) ?_
    refine lv_if_eq (tgt := 23) hx hb dX11_tape_4 (by decide) (fun c_3 => ?_) (fun c_3 => ?_)
    · have hf := of_t c_3 hf
      refine lv_iconst (v := (-1)) hx hb dX11_tape_23 (by decide) ?_
      exact hret _ _ _ _ _ _ hf hW hS dX11_tape_24
    · have hf := of_f c_3 hf
      refine lv_iload_n hx hb dX11_tape_7 rfl (lv_at hl 2 rfl) ?_
      refine lv_iconst (v := 1) hx hb dX11_tape_8 (by decide) ?_
      refine lv_iconst (v := 4) hx hb dX11_tape_9 (by decide) ?_
      obtain ⟨r_4, hq_5, hf⟩ := of_bd hf
      refine m_goRi (va_runS (As := [.int x2, .int 1, .int 4]) (rest := []) ⟨hx, hb, hml, hown, hts⟩ (c_X11_in l hz x2 1 4 w hq_5) (va_cwS 3 hts gX11_tape_X11_in rfl rfl rfl (by decide +kernel) ⟨Nat.le_of_ble_eq_true rfl, Nat.le_of_ble_eq_true rfl⟩) (m_preS hK hW _) rfl rfl hl.1 rfl (lv_room (Nat.le_of_ble_eq_true rfl)) dX11_tape_10 ⟨Nat.le_refl _, Nat.le_refl _⟩) ?_
      refine lv_if_eq (tgt := 23) hx hb dX11_tape_13 (by decide) (fun c_6 => ?_) (fun c_6 => ?_)
      · have hf := of_t c_6 hf
        refine lv_iconst (v := (-1)) hx hb dX11_tape_23 (by decide) ?_
        exact hret _ _ _ _ _ _ hf hW hS dX11_tape_24
      · have hf := of_f c_6 hf
        refine lv_iload_n hx hb dX11_tape_16 rfl (lv_at hl 3 rfl) ?_
        refine lv_sipush (v := 400) hx hb dX11_tape_17 (by decide) ?_
        refine lv_icmp_le (tgt := 25) hx hb dX11_tape_20 (by decide) (fun c_7 => ?_) (fun c_7 => ?_)
        · have hf := of_t c_7 hf
          refine lv_iload_n hx hb dX11_tape_25 rfl (lv_at hl 3 rfl) ?_
          refine lv_if_ge (tgt := 36) hx hb dX11_tape_26 (by decide) (fun c_8 => ?_) (fun c_8 => ?_)
          · have hf := of_t c_8 hf
            refine lv_aload_n hx hb dX11_tape_36 rfl (lv_at hl 0 rfl) ?_
            refine lv_iload_n hx hb dX11_tape_37 rfl (lv_at hl 1 rfl) ?_
            refine lv_iload_n hx hb dX11_tape_38 rfl (lv_at hl 2 rfl) ?_
            refine lv_iload_n hx hb dX11_tape_39 rfl (lv_at hl 3 rfl) ?_
            obtain ⟨w_11, hq_10, hf⟩ := of_bd hf
            refine m_goWv (va_runV (As := [.int x1, .int x2, .int x3]) (rest := []) ⟨hx, hb, hml, hown, hts⟩ (c_X11_clears l hz x1 x2 x3 w hq_10) (cwV 3 hts gX11_tape_X11_clears rfl rfl rfl (by decide +kernel) ⟨Nat.le_of_ble_eq_true rfl, Nat.le_of_ble_eq_true rfl⟩) (pre_X11 hK hz hW _) rfl rfl hl.1 rfl (lv_room (Nat.le_of_ble_eq_true rfl)) dX11_tape_40 ⟨Nat.le_refl _, Nat.le_refl _⟩) hS (fun H locs hW hS => ?_)
            refine lv_iload_n hx hb dX11_tape_43 rfl (lv_at hl 3 rfl) ?_
            exact hret _ _ _ _ _ _ hf hW hS dX11_tape_44
          · have hf := of_f c_8 hf
            refine lv_aload_n hx hb dX11_tape_29 rfl (lv_at hl 0 rfl) ?_
            refine lv_bipush (v := (-14)) hx hb dX11_tape_30 (by decide) ?_
            obtain ⟨r_12, w_14, hq_13, hf⟩ := of_b2 hf
            refine m_goWi (va_runV (As := [.int (-14)]) (rest := []) ⟨hx, hb, hml, hown, hts⟩ (c_X11_refuse l hz (-14) w hq_13) (cwV 1 hts gX11_tape_X11_refuse rfl rfl rfl (by decide +kernel) ⟨Nat.le_of_ble_eq_true rfl, Nat.le_of_ble_eq_true rfl⟩) (pre_X11 hK hz hW _) rfl rfl hl.1 rfl (lv_room (Nat.le_of_ble_eq_true rfl)) dX11_tape_32 ⟨Nat.le_refl _, Nat.le_refl _⟩) hS (fun H locs hW hS => ?_)
            exact hret _ _ _ _ _ _ hf hW hS dX11_tape_35
        · have hf := of_f c_7 hf
          refine lv_iconst (v := (-1)) hx hb dX11_tape_23 (by decide) ?_
          exact hret _ _ _ _ _ _ hf hW hS dX11_tape_24
  exact START _ _ hW va_S.rf
theorem in_X11_keep_X11 : ∀ w ∈ wsX110, w ∈ wsX11_keep := by decide +kernel
theorem lk_X11_keep_0 : Cond.fieldLink RX11 16 "CamStitchModel" "many" "[I" ∈ wsX11_keep := by decide +kernel
theorem lk_X11_keep_1 : Cond.fieldLink RX11 66 "CamStitchModel" "sort" "[I" ∈ wsX11_keep := by decide +kernel
set_option maxHeartbeats 4000000 in
set_option maxRecDepth 100000 in
theorem c_X11_keep (l : Launch) {z : LZ} (hz : IM z) (x1 : Int32) (w : Mem) {r : Int32} {w' : Mem} (hf : f_X11_keep x1 w = some (r, w')) : Met l yX11_keep wsX11_keep (rm 2 42) (PZ z w [.ref (z.2.1 0), .int x1]) (QW z (some (.int r)) w') 0 0 (az z) := by
  refine mk_Wi (cc := cX11_keep) (maxL := 2) (by decide +kernel) rfl (Nat.le_of_ble_eq_true rfl) ?_
  intro p e s m args below meth c hx hb hml hts hown hK hW Q hret ls hl
  have hl : lv_has ls 2 [(0, .ref (z.2.1 0)), (1, .int x1)] := hl
  unfold f_X11_keep at hf
  have START : ∀ (H : Heap) (locs : List Loc), hd z w H → va_S (az z) s.heap H locs → W p l e (rm 2 42) s m args below meth c H locs 0 0 Q (F0 m 0 ls []) := by
    intro H locs hW hS
    refine lv_iload_n hx hb dX11_keep_0 rfl (lv_at hl 1 rfl) ?_
    obtain ⟨r_1, hq_2, hf⟩ := of_bd hf
    refine m_goRi (va_runS (As := [.int x1]) (rest := []) ⟨hx, hb, hml, hown, hts⟩ (c_X11_isTape l hz x1 w hq_2) (va_cwS 1 hts gX11_keep_X11_isTape rfl rfl rfl (by decide +kernel) ⟨Nat.le_of_ble_eq_true rfl, Nat.le_of_ble_eq_true rfl⟩) (m_preS hK hW _) rfl rfl hl.1 rfl (lv_room (Nat.le_of_ble_eq_true rfl)) dX11_keep_1 ⟨Nat.le_refl _, Nat.le_refl _⟩) ?_
    refine lv_if_ne (tgt := 9) hx hb dX11_keep_4 (by decide) (fun c_3 => ?_) (fun c_3 => ?_)
    · have hf := of_f c_3 hf
      refine lv_aload_n hx hb dX11_keep_9 rfl (lv_at hl 0 rfl) ?_
      refine get_X11_5 hx hb hts in_X11_keep_X11 hown hK hz hW lk_X11_keep_0 dX11_keep_10 ?_
      refine lv_bipush (v := 14) hx hb dX11_keep_13 (by decide) ?_
      obtain ⟨g_4, hf⟩ := of_gd hf
      refine ld_M3 hx hb hK hz hW g_4 dX11_keep_15 ?_
      refine lv_topi (fun v_5 ev_5 => ?_)
      have hf := of_lt ev_5 hf
      refine lv_if_ne (tgt := 22) hx hb dX11_keep_16 (by decide) (fun c_6 => ?_) (fun c_6 => ?_)
      · have hf := of_f c_6 hf
        refine lv_aload_n hx hb dX11_keep_22 rfl (lv_at hl 0 rfl) ?_
        refine get_X11_26 hx hb hts in_X11_keep_X11 hown hK hz hW lk_X11_keep_1 dX11_keep_23 ?_
        refine lv_iload_n hx hb dX11_keep_26 rfl (lv_at hl 1 rfl) ?_
        refine lv_iconst (v := 5) hx hb dX11_keep_27 (by decide) ?_
        obtain ⟨g_7, hf⟩ := of_gd hf
        refine st_M15 hx hb hK hz hW hS g_7 dX11_keep_28 (fun H locs hW hS => ?_)
        obtain ⟨w_8, ew_8⟩ : ∃ y : Mem, y = mS w 15 x1.toNatClampNeg 5 := ⟨_, rfl⟩
        have hW : hd z w_8 H := by rw [ew_8]; exact hW
        have hf := of_lt ew_8 hf
        refine lv_aload_n hx hb dX11_keep_29 rfl (lv_at hl 0 rfl) ?_
        refine lv_bipush (v := 14) hx hb dX11_keep_30 (by decide) ?_
        refine lv_bipush (v := 8) hx hb dX11_keep_32 (by decide) ?_
        refine lv_iload_n hx hb dX11_keep_34 rfl (lv_at hl 1 rfl) ?_
        refine lv_iadd hx hb dX11_keep_35 ?_
        obtain ⟨w_11, hq_10, hf⟩ := of_bd hf
        refine m_goWv (va_runV (As := [.int 14, .int (8 + x1)]) (rest := []) ⟨hx, hb, hml, hown, hts⟩ (c_X11_copies l hz 14 (8 + x1) w_8 hq_10) (cwV 2 hts gX11_keep_X11_copies rfl rfl rfl (by decide +kernel) ⟨Nat.le_of_ble_eq_true rfl, Nat.le_of_ble_eq_true rfl⟩) (pre_X11 hK hz hW _) rfl rfl hl.1 rfl (lv_room (Nat.le_of_ble_eq_true rfl)) dX11_keep_36 ⟨Nat.le_refl _, Nat.le_refl _⟩) hS (fun H locs hW hS => ?_)
        refine lv_aload_n hx hb dX11_keep_39 rfl (lv_at hl 0 rfl) ?_
        refine get_X11_5 hx hb hts in_X11_keep_X11 hown hK hz hW lk_X11_keep_0 dX11_keep_40 ?_
        refine lv_bipush (v := 14) hx hb dX11_keep_43 (by decide) ?_
        refine ld_M3 hx hb hK hz hW g_4 dX11_keep_45 ?_
        refine lv_topi (fun v_12 ev_12 => ?_)
        have hf := of_lt ev_12 hf
        exact hret _ _ _ _ _ _ hf hW hS dX11_keep_46
      · have hf := of_t c_6 hf
        refine lv_bipush (v := (-3)) hx hb dX11_keep_19 (by decide) ?_
        exact hret _ _ _ _ _ _ hf hW hS dX11_keep_21
    · have hf := of_t c_3 hf
      refine lv_iconst (v := (-1)) hx hb dX11_keep_7 (by decide) ?_
      exact hret _ _ _ _ _ _ hf hW hS dX11_keep_8
  exact START _ _ hW va_S.rf
theorem in_X11_lacks_X11 : ∀ w ∈ wsX110, w ∈ wsX11_lacks := by decide +kernel
theorem lk_X11_lacks_0 : Cond.fieldLink RX11 66 "CamStitchModel" "sort" "[I" ∈ wsX11_lacks := by decide +kernel
set_option maxHeartbeats 4000000 in
set_option maxRecDepth 100000 in
theorem c_X11_lacks (l : Launch) {z : LZ} (hz : IM z) (x1 : Int32) (w : Mem) {r : Int32} {w' : Mem} (hf : f_X11_lacks x1 w = some (r, w')) : Met l yX11_lacks wsX11_lacks (rm 2 42) (PZ z w [.ref (z.2.1 0), .int x1]) (QW z (some (.int r)) w') 0 0 (az z) := by
  refine mk_Wi (cc := cX11_lacks) (maxL := 2) (by decide +kernel) rfl (Nat.le_of_ble_eq_true rfl) ?_
  intro p e s m args below meth c hx hb hml hts hown hK hW Q hret ls hl
  have hl : lv_has ls 2 [(0, .ref (z.2.1 0)), (1, .int x1)] := hl
  unfold f_X11_lacks at hf
  have START : ∀ (H : Heap) (locs : List Loc), hd z w H → va_S (az z) s.heap H locs → W p l e (rm 2 42) s m args below meth c H locs 0 0 Q (F0 m 0 ls []) := by
    intro H locs hW hS
    refine lv_iload_n hx hb dX11_lacks_0 rfl (lv_at hl 1 rfl) ?_
    obtain ⟨r_1, hq_2, hf⟩ := of_bd hf
    refine m_goRi (va_runS (As := [.int x1]) (rest := []) ⟨hx, hb, hml, hown, hts⟩ (c_X11_isTape l hz x1 w hq_2) (va_cwS 1 hts gX11_lacks_X11_isTape rfl rfl rfl (by decide +kernel) ⟨Nat.le_of_ble_eq_true rfl, Nat.le_of_ble_eq_true rfl⟩) (m_preS hK hW _) rfl rfl hl.1 rfl (lv_room (Nat.le_of_ble_eq_true rfl)) dX11_lacks_1 ⟨Nat.le_refl _, Nat.le_refl _⟩) ?_
    refine lv_if_ne (tgt := 11) hx hb dX11_lacks_4 (by decide) (fun c_3 => ?_) (fun c_3 => ?_)
    · have hf := of_f c_3 hf
      refine lv_aload_n hx hb dX11_lacks_11 rfl (lv_at hl 0 rfl) ?_
      refine get_X11_26 hx hb hts in_X11_lacks_X11 hown hK hz hW lk_X11_lacks_0 dX11_lacks_12 ?_
      refine lv_iload_n hx hb dX11_lacks_15 rfl (lv_at hl 1 rfl) ?_
      obtain ⟨g_4, hf⟩ := of_gd hf
      refine ld_M15 hx hb hK hz hW g_4 dX11_lacks_16 ?_
      refine lv_if_ne (tgt := 29) hx hb dX11_lacks_17 (by decide) (fun c_5 => ?_) (fun c_5 => ?_)
      · have hf := of_f c_5 hf
        refine lv_aload_n hx hb dX11_lacks_29 rfl (lv_at hl 0 rfl) ?_
        refine get_X11_26 hx hb hts in_X11_lacks_X11 hown hK hz hW lk_X11_lacks_0 dX11_lacks_30 ?_
        refine lv_iload_n hx hb dX11_lacks_33 rfl (lv_at hl 1 rfl) ?_
        refine ld_M15 hx hb hK hz hW g_4 dX11_lacks_34 ?_
        refine lv_iconst (v := 5) hx hb dX11_lacks_35 (by decide) ?_
        refine lv_icmp_eq (tgt := 48) hx hb dX11_lacks_36 (by decide) (fun c_6 => ?_) (fun c_6 => ?_)
        · have hf := of_t c_6 hf
          refine lv_iconst (v := 0) hx hb dX11_lacks_48 (by decide) ?_
          exact hret _ _ _ _ _ _ hf hW hS dX11_lacks_49
        · have hf := of_f c_6 hf
          refine lv_aload_n hx hb dX11_lacks_39 rfl (lv_at hl 0 rfl) ?_
          refine lv_bipush (v := (-12)) hx hb dX11_lacks_40 (by decide) ?_
          obtain ⟨r_7, w_9, hq_8, hf⟩ := of_b2 hf
          refine m_goWi (va_runV (As := [.int (-12)]) (rest := []) ⟨hx, hb, hml, hown, hts⟩ (c_X11_refuse l hz (-12) w hq_8) (cwV 1 hts gX11_lacks_X11_refuse rfl rfl rfl (by decide +kernel) ⟨Nat.le_of_ble_eq_true rfl, Nat.le_of_ble_eq_true rfl⟩) (pre_X11 hK hz hW _) rfl rfl hl.1 rfl (lv_room (Nat.le_of_ble_eq_true rfl)) dX11_lacks_42 ⟨Nat.le_refl _, Nat.le_refl _⟩) hS (fun H locs hW hS => ?_)
          refine lv_goto (tgt := 49) hx hb dX11_lacks_45 (by decide) ?_
          exact hret _ _ _ _ _ _ hf hW hS dX11_lacks_49
      · have hf := of_t c_5 hf
        refine lv_aload_n hx hb dX11_lacks_20 rfl (lv_at hl 0 rfl) ?_
        refine lv_bipush (v := (-11)) hx hb dX11_lacks_21 (by decide) ?_
        obtain ⟨r_10, w_12, hq_11, hf⟩ := of_b2 hf
        refine m_goWi (va_runV (As := [.int (-11)]) (rest := []) ⟨hx, hb, hml, hown, hts⟩ (c_X11_refuse l hz (-11) w hq_11) (cwV 1 hts gX11_lacks_X11_refuse rfl rfl rfl (by decide +kernel) ⟨Nat.le_of_ble_eq_true rfl, Nat.le_of_ble_eq_true rfl⟩) (pre_X11 hK hz hW _) rfl rfl hl.1 rfl (lv_room (Nat.le_of_ble_eq_true rfl)) dX11_lacks_23 ⟨Nat.le_refl _, Nat.le_refl _⟩) hS (fun H locs hW hS => ?_)
        refine lv_goto (tgt := 49) hx hb dX11_lacks_26 (by decide) ?_
        exact hret _ _ _ _ _ _ hf hW hS dX11_lacks_49
    · have hf := of_t c_3 hf
      refine lv_iconst (v := (-1)) hx hb dX11_lacks_7 (by decide) ?_
      refine lv_goto (tgt := 49) hx hb dX11_lacks_8 (by decide) ?_
      exact hret _ _ _ _ _ _ hf hW hS dX11_lacks_49
  exact START _ _ hW va_S.rf
theorem in_X11_back_X11 : ∀ w ∈ wsX110, w ∈ wsX11_back := by decide +kernel
theorem lk_X11_back_0 : Cond.fieldLink RX11 16 "CamStitchModel" "many" "[I" ∈ wsX11_back := by decide +kernel
set_option maxHeartbeats 4000000 in
set_option maxRecDepth 100000 in
theorem c_X11_back (l : Launch) {z : LZ} (hz : IM z) (x1 : Int32) (w : Mem) {r : Int32} {w' : Mem} (hf : f_X11_back x1 w = some (r, w')) : Met l yX11_back wsX11_back (rm 3 63) (PZ z w [.ref (z.2.1 0), .int x1]) (QW z (some (.int r)) w') 0 0 (az z) := by
  refine mk_Wi (cc := cX11_back) (maxL := 3) (by decide +kernel) rfl (Nat.le_of_ble_eq_true rfl) ?_
  intro p e s m args below meth c hx hb hml hts hown hK hW Q hret ls hl
  have hl : lv_has ls 3 [(0, .ref (z.2.1 0)), (1, .int x1)] := hl
  unfold f_X11_back at hf
  have START : ∀ (H : Heap) (locs : List Loc), hd z w H → va_S (az z) s.heap H locs → W p l e (rm 3 63) s m args below meth c H locs 0 0 Q (F0 m 0 ls []) := by
    intro H locs hW hS
    refine lv_aload_n hx hb dX11_back_0 rfl (lv_at hl 0 rfl) ?_
    refine lv_iload_n hx hb dX11_back_1 rfl (lv_at hl 1 rfl) ?_
    obtain ⟨r_1, w_3, hq_2, hf⟩ := of_b2 hf
    refine m_goWi (va_runV (As := [.int x1]) (rest := []) ⟨hx, hb, hml, hown, hts⟩ (c_X11_lacks l hz x1 w hq_2) (cwV 1 hts gX11_back_X11_lacks rfl rfl rfl (by decide +kernel) ⟨Nat.le_of_ble_eq_true rfl, Nat.le_of_ble_eq_true rfl⟩) (pre_X11 hK hz hW _) rfl rfl hl.1 rfl (lv_room (Nat.le_of_ble_eq_true rfl)) dX11_back_2 ⟨Nat.le_refl _, Nat.le_refl _⟩) hS (fun H locs hW hS => ?_)
    refine lv_istore_n (lv' := [(2, .int r_1), (0, .ref (z.2.1 0)), (1, .int x1)]) hx hb dX11_back_5 rfl hl (by decide) rfl (fun ls hl => ?_)
    refine lv_iload_n hx hb dX11_back_6 rfl (lv_at hl 0 rfl) ?_
    refine lv_if_eq (tgt := 12) hx hb dX11_back_7 (by decide) (fun c_4 => ?_) (fun c_4 => ?_)
    · have hf := of_t c_4 hf
      refine lv_aload_n hx hb dX11_back_12 rfl (lv_at hl 1 rfl) ?_
      refine lv_bipush (v := 8) hx hb dX11_back_13 (by decide) ?_
      refine lv_iload_n hx hb dX11_back_15 rfl (lv_at hl 2 rfl) ?_
      refine lv_iadd hx hb dX11_back_16 ?_
      refine lv_bipush (v := 14) hx hb dX11_back_17 (by decide) ?_
      obtain ⟨w_7, hq_6, hf⟩ := of_bd hf
      refine m_goWv (va_runV (As := [.int (8 + x1), .int 14]) (rest := []) ⟨hx, hb, hml, hown, hts⟩ (c_X11_copies l hz (8 + x1) 14 w_3 hq_6) (cwV 2 hts gX11_back_X11_copies rfl rfl rfl (by decide +kernel) ⟨Nat.le_of_ble_eq_true rfl, Nat.le_of_ble_eq_true rfl⟩) (pre_X11 hK hz hW _) rfl rfl hl.1 rfl (lv_room (Nat.le_of_ble_eq_true rfl)) dX11_back_19 ⟨Nat.le_refl _, Nat.le_refl _⟩) hS (fun H locs hW hS => ?_)
      refine lv_aload_n hx hb dX11_back_22 rfl (lv_at hl 1 rfl) ?_
      refine get_X11_5 hx hb hts in_X11_back_X11 hown hK hz hW lk_X11_back_0 dX11_back_23 ?_
      refine lv_bipush (v := 14) hx hb dX11_back_26 (by decide) ?_
      obtain ⟨g_8, hf⟩ := of_gd hf
      refine ld_M3 hx hb hK hz hW g_8 dX11_back_28 ?_
      refine lv_topi (fun v_9 ev_9 => ?_)
      have hf := of_lt ev_9 hf
      exact hret _ _ _ _ _ _ hf hW hS dX11_back_29
    · have hf := of_f c_4 hf
      refine lv_iload_n hx hb dX11_back_10 rfl (lv_at hl 0 rfl) ?_
      exact hret _ _ _ _ _ _ hf hW hS dX11_back_11
  exact START _ _ hW va_S.rf
set_option maxHeartbeats 4000000 in
set_option maxRecDepth 100000 in
theorem c_X11_toss (l : Launch) {z : LZ} (hz : IM z) (x1 : Int32) (w : Mem) {r : Int32} {w' : Mem} (hf : f_X11_toss x1 w = some (r, w')) : Met l yX11_toss wsX11_toss (rm 3 63) (PZ z w [.ref (z.2.1 0), .int x1]) (QW z (some (.int r)) w') 0 0 (az z) := by
  refine mk_Wi (cc := cX11_toss) (maxL := 4) (by decide +kernel) rfl (Nat.le_of_ble_eq_true rfl) ?_
  intro p e s m args below meth c hx hb hml hts hown hK hW Q hret ls hl
  have hl : lv_has ls 4 [(0, .ref (z.2.1 0)), (1, .int x1)] := hl
  unfold f_X11_toss at hf
  have START : ∀ (H : Heap) (locs : List Loc), hd z w H → va_S (az z) s.heap H locs → W p l e (rm 3 63) s m args below meth c H locs 0 0 Q (F0 m 0 ls []) := by
    intro H locs hW hS
    refine lv_aload_n hx hb dX11_toss_0 rfl (lv_at hl 0 rfl) ?_
    refine lv_iload_n hx hb dX11_toss_1 rfl (lv_at hl 1 rfl) ?_
    obtain ⟨r_1, w_3, hq_2, hf⟩ := of_b2 hf
    refine m_goWi (va_runV (As := [.int x1]) (rest := []) ⟨hx, hb, hml, hown, hts⟩ (c_X11_lacks l hz x1 w hq_2) (cwV 1 hts gX11_toss_X11_lacks rfl rfl rfl (by decide +kernel) ⟨Nat.le_of_ble_eq_true rfl, Nat.le_of_ble_eq_true rfl⟩) (pre_X11 hK hz hW _) rfl rfl hl.1 rfl (lv_room (Nat.le_of_ble_eq_true rfl)) dX11_toss_2 ⟨Nat.le_refl _, Nat.le_refl _⟩) hS (fun H locs hW hS => ?_)
    refine lv_istore_n (lv' := [(2, .int r_1), (0, .ref (z.2.1 0)), (1, .int x1)]) hx hb dX11_toss_5 rfl hl (by decide) rfl (fun ls hl => ?_)
    refine lv_iload_n hx hb dX11_toss_6 rfl (lv_at hl 0 rfl) ?_
    refine lv_if_eq (tgt := 12) hx hb dX11_toss_7 (by decide) (fun c_4 => ?_) (fun c_4 => ?_)
    · have hf := of_t c_4 hf
      refine lv_aload_n hx hb dX11_toss_12 rfl (lv_at hl 1 rfl) ?_
      refine lv_bipush (v := 8) hx hb dX11_toss_13 (by decide) ?_
      refine lv_iload_n hx hb dX11_toss_15 rfl (lv_at hl 2 rfl) ?_
      refine lv_iadd hx hb dX11_toss_16 ?_
      obtain ⟨r_5, hq_6, hf⟩ := of_bd hf
      refine m_goRi (va_runV (As := [.int (8 + x1)]) (rest := []) ⟨hx, hb, hml, hown, hts⟩ (c_X11_steepOf l hz (8 + x1) w_3 hq_6) (cwV 1 hts gX11_toss_X11_steepOf rfl rfl rfl (by decide +kernel) ⟨Nat.le_of_ble_eq_true rfl, Nat.le_of_ble_eq_true rfl⟩) (pre_X11 hK hz hW _) rfl rfl hl.1 rfl (lv_room (Nat.le_of_ble_eq_true rfl)) dX11_toss_17 ⟨Nat.le_refl _, Nat.le_refl _⟩) ?_
      refine lv_istore_n (lv' := [(3, .int r_5), (2, .int r_1), (0, .ref (z.2.1 0)), (1, .int x1)]) hx hb dX11_toss_20 rfl hl (by decide) rfl (fun ls hl => ?_)
      refine lv_iload_n hx hb dX11_toss_21 rfl (lv_at hl 0 rfl) ?_
      refine lv_if_ne (tgt := 34) hx hb dX11_toss_22 (by decide) (fun c_7 => ?_) (fun c_7 => ?_)
      · have hf := of_f c_7 hf
        refine lv_iload_n hx hb dX11_toss_34 rfl (lv_at hl 0 rfl) ?_
        exact hret _ _ _ _ _ _ hf hW hS dX11_toss_35
      · have hf := of_t c_7 hf
        refine lv_aload_n hx hb dX11_toss_25 rfl (lv_at hl 2 rfl) ?_
        refine lv_bipush (v := (-15)) hx hb dX11_toss_26 (by decide) ?_
        obtain ⟨r_8, w_10, hq_9, hf⟩ := of_b2 hf
        refine m_goWi (va_runV (As := [.int (-15)]) (rest := []) ⟨hx, hb, hml, hown, hts⟩ (c_X11_refuse l hz (-15) w_3 hq_9) (cwV 1 hts gX11_toss_X11_refuse rfl rfl rfl (by decide +kernel) ⟨Nat.le_of_ble_eq_true rfl, Nat.le_of_ble_eq_true rfl⟩) (pre_X11 hK hz hW _) rfl rfl hl.1 rfl (lv_room (Nat.le_of_ble_eq_true rfl)) dX11_toss_28 ⟨Nat.le_refl _, Nat.le_refl _⟩) hS (fun H locs hW hS => ?_)
        refine lv_goto (tgt := 35) hx hb dX11_toss_31 (by decide) ?_
        exact hret _ _ _ _ _ _ hf hW hS dX11_toss_35
    · have hf := of_f c_4 hf
      refine lv_iload_n hx hb dX11_toss_10 rfl (lv_at hl 0 rfl) ?_
      exact hret _ _ _ _ _ _ hf hW hS dX11_toss_11
  exact START _ _ hW va_S.rf
theorem in_X11_clear_X11 : ∀ w ∈ wsX110, w ∈ wsX11_clear := by decide +kernel
theorem lk_X11_clear_0 : Cond.fieldLink RX11 66 "CamStitchModel" "sort" "[I" ∈ wsX11_clear := by decide +kernel
set_option maxHeartbeats 4000000 in
set_option maxRecDepth 100000 in
theorem c_X11_clear (l : Launch) {z : LZ} (hz : IM z) (x1 : Int32) (w : Mem) {r : Int32} {w' : Mem} (hf : f_X11_clear x1 w = some (r, w')) : Met l yX11_clear wsX11_clear (rm 2 42) (PZ z w [.ref (z.2.1 0), .int x1]) (QW z (some (.int r)) w') 0 0 (az z) := by
  refine mk_Wi (cc := cX11_clear) (maxL := 3) (by decide +kernel) rfl (Nat.le_of_ble_eq_true rfl) ?_
  intro p e s m args below meth c hx hb hml hts hown hK hW Q hret ls hl
  have hl : lv_has ls 3 [(0, .ref (z.2.1 0)), (1, .int x1)] := hl
  unfold f_X11_clear at hf
  have START : ∀ (H : Heap) (locs : List Loc), hd z w H → va_S (az z) s.heap H locs → W p l e (rm 2 42) s m args below meth c H locs 0 0 Q (F0 m 0 ls []) := by
    intro H locs hW hS
    refine lv_iload_n hx hb dX11_clear_0 rfl (lv_at hl 1 rfl) ?_
    obtain ⟨r_1, hq_2, hf⟩ := of_bd hf
    refine m_goRi (va_runS (As := [.int x1]) (rest := []) ⟨hx, hb, hml, hown, hts⟩ (c_X11_isTape l hz x1 w hq_2) (va_cwS 1 hts gX11_clear_X11_isTape rfl rfl rfl (by decide +kernel) ⟨Nat.le_of_ble_eq_true rfl, Nat.le_of_ble_eq_true rfl⟩) (m_preS hK hW _) rfl rfl hl.1 rfl (lv_room (Nat.le_of_ble_eq_true rfl)) dX11_clear_1 ⟨Nat.le_refl _, Nat.le_refl _⟩) ?_
    refine lv_if_ne (tgt := 9) hx hb dX11_clear_4 (by decide) (fun c_3 => ?_) (fun c_3 => ?_)
    · have hf := of_f c_3 hf
      refine lv_aload_n hx hb dX11_clear_9 rfl (lv_at hl 0 rfl) ?_
      refine get_X11_26 hx hb hts in_X11_clear_X11 hown hK hz hW lk_X11_clear_0 dX11_clear_10 ?_
      refine lv_iload_n hx hb dX11_clear_13 rfl (lv_at hl 1 rfl) ?_
      obtain ⟨g_4, hf⟩ := of_gd hf
      refine ld_M15 hx hb hK hz hW g_4 dX11_clear_14 ?_
      refine lv_topi (fun v_5 ev_5 => ?_)
      have hf := of_lt ev_5 hf
      refine lv_istore_n (lv' := [(2, .int v_5), (0, .ref (z.2.1 0)), (1, .int x1)]) hx hb dX11_clear_15 rfl hl (by decide) rfl (fun ls hl => ?_)
      refine lv_aload_n hx hb dX11_clear_16 rfl (lv_at hl 1 rfl) ?_
      refine get_X11_26 hx hb hts in_X11_clear_X11 hown hK hz hW lk_X11_clear_0 dX11_clear_17 ?_
      refine lv_iload_n hx hb dX11_clear_20 rfl (lv_at hl 2 rfl) ?_
      refine lv_iconst (v := 0) hx hb dX11_clear_21 (by decide) ?_
      refine st_M15 hx hb hK hz hW hS g_4 dX11_clear_22 (fun H locs hW hS => ?_)
      obtain ⟨w_6, ew_6⟩ : ∃ y : Mem, y = mS w 15 x1.toNatClampNeg 0 := ⟨_, rfl⟩
      have hW : hd z w_6 H := by rw [ew_6]; exact hW
      have hf := of_lt ew_6 hf
      refine lv_iload_n hx hb dX11_clear_23 rfl (lv_at hl 0 rfl) ?_
      exact hret _ _ _ _ _ _ hf hW hS dX11_clear_24
    · have hf := of_t c_3 hf
      refine lv_iconst (v := (-1)) hx hb dX11_clear_7 (by decide) ?_
      exact hret _ _ _ _ _ _ hf hW hS dX11_clear_8
  exact START _ _ hW va_S.rf
set_option maxHeartbeats 4000000 in
set_option maxRecDepth 100000 in
theorem c_X11_narrowed (l : Launch) {z : LZ} (hz : IM z) (x0 : Int32) (x1 : Int64) (w : Mem) {r : Int64} (hf : f_X11_narrowed x0 x1 = some r) : Met l yX11_narrowed wsX11_narrowed (rm 0 0) (PZ z w [.int x0, .long x1]) (QR (some (.long r))) 0 0 (fun _ => False) := by
  refine mk_Rl (cc := cX11_narrowed) (maxL := 3) (by decide +kernel) rfl (Nat.le_of_ble_eq_true rfl) ?_
  intro p e s m args below meth c hx hb hml hts hown hK hW Q hret ls hl
  have hl : lv_has ls 3 [(0, .int x0), (1, .long x1)] := hl
  unfold f_X11_narrowed at hf
  refine lv_iload_n hx hb dX11_narrowed_0 rfl (lv_at hl 0 rfl) ?_
  refine lv_iconst (v := 1) hx hb dX11_narrowed_1 (by decide) ?_
  refine lv_icmp_ne (tgt := 12) hx hb dX11_narrowed_2 (by decide) (fun c_1 => ?_) (fun c_1 => ?_)
  · have hf := of_f c_1 hf
    refine lv_iload_n hx hb dX11_narrowed_12 rfl (lv_at hl 0 rfl) ?_
    refine lv_iconst (v := 2) hx hb dX11_narrowed_13 (by decide) ?_
    refine lv_icmp_ne (tgt := 24) hx hb dX11_narrowed_14 (by decide) (fun c_2 => ?_) (fun c_2 => ?_)
    · have hf := of_f c_2 hf
      refine lv_iload_n hx hb dX11_narrowed_24 rfl (lv_at hl 0 rfl) ?_
      refine lv_iconst (v := 3) hx hb dX11_narrowed_25 (by decide) ?_
      refine lv_icmp_ne (tgt := 35) hx hb dX11_narrowed_26 (by decide) (fun c_3 => ?_) (fun c_3 => ?_)
      · have hf := of_f c_3 hf
        refine lv_lload_n hx hb dX11_narrowed_35 rfl (lv_at hl 1 rfl) ?_
        exact hret _ _ _ hf dX11_narrowed_36
      · have hf := of_t c_3 hf
        refine lv_lload_n hx hb dX11_narrowed_29 rfl (lv_at hl 1 rfl) ?_
        refine lv_l2i hx hb dX11_narrowed_30 rfl ?_
        refine lv_i2l hx hb dX11_narrowed_31 rfl ?_
        refine lv_goto (tgt := 36) hx hb dX11_narrowed_32 (by decide) ?_
        exact hret _ _ _ hf dX11_narrowed_36
    · have hf := of_t c_2 hf
      refine lv_lload_n hx hb dX11_narrowed_17 rfl (lv_at hl 1 rfl) ?_
      refine lv_l2i hx hb dX11_narrowed_18 rfl ?_
      refine lv_i2s hx hb dX11_narrowed_19 rfl ?_
      refine lv_topi (fun v_4 ev_4 => ?_)
      have hf := of_lt ev_4 hf
      refine lv_i2l hx hb dX11_narrowed_20 rfl ?_
      refine lv_goto (tgt := 36) hx hb dX11_narrowed_21 (by decide) ?_
      exact hret _ _ _ hf dX11_narrowed_36
  · have hf := of_t c_1 hf
    refine lv_lload_n hx hb dX11_narrowed_5 rfl (lv_at hl 1 rfl) ?_
    refine lv_l2i hx hb dX11_narrowed_6 rfl ?_
    refine lv_i2b hx hb dX11_narrowed_7 rfl ?_
    refine lv_topi (fun v_5 ev_5 => ?_)
    have hf := of_lt ev_5 hf
    refine lv_i2l hx hb dX11_narrowed_8 rfl ?_
    refine lv_goto (tgt := 36) hx hb dX11_narrowed_9 (by decide) ?_
    exact hret _ _ _ hf dX11_narrowed_36
theorem in_X11_put_X11 : ∀ w ∈ wsX110, w ∈ wsX11_put := by decide +kernel
theorem lk_X11_put_0 : Cond.fieldLink RX11 66 "CamStitchModel" "sort" "[I" ∈ wsX11_put := by decide +kernel
theorem lk_X11_put_1 : Cond.fieldLink RX11 69 "CamStitchModel" "size" "[I" ∈ wsX11_put := by decide +kernel
theorem lk_X11_put_2 : Cond.fieldLink RX11 72 "CamStitchModel" "cells" "[J" ∈ wsX11_put := by decide +kernel
set_option maxHeartbeats 4000000 in
set_option maxRecDepth 100000 in
theorem c_X11_put (l : Launch) {z : LZ} (hz : IM z) (x1 : Int32) (x2 : Int32) (x3 : Int64) (w : Mem) {r : Int32} {w' : Mem} (hf : f_X11_put x1 x2 x3 w = some (r, w')) : Met l yX11_put wsX11_put (rm 2 42) (PZ z w [.ref (z.2.1 0), .int x1, .int x2, .long x3]) (QW z (some (.int r)) w') 0 0 (az z) := by
  refine mk_Wi (cc := cX11_put) (maxL := 5) (by decide +kernel) rfl (Nat.le_of_ble_eq_true rfl) ?_
  intro p e s m args below meth c hx hb hml hts hown hK hW Q hret ls hl
  have hl : lv_has ls 5 [(0, .ref (z.2.1 0)), (1, .int x1), (2, .int x2), (3, .long x3)] := hl
  unfold f_X11_put at hf
  have START : ∀ (H : Heap) (locs : List Loc), hd z w H → va_S (az z) s.heap H locs → W p l e (rm 2 42) s m args below meth c H locs 0 0 Q (F0 m 0 ls []) := by
    intro H locs hW hS
    refine lv_iload_n hx hb dX11_put_0 rfl (lv_at hl 1 rfl) ?_
    obtain ⟨r_1, hq_2, hf⟩ := of_bd hf
    refine m_goRi (va_runS (As := [.int x1]) (rest := []) ⟨hx, hb, hml, hown, hts⟩ (c_X11_isTape l hz x1 w hq_2) (va_cwS 1 hts gX11_put_X11_isTape rfl rfl rfl (by decide +kernel) ⟨Nat.le_of_ble_eq_true rfl, Nat.le_of_ble_eq_true rfl⟩) (m_preS hK hW _) rfl rfl hl.1 rfl (lv_room (Nat.le_of_ble_eq_true rfl)) dX11_put_1 ⟨Nat.le_refl _, Nat.le_refl _⟩) ?_
    refine lv_if_ne (tgt := 9) hx hb dX11_put_4 (by decide) (fun c_3 => ?_) (fun c_3 => ?_)
    · have hf := of_f c_3 hf
      refine lv_aload_n hx hb dX11_put_9 rfl (lv_at hl 0 rfl) ?_
      refine get_X11_26 hx hb hts in_X11_put_X11 hown hK hz hW lk_X11_put_0 dX11_put_10 ?_
      refine lv_iload_n hx hb dX11_put_13 rfl (lv_at hl 1 rfl) ?_
      obtain ⟨g_4, hf⟩ := of_gd hf
      refine ld_M15 hx hb hK hz hW g_4 dX11_put_14 ?_
      refine lv_if_ne (tgt := 25) hx hb dX11_put_15 (by decide) (fun c_5 => ?_) (fun c_5 => ?_)
      · have hf := of_f c_5 hf
        refine lv_aload_n hx hb dX11_put_25 rfl (lv_at hl 0 rfl) ?_
        refine get_X11_26 hx hb hts in_X11_put_X11 hown hK hz hW lk_X11_put_0 dX11_put_26 ?_
        refine lv_iload_n hx hb dX11_put_29 rfl (lv_at hl 1 rfl) ?_
        refine ld_M15 hx hb hK hz hW g_4 dX11_put_30 ?_
        refine lv_iconst (v := 5) hx hb dX11_put_31 (by decide) ?_
        refine lv_icmp_ne (tgt := 42) hx hb dX11_put_32 (by decide) (fun c_6 => ?_) (fun c_6 => ?_)
        · have hf := of_f c_6 hf
          refine lv_iload_n hx hb dX11_put_42 rfl (lv_at hl 2 rfl) ?_
          refine lv_iconst (v := 0) hx hb dX11_put_43 (by decide) ?_
          refine lv_aload_n hx hb dX11_put_44 rfl (lv_at hl 0 rfl) ?_
          refine get_X11_27 hx hb hts in_X11_put_X11 hown hK hz hW lk_X11_put_1 dX11_put_45 ?_
          refine lv_iload_n hx hb dX11_put_48 rfl (lv_at hl 1 rfl) ?_
          refine ld_M16 hx hb hK hz hW g_4 dX11_put_49 ?_
          refine lv_iconst (v := 1) hx hb dX11_put_50 (by decide) ?_
          refine lv_isub hx hb dX11_put_51 ?_
          refine lv_topi (fun v_7 ev_7 => ?_)
          have hf := of_lt ev_7 hf
          obtain ⟨r_8, hq_9, hf⟩ := of_bd hf
          refine m_goRi (va_runS (As := [.int x2, .int 0, .int v_7]) (rest := []) ⟨hx, hb, hml, hown, hts⟩ (c_X11_in l hz x2 0 v_7 w hq_9) (va_cwS 3 hts gX11_put_X11_in rfl rfl rfl (by decide +kernel) ⟨Nat.le_of_ble_eq_true rfl, Nat.le_of_ble_eq_true rfl⟩) (m_preS hK hW _) rfl rfl hl.1 rfl (lv_room (Nat.le_of_ble_eq_true rfl)) dX11_put_52 ⟨Nat.le_refl _, Nat.le_refl _⟩) ?_
          refine lv_if_ne (tgt := 65) hx hb dX11_put_55 (by decide) (fun c_10 => ?_) (fun c_10 => ?_)
          · have hf := of_f c_10 hf
            refine lv_aload_n hx hb dX11_put_65 rfl (lv_at hl 0 rfl) ?_
            refine get_X11_28 hx hb hts in_X11_put_X11 hown hK hz hW lk_X11_put_2 dX11_put_66 ?_
            refine lv_sipush (v := 400) hx hb dX11_put_69 (by decide) ?_
            refine lv_iload_n hx hb dX11_put_72 rfl (lv_at hl 1 rfl) ?_
            refine lv_imul hx hb dX11_put_73 ?_
            refine lv_iload_n hx hb dX11_put_74 rfl (lv_at hl 2 rfl) ?_
            refine lv_iadd hx hb dX11_put_75 ?_
            refine lv_aload_n hx hb dX11_put_76 rfl (lv_at hl 0 rfl) ?_
            refine get_X11_26 hx hb hts in_X11_put_X11 hown hK hz hW lk_X11_put_0 dX11_put_77 ?_
            refine lv_iload_n hx hb dX11_put_80 rfl (lv_at hl 1 rfl) ?_
            refine ld_M15 hx hb hK hz hW g_4 dX11_put_81 ?_
            refine lv_lload_n hx hb dX11_put_82 rfl (lv_at hl 3 rfl) ?_
            obtain ⟨r_11, hq_12, hf⟩ := of_bd hf
            refine m_goRl (va_runS (As := [.int (w.1 15 x1.toNatClampNeg), .long x3]) (rest := [.int ((400 * x1) + x2), .ref (z.2.1 17)]) ⟨hx, hb, hml, hown, hts⟩ (c_X11_narrowed l hz (w.1 15 x1.toNatClampNeg) x3 w hq_12) (va_cwS 2 hts gX11_put_X11_narrowed rfl rfl rfl (by decide +kernel) ⟨Nat.le_of_ble_eq_true rfl, Nat.le_of_ble_eq_true rfl⟩) (m_preS hK hW _) rfl rfl hl.1 rfl (lv_room (Nat.le_of_ble_eq_true rfl)) dX11_put_83 ⟨Nat.le_refl _, Nat.le_refl _⟩) ?_
            obtain ⟨g_13, hf⟩ := of_gd hf
            refine st_M17 hx hb hK hz hW hS g_13 dX11_put_86 (fun H locs hW hS => ?_)
            obtain ⟨w_14, ew_14⟩ : ∃ y : Mem, y = mL w 17 (((400 * x1) + x2).toNatClampNeg) r_11 := ⟨_, rfl⟩
            have hW : hd z w_14 H := by rw [ew_14]; exact hW
            have hf := of_lt ew_14 hf
            refine lv_iconst (v := 1) hx hb dX11_put_87 (by decide) ?_
            exact hret _ _ _ _ _ _ hf hW hS dX11_put_88
          · have hf := of_t c_10 hf
            refine lv_aload_n hx hb dX11_put_58 rfl (lv_at hl 0 rfl) ?_
            refine lv_bipush (v := (-13)) hx hb dX11_put_59 (by decide) ?_
            obtain ⟨r_15, w_17, hq_16, hf⟩ := of_b2 hf
            refine m_goWi (va_runV (As := [.int (-13)]) (rest := []) ⟨hx, hb, hml, hown, hts⟩ (c_X11_refuse l hz (-13) w hq_16) (cwV 1 hts gX11_put_X11_refuse rfl rfl rfl (by decide +kernel) ⟨Nat.le_of_ble_eq_true rfl, Nat.le_of_ble_eq_true rfl⟩) (pre_X11 hK hz hW _) rfl rfl hl.1 rfl (lv_room (Nat.le_of_ble_eq_true rfl)) dX11_put_61 ⟨Nat.le_refl _, Nat.le_refl _⟩) hS (fun H locs hW hS => ?_)
            exact hret _ _ _ _ _ _ hf hW hS dX11_put_64
        · have hf := of_t c_6 hf
          refine lv_aload_n hx hb dX11_put_35 rfl (lv_at hl 0 rfl) ?_
          refine lv_bipush (v := (-12)) hx hb dX11_put_36 (by decide) ?_
          obtain ⟨r_18, w_20, hq_19, hf⟩ := of_b2 hf
          refine m_goWi (va_runV (As := [.int (-12)]) (rest := []) ⟨hx, hb, hml, hown, hts⟩ (c_X11_refuse l hz (-12) w hq_19) (cwV 1 hts gX11_put_X11_refuse rfl rfl rfl (by decide +kernel) ⟨Nat.le_of_ble_eq_true rfl, Nat.le_of_ble_eq_true rfl⟩) (pre_X11 hK hz hW _) rfl rfl hl.1 rfl (lv_room (Nat.le_of_ble_eq_true rfl)) dX11_put_38 ⟨Nat.le_refl _, Nat.le_refl _⟩) hS (fun H locs hW hS => ?_)
          exact hret _ _ _ _ _ _ hf hW hS dX11_put_41
      · have hf := of_t c_5 hf
        refine lv_aload_n hx hb dX11_put_18 rfl (lv_at hl 0 rfl) ?_
        refine lv_bipush (v := (-11)) hx hb dX11_put_19 (by decide) ?_
        obtain ⟨r_21, w_23, hq_22, hf⟩ := of_b2 hf
        refine m_goWi (va_runV (As := [.int (-11)]) (rest := []) ⟨hx, hb, hml, hown, hts⟩ (c_X11_refuse l hz (-11) w hq_22) (cwV 1 hts gX11_put_X11_refuse rfl rfl rfl (by decide +kernel) ⟨Nat.le_of_ble_eq_true rfl, Nat.le_of_ble_eq_true rfl⟩) (pre_X11 hK hz hW _) rfl rfl hl.1 rfl (lv_room (Nat.le_of_ble_eq_true rfl)) dX11_put_21 ⟨Nat.le_refl _, Nat.le_refl _⟩) hS (fun H locs hW hS => ?_)
        exact hret _ _ _ _ _ _ hf hW hS dX11_put_24
    · have hf := of_t c_3 hf
      refine lv_iconst (v := (-1)) hx hb dX11_put_7 (by decide) ?_
      exact hret _ _ _ _ _ _ hf hW hS dX11_put_8
  exact START _ _ hW va_S.rf
theorem in_X11_at_X11 : ∀ w ∈ wsX110, w ∈ wsX11_at := by decide +kernel
theorem lk_X11_at_0 : Cond.fieldLink RX11 66 "CamStitchModel" "sort" "[I" ∈ wsX11_at := by decide +kernel
theorem lk_X11_at_1 : Cond.fieldLink RX11 103 "CamStitchModel" "thrown" "I" ∈ wsX11_at := by decide +kernel
theorem lk_X11_at_2 : Cond.fieldLink RX11 72 "CamStitchModel" "cells" "[J" ∈ wsX11_at := by decide +kernel
theorem lk_X11_at_3 : Cond.fieldLink RX11 69 "CamStitchModel" "size" "[I" ∈ wsX11_at := by decide +kernel
set_option maxHeartbeats 4000000 in
set_option maxRecDepth 100000 in
theorem c_X11_at (l : Launch) {z : LZ} (hz : IM z) (x1 : Int32) (x2 : Int32) (w : Mem) {r : Int64} {w' : Mem} (hf : f_X11_at x1 x2 w = some (r, w')) : Met l yX11_at wsX11_at (rm 2 42) (PZ z w [.ref (z.2.1 0), .int x1, .int x2]) (QW z (some (.long r)) w') 0 0 (az z) := by
  refine mk_Wl (cc := cX11_at) (maxL := 3) (by decide +kernel) rfl (Nat.le_of_ble_eq_true rfl) ?_
  intro p e s m args below meth c hx hb hml hts hown hK hW Q hret ls hl
  have hl : lv_has ls 3 [(0, .ref (z.2.1 0)), (1, .int x1), (2, .int x2)] := hl
  unfold f_X11_at at hf
  have START : ∀ (H : Heap) (locs : List Loc), hd z w H → va_S (az z) s.heap H locs → W p l e (rm 2 42) s m args below meth c H locs 0 0 Q (F0 m 0 ls []) := by
    intro H locs hW hS
    refine lv_aload_n hx hb dX11_at_0 rfl (lv_at hl 0 rfl) ?_
    refine lv_iload_n hx hb dX11_at_1 rfl (lv_at hl 1 rfl) ?_
    obtain ⟨r_1, hq_2, hf⟩ := of_bd hf
    refine m_goRi (va_runS (As := [.int x1]) (rest := [.ref (z.2.1 0)]) ⟨hx, hb, hml, hown, hts⟩ (c_X11_isTape l hz x1 w hq_2) (va_cwS 1 hts gX11_at_X11_isTape rfl rfl rfl (by decide +kernel) ⟨Nat.le_of_ble_eq_true rfl, Nat.le_of_ble_eq_true rfl⟩) (m_preS hK hW _) rfl rfl hl.1 rfl (lv_room (Nat.le_of_ble_eq_true rfl)) dX11_at_2 ⟨Nat.le_refl _, Nat.le_refl _⟩) ?_
    obtain ⟨k_3, ek_3, hf⟩ := of_lz hf
    have Jk_3 : ∀ (t_4 : Int32) (ls : Array Slot), k_3 t_4 = some (r, w') → lv_has ls 3 [(0, .ref (z.2.1 0)), (1, .int x1), (2, .int x2)] → W p l e (rm 2 42) s m args below meth c H locs 0 0 Q (F0 m 52 ls [.int t_4, .ref (z.2.1 0)]) := by
      intro t_4 ls hf hl
      have hf := of_j1 ek_3 hf
      refine put_X11_0 hx hb hts in_X11_at_X11 hown hK hz hW hS lk_X11_at_1 dX11_at_52 (fun H locs hW hS => ?_)
      obtain ⟨w_5, ew_5⟩ : ∃ y : Mem, y = mS w 0 0 t_4 := ⟨_, rfl⟩
      have hW : hd z w_5 H := by rw [ew_5]; exact hW
      have hf := of_lt ew_5 hf
      refine lv_aload_n hx hb dX11_at_55 rfl (lv_at hl 0 rfl) ?_
      refine get_X11_0 hx hb hts in_X11_at_X11 hown hK hz hW lk_X11_at_1 dX11_at_56 ?_
      refine lv_if_ne (tgt := 77) hx hb dX11_at_59 (by decide) (fun c_6 => ?_) (fun c_6 => ?_)
      · have hf := of_f c_6 hf
        refine lv_lconst (v := 0) hx hb dX11_at_77 (by decide) ?_
        exact hret _ _ _ _ _ _ hf hW hS dX11_at_78
      · have hf := of_t c_6 hf
        refine lv_aload_n hx hb dX11_at_62 rfl (lv_at hl 0 rfl) ?_
        refine get_X11_28 hx hb hts in_X11_at_X11 hown hK hz hW lk_X11_at_2 dX11_at_63 ?_
        refine lv_sipush (v := 400) hx hb dX11_at_66 (by decide) ?_
        refine lv_iload_n hx hb dX11_at_69 rfl (lv_at hl 1 rfl) ?_
        refine lv_imul hx hb dX11_at_70 ?_
        refine lv_iload_n hx hb dX11_at_71 rfl (lv_at hl 2 rfl) ?_
        refine lv_iadd hx hb dX11_at_72 ?_
        obtain ⟨g_7, hf⟩ := of_gd hf
        refine ld_M17 hx hb hK hz hW g_7 dX11_at_73 ?_
        refine lv_topl (fun v_8 ev_8 => ?_)
        have hf := of_lt ev_8 hf
        refine lv_goto (tgt := 78) hx hb dX11_at_74 (by decide) ?_
        exact hret _ _ _ _ _ _ hf hW hS dX11_at_78
    refine lv_if_ne (tgt := 12) hx hb dX11_at_5 (by decide) (fun c_9 => ?_) (fun c_9 => ?_)
    · have hf := of_f c_9 hf
      refine lv_aload_n hx hb dX11_at_12 rfl (lv_at hl 0 rfl) ?_
      refine get_X11_26 hx hb hts in_X11_at_X11 hown hK hz hW lk_X11_at_0 dX11_at_13 ?_
      refine lv_iload_n hx hb dX11_at_16 rfl (lv_at hl 1 rfl) ?_
      obtain ⟨g_10, hf⟩ := of_gd hf
      refine ld_M15 hx hb hK hz hW g_10 dX11_at_17 ?_
      refine lv_if_eq (tgt := 47) hx hb dX11_at_18 (by decide) (fun c_11 => ?_) (fun c_11 => ?_)
      · have hf := of_t c_11 hf
        refine lv_iconst (v := 2) hx hb dX11_at_47 (by decide) ?_
        refine lv_goto (tgt := 52) hx hb dX11_at_48 (by decide) ?_
        exact Jk_3 _ _ hf (lv_sub hl [0, 1, 2] rfl)
      · have hf := of_f c_11 hf
        refine lv_aload_n hx hb dX11_at_21 rfl (lv_at hl 0 rfl) ?_
        refine get_X11_26 hx hb hts in_X11_at_X11 hown hK hz hW lk_X11_at_0 dX11_at_22 ?_
        refine lv_iload_n hx hb dX11_at_25 rfl (lv_at hl 1 rfl) ?_
        refine ld_M15 hx hb hK hz hW g_10 dX11_at_26 ?_
        refine lv_iconst (v := 5) hx hb dX11_at_27 (by decide) ?_
        refine lv_icmp_eq (tgt := 47) hx hb dX11_at_28 (by decide) (fun c_12 => ?_) (fun c_12 => ?_)
        · have hf := of_t c_12 hf
          refine lv_iconst (v := 2) hx hb dX11_at_47 (by decide) ?_
          refine lv_goto (tgt := 52) hx hb dX11_at_48 (by decide) ?_
          exact Jk_3 _ _ hf (lv_sub hl [0, 1, 2] rfl)
        · have hf := of_f c_12 hf
          refine lv_iload_n hx hb dX11_at_31 rfl (lv_at hl 2 rfl) ?_
          refine lv_iconst (v := 0) hx hb dX11_at_32 (by decide) ?_
          refine lv_aload_n hx hb dX11_at_33 rfl (lv_at hl 0 rfl) ?_
          refine get_X11_27 hx hb hts in_X11_at_X11 hown hK hz hW lk_X11_at_3 dX11_at_34 ?_
          refine lv_iload_n hx hb dX11_at_37 rfl (lv_at hl 1 rfl) ?_
          refine ld_M16 hx hb hK hz hW g_10 dX11_at_38 ?_
          refine lv_iconst (v := 1) hx hb dX11_at_39 (by decide) ?_
          refine lv_isub hx hb dX11_at_40 ?_
          refine lv_topi (fun v_13 ev_13 => ?_)
          have hf := of_lt ev_13 hf
          obtain ⟨r_14, hq_15, hf⟩ := of_bd hf
          refine m_goRi (va_runS (As := [.int x2, .int 0, .int v_13]) (rest := [.ref (z.2.1 0)]) ⟨hx, hb, hml, hown, hts⟩ (c_X11_in l hz x2 0 v_13 w hq_15) (va_cwS 3 hts gX11_at_X11_in rfl rfl rfl (by decide +kernel) ⟨Nat.le_of_ble_eq_true rfl, Nat.le_of_ble_eq_true rfl⟩) (m_preS hK hW _) rfl rfl hl.1 rfl (lv_room (Nat.le_of_ble_eq_true rfl)) dX11_at_41 ⟨Nat.le_refl _, Nat.le_refl _⟩) ?_
          refine lv_if_ne (tgt := 51) hx hb dX11_at_44 (by decide) (fun c_16 => ?_) (fun c_16 => ?_)
          · have hf := of_f c_16 hf
            refine lv_iconst (v := 0) hx hb dX11_at_51 (by decide) ?_
            exact Jk_3 _ _ hf (lv_sub hl [0, 1, 2] rfl)
          · have hf := of_t c_16 hf
            refine lv_iconst (v := 2) hx hb dX11_at_47 (by decide) ?_
            refine lv_goto (tgt := 52) hx hb dX11_at_48 (by decide) ?_
            exact Jk_3 _ _ hf (lv_sub hl [0, 1, 2] rfl)
    · have hf := of_t c_9 hf
      refine lv_iconst (v := 1) hx hb dX11_at_8 (by decide) ?_
      refine lv_goto (tgt := 52) hx hb dX11_at_9 (by decide) ?_
      exact Jk_3 _ _ hf (lv_sub hl [0, 1, 2] rfl)
  exact START _ _ hW va_S.rf
theorem in_X11_copy_X11 : ∀ w ∈ wsX110, w ∈ wsX11_copy := by decide +kernel
theorem lk_X11_copy_0 : Cond.fieldLink RX11 66 "CamStitchModel" "sort" "[I" ∈ wsX11_copy := by decide +kernel
theorem lk_X11_copy_1 : Cond.fieldLink RX11 69 "CamStitchModel" "size" "[I" ∈ wsX11_copy := by decide +kernel
theorem lk_X11_copy_2 : Cond.fieldLink RX11 100 "CamStitchModel" "shifted" "[J" ∈ wsX11_copy := by decide +kernel
theorem lk_X11_copy_3 : Cond.fieldLink RX11 72 "CamStitchModel" "cells" "[J" ∈ wsX11_copy := by decide +kernel
set_option maxHeartbeats 4000000 in
set_option maxRecDepth 100000 in
theorem c_X11_copy (l : Launch) {z : LZ} (hz : IM z) (x1 : Int32) (x2 : Int32) (x3 : Int32) (x4 : Int32) (x5 : Int32) (w : Mem) {r : Int32} {w' : Mem} (hf : f_X11_copy x1 x2 x3 x4 x5 w = some (r, w')) : Met l yX11_copy wsX11_copy (rm 2 42) (PZ z w [.ref (z.2.1 0), .int x1, .int x2, .int x3, .int x4, .int x5]) (QW z (some (.int r)) w') 0 0 (az z) := by
  refine mk_Wi (cc := cX11_copy) (maxL := 7) (by decide +kernel) rfl (Nat.le_of_ble_eq_true rfl) ?_
  intro p e s m args below meth c hx hb hml hts hown hK hW Q hret ls hl
  have hl : lv_has ls 7 [(0, .ref (z.2.1 0)), (1, .int x1), (2, .int x2), (3, .int x3), (4, .int x4), (5, .int x5)] := hl
  unfold f_X11_copy at hf
  have START : ∀ (H : Heap) (locs : List Loc), hd z w H → va_S (az z) s.heap H locs → W p l e (rm 2 42) s m args below meth c H locs 0 0 Q (F0 m 0 ls []) := by
    intro H locs hW hS
    refine lv_iload_n hx hb dX11_copy_0 rfl (lv_at hl 1 rfl) ?_
    obtain ⟨r_1, hq_2, hf⟩ := of_bd hf
    refine m_goRi (va_runS (As := [.int x1]) (rest := []) ⟨hx, hb, hml, hown, hts⟩ (c_X11_isTape l hz x1 w hq_2) (va_cwS 1 hts gX11_copy_X11_isTape rfl rfl rfl (by decide +kernel) ⟨Nat.le_of_ble_eq_true rfl, Nat.le_of_ble_eq_true rfl⟩) (m_preS hK hW _) rfl rfl hl.1 rfl (lv_room (Nat.le_of_ble_eq_true rfl)) dX11_copy_1 ⟨Nat.le_refl _, Nat.le_refl _⟩) ?_
    refine lv_if_eq (tgt := 14) hx hb dX11_copy_4 (by decide) (fun c_3 => ?_) (fun c_3 => ?_)
    · have hf := of_t c_3 hf
      refine lv_iconst (v := (-1)) hx hb dX11_copy_14 (by decide) ?_
      exact hret _ _ _ _ _ _ hf hW hS dX11_copy_15
    · have hf := of_f c_3 hf
      refine lv_iload_n hx hb dX11_copy_7 rfl (lv_at hl 3 rfl) ?_
      obtain ⟨r_4, hq_5, hf⟩ := of_bd hf
      refine m_goRi (va_runS (As := [.int x3]) (rest := []) ⟨hx, hb, hml, hown, hts⟩ (c_X11_isTape l hz x3 w hq_5) (va_cwS 1 hts gX11_copy_X11_isTape rfl rfl rfl (by decide +kernel) ⟨Nat.le_of_ble_eq_true rfl, Nat.le_of_ble_eq_true rfl⟩) (m_preS hK hW _) rfl rfl hl.1 rfl (lv_room (Nat.le_of_ble_eq_true rfl)) dX11_copy_8 ⟨Nat.le_refl _, Nat.le_refl _⟩) ?_
      refine lv_if_ne (tgt := 16) hx hb dX11_copy_11 (by decide) (fun c_6 => ?_) (fun c_6 => ?_)
      · have hf := of_f c_6 hf
        refine lv_aload_n hx hb dX11_copy_16 rfl (lv_at hl 0 rfl) ?_
        refine get_X11_26 hx hb hts in_X11_copy_X11 hown hK hz hW lk_X11_copy_0 dX11_copy_17 ?_
        refine lv_iload_n hx hb dX11_copy_20 rfl (lv_at hl 1 rfl) ?_
        obtain ⟨g_7, hf⟩ := of_gd hf
        refine ld_M15 hx hb hK hz hW g_7 dX11_copy_21 ?_
        refine lv_if_eq (tgt := 34) hx hb dX11_copy_22 (by decide) (fun c_8 => ?_) (fun c_8 => ?_)
        · have hf := of_t c_8 hf
          refine lv_aload_n hx hb dX11_copy_34 rfl (lv_at hl 0 rfl) ?_
          refine lv_bipush (v := (-11)) hx hb dX11_copy_35 (by decide) ?_
          obtain ⟨r_9, w_11, hq_10, hf⟩ := of_b2 hf
          refine m_goWi (va_runV (As := [.int (-11)]) (rest := []) ⟨hx, hb, hml, hown, hts⟩ (c_X11_refuse l hz (-11) w hq_10) (cwV 1 hts gX11_copy_X11_refuse rfl rfl rfl (by decide +kernel) ⟨Nat.le_of_ble_eq_true rfl, Nat.le_of_ble_eq_true rfl⟩) (pre_X11 hK hz hW _) rfl rfl hl.1 rfl (lv_room (Nat.le_of_ble_eq_true rfl)) dX11_copy_37 ⟨Nat.le_refl _, Nat.le_refl _⟩) hS (fun H locs hW hS => ?_)
          exact hret _ _ _ _ _ _ hf hW hS dX11_copy_40
        · have hf := of_f c_8 hf
          refine lv_aload_n hx hb dX11_copy_25 rfl (lv_at hl 0 rfl) ?_
          refine get_X11_26 hx hb hts in_X11_copy_X11 hown hK hz hW lk_X11_copy_0 dX11_copy_26 ?_
          refine lv_iload_n hx hb dX11_copy_29 rfl (lv_at hl 3 rfl) ?_
          obtain ⟨g_12, hf⟩ := of_gd hf
          refine ld_M15 hx hb hK hz hW g_12 dX11_copy_30 ?_
          refine lv_if_ne (tgt := 41) hx hb dX11_copy_31 (by decide) (fun c_13 => ?_) (fun c_13 => ?_)
          · have hf := of_f c_13 hf
            refine lv_aload_n hx hb dX11_copy_41 rfl (lv_at hl 0 rfl) ?_
            refine get_X11_26 hx hb hts in_X11_copy_X11 hown hK hz hW lk_X11_copy_0 dX11_copy_42 ?_
            refine lv_iload_n hx hb dX11_copy_45 rfl (lv_at hl 1 rfl) ?_
            refine ld_M15 hx hb hK hz hW g_7 dX11_copy_46 ?_
            refine lv_iconst (v := 5) hx hb dX11_copy_47 (by decide) ?_
            refine lv_icmp_eq (tgt := 66) hx hb dX11_copy_48 (by decide) (fun c_14 => ?_) (fun c_14 => ?_)
            · have hf := of_t c_14 hf
              refine lv_aload_n hx hb dX11_copy_66 rfl (lv_at hl 0 rfl) ?_
              refine lv_bipush (v := (-12)) hx hb dX11_copy_67 (by decide) ?_
              obtain ⟨r_15, w_17, hq_16, hf⟩ := of_b2 hf
              refine m_goWi (va_runV (As := [.int (-12)]) (rest := []) ⟨hx, hb, hml, hown, hts⟩ (c_X11_refuse l hz (-12) w hq_16) (cwV 1 hts gX11_copy_X11_refuse rfl rfl rfl (by decide +kernel) ⟨Nat.le_of_ble_eq_true rfl, Nat.le_of_ble_eq_true rfl⟩) (pre_X11 hK hz hW _) rfl rfl hl.1 rfl (lv_room (Nat.le_of_ble_eq_true rfl)) dX11_copy_69 ⟨Nat.le_refl _, Nat.le_refl _⟩) hS (fun H locs hW hS => ?_)
              exact hret _ _ _ _ _ _ hf hW hS dX11_copy_72
            · have hf := of_f c_14 hf
              refine lv_aload_n hx hb dX11_copy_51 rfl (lv_at hl 0 rfl) ?_
              refine get_X11_26 hx hb hts in_X11_copy_X11 hown hK hz hW lk_X11_copy_0 dX11_copy_52 ?_
              refine lv_iload_n hx hb dX11_copy_55 rfl (lv_at hl 1 rfl) ?_
              refine ld_M15 hx hb hK hz hW g_7 dX11_copy_56 ?_
              refine lv_aload_n hx hb dX11_copy_57 rfl (lv_at hl 0 rfl) ?_
              refine get_X11_26 hx hb hts in_X11_copy_X11 hown hK hz hW lk_X11_copy_0 dX11_copy_58 ?_
              refine lv_iload_n hx hb dX11_copy_61 rfl (lv_at hl 3 rfl) ?_
              refine ld_M15 hx hb hK hz hW g_12 dX11_copy_62 ?_
              refine lv_icmp_eq (tgt := 73) hx hb dX11_copy_63 (by decide) (fun c_18 => ?_) (fun c_18 => ?_)
              · have hf := of_t c_18 hf
                refine lv_iload hx hb dX11_copy_73 (lv_at hl 5 rfl) ?_
                refine lv_if_lt (tgt := 114) hx hb dX11_copy_75 (by decide) (fun c_19 => ?_) (fun c_19 => ?_)
                · have hf := of_t c_19 hf
                  refine lv_aload_n hx hb dX11_copy_114 rfl (lv_at hl 0 rfl) ?_
                  refine lv_bipush (v := (-13)) hx hb dX11_copy_115 (by decide) ?_
                  obtain ⟨r_20, w_22, hq_21, hf⟩ := of_b2 hf
                  refine m_goWi (va_runV (As := [.int (-13)]) (rest := []) ⟨hx, hb, hml, hown, hts⟩ (c_X11_refuse l hz (-13) w hq_21) (cwV 1 hts gX11_copy_X11_refuse rfl rfl rfl (by decide +kernel) ⟨Nat.le_of_ble_eq_true rfl, Nat.le_of_ble_eq_true rfl⟩) (pre_X11 hK hz hW _) rfl rfl hl.1 rfl (lv_room (Nat.le_of_ble_eq_true rfl)) dX11_copy_117 ⟨Nat.le_refl _, Nat.le_refl _⟩) hS (fun H locs hW hS => ?_)
                  exact hret _ _ _ _ _ _ hf hW hS dX11_copy_120
                · have hf := of_f c_19 hf
                  refine lv_iload_n hx hb dX11_copy_78 rfl (lv_at hl 2 rfl) ?_
                  refine lv_if_lt (tgt := 114) hx hb dX11_copy_79 (by decide) (fun c_23 => ?_) (fun c_23 => ?_)
                  · have hf := of_t c_23 hf
                    refine lv_aload_n hx hb dX11_copy_114 rfl (lv_at hl 0 rfl) ?_
                    refine lv_bipush (v := (-13)) hx hb dX11_copy_115 (by decide) ?_
                    obtain ⟨r_24, w_26, hq_25, hf⟩ := of_b2 hf
                    refine m_goWi (va_runV (As := [.int (-13)]) (rest := []) ⟨hx, hb, hml, hown, hts⟩ (c_X11_refuse l hz (-13) w hq_25) (cwV 1 hts gX11_copy_X11_refuse rfl rfl rfl (by decide +kernel) ⟨Nat.le_of_ble_eq_true rfl, Nat.le_of_ble_eq_true rfl⟩) (pre_X11 hK hz hW _) rfl rfl hl.1 rfl (lv_room (Nat.le_of_ble_eq_true rfl)) dX11_copy_117 ⟨Nat.le_refl _, Nat.le_refl _⟩) hS (fun H locs hW hS => ?_)
                    exact hret _ _ _ _ _ _ hf hW hS dX11_copy_120
                  · have hf := of_f c_23 hf
                    refine lv_iload hx hb dX11_copy_82 (lv_at hl 4 rfl) ?_
                    refine lv_if_lt (tgt := 114) hx hb dX11_copy_84 (by decide) (fun c_27 => ?_) (fun c_27 => ?_)
                    · have hf := of_t c_27 hf
                      refine lv_aload_n hx hb dX11_copy_114 rfl (lv_at hl 0 rfl) ?_
                      refine lv_bipush (v := (-13)) hx hb dX11_copy_115 (by decide) ?_
                      obtain ⟨r_28, w_30, hq_29, hf⟩ := of_b2 hf
                      refine m_goWi (va_runV (As := [.int (-13)]) (rest := []) ⟨hx, hb, hml, hown, hts⟩ (c_X11_refuse l hz (-13) w hq_29) (cwV 1 hts gX11_copy_X11_refuse rfl rfl rfl (by decide +kernel) ⟨Nat.le_of_ble_eq_true rfl, Nat.le_of_ble_eq_true rfl⟩) (pre_X11 hK hz hW _) rfl rfl hl.1 rfl (lv_room (Nat.le_of_ble_eq_true rfl)) dX11_copy_117 ⟨Nat.le_refl _, Nat.le_refl _⟩) hS (fun H locs hW hS => ?_)
                      exact hret _ _ _ _ _ _ hf hW hS dX11_copy_120
                    · have hf := of_f c_27 hf
                      refine lv_iload hx hb dX11_copy_87 (lv_at hl 5 rfl) ?_
                      refine lv_aload_n hx hb dX11_copy_89 rfl (lv_at hl 0 rfl) ?_
                      refine get_X11_27 hx hb hts in_X11_copy_X11 hown hK hz hW lk_X11_copy_1 dX11_copy_90 ?_
                      refine lv_iload_n hx hb dX11_copy_93 rfl (lv_at hl 1 rfl) ?_
                      refine ld_M16 hx hb hK hz hW g_7 dX11_copy_94 ?_
                      refine lv_iload_n hx hb dX11_copy_95 rfl (lv_at hl 2 rfl) ?_
                      refine lv_isub hx hb dX11_copy_96 ?_
                      refine lv_topi (fun v_31 ev_31 => ?_)
                      have hf := of_lt ev_31 hf
                      refine lv_icmp_gt (tgt := 114) hx hb dX11_copy_97 (by decide) (fun c_32 => ?_) (fun c_32 => ?_)
                      · have hf := of_t c_32 hf
                        refine lv_aload_n hx hb dX11_copy_114 rfl (lv_at hl 0 rfl) ?_
                        refine lv_bipush (v := (-13)) hx hb dX11_copy_115 (by decide) ?_
                        obtain ⟨r_33, w_35, hq_34, hf⟩ := of_b2 hf
                        refine m_goWi (va_runV (As := [.int (-13)]) (rest := []) ⟨hx, hb, hml, hown, hts⟩ (c_X11_refuse l hz (-13) w hq_34) (cwV 1 hts gX11_copy_X11_refuse rfl rfl rfl (by decide +kernel) ⟨Nat.le_of_ble_eq_true rfl, Nat.le_of_ble_eq_true rfl⟩) (pre_X11 hK hz hW _) rfl rfl hl.1 rfl (lv_room (Nat.le_of_ble_eq_true rfl)) dX11_copy_117 ⟨Nat.le_refl _, Nat.le_refl _⟩) hS (fun H locs hW hS => ?_)
                        exact hret _ _ _ _ _ _ hf hW hS dX11_copy_120
                      · have hf := of_f c_32 hf
                        refine lv_iload hx hb dX11_copy_100 (lv_at hl 5 rfl) ?_
                        refine lv_aload_n hx hb dX11_copy_102 rfl (lv_at hl 0 rfl) ?_
                        refine get_X11_27 hx hb hts in_X11_copy_X11 hown hK hz hW lk_X11_copy_1 dX11_copy_103 ?_
                        refine lv_iload_n hx hb dX11_copy_106 rfl (lv_at hl 3 rfl) ?_
                        refine ld_M16 hx hb hK hz hW g_12 dX11_copy_107 ?_
                        refine lv_iload hx hb dX11_copy_108 (lv_at hl 4 rfl) ?_
                        refine lv_isub hx hb dX11_copy_110 ?_
                        refine lv_topi (fun v_36 ev_36 => ?_)
                        have hf := of_lt ev_36 hf
                        refine lv_icmp_le (tgt := 121) hx hb dX11_copy_111 (by decide) (fun c_37 => ?_) (fun c_37 => ?_)
                        · have hf := of_t c_37 hf
                          refine lv_iconst (v := 0) hx hb dX11_copy_121 (by decide) ?_
                          refine lv_istore (lv' := [(6, .int 0), (0, .ref (z.2.1 0)), (1, .int x1), (2, .int x2), (3, .int x3), (4, .int x4), (5, .int x5)]) hx hb dX11_copy_122 hl (by decide) rfl (fun ls hl => ?_)
                          have L_40 : ∀ (n : Nat) (x6_38 : Int32) (w_39 : Mem) (exL_40 : Mem) (H : Heap) (locs : List Loc) (ls : Array Slot), f_X11_copy_L124 x1 x2 x5 n x6_38 w_39 = some exL_40 → hd z w_39 H → va_S (az z) s.heap H locs → lv_has ls 7 [(0, .ref (z.2.1 0)), (1, .int x1), (2, .int x2), (3, .int x3), (4, .int x4), (5, .int x5), (6, .int x6_38)] → (∀ (H : Heap) (locs : List Loc) (ls : Array Slot), hd z (exL_40) H → va_S (az z) s.heap H locs → lv_has ls 7 [(0, .ref (z.2.1 0)), (3, .int x3), (4, .int x4), (5, .int x5)] → W p l e (rm 2 42) s m args below meth c H locs 0 0 Q (F0 m 159 ls [])) → W p l e (rm 2 42) s m args below meth c H locs 0 0 Q (F0 m 124 ls []) := by
                            intro n
                            induction n with
                            | zero =>
                              intro x6_38 w_39 exL_40 H locs ls hf
                              have hf : (none : Option (Mem)) = some exL_40 := hf
                              cases hf
                            | succ n ihL_40 =>
                              intro x6_38 w_39 exL_40 H locs ls hf hW hS hl hEL_40
                              rw [f_X11_copy_L124_s] at hf
                              refine lv_iload hx hb dX11_copy_124 (lv_at hl 6 rfl) ?_
                              refine lv_iload hx hb dX11_copy_126 (lv_at hl 5 rfl) ?_
                              refine lv_icmp_ge (tgt := 159) hx hb dX11_copy_128 (by decide) (fun c_41 => ?_) (fun c_41 => ?_)
                              · have hf := of_t c_41 hf
                                have hf := Option.some.inj hf
                                subst hf
                                exact hEL_40 _ _ _ hW hS (lv_sub hl [0, 3, 4, 5] rfl)
                              · have hf := of_f c_41 hf
                                refine lv_aload_n hx hb dX11_copy_131 rfl (lv_at hl 0 rfl) ?_
                                refine get_X11_61 hx hb hts in_X11_copy_X11 hown hK hz hW lk_X11_copy_2 dX11_copy_132 ?_
                                refine lv_iload hx hb dX11_copy_135 (lv_at hl 6 rfl) ?_
                                refine lv_aload_n hx hb dX11_copy_137 rfl (lv_at hl 0 rfl) ?_
                                refine get_X11_28 hx hb hts in_X11_copy_X11 hown hK hz hW lk_X11_copy_3 dX11_copy_138 ?_
                                refine lv_sipush (v := 400) hx hb dX11_copy_141 (by decide) ?_
                                refine lv_iload_n hx hb dX11_copy_144 rfl (lv_at hl 1 rfl) ?_
                                refine lv_imul hx hb dX11_copy_145 ?_
                                refine lv_iload_n hx hb dX11_copy_146 rfl (lv_at hl 2 rfl) ?_
                                refine lv_iadd hx hb dX11_copy_147 ?_
                                refine lv_iload hx hb dX11_copy_148 (lv_at hl 6 rfl) ?_
                                refine lv_iadd hx hb dX11_copy_150 ?_
                                refine lv_topi (fun v_42 ev_42 => ?_)
                                have hf := of_lt ev_42 hf
                                obtain ⟨g_43, hf⟩ := of_gd hf
                                refine ld_M17 hx hb hK hz hW g_43 dX11_copy_151 ?_
                                refine lv_topl (fun v_44 ev_44 => ?_)
                                have hf := of_lt ev_44 hf
                                obtain ⟨g_45, hf⟩ := of_gd hf
                                refine st_M26 hx hb hK hz hW hS g_45 dX11_copy_152 (fun H locs hW hS => ?_)
                                obtain ⟨w_46, ew_46⟩ : ∃ y : Mem, y = mL w_39 26 x6_38.toNatClampNeg v_44 := ⟨_, rfl⟩
                                have hW : hd z w_46 H := by rw [ew_46]; exact hW
                                have hf := of_lt ew_46 hf
                                obtain ⟨x6_47, ex6_47⟩ : ∃ y : Int32, y = x6_38 + 1 := ⟨_, rfl⟩
                                have hf := of_lt ex6_47 hf
                                refine lv_iinc (v := x6_47) (lv' := [(6, .int x6_47), (0, .ref (z.2.1 0)), (1, .int x1), (2, .int x2), (3, .int x3), (4, .int x4), (5, .int x5)]) hx hb dX11_copy_153 hl (k := 6) rfl (by rw [ex6_47]; rfl) (by decide) rfl (fun ls hl => ?_)
                                refine lv_goto (tgt := 124) hx hb dX11_copy_156 (by decide) ?_
                                exact ihL_40 _ _ _ _ _ _ hf hW hS (lv_sub hl [1, 2, 3, 4, 5, 6, 0] rfl) hEL_40
                          obtain ⟨ex_49, hq_48, hf⟩ := of_bd hf
                          obtain ⟨w_50, ew_50⟩ : ∃ y, y = ex_49 := ⟨_, rfl⟩
                          rw [← ew_50] at hf
                          rw [← ew_50] at hq_48
                          refine L_40 FU _ _ _ _ _ _ hq_48 hW hS (lv_sub hl [1, 2, 3, 4, 5, 6, 0] rfl) (fun H locs ls hW hS hl => ?_)
                          have hW : hd z w_50 H := hW
                          have hl : lv_has ls 7 [(0, .ref (z.2.1 0)), (3, .int x3), (4, .int x4), (5, .int x5)] := hl
                          refine lv_iconst (v := 0) hx hb dX11_copy_159 (by decide) ?_
                          refine lv_istore (lv' := [(6, .int 0), (0, .ref (z.2.1 0)), (3, .int x3), (4, .int x4), (5, .int x5)]) hx hb dX11_copy_160 hl (by decide) rfl (fun ls hl => ?_)
                          have L_53 : ∀ (n : Nat) (x6_51 : Int32) (w_52 : Mem) (exL_53 : Mem) (H : Heap) (locs : List Loc) (ls : Array Slot), f_X11_copy_L162 x3 x4 x5 n x6_51 w_52 = some exL_53 → hd z w_52 H → va_S (az z) s.heap H locs → lv_has ls 7 [(0, .ref (z.2.1 0)), (3, .int x3), (4, .int x4), (5, .int x5), (6, .int x6_51)] → (∀ (H : Heap) (locs : List Loc) (ls : Array Slot), hd z (exL_53) H → va_S (az z) s.heap H locs → lv_has ls 7 [(5, .int x5)] → W p l e (rm 2 42) s m args below meth c H locs 0 0 Q (F0 m 198 ls [])) → W p l e (rm 2 42) s m args below meth c H locs 0 0 Q (F0 m 162 ls []) := by
                            intro n
                            induction n with
                            | zero =>
                              intro x6_51 w_52 exL_53 H locs ls hf
                              have hf : (none : Option (Mem)) = some exL_53 := hf
                              cases hf
                            | succ n ihL_53 =>
                              intro x6_51 w_52 exL_53 H locs ls hf hW hS hl hEL_53
                              rw [f_X11_copy_L162_s] at hf
                              refine lv_iload hx hb dX11_copy_162 (lv_at hl 4 rfl) ?_
                              refine lv_iload hx hb dX11_copy_164 (lv_at hl 3 rfl) ?_
                              refine lv_icmp_ge (tgt := 198) hx hb dX11_copy_166 (by decide) (fun c_54 => ?_) (fun c_54 => ?_)
                              · have hf := of_t c_54 hf
                                have hf := Option.some.inj hf
                                subst hf
                                exact hEL_53 _ _ _ hW hS (lv_sub hl [3] rfl)
                              · have hf := of_f c_54 hf
                                refine lv_aload_n hx hb dX11_copy_169 rfl (lv_at hl 0 rfl) ?_
                                refine get_X11_28 hx hb hts in_X11_copy_X11 hown hK hz hW lk_X11_copy_3 dX11_copy_170 ?_
                                refine lv_sipush (v := 400) hx hb dX11_copy_173 (by decide) ?_
                                refine lv_iload_n hx hb dX11_copy_176 rfl (lv_at hl 1 rfl) ?_
                                refine lv_imul hx hb dX11_copy_177 ?_
                                refine lv_iload hx hb dX11_copy_178 (lv_at hl 2 rfl) ?_
                                refine lv_iadd hx hb dX11_copy_180 ?_
                                refine lv_iload hx hb dX11_copy_181 (lv_at hl 4 rfl) ?_
                                refine lv_iadd hx hb dX11_copy_183 ?_
                                refine lv_topi (fun v_55 ev_55 => ?_)
                                have hf := of_lt ev_55 hf
                                refine lv_aload_n hx hb dX11_copy_184 rfl (lv_at hl 0 rfl) ?_
                                refine get_X11_61 hx hb hts in_X11_copy_X11 hown hK hz hW lk_X11_copy_2 dX11_copy_185 ?_
                                refine lv_iload hx hb dX11_copy_188 (lv_at hl 4 rfl) ?_
                                obtain ⟨g_56, hf⟩ := of_gd hf
                                refine ld_M26 hx hb hK hz hW g_56 dX11_copy_190 ?_
                                refine lv_topl (fun v_57 ev_57 => ?_)
                                have hf := of_lt ev_57 hf
                                obtain ⟨g_58, hf⟩ := of_gd hf
                                refine st_M17 hx hb hK hz hW hS g_58 dX11_copy_191 (fun H locs hW hS => ?_)
                                obtain ⟨w_59, ew_59⟩ : ∃ y : Mem, y = mL w_52 17 v_55.toNatClampNeg v_57 := ⟨_, rfl⟩
                                have hW : hd z w_59 H := by rw [ew_59]; exact hW
                                have hf := of_lt ew_59 hf
                                obtain ⟨x6_60, ex6_60⟩ : ∃ y : Int32, y = x6_51 + 1 := ⟨_, rfl⟩
                                have hf := of_lt ex6_60 hf
                                refine lv_iinc (v := x6_60) (lv' := [(6, .int x6_60), (0, .ref (z.2.1 0)), (3, .int x3), (4, .int x4), (5, .int x5)]) hx hb dX11_copy_192 hl (k := 4) rfl (by rw [ex6_60]; rfl) (by decide) rfl (fun ls hl => ?_)
                                refine lv_goto (tgt := 162) hx hb dX11_copy_195 (by decide) ?_
                                exact ihL_53 _ _ _ _ _ _ hf hW hS (lv_sub hl [1, 2, 3, 4, 0] rfl) hEL_53
                          obtain ⟨ex_62, hq_61, hf⟩ := of_bd hf
                          obtain ⟨w_63, ew_63⟩ : ∃ y, y = ex_62 := ⟨_, rfl⟩
                          rw [← ew_63] at hf
                          rw [← ew_63] at hq_61
                          refine L_53 FU _ _ _ _ _ _ hq_61 hW hS (lv_sub hl [1, 2, 3, 4, 0] rfl) (fun H locs ls hW hS hl => ?_)
                          have hW : hd z w_63 H := hW
                          have hl : lv_has ls 7 [(5, .int x5)] := hl
                          refine lv_iload hx hb dX11_copy_198 (lv_at hl 0 rfl) ?_
                          exact hret _ _ _ _ _ _ hf hW hS dX11_copy_200
                        · have hf := of_f c_37 hf
                          refine lv_aload_n hx hb dX11_copy_114 rfl (lv_at hl 0 rfl) ?_
                          refine lv_bipush (v := (-13)) hx hb dX11_copy_115 (by decide) ?_
                          obtain ⟨r_64, w_66, hq_65, hf⟩ := of_b2 hf
                          refine m_goWi (va_runV (As := [.int (-13)]) (rest := []) ⟨hx, hb, hml, hown, hts⟩ (c_X11_refuse l hz (-13) w hq_65) (cwV 1 hts gX11_copy_X11_refuse rfl rfl rfl (by decide +kernel) ⟨Nat.le_of_ble_eq_true rfl, Nat.le_of_ble_eq_true rfl⟩) (pre_X11 hK hz hW _) rfl rfl hl.1 rfl (lv_room (Nat.le_of_ble_eq_true rfl)) dX11_copy_117 ⟨Nat.le_refl _, Nat.le_refl _⟩) hS (fun H locs hW hS => ?_)
                          exact hret _ _ _ _ _ _ hf hW hS dX11_copy_120
              · have hf := of_f c_18 hf
                refine lv_aload_n hx hb dX11_copy_66 rfl (lv_at hl 0 rfl) ?_
                refine lv_bipush (v := (-12)) hx hb dX11_copy_67 (by decide) ?_
                obtain ⟨r_67, w_69, hq_68, hf⟩ := of_b2 hf
                refine m_goWi (va_runV (As := [.int (-12)]) (rest := []) ⟨hx, hb, hml, hown, hts⟩ (c_X11_refuse l hz (-12) w hq_68) (cwV 1 hts gX11_copy_X11_refuse rfl rfl rfl (by decide +kernel) ⟨Nat.le_of_ble_eq_true rfl, Nat.le_of_ble_eq_true rfl⟩) (pre_X11 hK hz hW _) rfl rfl hl.1 rfl (lv_room (Nat.le_of_ble_eq_true rfl)) dX11_copy_69 ⟨Nat.le_refl _, Nat.le_refl _⟩) hS (fun H locs hW hS => ?_)
                exact hret _ _ _ _ _ _ hf hW hS dX11_copy_72
          · have hf := of_t c_13 hf
            refine lv_aload_n hx hb dX11_copy_34 rfl (lv_at hl 0 rfl) ?_
            refine lv_bipush (v := (-11)) hx hb dX11_copy_35 (by decide) ?_
            obtain ⟨r_70, w_72, hq_71, hf⟩ := of_b2 hf
            refine m_goWi (va_runV (As := [.int (-11)]) (rest := []) ⟨hx, hb, hml, hown, hts⟩ (c_X11_refuse l hz (-11) w hq_71) (cwV 1 hts gX11_copy_X11_refuse rfl rfl rfl (by decide +kernel) ⟨Nat.le_of_ble_eq_true rfl, Nat.le_of_ble_eq_true rfl⟩) (pre_X11 hK hz hW _) rfl rfl hl.1 rfl (lv_room (Nat.le_of_ble_eq_true rfl)) dX11_copy_37 ⟨Nat.le_refl _, Nat.le_refl _⟩) hS (fun H locs hW hS => ?_)
            exact hret _ _ _ _ _ _ hf hW hS dX11_copy_40
      · have hf := of_t c_6 hf
        refine lv_iconst (v := (-1)) hx hb dX11_copy_14 (by decide) ?_
        exact hret _ _ _ _ _ _ hf hW hS dX11_copy_15
  exact START _ _ hW va_S.rf
theorem in_X11_count_X11 : ∀ w ∈ wsX110, w ∈ wsX11_count := by decide +kernel
theorem lk_X11_count_0 : Cond.fieldLink RX11 109 "CamStitchModel" "points" "I" ∈ wsX11_count := by decide +kernel
theorem lk_X11_count_1 : Cond.fieldLink RX11 16 "CamStitchModel" "many" "[I" ∈ wsX11_count := by decide +kernel
theorem lk_X11_count_2 : Cond.fieldLink RX11 112 "CamStitchModel" "sides" "I" ∈ wsX11_count := by decide +kernel
theorem lk_X11_count_3 : Cond.fieldLink RX11 115 "CamStitchModel" "steps" "I" ∈ wsX11_count := by decide +kernel
theorem lk_X11_count_4 : Cond.fieldLink RX11 122 "CamStitchModel" "notes" "I" ∈ wsX11_count := by decide +kernel
theorem lk_X11_count_5 : Cond.fieldLink RX11 106 "CamStitchModel" "refusals" "I" ∈ wsX11_count := by decide +kernel
set_option maxHeartbeats 4000000 in
set_option maxRecDepth 100000 in
theorem c_X11_count (l : Launch) {z : LZ} (hz : IM z) (x1 : Int32) (w : Mem) {r : Int32} (hf : f_X11_count x1 w = some r) : Met l yX11_count wsX11_count (rm 0 0) (PZ z w [.ref (z.2.1 0), .int x1]) (QR (some (.int r))) 0 0 (fun _ => False) := by
  refine mk_Ri (cc := cX11_count) (maxL := 4) (by decide +kernel) rfl (Nat.le_of_ble_eq_true rfl) ?_
  intro p e s m args below meth c hx hb hml hts hown hK hW Q hret ls hl
  have hl : lv_has ls 4 [(0, .ref (z.2.1 0)), (1, .int x1)] := hl
  unfold f_X11_count at hf
  refine lv_iconst (v := 0) hx hb dX11_count_0 (by decide) ?_
  refine lv_istore_n (lv' := [(2, .int 0), (0, .ref (z.2.1 0)), (1, .int x1)]) hx hb dX11_count_1 rfl hl (by decide) rfl (fun ls hl => ?_)
  refine lv_iload_n hx hb dX11_count_2 rfl (lv_at hl 2 rfl) ?_
  by_cases c_1 : x1 = 0
  · have hf := of_t c_1 hf
    refine lv_tableIn (off := 37) (tgt := 40) hx hb dX11_count_3 (by rw [c_1]; decide) (by rw [c_1]; decide) (by rw [c_1]; rfl) (by decide) ?_
    refine lv_aload_n hx hb dX11_count_40 rfl (lv_at hl 1 rfl) ?_
    refine get_X11_1 hx hb hts in_X11_count_X11 hown hK hz hW lk_X11_count_0 dX11_count_41 ?_
    exact hret _ _ _ hf dX11_count_44
  have hf := of_f c_1 hf
  by_cases c_2 : x1 = 1
  · have hf := of_t c_2 hf
    refine lv_tableIn (off := 42) (tgt := 45) hx hb dX11_count_3 (by rw [c_2]; decide) (by rw [c_2]; decide) (by rw [c_2]; rfl) (by decide) ?_
    refine lv_iconst (v := 0) hx hb dX11_count_45 (by decide) ?_
    refine lv_istore_n (lv' := [(3, .int 0), (2, .int 0), (0, .ref (z.2.1 0)), (1, .int x1)]) hx hb dX11_count_46 rfl hl (by decide) rfl (fun ls hl => ?_)
    have L_5 : ∀ (n : Nat) (x2_3 : Int32) (x3_4 : Int32) (exL_5 : Int32) (ls : Array Slot), f_X11_count_L47 w n x2_3 x3_4 = some exL_5 → lv_has ls 4 [(0, .ref (z.2.1 0)), (2, .int x2_3), (3, .int x3_4)] → (∀ (ls : Array Slot), lv_has ls 4 [(2, .int exL_5)] → W p l e (rm 0 0) s m args below meth c s.heap [] 0 0 Q (F0 m 76 ls [])) → W p l e (rm 0 0) s m args below meth c s.heap [] 0 0 Q (F0 m 47 ls []) := by
      intro n
      induction n with
      | zero =>
        intro x2_3 x3_4 exL_5 ls hf
        have hf : (none : Option (Int32)) = some exL_5 := hf
        cases hf
      | succ n ihL_5 =>
        intro x2_3 x3_4 exL_5 ls hf hl hEL_5
        rw [f_X11_count_L47_s] at hf
        refine lv_iload_n hx hb dX11_count_47 rfl (lv_at hl 2 rfl) ?_
        refine lv_bipush (v := 8) hx hb dX11_count_48 (by decide) ?_
        refine lv_icmp_ge (tgt := 76) hx hb dX11_count_50 (by decide) (fun c_6 => ?_) (fun c_6 => ?_)
        · have hf := of_t c_6 hf
          have hf := Option.some.inj hf
          subst hf
          exact hEL_5 _ (lv_sub hl [1] rfl)
        · have hf := of_f c_6 hf
          refine lv_iload_n hx hb dX11_count_53 rfl (lv_at hl 1 rfl) ?_
          refine lv_aload_n hx hb dX11_count_54 rfl (lv_at hl 0 rfl) ?_
          refine get_X11_5 hx hb hts in_X11_count_X11 hown hK hz hW lk_X11_count_1 dX11_count_55 ?_
          refine lv_iload_n hx hb dX11_count_58 rfl (lv_at hl 2 rfl) ?_
          obtain ⟨g_7, hf⟩ := of_gd hf
          refine ld_M3 hx hb hK hz hW g_7 dX11_count_59 ?_
          have J_9 : ∀ (v_8 : Int32) (ls : Array Slot), v_8 = (if (w.1 3 x3_4.toNatClampNeg) ≤ 0 then 0 else 1) → lv_has ls 4 [(0, .ref (z.2.1 0)), (3, .int x3_4)] → W p l e (rm 0 0) s m args below meth c s.heap [] 0 0 Q (F0 m 68 ls [.int v_8, .int x2_3]) := by
            intro v_8 ls ev_8 hl
            have hf := of_lt ev_8 hf
            refine lv_iadd hx hb dX11_count_68 ?_
            refine lv_topi (fun v_10 ev_10 => ?_)
            have hf := of_lt ev_10 hf
            refine lv_istore_n (lv' := [(2, .int v_10), (0, .ref (z.2.1 0)), (3, .int x3_4)]) hx hb dX11_count_69 rfl hl (by decide) rfl (fun ls hl => ?_)
            obtain ⟨x3_11, ex3_11⟩ : ∃ y : Int32, y = x3_4 + 1 := ⟨_, rfl⟩
            have hf := of_lt ex3_11 hf
            refine lv_iinc (v := x3_11) (lv' := [(3, .int x3_11), (2, .int v_10), (0, .ref (z.2.1 0))]) hx hb dX11_count_70 hl (k := 2) rfl (by rw [ex3_11]; rfl) (by decide) rfl (fun ls hl => ?_)
            refine lv_goto (tgt := 47) hx hb dX11_count_73 (by decide) ?_
            exact ihL_5 _ _ _ _ hf (lv_sub hl [2, 1, 0] rfl) hEL_5
          refine lv_if_le (tgt := 67) hx hb dX11_count_60 (by decide) (fun c_12 => ?_) (fun c_12 => ?_)
          · refine lv_iconst (v := 0) hx hb dX11_count_67 (by decide) ?_
            exact J_9 _ _ (by rw [if_pos c_12]) (lv_sub hl [0, 2] rfl)
          · refine lv_iconst (v := 1) hx hb dX11_count_63 (by decide) ?_
            refine lv_goto (tgt := 68) hx hb dX11_count_64 (by decide) ?_
            exact J_9 _ _ (by rw [if_neg c_12]) (lv_sub hl [0, 2] rfl)
    obtain ⟨ex_14, hq_13, hf⟩ := of_bd hf
    obtain ⟨x2_15, ex2_15⟩ : ∃ y, y = ex_14 := ⟨_, rfl⟩
    rw [← ex2_15] at hf
    rw [← ex2_15] at hq_13
    refine L_5 FU _ _ _ _ hq_13 (lv_sub hl [2, 1, 0] rfl) (fun ls hl => ?_)
    have hl : lv_has ls 4 [(2, .int x2_15)] := hl
    refine lv_iload_n hx hb dX11_count_76 rfl (lv_at hl 0 rfl) ?_
    exact hret _ _ _ hf dX11_count_77
  have hf := of_f c_2 hf
  by_cases c_16 : x1 = 2
  · have hf := of_t c_16 hf
    refine lv_tableIn (off := 75) (tgt := 78) hx hb dX11_count_3 (by rw [c_16]; decide) (by rw [c_16]; decide) (by rw [c_16]; rfl) (by decide) ?_
    refine lv_aload_n hx hb dX11_count_78 rfl (lv_at hl 1 rfl) ?_
    refine get_X11_8 hx hb hts in_X11_count_X11 hown hK hz hW lk_X11_count_2 dX11_count_79 ?_
    exact hret _ _ _ hf dX11_count_82
  have hf := of_f c_16 hf
  by_cases c_17 : x1 = 3
  · have hf := of_t c_17 hf
    refine lv_tableIn (off := 80) (tgt := 83) hx hb dX11_count_3 (by rw [c_17]; decide) (by rw [c_17]; decide) (by rw [c_17]; rfl) (by decide) ?_
    refine lv_aload_n hx hb dX11_count_83 rfl (lv_at hl 1 rfl) ?_
    refine get_X11_15 hx hb hts in_X11_count_X11 hown hK hz hW lk_X11_count_3 dX11_count_84 ?_
    exact hret _ _ _ hf dX11_count_87
  have hf := of_f c_17 hf
  by_cases c_18 : x1 = 4
  · have hf := of_t c_18 hf
    refine lv_tableIn (off := 85) (tgt := 88) hx hb dX11_count_3 (by rw [c_18]; decide) (by rw [c_18]; decide) (by rw [c_18]; rfl) (by decide) ?_
    refine lv_aload_n hx hb dX11_count_88 rfl (lv_at hl 1 rfl) ?_
    refine get_X11_22 hx hb hts in_X11_count_X11 hown hK hz hW lk_X11_count_4 dX11_count_89 ?_
    exact hret _ _ _ hf dX11_count_92
  have hf := of_f c_18 hf
  by_cases c_19 : x1 = 5
  · have hf := of_t c_19 hf
    refine lv_tableIn (off := 90) (tgt := 93) hx hb dX11_count_3 (by rw [c_19]; decide) (by rw [c_19]; decide) (by rw [c_19]; rfl) (by decide) ?_
    refine lv_aload_n hx hb dX11_count_93 rfl (lv_at hl 1 rfl) ?_
    refine get_X11_25 hx hb hts in_X11_count_X11 hown hK hz hW lk_X11_count_5 dX11_count_94 ?_
    exact hret _ _ _ hf dX11_count_97
  have hf := of_f c_19 hf
  refine lv_tableOut (tgt := 98) hx hb dX11_count_3 (by have qc_1 := lv_neT c_1 (show (0 : Int32).toInt = 0 by decide); have qc_2 := lv_neT c_2 (show (1 : Int32).toInt = 1 by decide); have qc_16 := lv_neT c_16 (show (2 : Int32).toInt = 2 by decide); have qc_17 := lv_neT c_17 (show (3 : Int32).toInt = 3 by decide); have qc_18 := lv_neT c_18 (show (4 : Int32).toInt = 4 by decide); have qc_19 := lv_neT c_19 (show (5 : Int32).toInt = 5 by decide); omega) (by decide) ?_
  refine lv_iconst (v := (-1)) hx hb dX11_count_98 (by decide) ?_
  exact hret _ _ _ hf dX11_count_99
