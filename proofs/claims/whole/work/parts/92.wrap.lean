/-! ===== the law's wrappers (by program: wip/gen/wrap.py) ===== -/
theorem mk_L {l : Launch} {y : MethodName} {ws ws' : List Cond} {r0 : Room} {cc : ByteArray} {maxL : Nat} {z : LZ} {w w' : Mem} {av : List Value} {hh : List (Nat × Nat × Nat × Nat)} {r : Int32} (hy : plainName y.cls = true) (hw : ws = Cond.codeWith y cc maxL (some .int) hh :: ws') (hlen : (lg_sl av).length ≤ maxL)
    (body : ∀ (p : Program) (e : Env) (s : State) (m : MethodId) (args : Array Value) (below : List Frame) (meth : Method) (c : Code), p.tables.exec = Jvm.exec → c.code = cc → c.maxLocals = maxL → (∀ w ∈ ws, w.before args s = true) → s.vm.findClass y.cls = some m.cls → ks z s → xk z s → hd z w s.heap → c.exceptionTable.toList = tableOf hh → ∀ (Q : State → Prop),
      (∀ (v : Int32) (w1 : Mem) (H : Heap) (locs : List Loc) (pc : Nat) (ls : Array Slot), some (v, w1) = some (r, w') → hd z w1 H → va_S (az z) s.heap H locs → decode cc pc = .ok (.ireturn, 1) → W p l e r0 s m args below meth c H locs 1 6 Q (F0 m pc ls [.int v])) →
      ∀ ls, lv_has ls maxL (lv_args 0 av) → W p l e r0 s m args below meth c s.heap [] 0 0 Q (F0 m 0 ls [])) : Met l y ws r0 (PX z w av) (QW z (some (.int r)) w') 1 6 (az z) := by
  refine MetFree.of_bodyS (code := cc) (maxLocals := maxL) (ret := some .int) hy (fun args s m h hn => ?_) (fun p e s m args below meth c s₁ B hml hv _ => ?_)
  · obtain ⟨m9, meth, c, hn9, h1, h2, h3, h4, -, h5, h6, -⟩ := Cond.codeWith_spec (atoms_spec (ws := ws) h _ (by rw [hw]; exact List.mem_cons_self))
    cases hn.symm.trans hn9
    exact ⟨meth, c, h1, h2, h3, h4, h5, h6⟩
  · obtain ⟨rfl, hP, hK, hX⟩ := hv
    have hlocks := B.notSynchronized
    have hts := atoms_spec (ws := ws) B.pre
    have htab := vx_table (x := y) B (hts _ (by rw [hw]; exact List.mem_cons_self))
    have hl := lv_entry av (n := maxL) hlen
    have K := body p e s m av.toArray below meth c B.exec B.bytes hml hts (findClass_of_methodNamed B.named) hK hX hP htab (MQ below (QW z (some (.int r)) w') av.toArray s 1 6 (az z)) (fun v w1 H locs pc ls hr hW hS hd => by
      cases hr
      exact W.iret B.exec B.bytes B.returns (fun t ht _ => ⟨⟨rfl, by rw [ht]; exact hW⟩, hS.F ht⟩) hS.2.2 hd) _ hl
    rw [← lg_entry_eq] at K
    obtain ⟨t, a1, o, b1, b2, b3⟩ := K s₁ (by rw [B.state]; rfl) (Stand.of_body B)
    exact ⟨t, o, a1, b1, b2, ⟨b3.1, b3.2⟩⟩
theorem x_preV {z : LZ} {s : State} {H : Heap} {w : Mem} (hK : ks z s) (hz : IC z) (hX : xk z s) (hW : hd z w H) (hH : s.heap = H) (As : List Value) : PreV s H RX10 (z.2.1 66) (PX z w (.ref (z.2.1 66) :: As)) As :=
  ⟨x_blind, (pre_X10 hK hz hW As).2.1, fun U hU hw => ⟨rfl, by rw [hU]; exact hW, ks_warm hw hK, xk_warm hw hX.1 hX.2.1 (by rw [← hH]; exact hX.2.2.1) (by rw [← hH]; exact hX.2.2.2) hU⟩⟩

theorem lk_L_point_0 : Cond.classLink RL 13 "java/lang/IllegalArgumentException" ∈ wsL_point := by decide +kernel
theorem lk_L_point_1 : Cond.classLink RL 15 "java/lang/IllegalStateException" ∈ wsL_point := by decide +kernel
set_option maxHeartbeats 4000000 in
set_option maxRecDepth 100000 in
theorem c_L_point (l : Launch) (hst : l.stackTraces = false) {z : LZ} (hz : IC z) (x1 : Int32) (x2 : Int32) (w : Mem) {r : Int32} {w' : Mem} (hf : f_L_point x1 x2 w = some (r, w')) : Met l yL_point wsL_point (rmx 7 112) (PX z w [.ref (z.2.1 66), .int x1, .int x2, .ref (z.2.1 88)]) (QW z (some (.int r)) w') 1 6 (az z) := by
  refine mk_L (cc := cL_point) (maxL := 5) (by decide +kernel) rfl (Nat.le_of_ble_eq_true rfl) ?_
  intro p e s m args below meth c hx hb hml hts hown hK hX hW htab Q hret ls hl
  have hl : lv_has ls 5 [(0, .ref (z.2.1 66)), (1, .int x1), (2, .int x2), (3, .ref (z.2.1 88))] := hl
  have hS : va_S (az z) s.heap s.heap [] := va_S.rf
  unfold f_L_point at hf
  refine lv_aload_n hx hb dL_point_0 rfl (lv_at hl 3 rfl) ?_
  refine lv_iconst (v := 0) hx hb dL_point_1 (by decide) ?_
  refine lv_aload_n hx hb dL_point_2 rfl (lv_at hl 0 rfl) ?_
  refine lv_iload_n hx hb dL_point_3 rfl (lv_at hl 1 rfl) ?_
  refine lv_iload_n hx hb dL_point_4 rfl (lv_at hl 2 rfl) ?_
  obtain ⟨o, w1, hq, hf⟩ := of_b2 hf
  refine m_goXi (w' := w1) (vx_runV (As := [.int x1, .int x2]) (rest := [.int 0, .ref (z.2.1 88)]) ⟨hx, hb, hml, hown, hts⟩ (c_X10_point l hst hz x1 x2 w hq) (cwV 2 hts gL_point_X10_point rfl rfl rfl (by decide +kernel) ⟨Nat.le_of_ble_eq_true rfl, Nat.le_of_ble_eq_true rfl⟩) (x_preV hK hz hX hW rfl _) rfl rfl hl.1 rfl (lv_room (Nat.le_of_ble_eq_true rfl)) dL_point_5 ⟨Nat.le_refl _, Nat.le_refl _⟩) hS (fun k ce q9 H locs ho hW hS hce hcv hcl => ?_) (fun v H locs ho hW hS => ?_)
  · subst ho
    cases k with
    | zero =>
      refine vx_catch (E := xIA) (name := xIA) hown [] ⟨0, 10, 13, 13⟩ [⟨0, 10, 17, 15⟩] htab (fun z hz => by cases hz) (by decide) (by decide) (hts _ lk_L_point_0) (va_Nw.use rfl (hX.1.1 (.castable xIA xIA) (by decide +kernel))) hce hcv hcl ?_
      refine lv_astore (lv' := [(4, .ref q9), (0, .ref (z.2.1 66)), (1, .int x1), (2, .int x2), (3, .ref (z.2.1 88))]) hx hb dL_point_13 hl (by decide) rfl (fun ls hl => ?_)
      refine lv_iconst (v := 1) hx hb dL_point_15 (by decide) ?_
      exact hret _ _ _ _ _ _ hf hW hS dL_point_16
    | succ k =>
      refine vx_catch (E := xIS) (name := xIS) hown [⟨0, 10, 13, 13⟩] ⟨0, 10, 17, 15⟩ [] htab (fun z hz => by rw [List.mem_singleton.mp hz]; exact Or.inr ⟨by decide, xIA, hts _ lk_L_point_0, hX.1.2⟩) (by decide) (by decide) (hts _ lk_L_point_1) (va_Nw.use rfl (hX.1.1 (.castable xIS xIS) (by decide +kernel))) hce hcv hcl ?_
      refine lv_astore (lv' := [(4, .ref q9), (0, .ref (z.2.1 66)), (1, .int x1), (2, .int x2), (3, .ref (z.2.1 88))]) hx hb dL_point_17 hl (by decide) rfl (fun ls hl => ?_)
      refine lv_iconst (v := 2) hx hb dL_point_19 (by decide) ?_
      exact hret _ _ _ _ _ _ hf hW hS dL_point_20
  · subst ho
    refine lv_i2l hx hb dL_point_8 rfl ?_
    refine st_A88 hx hb hK hz hW hS (by decide) dL_point_9 (fun H locs hW hS => ?_)
    refine lv_goto (tgt := 21) hx hb dL_point_10 (by decide) ?_
    refine lv_iconst (v := 0) hx hb dL_point_21 (by decide) ?_
    exact hret _ _ _ _ _ _ hf hW hS dL_point_22
theorem lk_L_advance_0 : Cond.classLink RL 15 "java/lang/IllegalStateException" ∈ wsL_advance := by decide +kernel
set_option maxHeartbeats 4000000 in
set_option maxRecDepth 100000 in
theorem c_L_advance (l : Launch) (hst : l.stackTraces = false) {z : LZ} (hz : IC z)  (w : Mem) {r : Int32} {w' : Mem} (hf : f_L_advance  w = some (r, w')) : Met l yL_advance wsL_advance (rmx 7 110) (PX z w [.ref (z.2.1 66), .ref (z.2.1 88)]) (QW z (some (.int r)) w') 1 6 (az z) := by
  refine mk_L (cc := cL_advance) (maxL := 3) (by decide +kernel) rfl (Nat.le_of_ble_eq_true rfl) ?_
  intro p e s m args below meth c hx hb hml hts hown hK hX hW htab Q hret ls hl
  have hl : lv_has ls 3 [(0, .ref (z.2.1 66)), (1, .ref (z.2.1 88))] := hl
  have hS : va_S (az z) s.heap s.heap [] := va_S.rf
  unfold f_L_advance at hf
  refine lv_aload_n hx hb dL_advance_0 rfl (lv_at hl 1 rfl) ?_
  refine lv_iconst (v := 0) hx hb dL_advance_1 (by decide) ?_
  refine lv_aload_n hx hb dL_advance_2 rfl (lv_at hl 0 rfl) ?_
  obtain ⟨o, w1, hq, hf⟩ := of_b2 hf
  refine m_goXi (w' := w1) (vx_runV (As := []) (rest := [.int 0, .ref (z.2.1 88)]) ⟨hx, hb, hml, hown, hts⟩ (c_X10_advance l hst hz  w hq) (cwV 0 hts gL_advance_X10_advance rfl rfl rfl (by decide +kernel) ⟨Nat.le_of_ble_eq_true rfl, Nat.le_of_ble_eq_true rfl⟩) (x_preV hK hz hX hW rfl _) rfl rfl hl.1 rfl (lv_room (Nat.le_of_ble_eq_true rfl)) dL_advance_3 ⟨Nat.le_refl _, Nat.le_refl _⟩) hS (fun k ce q9 H locs ho hW hS hce hcv hcl => ?_) (fun v H locs ho hW hS => ?_)
  · subst ho
    cases k with
    | zero =>
      cases hf
    | succ k =>
      refine vx_catch (E := xIS) (name := xIS) hown [] ⟨0, 8, 11, 15⟩ [] htab (fun z hz => by cases hz) (by decide) (by decide) (hts _ lk_L_advance_0) (va_Nw.use rfl (hX.1.1 (.castable xIS xIS) (by decide +kernel))) hce hcv hcl ?_
      refine lv_astore_n (lv' := [(2, .ref q9), (0, .ref (z.2.1 66)), (1, .ref (z.2.1 88))]) hx hb dL_advance_11 rfl hl (by decide) rfl (fun ls hl => ?_)
      refine lv_iconst (v := 1) hx hb dL_advance_12 (by decide) ?_
      exact hret _ _ _ _ _ _ hf hW hS dL_advance_13
  · subst ho
    refine lv_i2l hx hb dL_advance_6 rfl ?_
    refine st_A88 hx hb hK hz hW hS (by decide) dL_advance_7 (fun H locs hW hS => ?_)
    refine lv_goto (tgt := 14) hx hb dL_advance_8 (by decide) ?_
    refine lv_iconst (v := 0) hx hb dL_advance_14 (by decide) ?_
    exact hret _ _ _ _ _ _ hf hW hS dL_advance_15
theorem lk_L_disc_0 : Cond.classLink RL 13 "java/lang/IllegalArgumentException" ∈ wsL_disc := by decide +kernel
theorem lk_L_disc_1 : Cond.classLink RL 15 "java/lang/IllegalStateException" ∈ wsL_disc := by decide +kernel
set_option maxHeartbeats 4000000 in
set_option maxRecDepth 100000 in
theorem c_L_disc (l : Launch) (hst : l.stackTraces = false) {z : LZ} (hz : IC z) (x1 : Int32) (w : Mem) {r : Int32} {w' : Mem} (hf : f_L_disc x1 w = some (r, w')) : Met l yL_disc wsL_disc (rmx 7 111) (PX z w [.ref (z.2.1 66), .int x1, .ref (z.2.1 88)]) (QW z (some (.int r)) w') 1 6 (az z) := by
  refine mk_L (cc := cL_disc) (maxL := 4) (by decide +kernel) rfl (Nat.le_of_ble_eq_true rfl) ?_
  intro p e s m args below meth c hx hb hml hts hown hK hX hW htab Q hret ls hl
  have hl : lv_has ls 4 [(0, .ref (z.2.1 66)), (1, .int x1), (2, .ref (z.2.1 88))] := hl
  have hS : va_S (az z) s.heap s.heap [] := va_S.rf
  unfold f_L_disc at hf
  refine lv_aload_n hx hb dL_disc_0 rfl (lv_at hl 2 rfl) ?_
  refine lv_iconst (v := 0) hx hb dL_disc_1 (by decide) ?_
  refine lv_aload_n hx hb dL_disc_2 rfl (lv_at hl 0 rfl) ?_
  refine lv_iload_n hx hb dL_disc_3 rfl (lv_at hl 1 rfl) ?_
  obtain ⟨o, w1, hq, hf⟩ := of_b2 hf
  refine m_goXi (w' := w1) (vx_runV (As := [.int x1]) (rest := [.int 0, .ref (z.2.1 88)]) ⟨hx, hb, hml, hown, hts⟩ (c_X10_disc l hst hz x1 w hq) (cwV 1 hts gL_disc_X10_disc rfl rfl rfl (by decide +kernel) ⟨Nat.le_of_ble_eq_true rfl, Nat.le_of_ble_eq_true rfl⟩) (x_preV hK hz hX hW rfl _) rfl rfl hl.1 rfl (lv_room (Nat.le_of_ble_eq_true rfl)) dL_disc_4 ⟨Nat.le_refl _, Nat.le_refl _⟩) hS (fun k ce q9 H locs ho hW hS hce hcv hcl => ?_) (fun v H locs ho hW hS => ?_)
  · subst ho
    cases k with
    | zero =>
      refine vx_catch (E := xIA) (name := xIA) hown [] ⟨0, 9, 12, 13⟩ [⟨0, 9, 15, 15⟩] htab (fun z hz => by cases hz) (by decide) (by decide) (hts _ lk_L_disc_0) (va_Nw.use rfl (hX.1.1 (.castable xIA xIA) (by decide +kernel))) hce hcv hcl ?_
      refine lv_astore_n (lv' := [(3, .ref q9), (0, .ref (z.2.1 66)), (1, .int x1), (2, .ref (z.2.1 88))]) hx hb dL_disc_12 rfl hl (by decide) rfl (fun ls hl => ?_)
      refine lv_iconst (v := 1) hx hb dL_disc_13 (by decide) ?_
      exact hret _ _ _ _ _ _ hf hW hS dL_disc_14
    | succ k =>
      refine vx_catch (E := xIS) (name := xIS) hown [⟨0, 9, 12, 13⟩] ⟨0, 9, 15, 15⟩ [] htab (fun z hz => by rw [List.mem_singleton.mp hz]; exact Or.inr ⟨by decide, xIA, hts _ lk_L_disc_0, hX.1.2⟩) (by decide) (by decide) (hts _ lk_L_disc_1) (va_Nw.use rfl (hX.1.1 (.castable xIS xIS) (by decide +kernel))) hce hcv hcl ?_
      refine lv_astore_n (lv' := [(3, .ref q9), (0, .ref (z.2.1 66)), (1, .int x1), (2, .ref (z.2.1 88))]) hx hb dL_disc_15 rfl hl (by decide) rfl (fun ls hl => ?_)
      refine lv_iconst (v := 2) hx hb dL_disc_16 (by decide) ?_
      exact hret _ _ _ _ _ _ hf hW hS dL_disc_17
  · subst ho
    refine lv_i2l hx hb dL_disc_7 rfl ?_
    refine st_A88 hx hb hK hz hW hS (by decide) dL_disc_8 (fun H locs hW hS => ?_)
    refine lv_goto (tgt := 18) hx hb dL_disc_9 (by decide) ?_
    refine lv_iconst (v := 0) hx hb dL_disc_18 (by decide) ?_
    exact hret _ _ _ _ _ _ hf hW hS dL_disc_19
theorem lk_L_stitch_0 : Cond.classLink RL 13 "java/lang/IllegalArgumentException" ∈ wsL_stitch := by decide +kernel
theorem lk_L_stitch_1 : Cond.classLink RL 15 "java/lang/IllegalStateException" ∈ wsL_stitch := by decide +kernel
set_option maxHeartbeats 4000000 in
set_option maxRecDepth 100000 in
theorem c_L_stitch (l : Launch) (hst : l.stackTraces = false) {z : LZ} (hz : IC z) (x1 : Int32) (x2 : Int32) (w : Mem) {r : Int32} {w' : Mem} (hf : f_L_stitch x1 x2 w = some (r, w')) : Met l yL_stitch wsL_stitch (rmx 7 112) (PX z w [.ref (z.2.1 66), .int x1, .int x2, .ref (z.2.1 88)]) (QW z (some (.int r)) w') 1 6 (az z) := by
  refine mk_L (cc := cL_stitch) (maxL := 5) (by decide +kernel) rfl (Nat.le_of_ble_eq_true rfl) ?_
  intro p e s m args below meth c hx hb hml hts hown hK hX hW htab Q hret ls hl
  have hl : lv_has ls 5 [(0, .ref (z.2.1 66)), (1, .int x1), (2, .int x2), (3, .ref (z.2.1 88))] := hl
  have hS : va_S (az z) s.heap s.heap [] := va_S.rf
  unfold f_L_stitch at hf
  refine lv_aload_n hx hb dL_stitch_0 rfl (lv_at hl 3 rfl) ?_
  refine lv_iconst (v := 0) hx hb dL_stitch_1 (by decide) ?_
  refine lv_aload_n hx hb dL_stitch_2 rfl (lv_at hl 0 rfl) ?_
  refine lv_iload_n hx hb dL_stitch_3 rfl (lv_at hl 1 rfl) ?_
  refine lv_iload_n hx hb dL_stitch_4 rfl (lv_at hl 2 rfl) ?_
  obtain ⟨o, w1, hq, hf⟩ := of_b2 hf
  refine m_goXi (w' := w1) (vx_runV (As := [.int x1, .int x2]) (rest := [.int 0, .ref (z.2.1 88)]) ⟨hx, hb, hml, hown, hts⟩ (c_X10_stitch l hst hz x1 x2 w hq) (cwV 2 hts gL_stitch_X10_stitch rfl rfl rfl (by decide +kernel) ⟨Nat.le_of_ble_eq_true rfl, Nat.le_of_ble_eq_true rfl⟩) (x_preV hK hz hX hW rfl _) rfl rfl hl.1 rfl (lv_room (Nat.le_of_ble_eq_true rfl)) dL_stitch_5 ⟨Nat.le_refl _, Nat.le_refl _⟩) hS (fun k ce q9 H locs ho hW hS hce hcv hcl => ?_) (fun v H locs ho hW hS => ?_)
  · subst ho
    cases k with
    | zero =>
      refine vx_catch (E := xIA) (name := xIA) hown [] ⟨0, 10, 13, 13⟩ [⟨0, 10, 17, 15⟩] htab (fun z hz => by cases hz) (by decide) (by decide) (hts _ lk_L_stitch_0) (va_Nw.use rfl (hX.1.1 (.castable xIA xIA) (by decide +kernel))) hce hcv hcl ?_
      refine lv_astore (lv' := [(4, .ref q9), (0, .ref (z.2.1 66)), (1, .int x1), (2, .int x2), (3, .ref (z.2.1 88))]) hx hb dL_stitch_13 hl (by decide) rfl (fun ls hl => ?_)
      refine lv_iconst (v := 1) hx hb dL_stitch_15 (by decide) ?_
      exact hret _ _ _ _ _ _ hf hW hS dL_stitch_16
    | succ k =>
      refine vx_catch (E := xIS) (name := xIS) hown [⟨0, 10, 13, 13⟩] ⟨0, 10, 17, 15⟩ [] htab (fun z hz => by rw [List.mem_singleton.mp hz]; exact Or.inr ⟨by decide, xIA, hts _ lk_L_stitch_0, hX.1.2⟩) (by decide) (by decide) (hts _ lk_L_stitch_1) (va_Nw.use rfl (hX.1.1 (.castable xIS xIS) (by decide +kernel))) hce hcv hcl ?_
      refine lv_astore (lv' := [(4, .ref q9), (0, .ref (z.2.1 66)), (1, .int x1), (2, .int x2), (3, .ref (z.2.1 88))]) hx hb dL_stitch_17 hl (by decide) rfl (fun ls hl => ?_)
      refine lv_iconst (v := 2) hx hb dL_stitch_19 (by decide) ?_
      exact hret _ _ _ _ _ _ hf hW hS dL_stitch_20
  · subst ho
    refine lv_i2l hx hb dL_stitch_8 rfl ?_
    refine st_A88 hx hb hK hz hW hS (by decide) dL_stitch_9 (fun H locs hW hS => ?_)
    refine lv_goto (tgt := 21) hx hb dL_stitch_10 (by decide) ?_
    refine lv_iconst (v := 0) hx hb dL_stitch_21 (by decide) ?_
    exact hret _ _ _ _ _ _ hf hW hS dL_stitch_22
theorem lk_L_hem_0 : Cond.classLink RL 13 "java/lang/IllegalArgumentException" ∈ wsL_hem := by decide +kernel
theorem lk_L_hem_1 : Cond.classLink RL 15 "java/lang/IllegalStateException" ∈ wsL_hem := by decide +kernel
set_option maxHeartbeats 4000000 in
set_option maxRecDepth 100000 in
theorem c_L_hem (l : Launch) (hst : l.stackTraces = false) {z : LZ} (hz : IC z) (x1 : Int32) (x2 : Int32) (w : Mem) {r : Int32} {w' : Mem} (hf : f_L_hem x1 x2 w = some (r, w')) : Met l yL_hem wsL_hem (rmx 7 112) (PX z w [.ref (z.2.1 66), .int x1, .int x2, .ref (z.2.1 88)]) (QW z (some (.int r)) w') 1 6 (az z) := by
  refine mk_L (cc := cL_hem) (maxL := 5) (by decide +kernel) rfl (Nat.le_of_ble_eq_true rfl) ?_
  intro p e s m args below meth c hx hb hml hts hown hK hX hW htab Q hret ls hl
  have hl : lv_has ls 5 [(0, .ref (z.2.1 66)), (1, .int x1), (2, .int x2), (3, .ref (z.2.1 88))] := hl
  have hS : va_S (az z) s.heap s.heap [] := va_S.rf
  unfold f_L_hem at hf
  refine lv_aload_n hx hb dL_hem_0 rfl (lv_at hl 3 rfl) ?_
  refine lv_iconst (v := 0) hx hb dL_hem_1 (by decide) ?_
  refine lv_aload_n hx hb dL_hem_2 rfl (lv_at hl 0 rfl) ?_
  refine lv_iload_n hx hb dL_hem_3 rfl (lv_at hl 1 rfl) ?_
  refine lv_iload_n hx hb dL_hem_4 rfl (lv_at hl 2 rfl) ?_
  obtain ⟨o, w1, hq, hf⟩ := of_b2 hf
  refine m_goXi (w' := w1) (vx_runV (As := [.int x1, .int x2]) (rest := [.int 0, .ref (z.2.1 88)]) ⟨hx, hb, hml, hown, hts⟩ (c_X10_hem l hst hz x1 x2 w hq) (cwV 2 hts gL_hem_X10_hem rfl rfl rfl (by decide +kernel) ⟨Nat.le_of_ble_eq_true rfl, Nat.le_of_ble_eq_true rfl⟩) (x_preV hK hz hX hW rfl _) rfl rfl hl.1 rfl (lv_room (Nat.le_of_ble_eq_true rfl)) dL_hem_5 ⟨Nat.le_refl _, Nat.le_refl _⟩) hS (fun k ce q9 H locs ho hW hS hce hcv hcl => ?_) (fun v H locs ho hW hS => ?_)
  · subst ho
    cases k with
    | zero =>
      refine vx_catch (E := xIA) (name := xIA) hown [] ⟨0, 10, 13, 13⟩ [⟨0, 10, 17, 15⟩] htab (fun z hz => by cases hz) (by decide) (by decide) (hts _ lk_L_hem_0) (va_Nw.use rfl (hX.1.1 (.castable xIA xIA) (by decide +kernel))) hce hcv hcl ?_
      refine lv_astore (lv' := [(4, .ref q9), (0, .ref (z.2.1 66)), (1, .int x1), (2, .int x2), (3, .ref (z.2.1 88))]) hx hb dL_hem_13 hl (by decide) rfl (fun ls hl => ?_)
      refine lv_iconst (v := 1) hx hb dL_hem_15 (by decide) ?_
      exact hret _ _ _ _ _ _ hf hW hS dL_hem_16
    | succ k =>
      refine vx_catch (E := xIS) (name := xIS) hown [⟨0, 10, 13, 13⟩] ⟨0, 10, 17, 15⟩ [] htab (fun z hz => by rw [List.mem_singleton.mp hz]; exact Or.inr ⟨by decide, xIA, hts _ lk_L_hem_0, hX.1.2⟩) (by decide) (by decide) (hts _ lk_L_hem_1) (va_Nw.use rfl (hX.1.1 (.castable xIS xIS) (by decide +kernel))) hce hcv hcl ?_
      refine lv_astore (lv' := [(4, .ref q9), (0, .ref (z.2.1 66)), (1, .int x1), (2, .int x2), (3, .ref (z.2.1 88))]) hx hb dL_hem_17 hl (by decide) rfl (fun ls hl => ?_)
      refine lv_iconst (v := 2) hx hb dL_hem_19 (by decide) ?_
      exact hret _ _ _ _ _ _ hf hW hS dL_hem_20
  · subst ho
    refine lv_i2l hx hb dL_hem_8 rfl ?_
    refine st_A88 hx hb hK hz hW hS (by decide) dL_hem_9 (fun H locs hW hS => ?_)
    refine lv_goto (tgt := 21) hx hb dL_hem_10 (by decide) ?_
    refine lv_iconst (v := 0) hx hb dL_hem_21 (by decide) ?_
    exact hret _ _ _ _ _ _ hf hW hS dL_hem_22
theorem lk_L_fed_0 : Cond.classLink RL 15 "java/lang/IllegalStateException" ∈ wsL_fed := by decide +kernel
set_option maxHeartbeats 4000000 in
set_option maxRecDepth 100000 in
theorem c_L_fed (l : Launch) (hst : l.stackTraces = false) {z : LZ} (hz : IC z) (x1 : Int32) (x2 : Int32) (w : Mem) {r : Int32} {w' : Mem} (hf : f_L_fed x1 x2 w = some (r, w')) : Met l yL_fed wsL_fed (rmx 7 112) (PX z w [.ref (z.2.1 66), .int x1, .int x2, .ref (z.2.1 88)]) (QW z (some (.int r)) w') 1 6 (az z) := by
  refine mk_L (cc := cL_fed) (maxL := 5) (by decide +kernel) rfl (Nat.le_of_ble_eq_true rfl) ?_
  intro p e s m args below meth c hx hb hml hts hown hK hX hW htab Q hret ls hl
  have hl : lv_has ls 5 [(0, .ref (z.2.1 66)), (1, .int x1), (2, .int x2), (3, .ref (z.2.1 88))] := hl
  have hS : va_S (az z) s.heap s.heap [] := va_S.rf
  unfold f_L_fed at hf
  refine lv_aload_n hx hb dL_fed_0 rfl (lv_at hl 3 rfl) ?_
  refine lv_iconst (v := 0) hx hb dL_fed_1 (by decide) ?_
  refine lv_aload_n hx hb dL_fed_2 rfl (lv_at hl 0 rfl) ?_
  refine lv_iload_n hx hb dL_fed_3 rfl (lv_at hl 1 rfl) ?_
  refine lv_iload_n hx hb dL_fed_4 rfl (lv_at hl 2 rfl) ?_
  obtain ⟨o, w1, hq, hf⟩ := of_b2 hf
  refine m_goXi (w' := w1) (vx_runV (As := [.int x1, .int x2]) (rest := [.int 0, .ref (z.2.1 88)]) ⟨hx, hb, hml, hown, hts⟩ (c_X10_fed l hst hz x1 x2 w hq) (cwV 2 hts gL_fed_X10_fed rfl rfl rfl (by decide +kernel) ⟨Nat.le_of_ble_eq_true rfl, Nat.le_of_ble_eq_true rfl⟩) (x_preV hK hz hX hW rfl _) rfl rfl hl.1 rfl (lv_room (Nat.le_of_ble_eq_true rfl)) dL_fed_5 ⟨Nat.le_refl _, Nat.le_refl _⟩) hS (fun k ce q9 H locs ho hW hS hce hcv hcl => ?_) (fun v H locs ho hW hS => ?_)
  · subst ho
    cases k with
    | zero =>
      cases hf
    | succ k =>
      refine vx_catch (E := xIS) (name := xIS) hown [] ⟨0, 10, 13, 15⟩ [] htab (fun z hz => by cases hz) (by decide) (by decide) (hts _ lk_L_fed_0) (va_Nw.use rfl (hX.1.1 (.castable xIS xIS) (by decide +kernel))) hce hcv hcl ?_
      refine lv_astore (lv' := [(4, .ref q9), (0, .ref (z.2.1 66)), (1, .int x1), (2, .int x2), (3, .ref (z.2.1 88))]) hx hb dL_fed_13 hl (by decide) rfl (fun ls hl => ?_)
      refine lv_iconst (v := 1) hx hb dL_fed_15 (by decide) ?_
      exact hret _ _ _ _ _ _ hf hW hS dL_fed_16
  · subst ho
    refine lv_i2l hx hb dL_fed_8 rfl ?_
    refine st_A88 hx hb hK hz hW hS (by decide) dL_fed_9 (fun H locs hW hS => ?_)
    refine lv_goto (tgt := 17) hx hb dL_fed_10 (by decide) ?_
    refine lv_iconst (v := 0) hx hb dL_fed_17 (by decide) ?_
    exact hret _ _ _ _ _ _ hf hW hS dL_fed_18
theorem lk_L_seam_0 : Cond.classLink RL 13 "java/lang/IllegalArgumentException" ∈ wsL_seam := by decide +kernel
theorem lk_L_seam_1 : Cond.classLink RL 15 "java/lang/IllegalStateException" ∈ wsL_seam := by decide +kernel
set_option maxHeartbeats 4000000 in
set_option maxRecDepth 100000 in
theorem c_L_seam (l : Launch) (hst : l.stackTraces = false) {z : LZ} (hz : IC z) (x1 : Int32) (w : Mem) {r : Int32} {w' : Mem} (hf : f_L_seam x1 w = some (r, w')) : Met l yL_seam wsL_seam (rmx 7 111) (PX z w [.ref (z.2.1 66), .int x1, .ref (z.2.1 88)]) (QW z (some (.int r)) w') 1 6 (az z) := by
  refine mk_L (cc := cL_seam) (maxL := 4) (by decide +kernel) rfl (Nat.le_of_ble_eq_true rfl) ?_
  intro p e s m args below meth c hx hb hml hts hown hK hX hW htab Q hret ls hl
  have hl : lv_has ls 4 [(0, .ref (z.2.1 66)), (1, .int x1), (2, .ref (z.2.1 88))] := hl
  have hS : va_S (az z) s.heap s.heap [] := va_S.rf
  unfold f_L_seam at hf
  refine lv_aload_n hx hb dL_seam_0 rfl (lv_at hl 2 rfl) ?_
  refine lv_iconst (v := 0) hx hb dL_seam_1 (by decide) ?_
  refine lv_aload_n hx hb dL_seam_2 rfl (lv_at hl 0 rfl) ?_
  refine lv_iload_n hx hb dL_seam_3 rfl (lv_at hl 1 rfl) ?_
  obtain ⟨o, w1, hq, hf⟩ := of_b2 hf
  refine m_goXi (w' := w1) (vx_runV (As := [.int x1]) (rest := [.int 0, .ref (z.2.1 88)]) ⟨hx, hb, hml, hown, hts⟩ (c_X10_seam l hst hz x1 w hq) (cwV 1 hts gL_seam_X10_seam rfl rfl rfl (by decide +kernel) ⟨Nat.le_of_ble_eq_true rfl, Nat.le_of_ble_eq_true rfl⟩) (x_preV hK hz hX hW rfl _) rfl rfl hl.1 rfl (lv_room (Nat.le_of_ble_eq_true rfl)) dL_seam_4 ⟨Nat.le_refl _, Nat.le_refl _⟩) hS (fun k ce q9 H locs ho hW hS hce hcv hcl => ?_) (fun v H locs ho hW hS => ?_)
  · subst ho
    cases k with
    | zero =>
      refine vx_catch (E := xIA) (name := xIA) hown [] ⟨0, 9, 12, 13⟩ [⟨0, 9, 15, 15⟩] htab (fun z hz => by cases hz) (by decide) (by decide) (hts _ lk_L_seam_0) (va_Nw.use rfl (hX.1.1 (.castable xIA xIA) (by decide +kernel))) hce hcv hcl ?_
      refine lv_astore_n (lv' := [(3, .ref q9), (0, .ref (z.2.1 66)), (1, .int x1), (2, .ref (z.2.1 88))]) hx hb dL_seam_12 rfl hl (by decide) rfl (fun ls hl => ?_)
      refine lv_iconst (v := 1) hx hb dL_seam_13 (by decide) ?_
      exact hret _ _ _ _ _ _ hf hW hS dL_seam_14
    | succ k =>
      refine vx_catch (E := xIS) (name := xIS) hown [⟨0, 9, 12, 13⟩] ⟨0, 9, 15, 15⟩ [] htab (fun z hz => by rw [List.mem_singleton.mp hz]; exact Or.inr ⟨by decide, xIA, hts _ lk_L_seam_0, hX.1.2⟩) (by decide) (by decide) (hts _ lk_L_seam_1) (va_Nw.use rfl (hX.1.1 (.castable xIS xIS) (by decide +kernel))) hce hcv hcl ?_
      refine lv_astore_n (lv' := [(3, .ref q9), (0, .ref (z.2.1 66)), (1, .int x1), (2, .ref (z.2.1 88))]) hx hb dL_seam_15 rfl hl (by decide) rfl (fun ls hl => ?_)
      refine lv_iconst (v := 2) hx hb dL_seam_16 (by decide) ?_
      exact hret _ _ _ _ _ _ hf hW hS dL_seam_17
  · subst ho
    refine lv_i2l hx hb dL_seam_7 rfl ?_
    refine st_A88 hx hb hK hz hW hS (by decide) dL_seam_8 (fun H locs hW hS => ?_)
    refine lv_goto (tgt := 18) hx hb dL_seam_9 (by decide) ?_
    refine lv_iconst (v := 0) hx hb dL_seam_18 (by decide) ?_
    exact hret _ _ _ _ _ _ hf hW hS dL_seam_19
theorem lk_L_sewn_0 : Cond.classLink RL 13 "java/lang/IllegalArgumentException" ∈ wsL_sewn := by decide +kernel
theorem lk_L_sewn_1 : Cond.classLink RL 15 "java/lang/IllegalStateException" ∈ wsL_sewn := by decide +kernel
set_option maxHeartbeats 4000000 in
set_option maxRecDepth 100000 in
theorem c_L_sewn (l : Launch) (hst : l.stackTraces = false) {z : LZ} (hz : IC z) (x1 : Int32) (x2 : Int32) (w : Mem) {r : Int32} {w' : Mem} (hf : f_L_sewn x1 x2 w = some (r, w')) : Met l yL_sewn wsL_sewn (rmx 7 112) (PX z w [.ref (z.2.1 66), .int x1, .int x2, .ref (z.2.1 88)]) (QW z (some (.int r)) w') 1 6 (az z) := by
  refine mk_L (cc := cL_sewn) (maxL := 5) (by decide +kernel) rfl (Nat.le_of_ble_eq_true rfl) ?_
  intro p e s m args below meth c hx hb hml hts hown hK hX hW htab Q hret ls hl
  have hl : lv_has ls 5 [(0, .ref (z.2.1 66)), (1, .int x1), (2, .int x2), (3, .ref (z.2.1 88))] := hl
  have hS : va_S (az z) s.heap s.heap [] := va_S.rf
  unfold f_L_sewn at hf
  refine lv_aload_n hx hb dL_sewn_0 rfl (lv_at hl 3 rfl) ?_
  refine lv_iconst (v := 0) hx hb dL_sewn_1 (by decide) ?_
  refine lv_aload_n hx hb dL_sewn_2 rfl (lv_at hl 0 rfl) ?_
  refine lv_iload_n hx hb dL_sewn_3 rfl (lv_at hl 1 rfl) ?_
  refine lv_iload_n hx hb dL_sewn_4 rfl (lv_at hl 2 rfl) ?_
  obtain ⟨o, w1, hq, hf⟩ := of_b2 hf
  refine m_goXi (w' := w1) (vx_runV (As := [.int x1, .int x2]) (rest := [.int 0, .ref (z.2.1 88)]) ⟨hx, hb, hml, hown, hts⟩ (c_X10_sewn l hst hz x1 x2 w hq) (cwV 2 hts gL_sewn_X10_sewn rfl rfl rfl (by decide +kernel) ⟨Nat.le_of_ble_eq_true rfl, Nat.le_of_ble_eq_true rfl⟩) (x_preV hK hz hX hW rfl _) rfl rfl hl.1 rfl (lv_room (Nat.le_of_ble_eq_true rfl)) dL_sewn_5 ⟨Nat.le_refl _, Nat.le_refl _⟩) hS (fun k ce q9 H locs ho hW hS hce hcv hcl => ?_) (fun v H locs ho hW hS => ?_)
  · subst ho
    cases k with
    | zero =>
      refine vx_catch (E := xIA) (name := xIA) hown [] ⟨0, 10, 13, 13⟩ [⟨0, 10, 17, 15⟩] htab (fun z hz => by cases hz) (by decide) (by decide) (hts _ lk_L_sewn_0) (va_Nw.use rfl (hX.1.1 (.castable xIA xIA) (by decide +kernel))) hce hcv hcl ?_
      refine lv_astore (lv' := [(4, .ref q9), (0, .ref (z.2.1 66)), (1, .int x1), (2, .int x2), (3, .ref (z.2.1 88))]) hx hb dL_sewn_13 hl (by decide) rfl (fun ls hl => ?_)
      refine lv_iconst (v := 1) hx hb dL_sewn_15 (by decide) ?_
      exact hret _ _ _ _ _ _ hf hW hS dL_sewn_16
    | succ k =>
      refine vx_catch (E := xIS) (name := xIS) hown [⟨0, 10, 13, 13⟩] ⟨0, 10, 17, 15⟩ [] htab (fun z hz => by rw [List.mem_singleton.mp hz]; exact Or.inr ⟨by decide, xIA, hts _ lk_L_sewn_0, hX.1.2⟩) (by decide) (by decide) (hts _ lk_L_sewn_1) (va_Nw.use rfl (hX.1.1 (.castable xIS xIS) (by decide +kernel))) hce hcv hcl ?_
      refine lv_astore (lv' := [(4, .ref q9), (0, .ref (z.2.1 66)), (1, .int x1), (2, .int x2), (3, .ref (z.2.1 88))]) hx hb dL_sewn_17 hl (by decide) rfl (fun ls hl => ?_)
      refine lv_iconst (v := 2) hx hb dL_sewn_19 (by decide) ?_
      exact hret _ _ _ _ _ _ hf hW hS dL_sewn_20
  · subst ho
    refine lv_i2l hx hb dL_sewn_8 rfl ?_
    refine st_A88 hx hb hK hz hW hS (by decide) dL_sewn_9 (fun H locs hW hS => ?_)
    refine lv_goto (tgt := 21) hx hb dL_sewn_10 (by decide) ?_
    refine lv_iconst (v := 0) hx hb dL_sewn_21 (by decide) ?_
    exact hret _ _ _ _ _ _ hf hW hS dL_sewn_22
theorem lk_L_at_0 : Cond.classLink RL 13 "java/lang/IllegalArgumentException" ∈ wsL_at := by decide +kernel
theorem lk_L_at_1 : Cond.classLink RL 15 "java/lang/IllegalStateException" ∈ wsL_at := by decide +kernel
set_option maxHeartbeats 4000000 in
set_option maxRecDepth 100000 in
theorem c_L_at (l : Launch) (hst : l.stackTraces = false) {z : LZ} (hz : IC z) (x1 : Int32) (x2 : Int32) (w : Mem) {r : Int32} {w' : Mem} (hf : f_L_at x1 x2 w = some (r, w')) : Met l yL_at wsL_at (rmx 7 112) (PX z w [.ref (z.2.1 66), .int x1, .int x2, .ref (z.2.1 88)]) (QW z (some (.int r)) w') 1 6 (az z) := by
  refine mk_L (cc := cL_at) (maxL := 5) (by decide +kernel) rfl (Nat.le_of_ble_eq_true rfl) ?_
  intro p e s m args below meth c hx hb hml hts hown hK hX hW htab Q hret ls hl
  have hl : lv_has ls 5 [(0, .ref (z.2.1 66)), (1, .int x1), (2, .int x2), (3, .ref (z.2.1 88))] := hl
  have hS : va_S (az z) s.heap s.heap [] := va_S.rf
  unfold f_L_at at hf
  refine lv_aload_n hx hb dL_at_0 rfl (lv_at hl 3 rfl) ?_
  refine lv_iconst (v := 0) hx hb dL_at_1 (by decide) ?_
  refine lv_aload_n hx hb dL_at_2 rfl (lv_at hl 0 rfl) ?_
  refine lv_iload_n hx hb dL_at_3 rfl (lv_at hl 1 rfl) ?_
  refine lv_iload_n hx hb dL_at_4 rfl (lv_at hl 2 rfl) ?_
  obtain ⟨o, w1, hq, hf⟩ := of_b2 hf
  refine m_goXl (w' := w1) (vx_runV (As := [.int x1, .int x2]) (rest := [.int 0, .ref (z.2.1 88)]) ⟨hx, hb, hml, hown, hts⟩ (c_X10_at l hst hz x1 x2 w hq) (cwV 2 hts gL_at_X10_at rfl rfl rfl (by decide +kernel) ⟨Nat.le_of_ble_eq_true rfl, Nat.le_of_ble_eq_true rfl⟩) (x_preV hK hz hX hW rfl _) rfl rfl hl.1 rfl (lv_room (Nat.le_of_ble_eq_true rfl)) dL_at_5 ⟨Nat.le_refl _, Nat.le_refl _⟩) hS (fun k ce q9 H locs ho hW hS hce hcv hcl => ?_) (fun v H locs ho hW hS => ?_)
  · subst ho
    cases k with
    | zero =>
      refine vx_catch (E := xIA) (name := xIA) hown [] ⟨0, 9, 12, 13⟩ [⟨0, 9, 16, 15⟩] htab (fun z hz => by cases hz) (by decide) (by decide) (hts _ lk_L_at_0) (va_Nw.use rfl (hX.1.1 (.castable xIA xIA) (by decide +kernel))) hce hcv hcl ?_
      refine lv_astore (lv' := [(4, .ref q9), (0, .ref (z.2.1 66)), (1, .int x1), (2, .int x2), (3, .ref (z.2.1 88))]) hx hb dL_at_12 hl (by decide) rfl (fun ls hl => ?_)
      refine lv_iconst (v := 1) hx hb dL_at_14 (by decide) ?_
      exact hret _ _ _ _ _ _ hf hW hS dL_at_15
    | succ k =>
      refine vx_catch (E := xIS) (name := xIS) hown [⟨0, 9, 12, 13⟩] ⟨0, 9, 16, 15⟩ [] htab (fun z hz => by rw [List.mem_singleton.mp hz]; exact Or.inr ⟨by decide, xIA, hts _ lk_L_at_0, hX.1.2⟩) (by decide) (by decide) (hts _ lk_L_at_1) (va_Nw.use rfl (hX.1.1 (.castable xIS xIS) (by decide +kernel))) hce hcv hcl ?_
      refine lv_astore (lv' := [(4, .ref q9), (0, .ref (z.2.1 66)), (1, .int x1), (2, .int x2), (3, .ref (z.2.1 88))]) hx hb dL_at_16 hl (by decide) rfl (fun ls hl => ?_)
      refine lv_iconst (v := 2) hx hb dL_at_18 (by decide) ?_
      exact hret _ _ _ _ _ _ hf hW hS dL_at_19
  · subst ho
    refine st_A88 hx hb hK hz hW hS (by decide) dL_at_8 (fun H locs hW hS => ?_)
    refine lv_goto (tgt := 20) hx hb dL_at_9 (by decide) ?_
    refine lv_iconst (v := 0) hx hb dL_at_20 (by decide) ?_
    exact hret _ _ _ _ _ _ hf hW hS dL_at_21
