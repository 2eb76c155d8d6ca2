/-! ===== the law's cases (99g: by wip/gen/cases.py) ===== -/
abbrev lwL (b : Nat) (zC zM : LZ) (i : Nat) : List (Nat × Value) := [(0, .ref b), (1, .ref (zC.2.1 66)), (2, .ref (zM.2.1 0)), (3, .ref (zC.2.1 88)), (4, .int (nI i))]
/-- what comes behind a case -/
def LK (p : Program) (l : Launch) (e : Env) (s : State) (m : MethodId) (args : Array Value) (below : List Frame) (meth : Method) (c : Code) (b : Nat) (zC zM : LZ) (Q : State → Prop) (i cells slots : Nat) : Prop := ∀ (w v : Mem) (H : Heap) (locs : List Loc) (ls : Array Slot), Rel w v → hd zC w H → hd zM v H → va_S (lwA s) s.heap H locs → lv_has ls 8 (lwL b zC zM i) → W p l e room_1 s m args below meth c H locs (cells + 1) (slots + 6) Q (F0 m 2104 ls [])
theorem lw_cmp (x : Int64) : lg_cmp x x = 0 := by simp [lg_cmp]
theorem lw_out {p : Program} {l : Launch} {e : Env} {R : Room} {s : State} {m : MethodId} {args : Array Value} {below : List Frame} {meth : Method} {c : Code} {H : Heap} {locs : List Loc} {cells slots : Nat} {Q : State → Prop} {pc : Nat} {ls : Array Slot} {rest : List Value} {z : LZ} {w : Mem} (hx : p.tables.exec = Jvm.exec) (hb : c.code = cL_law) (hz : IC z) (hK : ks z s) (hW : hd z w H) (d : decode cL_law pc = .ok (.laload, 1)) (kk : W p l e R s m args below meth c H locs cells slots Q (F0 m (pc + 1) ls (.long (w.2 88 0) :: rest))) : W p l e R s m args below meth c H locs cells slots Q (F0 m pc ls (.int 0 :: .ref (z.2.1 88) :: rest)) := by
  obtain ⟨hi, hn, cI, cL, cD, cT, ht, hE, hne⟩ := hz
  exact m_lald hx hb hK hW 88 1 (by rw [hn]; decide) (cA := cL) (n := 1) (by rw [hE]; rfl) (by rw [ht]; rfl) (i := 0) (by decide) d kk
set_option maxHeartbeats 4000000 in
set_option maxRecDepth 100000 in
theorem cs_0 {p : Program} {l : Launch} {e : Env} {s : State} {m : MethodId} {args : Array Value} {below : List Frame} {meth : Method} {c : Code} {b L : Nat} {xs : Nat → Int32} {zC zM : LZ} {Q : State → Prop} (C : LX p l s m args c b L xs zC zM) {w v : Mem} {H : Heap} {locs : List Loc} {ls : Array Slot} {i cells slots : Nat} (hR : Rel w v) (hWC : hd zC w H) (hWM : hd zM v H) (hS : va_S (lwA s) s.heap H locs) (hl : lv_has ls 8 (lwL b zC zM i)) (hi : i + 6 ≤ L) (hc : cells + 1 ≤ room_1.cells) (hs : slots + 6 ≤ room_1.slots) (kk : LK p l e s m args below meth c b zC zM Q i cells slots) : W p l e room_1 s m args below meth c H locs cells slots Q (F0 m 256 ls []) := by
  have C0 := C
  obtain ⟨⟨hx, hb, hml, hown, hts⟩, ⟨hX, hbl, hL⟩, hst, ⟨hIC, hIM, hKC, hKM⟩, hXK, hAC, hAM, hdis⟩ := C
  obtain ⟨r, w', v', e1, e2, hR'⟩ := step_0 hR 
  refine lv_aload_n hx hb dL_law_256 rfl (lv_at hl 1 rfl) ?_
  refine w_goW (v := (some (.int r))) (va_runV (As := []) (rest := []) ⟨hx, hb, hml, hown, hts⟩ (c_X10_begin l hIC  w e1) (cwV 0 hts gL_law_X10_begin rfl rfl rfl (by decide +kernel) ⟨(Nat.le_of_ble_eq_true rfl), (Nat.le_of_ble_eq_true rfl)⟩) (lw_preC hIC hKC hWC _) rfl rfl hl.1 rfl (lv_room (Nat.le_of_ble_eq_true rfl)) dL_law_257 ⟨by show _ ≤ room_1.cells; omega, by show _ ≤ room_1.slots; omega⟩) hS hAC hWM (fun o o' ho ho' q => hdis o' o ho' ho q.symm) (fun H locs hWC hWM hS => ?_)
  refine lv_aload_n hx hb dL_law_260 rfl (lv_at hl 2 rfl) ?_
  refine w_goW (v := (some (.int r))) (va_runV (As := []) (rest := [.int r]) ⟨hx, hb, hml, hown, hts⟩ (c_X11_begin l hIM  v e2) (cwV 0 hts gL_law_X11_begin rfl rfl rfl (by decide +kernel) ⟨(Nat.le_of_ble_eq_true rfl), (Nat.le_of_ble_eq_true rfl)⟩) (lw_preM hIM hKM hWM _) rfl rfl hl.1 rfl (lv_room (Nat.le_of_ble_eq_true rfl)) dL_law_261 ⟨by show _ ≤ room_1.cells; omega, by show _ ≤ room_1.slots; omega⟩) hS hAM hWC hdis (fun H locs hWM hWC hS => ?_)
  refine lv_icmp_eq (tgt := 2104) hx hb dL_law_264 (by decide) (fun _ => ?_) (fun z => absurd rfl z)
  exact W.widen (k := cells + 1) (n := slots + 6) (by omega) (by omega) (kk w' v' H locs ls hR' hWC hWM hS hl)
set_option maxHeartbeats 4000000 in
set_option maxRecDepth 100000 in
theorem cs_1 {p : Program} {l : Launch} {e : Env} {s : State} {m : MethodId} {args : Array Value} {below : List Frame} {meth : Method} {c : Code} {b L : Nat} {xs : Nat → Int32} {zC zM : LZ} {Q : State → Prop} (C : LX p l s m args c b L xs zC zM) {w v : Mem} {H : Heap} {locs : List Loc} {ls : Array Slot} {i cells slots : Nat} (hR : Rel w v) (hWC : hd zC w H) (hWM : hd zM v H) (hS : va_S (lwA s) s.heap H locs) (hl : lv_has ls 8 (lwL b zC zM i)) (hi : i + 6 ≤ L) (hc : cells + 1 ≤ room_1.cells) (hs : slots + 6 ≤ room_1.slots) (kk : LK p l e s m args below meth c b zC zM Q i cells slots) : W p l e room_1 s m args below meth c H locs cells slots Q (F0 m 269 ls []) := by
  have C0 := C
  obtain ⟨⟨hx, hb, hml, hown, hts⟩, ⟨hX, hbl, hL⟩, hst, ⟨hIC, hIM, hKC, hKM⟩, hXK, hAC, hAM, hdis⟩ := C
  obtain ⟨r, w', v', e1, e2, hR'⟩ := step_1 hR (xs (i + 1))
  refine lv_aload_n hx hb dL_law_269 rfl (lv_at hl 1 rfl) ?_
  refine lw_ld C0 (k := 1) (by decide) (by decide) hi hS (lv_at hl 0 rfl) (lv_at hl 4 rfl) dL_law_270 dL_law_271 dL_law_273 dL_law_274 dL_law_275 ?_
  refine w_goW (v := (some (.int r))) (va_runV (As := [.int (xs (i + 1))]) (rest := []) ⟨hx, hb, hml, hown, hts⟩ (c_X10_read l hIC (xs (i + 1)) w e1) (cwV 1 hts gL_law_X10_read rfl rfl rfl (by decide +kernel) ⟨(Nat.le_of_ble_eq_true rfl), (Nat.le_of_ble_eq_true rfl)⟩) (lw_preC hIC hKC hWC _) rfl rfl hl.1 rfl (lv_room (Nat.le_of_ble_eq_true rfl)) dL_law_276 ⟨by show _ ≤ room_1.cells; omega, by show _ ≤ room_1.slots; omega⟩) hS hAC hWM (fun o o' ho ho' q => hdis o' o ho' ho q.symm) (fun H locs hWC hWM hS => ?_)
  refine lv_aload_n hx hb dL_law_279 rfl (lv_at hl 2 rfl) ?_
  refine lw_ld C0 (k := 1) (by decide) (by decide) hi hS (lv_at hl 0 rfl) (lv_at hl 4 rfl) dL_law_280 dL_law_281 dL_law_283 dL_law_284 dL_law_285 ?_
  refine w_goW (v := (some (.int r))) (va_runV (As := [.int (xs (i + 1))]) (rest := [.int r]) ⟨hx, hb, hml, hown, hts⟩ (c_X11_read l hIM (xs (i + 1)) v e2) (cwV 1 hts gL_law_X11_read rfl rfl rfl (by decide +kernel) ⟨(Nat.le_of_ble_eq_true rfl), (Nat.le_of_ble_eq_true rfl)⟩) (lw_preM hIM hKM hWM _) rfl rfl hl.1 rfl (lv_room (Nat.le_of_ble_eq_true rfl)) dL_law_286 ⟨by show _ ≤ room_1.cells; omega, by show _ ≤ room_1.slots; omega⟩) hS hAM hWC hdis (fun H locs hWM hWC hS => ?_)
  refine lv_icmp_eq (tgt := 2104) hx hb dL_law_289 (by decide) (fun _ => ?_) (fun z => absurd rfl z)
  exact W.widen (k := cells + 1) (n := slots + 6) (by omega) (by omega) (kk w' v' H locs ls hR' hWC hWM hS hl)
set_option maxHeartbeats 4000000 in
set_option maxRecDepth 100000 in
theorem cs_2 {p : Program} {l : Launch} {e : Env} {s : State} {m : MethodId} {args : Array Value} {below : List Frame} {meth : Method} {c : Code} {b L : Nat} {xs : Nat → Int32} {zC zM : LZ} {Q : State → Prop} (C : LX p l s m args c b L xs zC zM) {w v : Mem} {H : Heap} {locs : List Loc} {ls : Array Slot} {i cells slots : Nat} (hR : Rel w v) (hWC : hd zC w H) (hWM : hd zM v H) (hS : va_S (lwA s) s.heap H locs) (hl : lv_has ls 8 (lwL b zC zM i)) (hi : i + 6 ≤ L) (hc : cells + 1 ≤ room_1.cells) (hs : slots + 6 ≤ room_1.slots) (kk : LK p l e s m args below meth c b zC zM Q i cells slots) : W p l e room_1 s m args below meth c H locs cells slots Q (F0 m 294 ls []) := by
  have C0 := C
  obtain ⟨⟨hx, hb, hml, hown, hts⟩, ⟨hX, hbl, hL⟩, hst, ⟨hIC, hIM, hKC, hKM⟩, hXK, hAC, hAM, hdis⟩ := C
  obtain ⟨kx, w', bb, v', e1, e2, e3, e4, hR'⟩ := step_2 hR (xs (i + 1)) (xs (i + 2))
  refine lv_aload_n hx hb dL_law_294 rfl (lv_at hl 1 rfl) ?_
  refine lw_ld C0 (k := 1) (by decide) (by decide) hi hS (lv_at hl 0 rfl) (lv_at hl 4 rfl) dL_law_295 dL_law_296 dL_law_298 dL_law_299 dL_law_300 ?_
  refine lw_ld C0 (k := 2) (by decide) (by decide) hi hS (lv_at hl 0 rfl) (lv_at hl 4 rfl) dL_law_301 dL_law_302 dL_law_304 dL_law_305 dL_law_306 ?_
  refine lv_aload_n hx hb dL_law_307 rfl (lv_at hl 3 rfl) ?_
  refine w_goW (v := (some (.int kx))) (vx_runSW (As := [.ref (zC.2.1 66), .int (xs (i + 1)), .int (xs (i + 2)), .ref (zC.2.1 88)]) (rest := []) ⟨hx, hb, hml, hown, hts⟩ (c_L_point l hst hIC (xs (i + 1)) (xs (i + 2)) w e1) (vx_cwSW 4 hts gL_law_L_point rfl rfl rfl (by decide +kernel) ⟨(Nat.le_of_ble_eq_true rfl), (Nat.le_of_ble_eq_true rfl)⟩) (lw_preX C0 hS hWC _) rfl rfl hl.1 rfl (lv_room (Nat.le_of_ble_eq_true rfl)) dL_law_308 ⟨by show cells + 1 ≤ room_1.cells; omega, by show slots + 6 ≤ room_1.slots; omega⟩) hS hAC hWM (fun o o' ho ho' q => hdis o' o ho' ho q.symm) (fun H locs hWC hWM hS => ?_)
  refine lv_istore (lv' := (5, .int kx) :: lwL b zC zM i) hx hb dL_law_311 hl (by decide) rfl (fun ls hl => ?_)
  refine lv_aload_n hx hb dL_law_313 rfl (lv_at hl 3 rfl) ?_
  refine lw_ld C0 (k := 1) (by decide) (by decide) hi hS (lv_at hl 1 rfl) (lv_at hl 5 rfl) dL_law_314 dL_law_315 dL_law_317 dL_law_318 dL_law_319 ?_
  refine lw_ld C0 (k := 2) (by decide) (by decide) hi hS (lv_at hl 1 rfl) (lv_at hl 5 rfl) dL_law_320 dL_law_321 dL_law_323 dL_law_324 dL_law_325 ?_
  refine w_goW (v := (some (.int bb))) (va_runV (As := [.int (xs (i + 1)), .int (xs (i + 2))]) (rest := []) ⟨hx, hb, hml, hown, hts⟩ (c_X11_point l hIM (xs (i + 1)) (xs (i + 2)) v e2) (cwV 2 hts gL_law_X11_point rfl rfl rfl (by decide +kernel) ⟨(Nat.le_of_ble_eq_true rfl), (Nat.le_of_ble_eq_true rfl)⟩) (lw_preM hIM hKM hWM _) rfl rfl hl.1 rfl (lv_room (Nat.le_of_ble_eq_true rfl)) dL_law_326 ⟨by show _ ≤ room_1.cells; omega, by show _ ≤ room_1.slots; omega⟩) hS hAM hWC hdis (fun H locs hWM hWC hS => ?_)
  refine lv_istore (lv' := (6, .int bb) :: (5, .int kx) :: lwL b zC zM i) hx hb dL_law_329 hl (by decide) rfl (fun ls hl => ?_)
  refine lv_aload_n hx hb dL_law_331 rfl (lv_at hl 4 rfl) ?_
  refine m_goR (v := some (.int kx)) (va_runV (As := []) (rest := []) ⟨hx, hb, hml, hown, hts⟩ (c_X11_thrown l hIM v' e3) (cwV 0 hts gL_law_X11_thrown rfl rfl rfl (by decide +kernel) ⟨(Nat.le_of_ble_eq_true rfl), (Nat.le_of_ble_eq_true rfl)⟩) (lw_preM hIM hKM hWM _) rfl rfl hl.1 rfl (lv_room (Nat.le_of_ble_eq_true rfl)) dL_law_332 ⟨by show _ ≤ room_1.cells; omega, by show _ ≤ room_1.slots; omega⟩) ?_
  refine lv_iload hx hb dL_law_335 (lv_at hl 1 rfl) ?_
  refine lv_icmp_eq (tgt := 342) hx hb dL_law_337 (by decide) (fun _ => ?_) (fun z => absurd rfl z)
  refine lv_iload hx hb dL_law_342 (lv_at hl 1 rfl) ?_
  refine lv_if_ne (tgt := 359) hx hb dL_law_344 (by decide) (fun _ => ?_) (fun z => ?_)
  · refine lv_goto (tgt := 2104) hx hb dL_law_359 (by decide) ?_
    exact W.widen (k := cells + 1) (n := slots + 6) (by omega) (by omega) (kk w' v' H locs ls hR' hWC hWM hS (lv_sub hl [2, 3, 4, 5, 6] rfl))
  · have k0 : kx = 0 := z
    refine lv_aload_n hx hb dL_law_347 rfl (lv_at hl 5 rfl) ?_
    refine lv_iconst (v := 0) hx hb dL_law_348 (by decide) ?_
    refine lw_out hx hb hIC hKC hWC dL_law_349 ?_
    refine lv_iload hx hb dL_law_350 (lv_at hl 0 rfl) ?_
    refine lv_i2l (v := bb.toInt64) hx hb dL_law_352 rfl ?_
    refine W.lcmp hx hb dL_law_353 ?_
    rw [e4 k0, lw_cmp]
    refine lv_if_eq (tgt := 359) hx hb dL_law_354 (by decide) (fun _ => ?_) (fun z => absurd rfl z)
    refine lv_goto (tgt := 2104) hx hb dL_law_359 (by decide) ?_
    exact W.widen (k := cells + 1) (n := slots + 6) (by omega) (by omega) (kk w' v' H locs ls hR' hWC hWM hS (lv_sub hl [2, 3, 4, 5, 6] rfl))
set_option maxHeartbeats 4000000 in
set_option maxRecDepth 100000 in
theorem cs_3 {p : Program} {l : Launch} {e : Env} {s : State} {m : MethodId} {args : Array Value} {below : List Frame} {meth : Method} {c : Code} {b L : Nat} {xs : Nat → Int32} {zC zM : LZ} {Q : State → Prop} (C : LX p l s m args c b L xs zC zM) {w v : Mem} {H : Heap} {locs : List Loc} {ls : Array Slot} {i cells slots : Nat} (hR : Rel w v) (hWC : hd zC w H) (hWM : hd zM v H) (hS : va_S (lwA s) s.heap H locs) (hl : lv_has ls 8 (lwL b zC zM i)) (hi : i + 6 ≤ L) (hc : cells + 1 ≤ room_1.cells) (hs : slots + 6 ≤ room_1.slots) (kk : LK p l e s m args below meth c b zC zM Q i cells slots) : W p l e room_1 s m args below meth c H locs cells slots Q (F0 m 362 ls []) := by
  have C0 := C
  obtain ⟨⟨hx, hb, hml, hown, hts⟩, ⟨hX, hbl, hL⟩, hst, ⟨hIC, hIM, hKC, hKM⟩, hXK, hAC, hAM, hdis⟩ := C
  obtain ⟨kx, w', bb, v', e1, e2, e3, e4, hR'⟩ := step_3 hR 
  refine lv_aload_n hx hb dL_law_362 rfl (lv_at hl 1 rfl) ?_
  refine lv_aload_n hx hb dL_law_363 rfl (lv_at hl 3 rfl) ?_
  refine w_goW (v := (some (.int kx))) (vx_runSW (As := [.ref (zC.2.1 66), .ref (zC.2.1 88)]) (rest := []) ⟨hx, hb, hml, hown, hts⟩ (c_L_advance l hst hIC  w e1) (vx_cwSW 2 hts gL_law_L_advance rfl rfl rfl (by decide +kernel) ⟨(Nat.le_of_ble_eq_true rfl), (Nat.le_of_ble_eq_true rfl)⟩) (lw_preX C0 hS hWC _) rfl rfl hl.1 rfl (lv_room (Nat.le_of_ble_eq_true rfl)) dL_law_364 ⟨by show cells + 1 ≤ room_1.cells; omega, by show slots + 6 ≤ room_1.slots; omega⟩) hS hAC hWM (fun o o' ho ho' q => hdis o' o ho' ho q.symm) (fun H locs hWC hWM hS => ?_)
  refine lv_istore (lv' := (5, .int kx) :: lwL b zC zM i) hx hb dL_law_367 hl (by decide) rfl (fun ls hl => ?_)
  refine lv_aload_n hx hb dL_law_369 rfl (lv_at hl 3 rfl) ?_
  refine w_goW (v := (some (.int bb))) (va_runV (As := []) (rest := []) ⟨hx, hb, hml, hown, hts⟩ (c_X11_advance l hIM  v e2) (cwV 0 hts gL_law_X11_advance rfl rfl rfl (by decide +kernel) ⟨(Nat.le_of_ble_eq_true rfl), (Nat.le_of_ble_eq_true rfl)⟩) (lw_preM hIM hKM hWM _) rfl rfl hl.1 rfl (lv_room (Nat.le_of_ble_eq_true rfl)) dL_law_370 ⟨by show _ ≤ room_1.cells; omega, by show _ ≤ room_1.slots; omega⟩) hS hAM hWC hdis (fun H locs hWM hWC hS => ?_)
  refine lv_istore (lv' := (6, .int bb) :: (5, .int kx) :: lwL b zC zM i) hx hb dL_law_373 hl (by decide) rfl (fun ls hl => ?_)
  refine lv_aload_n hx hb dL_law_375 rfl (lv_at hl 4 rfl) ?_
  refine m_goR (v := some (.int kx)) (va_runV (As := []) (rest := []) ⟨hx, hb, hml, hown, hts⟩ (c_X11_thrown l hIM v' e3) (cwV 0 hts gL_law_X11_thrown rfl rfl rfl (by decide +kernel) ⟨(Nat.le_of_ble_eq_true rfl), (Nat.le_of_ble_eq_true rfl)⟩) (lw_preM hIM hKM hWM _) rfl rfl hl.1 rfl (lv_room (Nat.le_of_ble_eq_true rfl)) dL_law_376 ⟨by show _ ≤ room_1.cells; omega, by show _ ≤ room_1.slots; omega⟩) ?_
  refine lv_iload hx hb dL_law_379 (lv_at hl 1 rfl) ?_
  refine lv_icmp_eq (tgt := 386) hx hb dL_law_381 (by decide) (fun _ => ?_) (fun z => absurd rfl z)
  refine lv_iload hx hb dL_law_386 (lv_at hl 1 rfl) ?_
  refine lv_if_ne (tgt := 403) hx hb dL_law_388 (by decide) (fun _ => ?_) (fun z => ?_)
  · refine lv_goto (tgt := 2104) hx hb dL_law_403 (by decide) ?_
    exact W.widen (k := cells + 1) (n := slots + 6) (by omega) (by omega) (kk w' v' H locs ls hR' hWC hWM hS (lv_sub hl [2, 3, 4, 5, 6] rfl))
  · have k0 : kx = 0 := z
    refine lv_aload_n hx hb dL_law_391 rfl (lv_at hl 5 rfl) ?_
    refine lv_iconst (v := 0) hx hb dL_law_392 (by decide) ?_
    refine lw_out hx hb hIC hKC hWC dL_law_393 ?_
    refine lv_iload hx hb dL_law_394 (lv_at hl 0 rfl) ?_
    refine lv_i2l (v := bb.toInt64) hx hb dL_law_396 rfl ?_
    refine W.lcmp hx hb dL_law_397 ?_
    rw [e4 k0, lw_cmp]
    refine lv_if_eq (tgt := 403) hx hb dL_law_398 (by decide) (fun _ => ?_) (fun z => absurd rfl z)
    refine lv_goto (tgt := 2104) hx hb dL_law_403 (by decide) ?_
    exact W.widen (k := cells + 1) (n := slots + 6) (by omega) (by omega) (kk w' v' H locs ls hR' hWC hWM hS (lv_sub hl [2, 3, 4, 5, 6] rfl))
set_option maxHeartbeats 4000000 in
set_option maxRecDepth 100000 in
theorem cs_4 {p : Program} {l : Launch} {e : Env} {s : State} {m : MethodId} {args : Array Value} {below : List Frame} {meth : Method} {c : Code} {b L : Nat} {xs : Nat → Int32} {zC zM : LZ} {Q : State → Prop} (C : LX p l s m args c b L xs zC zM) {w v : Mem} {H : Heap} {locs : List Loc} {ls : Array Slot} {i cells slots : Nat} (hR : Rel w v) (hWC : hd zC w H) (hWM : hd zM v H) (hS : va_S (lwA s) s.heap H locs) (hl : lv_has ls 8 (lwL b zC zM i)) (hi : i + 6 ≤ L) (hc : cells + 1 ≤ room_1.cells) (hs : slots + 6 ≤ room_1.slots) (kk : LK p l e s m args below meth c b zC zM Q i cells slots) : W p l e room_1 s m args below meth c H locs cells slots Q (F0 m 406 ls []) := by
  have C0 := C
  obtain ⟨⟨hx, hb, hml, hown, hts⟩, ⟨hX, hbl, hL⟩, hst, ⟨hIC, hIM, hKC, hKM⟩, hXK, hAC, hAM, hdis⟩ := C
  obtain ⟨r, w', v', e1, e2, hR'⟩ := step_4 hR (xs (i + 1)) (xs (i + 2))
  refine lv_aload_n hx hb dL_law_406 rfl (lv_at hl 1 rfl) ?_
  refine lw_ld C0 (k := 1) (by decide) (by decide) hi hS (lv_at hl 0 rfl) (lv_at hl 4 rfl) dL_law_407 dL_law_408 dL_law_410 dL_law_411 dL_law_412 ?_
  refine lw_ld C0 (k := 2) (by decide) (by decide) hi hS (lv_at hl 0 rfl) (lv_at hl 4 rfl) dL_law_413 dL_law_414 dL_law_416 dL_law_417 dL_law_418 ?_
  refine w_goW (v := (some (.int r))) (va_runV (As := [.int (xs (i + 1)), .int (xs (i + 2))]) (rest := []) ⟨hx, hb, hml, hown, hts⟩ (c_X10_make l hIC (xs (i + 1)) (xs (i + 2)) w e1) (cwV 2 hts gL_law_X10_make rfl rfl rfl (by decide +kernel) ⟨(Nat.le_of_ble_eq_true rfl), (Nat.le_of_ble_eq_true rfl)⟩) (lw_preC hIC hKC hWC _) rfl rfl hl.1 rfl (lv_room (Nat.le_of_ble_eq_true rfl)) dL_law_419 ⟨by show _ ≤ room_1.cells; omega, by show _ ≤ room_1.slots; omega⟩) hS hAC hWM (fun o o' ho ho' q => hdis o' o ho' ho q.symm) (fun H locs hWC hWM hS => ?_)
  refine lv_aload_n hx hb dL_law_422 rfl (lv_at hl 2 rfl) ?_
  refine lw_ld C0 (k := 1) (by decide) (by decide) hi hS (lv_at hl 0 rfl) (lv_at hl 4 rfl) dL_law_423 dL_law_424 dL_law_426 dL_law_427 dL_law_428 ?_
  refine lw_ld C0 (k := 2) (by decide) (by decide) hi hS (lv_at hl 0 rfl) (lv_at hl 4 rfl) dL_law_429 dL_law_430 dL_law_432 dL_law_433 dL_law_434 ?_
  refine w_goW (v := (some (.int r))) (va_runV (As := [.int (xs (i + 1)), .int (xs (i + 2))]) (rest := [.int r]) ⟨hx, hb, hml, hown, hts⟩ (c_X11_make l hIM (xs (i + 1)) (xs (i + 2)) v e2) (cwV 2 hts gL_law_X11_make rfl rfl rfl (by decide +kernel) ⟨(Nat.le_of_ble_eq_true rfl), (Nat.le_of_ble_eq_true rfl)⟩) (lw_preM hIM hKM hWM _) rfl rfl hl.1 rfl (lv_room (Nat.le_of_ble_eq_true rfl)) dL_law_435 ⟨by show _ ≤ room_1.cells; omega, by show _ ≤ room_1.slots; omega⟩) hS hAM hWC hdis (fun H locs hWM hWC hS => ?_)
  refine lv_icmp_eq (tgt := 2104) hx hb dL_law_438 (by decide) (fun _ => ?_) (fun z => absurd rfl z)
  exact W.widen (k := cells + 1) (n := slots + 6) (by omega) (by omega) (kk w' v' H locs ls hR' hWC hWM hS hl)
set_option maxHeartbeats 4000000 in
set_option maxRecDepth 100000 in
theorem cs_5 {p : Program} {l : Launch} {e : Env} {s : State} {m : MethodId} {args : Array Value} {below : List Frame} {meth : Method} {c : Code} {b L : Nat} {xs : Nat → Int32} {zC zM : LZ} {Q : State → Prop} (C : LX p l s m args c b L xs zC zM) {w v : Mem} {H : Heap} {locs : List Loc} {ls : Array Slot} {i cells slots : Nat} (hR : Rel w v) (hWC : hd zC w H) (hWM : hd zM v H) (hS : va_S (lwA s) s.heap H locs) (hl : lv_has ls 8 (lwL b zC zM i)) (hi : i + 6 ≤ L) (hc : cells + 1 ≤ room_1.cells) (hs : slots + 6 ≤ room_1.slots) (kk : LK p l e s m args below meth c b zC zM Q i cells slots) : W p l e room_1 s m args below meth c H locs cells slots Q (F0 m 443 ls []) := by
  have C0 := C
  obtain ⟨⟨hx, hb, hml, hown, hts⟩, ⟨hX, hbl, hL⟩, hst, ⟨hIC, hIM, hKC, hKM⟩, hXK, hAC, hAM, hdis⟩ := C
  obtain ⟨kx, w', bb, v', e1, e2, e3, e4, hR'⟩ := step_5 hR (xs (i + 1))
  refine lv_aload_n hx hb dL_law_443 rfl (lv_at hl 1 rfl) ?_
  refine lw_ld C0 (k := 1) (by decide) (by decide) hi hS (lv_at hl 0 rfl) (lv_at hl 4 rfl) dL_law_444 dL_law_445 dL_law_447 dL_law_448 dL_law_449 ?_
  refine lv_aload_n hx hb dL_law_450 rfl (lv_at hl 3 rfl) ?_
  refine w_goW (v := (some (.int kx))) (vx_runSW (As := [.ref (zC.2.1 66), .int (xs (i + 1)), .ref (zC.2.1 88)]) (rest := []) ⟨hx, hb, hml, hown, hts⟩ (c_L_disc l hst hIC (xs (i + 1)) w e1) (vx_cwSW 3 hts gL_law_L_disc rfl rfl rfl (by decide +kernel) ⟨(Nat.le_of_ble_eq_true rfl), (Nat.le_of_ble_eq_true rfl)⟩) (lw_preX C0 hS hWC _) rfl rfl hl.1 rfl (lv_room (Nat.le_of_ble_eq_true rfl)) dL_law_451 ⟨by show cells + 1 ≤ room_1.cells; omega, by show slots + 6 ≤ room_1.slots; omega⟩) hS hAC hWM (fun o o' ho ho' q => hdis o' o ho' ho q.symm) (fun H locs hWC hWM hS => ?_)
  refine lv_istore (lv' := (5, .int kx) :: lwL b zC zM i) hx hb dL_law_454 hl (by decide) rfl (fun ls hl => ?_)
  refine lv_aload_n hx hb dL_law_456 rfl (lv_at hl 3 rfl) ?_
  refine lw_ld C0 (k := 1) (by decide) (by decide) hi hS (lv_at hl 1 rfl) (lv_at hl 5 rfl) dL_law_457 dL_law_458 dL_law_460 dL_law_461 dL_law_462 ?_
  refine w_goW (v := (some (.int bb))) (va_runV (As := [.int (xs (i + 1))]) (rest := []) ⟨hx, hb, hml, hown, hts⟩ (c_X11_disc l hIM (xs (i + 1)) v e2) (cwV 1 hts gL_law_X11_disc rfl rfl rfl (by decide +kernel) ⟨(Nat.le_of_ble_eq_true rfl), (Nat.le_of_ble_eq_true rfl)⟩) (lw_preM hIM hKM hWM _) rfl rfl hl.1 rfl (lv_room (Nat.le_of_ble_eq_true rfl)) dL_law_463 ⟨by show _ ≤ room_1.cells; omega, by show _ ≤ room_1.slots; omega⟩) hS hAM hWC hdis (fun H locs hWM hWC hS => ?_)
  refine lv_istore (lv' := (6, .int bb) :: (5, .int kx) :: lwL b zC zM i) hx hb dL_law_466 hl (by decide) rfl (fun ls hl => ?_)
  refine lv_aload_n hx hb dL_law_468 rfl (lv_at hl 4 rfl) ?_
  refine m_goR (v := some (.int kx)) (va_runV (As := []) (rest := []) ⟨hx, hb, hml, hown, hts⟩ (c_X11_thrown l hIM v' e3) (cwV 0 hts gL_law_X11_thrown rfl rfl rfl (by decide +kernel) ⟨(Nat.le_of_ble_eq_true rfl), (Nat.le_of_ble_eq_true rfl)⟩) (lw_preM hIM hKM hWM _) rfl rfl hl.1 rfl (lv_room (Nat.le_of_ble_eq_true rfl)) dL_law_469 ⟨by show _ ≤ room_1.cells; omega, by show _ ≤ room_1.slots; omega⟩) ?_
  refine lv_iload hx hb dL_law_472 (lv_at hl 1 rfl) ?_
  refine lv_icmp_eq (tgt := 479) hx hb dL_law_474 (by decide) (fun _ => ?_) (fun z => absurd rfl z)
  refine lv_iload hx hb dL_law_479 (lv_at hl 1 rfl) ?_
  refine lv_if_ne (tgt := 496) hx hb dL_law_481 (by decide) (fun _ => ?_) (fun z => ?_)
  · refine lv_goto (tgt := 2104) hx hb dL_law_496 (by decide) ?_
    exact W.widen (k := cells + 1) (n := slots + 6) (by omega) (by omega) (kk w' v' H locs ls hR' hWC hWM hS (lv_sub hl [2, 3, 4, 5, 6] rfl))
  · have k0 : kx = 0 := z
    refine lv_aload_n hx hb dL_law_484 rfl (lv_at hl 5 rfl) ?_
    refine lv_iconst (v := 0) hx hb dL_law_485 (by decide) ?_
    refine lw_out hx hb hIC hKC hWC dL_law_486 ?_
    refine lv_iload hx hb dL_law_487 (lv_at hl 0 rfl) ?_
    refine lv_i2l (v := bb.toInt64) hx hb dL_law_489 rfl ?_
    refine W.lcmp hx hb dL_law_490 ?_
    rw [e4 k0, lw_cmp]
    refine lv_if_eq (tgt := 496) hx hb dL_law_491 (by decide) (fun _ => ?_) (fun z => absurd rfl z)
    refine lv_goto (tgt := 2104) hx hb dL_law_496 (by decide) ?_
    exact W.widen (k := cells + 1) (n := slots + 6) (by omega) (by omega) (kk w' v' H locs ls hR' hWC hWM hS (lv_sub hl [2, 3, 4, 5, 6] rfl))
set_option maxHeartbeats 4000000 in
set_option maxRecDepth 100000 in
theorem cs_6 {p : Program} {l : Launch} {e : Env} {s : State} {m : MethodId} {args : Array Value} {below : List Frame} {meth : Method} {c : Code} {b L : Nat} {xs : Nat → Int32} {zC zM : LZ} {Q : State → Prop} (C : LX p l s m args c b L xs zC zM) {w v : Mem} {H : Heap} {locs : List Loc} {ls : Array Slot} {i cells slots : Nat} (hR : Rel w v) (hWC : hd zC w H) (hWM : hd zM v H) (hS : va_S (lwA s) s.heap H locs) (hl : lv_has ls 8 (lwL b zC zM i)) (hi : i + 6 ≤ L) (hc : cells + 1 ≤ room_1.cells) (hs : slots + 6 ≤ room_1.slots) (kk : LK p l e s m args below meth c b zC zM Q i cells slots) : W p l e room_1 s m args below meth c H locs cells slots Q (F0 m 499 ls []) := by
  have C0 := C
  obtain ⟨⟨hx, hb, hml, hown, hts⟩, ⟨hX, hbl, hL⟩, hst, ⟨hIC, hIM, hKC, hKM⟩, hXK, hAC, hAM, hdis⟩ := C
  obtain ⟨kx, w', bb, v', e1, e2, e3, e4, hR'⟩ := step_6 hR (xs (i + 1)) (xs (i + 2))
  refine lv_aload_n hx hb dL_law_499 rfl (lv_at hl 1 rfl) ?_
  refine lw_ld C0 (k := 1) (by decide) (by decide) hi hS (lv_at hl 0 rfl) (lv_at hl 4 rfl) dL_law_500 dL_law_501 dL_law_503 dL_law_504 dL_law_505 ?_
  refine lw_ld C0 (k := 2) (by decide) (by decide) hi hS (lv_at hl 0 rfl) (lv_at hl 4 rfl) dL_law_506 dL_law_507 dL_law_509 dL_law_510 dL_law_511 ?_
  refine lv_aload_n hx hb dL_law_512 rfl (lv_at hl 3 rfl) ?_
  refine w_goW (v := (some (.int kx))) (vx_runSW (As := [.ref (zC.2.1 66), .int (xs (i + 1)), .int (xs (i + 2)), .ref (zC.2.1 88)]) (rest := []) ⟨hx, hb, hml, hown, hts⟩ (c_L_stitch l hst hIC (xs (i + 1)) (xs (i + 2)) w e1) (vx_cwSW 4 hts gL_law_L_stitch rfl rfl rfl (by decide +kernel) ⟨(Nat.le_of_ble_eq_true rfl), (Nat.le_of_ble_eq_true rfl)⟩) (lw_preX C0 hS hWC _) rfl rfl hl.1 rfl (lv_room (Nat.le_of_ble_eq_true rfl)) dL_law_513 ⟨by show cells + 1 ≤ room_1.cells; omega, by show slots + 6 ≤ room_1.slots; omega⟩) hS hAC hWM (fun o o' ho ho' q => hdis o' o ho' ho q.symm) (fun H locs hWC hWM hS => ?_)
  refine lv_istore (lv' := (5, .int kx) :: lwL b zC zM i) hx hb dL_law_516 hl (by decide) rfl (fun ls hl => ?_)
  refine lv_aload_n hx hb dL_law_518 rfl (lv_at hl 3 rfl) ?_
  refine lw_ld C0 (k := 1) (by decide) (by decide) hi hS (lv_at hl 1 rfl) (lv_at hl 5 rfl) dL_law_519 dL_law_520 dL_law_522 dL_law_523 dL_law_524 ?_
  refine lw_ld C0 (k := 2) (by decide) (by decide) hi hS (lv_at hl 1 rfl) (lv_at hl 5 rfl) dL_law_525 dL_law_526 dL_law_528 dL_law_529 dL_law_530 ?_
  refine w_goW (v := (some (.int bb))) (va_runV (As := [.int (xs (i + 1)), .int (xs (i + 2))]) (rest := []) ⟨hx, hb, hml, hown, hts⟩ (c_X11_stitch l hIM (xs (i + 1)) (xs (i + 2)) v e2) (cwV 2 hts gL_law_X11_stitch rfl rfl rfl (by decide +kernel) ⟨(Nat.le_of_ble_eq_true rfl), (Nat.le_of_ble_eq_true rfl)⟩) (lw_preM hIM hKM hWM _) rfl rfl hl.1 rfl (lv_room (Nat.le_of_ble_eq_true rfl)) dL_law_531 ⟨by show _ ≤ room_1.cells; omega, by show _ ≤ room_1.slots; omega⟩) hS hAM hWC hdis (fun H locs hWM hWC hS => ?_)
  refine lv_istore (lv' := (6, .int bb) :: (5, .int kx) :: lwL b zC zM i) hx hb dL_law_534 hl (by decide) rfl (fun ls hl => ?_)
  refine lv_aload_n hx hb dL_law_536 rfl (lv_at hl 4 rfl) ?_
  refine m_goR (v := some (.int kx)) (va_runV (As := []) (rest := []) ⟨hx, hb, hml, hown, hts⟩ (c_X11_thrown l hIM v' e3) (cwV 0 hts gL_law_X11_thrown rfl rfl rfl (by decide +kernel) ⟨(Nat.le_of_ble_eq_true rfl), (Nat.le_of_ble_eq_true rfl)⟩) (lw_preM hIM hKM hWM _) rfl rfl hl.1 rfl (lv_room (Nat.le_of_ble_eq_true rfl)) dL_law_537 ⟨by show _ ≤ room_1.cells; omega, by show _ ≤ room_1.slots; omega⟩) ?_
  refine lv_iload hx hb dL_law_540 (lv_at hl 1 rfl) ?_
  refine lv_icmp_eq (tgt := 547) hx hb dL_law_542 (by decide) (fun _ => ?_) (fun z => absurd rfl z)
  refine lv_iload hx hb dL_law_547 (lv_at hl 1 rfl) ?_
  refine lv_if_ne (tgt := 564) hx hb dL_law_549 (by decide) (fun _ => ?_) (fun z => ?_)
  · refine lv_goto (tgt := 2104) hx hb dL_law_564 (by decide) ?_
    exact W.widen (k := cells + 1) (n := slots + 6) (by omega) (by omega) (kk w' v' H locs ls hR' hWC hWM hS (lv_sub hl [2, 3, 4, 5, 6] rfl))
  · have k0 : kx = 0 := z
    refine lv_aload_n hx hb dL_law_552 rfl (lv_at hl 5 rfl) ?_
    refine lv_iconst (v := 0) hx hb dL_law_553 (by decide) ?_
    refine lw_out hx hb hIC hKC hWC dL_law_554 ?_
    refine lv_iload hx hb dL_law_555 (lv_at hl 0 rfl) ?_
    refine lv_i2l (v := bb.toInt64) hx hb dL_law_557 rfl ?_
    refine W.lcmp hx hb dL_law_558 ?_
    rw [e4 k0, lw_cmp]
    refine lv_if_eq (tgt := 564) hx hb dL_law_559 (by decide) (fun _ => ?_) (fun z => absurd rfl z)
    refine lv_goto (tgt := 2104) hx hb dL_law_564 (by decide) ?_
    exact W.widen (k := cells + 1) (n := slots + 6) (by omega) (by omega) (kk w' v' H locs ls hR' hWC hWM hS (lv_sub hl [2, 3, 4, 5, 6] rfl))
set_option maxHeartbeats 4000000 in
set_option maxRecDepth 100000 in
theorem cs_7 {p : Program} {l : Launch} {e : Env} {s : State} {m : MethodId} {args : Array Value} {below : List Frame} {meth : Method} {c : Code} {b L : Nat} {xs : Nat → Int32} {zC zM : LZ} {Q : State → Prop} (C : LX p l s m args c b L xs zC zM) {w v : Mem} {H : Heap} {locs : List Loc} {ls : Array Slot} {i cells slots : Nat} (hR : Rel w v) (hWC : hd zC w H) (hWM : hd zM v H) (hS : va_S (lwA s) s.heap H locs) (hl : lv_has ls 8 (lwL b zC zM i)) (hi : i + 6 ≤ L) (hc : cells + 1 ≤ room_1.cells) (hs : slots + 6 ≤ room_1.slots) (kk : LK p l e s m args below meth c b zC zM Q i cells slots) : W p l e room_1 s m args below meth c H locs cells slots Q (F0 m 567 ls []) := by
  have C0 := C
  obtain ⟨⟨hx, hb, hml, hown, hts⟩, ⟨hX, hbl, hL⟩, hst, ⟨hIC, hIM, hKC, hKM⟩, hXK, hAC, hAM, hdis⟩ := C
  obtain ⟨r, w', v', e1, e2, hR'⟩ := step_7 hR (xs (i + 1)) (xs (i + 2)) (xs (i + 3))
  refine lv_aload_n hx hb dL_law_567 rfl (lv_at hl 1 rfl) ?_
  refine lw_ld C0 (k := 1) (by decide) (by decide) hi hS (lv_at hl 0 rfl) (lv_at hl 4 rfl) dL_law_568 dL_law_569 dL_law_571 dL_law_572 dL_law_573 ?_
  refine lw_ld C0 (k := 2) (by decide) (by decide) hi hS (lv_at hl 0 rfl) (lv_at hl 4 rfl) dL_law_574 dL_law_575 dL_law_577 dL_law_578 dL_law_579 ?_
  refine lw_ld C0 (k := 3) (by decide) (by decide) hi hS (lv_at hl 0 rfl) (lv_at hl 4 rfl) dL_law_580 dL_law_581 dL_law_583 dL_law_584 dL_law_585 ?_
  refine w_goW (v := (some (.int r))) (va_runV (As := [.int (xs (i + 1)), .int (xs (i + 2)), .int (xs (i + 3))]) (rest := []) ⟨hx, hb, hml, hown, hts⟩ (c_X10_file l hIC (xs (i + 1)) (xs (i + 2)) (xs (i + 3)) w e1) (cwV 3 hts gL_law_X10_file rfl rfl rfl (by decide +kernel) ⟨(Nat.le_of_ble_eq_true rfl), (Nat.le_of_ble_eq_true rfl)⟩) (lw_preC hIC hKC hWC _) rfl rfl hl.1 rfl (lv_room (Nat.le_of_ble_eq_true rfl)) dL_law_586 ⟨by show _ ≤ room_1.cells; omega, by show _ ≤ room_1.slots; omega⟩) hS hAC hWM (fun o o' ho ho' q => hdis o' o ho' ho q.symm) (fun H locs hWC hWM hS => ?_)
  refine lv_aload_n hx hb dL_law_589 rfl (lv_at hl 2 rfl) ?_
  refine lw_ld C0 (k := 1) (by decide) (by decide) hi hS (lv_at hl 0 rfl) (lv_at hl 4 rfl) dL_law_590 dL_law_591 dL_law_593 dL_law_594 dL_law_595 ?_
  refine lw_ld C0 (k := 2) (by decide) (by decide) hi hS (lv_at hl 0 rfl) (lv_at hl 4 rfl) dL_law_596 dL_law_597 dL_law_599 dL_law_600 dL_law_601 ?_
  refine lw_ld C0 (k := 3) (by decide) (by decide) hi hS (lv_at hl 0 rfl) (lv_at hl 4 rfl) dL_law_602 dL_law_603 dL_law_605 dL_law_606 dL_law_607 ?_
  refine w_goW (v := (some (.int r))) (va_runV (As := [.int (xs (i + 1)), .int (xs (i + 2)), .int (xs (i + 3))]) (rest := [.int r]) ⟨hx, hb, hml, hown, hts⟩ (c_X11_file l hIM (xs (i + 1)) (xs (i + 2)) (xs (i + 3)) v e2) (cwV 3 hts gL_law_X11_file rfl rfl rfl (by decide +kernel) ⟨(Nat.le_of_ble_eq_true rfl), (Nat.le_of_ble_eq_true rfl)⟩) (lw_preM hIM hKM hWM _) rfl rfl hl.1 rfl (lv_room (Nat.le_of_ble_eq_true rfl)) dL_law_608 ⟨by show _ ≤ room_1.cells; omega, by show _ ≤ room_1.slots; omega⟩) hS hAM hWC hdis (fun H locs hWM hWC hS => ?_)
  refine lv_icmp_eq (tgt := 2104) hx hb dL_law_611 (by decide) (fun _ => ?_) (fun z => absurd rfl z)
  exact W.widen (k := cells + 1) (n := slots + 6) (by omega) (by omega) (kk w' v' H locs ls hR' hWC hWM hS hl)
set_option maxHeartbeats 4000000 in
set_option maxRecDepth 100000 in
theorem cs_8 {p : Program} {l : Launch} {e : Env} {s : State} {m : MethodId} {args : Array Value} {below : List Frame} {meth : Method} {c : Code} {b L : Nat} {xs : Nat → Int32} {zC zM : LZ} {Q : State → Prop} (C : LX p l s m args c b L xs zC zM) {w v : Mem} {H : Heap} {locs : List Loc} {ls : Array Slot} {i cells slots : Nat} (hR : Rel w v) (hWC : hd zC w H) (hWM : hd zM v H) (hS : va_S (lwA s) s.heap H locs) (hl : lv_has ls 8 (lwL b zC zM i)) (hi : i + 6 ≤ L) (hc : cells + 1 ≤ room_1.cells) (hs : slots + 6 ≤ room_1.slots) (kk : LK p l e s m args below meth c b zC zM Q i cells slots) : W p l e room_1 s m args below meth c H locs cells slots Q (F0 m 616 ls []) := by
  have C0 := C
  obtain ⟨⟨hx, hb, hml, hown, hts⟩, ⟨hX, hbl, hL⟩, hst, ⟨hIC, hIM, hKC, hKM⟩, hXK, hAC, hAM, hdis⟩ := C
  obtain ⟨r, e1, e2⟩ := step_8 hR 
  refine lv_aload_n hx hb dL_law_616 rfl (lv_at hl 1 rfl) ?_
  refine m_goR (v := (some (.int r))) (va_runV (As := []) (rest := []) ⟨hx, hb, hml, hown, hts⟩ (c_X10_makes l hIC  w e1) (cwV 0 hts gL_law_X10_makes rfl rfl rfl (by decide +kernel) ⟨(Nat.le_of_ble_eq_true rfl), (Nat.le_of_ble_eq_true rfl)⟩) (lw_preC hIC hKC hWC _) rfl rfl hl.1 rfl (lv_room (Nat.le_of_ble_eq_true rfl)) dL_law_617 ⟨by show _ ≤ room_1.cells; omega, by show _ ≤ room_1.slots; omega⟩) ?_
  refine lv_aload_n hx hb dL_law_620 rfl (lv_at hl 2 rfl) ?_
  refine m_goR (v := (some (.int r))) (va_runV (As := []) (rest := [.int r]) ⟨hx, hb, hml, hown, hts⟩ (c_X11_makes l hIM  v e2) (cwV 0 hts gL_law_X11_makes rfl rfl rfl (by decide +kernel) ⟨(Nat.le_of_ble_eq_true rfl), (Nat.le_of_ble_eq_true rfl)⟩) (lw_preM hIM hKM hWM _) rfl rfl hl.1 rfl (lv_room (Nat.le_of_ble_eq_true rfl)) dL_law_621 ⟨by show _ ≤ room_1.cells; omega, by show _ ≤ room_1.slots; omega⟩) ?_
  refine lv_icmp_eq (tgt := 2104) hx hb dL_law_624 (by decide) (fun _ => ?_) (fun z => absurd rfl z)
  exact W.widen (k := cells + 1) (n := slots + 6) (by omega) (by omega) (kk w v H locs ls hR hWC hWM hS hl)
set_option maxHeartbeats 4000000 in
set_option maxRecDepth 100000 in
theorem cs_9 {p : Program} {l : Launch} {e : Env} {s : State} {m : MethodId} {args : Array Value} {below : List Frame} {meth : Method} {c : Code} {b L : Nat} {xs : Nat → Int32} {zC zM : LZ} {Q : State → Prop} (C : LX p l s m args c b L xs zC zM) {w v : Mem} {H : Heap} {locs : List Loc} {ls : Array Slot} {i cells slots : Nat} (hR : Rel w v) (hWC : hd zC w H) (hWM : hd zM v H) (hS : va_S (lwA s) s.heap H locs) (hl : lv_has ls 8 (lwL b zC zM i)) (hi : i + 6 ≤ L) (hc : cells + 1 ≤ room_1.cells) (hs : slots + 6 ≤ room_1.slots) (kk : LK p l e s m args below meth c b zC zM Q i cells slots) : W p l e room_1 s m args below meth c H locs cells slots Q (F0 m 629 ls []) := by
  have C0 := C
  obtain ⟨⟨hx, hb, hml, hown, hts⟩, ⟨hX, hbl, hL⟩, hst, ⟨hIC, hIM, hKC, hKM⟩, hXK, hAC, hAM, hdis⟩ := C
  obtain ⟨r, w', v', e1, e2, hR'⟩ := step_9 hR (xs (i + 1))
  refine lv_aload_n hx hb dL_law_629 rfl (lv_at hl 1 rfl) ?_
  refine lw_ld C0 (k := 1) (by decide) (by decide) hi hS (lv_at hl 0 rfl) (lv_at hl 4 rfl) dL_law_630 dL_law_631 dL_law_633 dL_law_634 dL_law_635 ?_
  refine w_goW (v := (some (.int r))) (va_runV (As := [.int (xs (i + 1))]) (rest := []) ⟨hx, hb, hml, hown, hts⟩ (c_X10_lay l hIC (xs (i + 1)) w e1) (cwV 1 hts gL_law_X10_lay rfl rfl rfl (by decide +kernel) ⟨(Nat.le_of_ble_eq_true rfl), (Nat.le_of_ble_eq_true rfl)⟩) (lw_preC hIC hKC hWC _) rfl rfl hl.1 rfl (lv_room (Nat.le_of_ble_eq_true rfl)) dL_law_636 ⟨by show _ ≤ room_1.cells; omega, by show _ ≤ room_1.slots; omega⟩) hS hAC hWM (fun o o' ho ho' q => hdis o' o ho' ho q.symm) (fun H locs hWC hWM hS => ?_)
  refine lv_aload_n hx hb dL_law_639 rfl (lv_at hl 2 rfl) ?_
  refine lw_ld C0 (k := 1) (by decide) (by decide) hi hS (lv_at hl 0 rfl) (lv_at hl 4 rfl) dL_law_640 dL_law_641 dL_law_643 dL_law_644 dL_law_645 ?_
  refine w_goW (v := (some (.int r))) (va_runV (As := [.int (xs (i + 1))]) (rest := [.int r]) ⟨hx, hb, hml, hown, hts⟩ (c_X11_lay l hIM (xs (i + 1)) v e2) (cwV 1 hts gL_law_X11_lay rfl rfl rfl (by decide +kernel) ⟨(Nat.le_of_ble_eq_true rfl), (Nat.le_of_ble_eq_true rfl)⟩) (lw_preM hIM hKM hWM _) rfl rfl hl.1 rfl (lv_room (Nat.le_of_ble_eq_true rfl)) dL_law_646 ⟨by show _ ≤ room_1.cells; omega, by show _ ≤ room_1.slots; omega⟩) hS hAM hWC hdis (fun H locs hWM hWC hS => ?_)
  refine lv_icmp_eq (tgt := 2104) hx hb dL_law_649 (by decide) (fun _ => ?_) (fun z => absurd rfl z)
  exact W.widen (k := cells + 1) (n := slots + 6) (by omega) (by omega) (kk w' v' H locs ls hR' hWC hWM hS hl)
set_option maxHeartbeats 4000000 in
set_option maxRecDepth 100000 in
theorem cs_10 {p : Program} {l : Launch} {e : Env} {s : State} {m : MethodId} {args : Array Value} {below : List Frame} {meth : Method} {c : Code} {b L : Nat} {xs : Nat → Int32} {zC zM : LZ} {Q : State → Prop} (C : LX p l s m args c b L xs zC zM) {w v : Mem} {H : Heap} {locs : List Loc} {ls : Array Slot} {i cells slots : Nat} (hR : Rel w v) (hWC : hd zC w H) (hWM : hd zM v H) (hS : va_S (lwA s) s.heap H locs) (hl : lv_has ls 8 (lwL b zC zM i)) (hi : i + 6 ≤ L) (hc : cells + 1 ≤ room_1.cells) (hs : slots + 6 ≤ room_1.slots) (kk : LK p l e s m args below meth c b zC zM Q i cells slots) : W p l e room_1 s m args below meth c H locs cells slots Q (F0 m 654 ls []) := by
  have C0 := C
  obtain ⟨⟨hx, hb, hml, hown, hts⟩, ⟨hX, hbl, hL⟩, hst, ⟨hIC, hIM, hKC, hKM⟩, hXK, hAC, hAM, hdis⟩ := C
  obtain ⟨r, w', v', e1, e2, hR'⟩ := step_10 hR (xs (i + 1))
  refine lv_aload_n hx hb dL_law_654 rfl (lv_at hl 1 rfl) ?_
  refine lw_ld C0 (k := 1) (by decide) (by decide) hi hS (lv_at hl 0 rfl) (lv_at hl 4 rfl) dL_law_655 dL_law_656 dL_law_658 dL_law_659 dL_law_660 ?_
  refine w_goW (v := (some (.int r))) (va_runV (As := [.int (xs (i + 1))]) (rest := []) ⟨hx, hb, hml, hown, hts⟩ (c_X10_take l hIC (xs (i + 1)) w e1) (cwV 1 hts gL_law_X10_take rfl rfl rfl (by decide +kernel) ⟨(Nat.le_of_ble_eq_true rfl), (Nat.le_of_ble_eq_true rfl)⟩) (lw_preC hIC hKC hWC _) rfl rfl hl.1 rfl (lv_room (Nat.le_of_ble_eq_true rfl)) dL_law_661 ⟨by show _ ≤ room_1.cells; omega, by show _ ≤ room_1.slots; omega⟩) hS hAC hWM (fun o o' ho ho' q => hdis o' o ho' ho q.symm) (fun H locs hWC hWM hS => ?_)
  refine lv_aload_n hx hb dL_law_664 rfl (lv_at hl 2 rfl) ?_
  refine lw_ld C0 (k := 1) (by decide) (by decide) hi hS (lv_at hl 0 rfl) (lv_at hl 4 rfl) dL_law_665 dL_law_666 dL_law_668 dL_law_669 dL_law_670 ?_
  refine w_goW (v := (some (.int r))) (va_runV (As := [.int (xs (i + 1))]) (rest := [.int r]) ⟨hx, hb, hml, hown, hts⟩ (c_X11_take l hIM (xs (i + 1)) v e2) (cwV 1 hts gL_law_X11_take rfl rfl rfl (by decide +kernel) ⟨(Nat.le_of_ble_eq_true rfl), (Nat.le_of_ble_eq_true rfl)⟩) (lw_preM hIM hKM hWM _) rfl rfl hl.1 rfl (lv_room (Nat.le_of_ble_eq_true rfl)) dL_law_671 ⟨by show _ ≤ room_1.cells; omega, by show _ ≤ room_1.slots; omega⟩) hS hAM hWC hdis (fun H locs hWM hWC hS => ?_)
  refine lv_icmp_eq (tgt := 2104) hx hb dL_law_674 (by decide) (fun _ => ?_) (fun z => absurd rfl z)
  exact W.widen (k := cells + 1) (n := slots + 6) (by omega) (by omega) (kk w' v' H locs ls hR' hWC hWM hS hl)
set_option maxHeartbeats 4000000 in
set_option maxRecDepth 100000 in
theorem cs_11 {p : Program} {l : Launch} {e : Env} {s : State} {m : MethodId} {args : Array Value} {below : List Frame} {meth : Method} {c : Code} {b L : Nat} {xs : Nat → Int32} {zC zM : LZ} {Q : State → Prop} (C : LX p l s m args c b L xs zC zM) {w v : Mem} {H : Heap} {locs : List Loc} {ls : Array Slot} {i cells slots : Nat} (hR : Rel w v) (hWC : hd zC w H) (hWM : hd zM v H) (hS : va_S (lwA s) s.heap H locs) (hl : lv_has ls 8 (lwL b zC zM i)) (hi : i + 6 ≤ L) (hc : cells + 1 ≤ room_1.cells) (hs : slots + 6 ≤ room_1.slots) (kk : LK p l e s m args below meth c b zC zM Q i cells slots) : W p l e room_1 s m args below meth c H locs cells slots Q (F0 m 679 ls []) := by
  have C0 := C
  obtain ⟨⟨hx, hb, hml, hown, hts⟩, ⟨hX, hbl, hL⟩, hst, ⟨hIC, hIM, hKC, hKM⟩, hXK, hAC, hAM, hdis⟩ := C
  obtain ⟨r, w', v', e1, e2, hR'⟩ := step_11 hR (xs (i + 1)) (xs (i + 2))
  refine lv_aload_n hx hb dL_law_679 rfl (lv_at hl 1 rfl) ?_
  refine lw_ld C0 (k := 1) (by decide) (by decide) hi hS (lv_at hl 0 rfl) (lv_at hl 4 rfl) dL_law_680 dL_law_681 dL_law_683 dL_law_684 dL_law_685 ?_
  refine lw_ld C0 (k := 2) (by decide) (by decide) hi hS (lv_at hl 0 rfl) (lv_at hl 4 rfl) dL_law_686 dL_law_687 dL_law_689 dL_law_690 dL_law_691 ?_
  refine w_goW (v := (some (.int r))) (va_runV (As := [.int (xs (i + 1)), .int (xs (i + 2))]) (rest := []) ⟨hx, hb, hml, hown, hts⟩ (c_X10_turn l hIC (xs (i + 1)) (xs (i + 2)) w e1) (cwV 2 hts gL_law_X10_turn rfl rfl rfl (by decide +kernel) ⟨(Nat.le_of_ble_eq_true rfl), (Nat.le_of_ble_eq_true rfl)⟩) (lw_preC hIC hKC hWC _) rfl rfl hl.1 rfl (lv_room (Nat.le_of_ble_eq_true rfl)) dL_law_692 ⟨by show _ ≤ room_1.cells; omega, by show _ ≤ room_1.slots; omega⟩) hS hAC hWM (fun o o' ho ho' q => hdis o' o ho' ho q.symm) (fun H locs hWC hWM hS => ?_)
  refine lv_aload_n hx hb dL_law_695 rfl (lv_at hl 2 rfl) ?_
  refine lw_ld C0 (k := 1) (by decide) (by decide) hi hS (lv_at hl 0 rfl) (lv_at hl 4 rfl) dL_law_696 dL_law_697 dL_law_699 dL_law_700 dL_law_701 ?_
  refine lw_ld C0 (k := 2) (by decide) (by decide) hi hS (lv_at hl 0 rfl) (lv_at hl 4 rfl) dL_law_702 dL_law_703 dL_law_705 dL_law_706 dL_law_707 ?_
  refine w_goW (v := (some (.int r))) (va_runV (As := [.int (xs (i + 1)), .int (xs (i + 2))]) (rest := [.int r]) ⟨hx, hb, hml, hown, hts⟩ (c_X11_turn l hIM (xs (i + 1)) (xs (i + 2)) v e2) (cwV 2 hts gL_law_X11_turn rfl rfl rfl (by decide +kernel) ⟨(Nat.le_of_ble_eq_true rfl), (Nat.le_of_ble_eq_true rfl)⟩) (lw_preM hIM hKM hWM _) rfl rfl hl.1 rfl (lv_room (Nat.le_of_ble_eq_true rfl)) dL_law_708 ⟨by show _ ≤ room_1.cells; omega, by show _ ≤ room_1.slots; omega⟩) hS hAM hWC hdis (fun H locs hWM hWC hS => ?_)
  refine lv_icmp_eq (tgt := 2104) hx hb dL_law_711 (by decide) (fun _ => ?_) (fun z => absurd rfl z)
  exact W.widen (k := cells + 1) (n := slots + 6) (by omega) (by omega) (kk w' v' H locs ls hR' hWC hWM hS hl)
set_option maxHeartbeats 4000000 in
set_option maxRecDepth 100000 in
theorem cs_12 {p : Program} {l : Launch} {e : Env} {s : State} {m : MethodId} {args : Array Value} {below : List Frame} {meth : Method} {c : Code} {b L : Nat} {xs : Nat → Int32} {zC zM : LZ} {Q : State → Prop} (C : LX p l s m args c b L xs zC zM) {w v : Mem} {H : Heap} {locs : List Loc} {ls : Array Slot} {i cells slots : Nat} (hR : Rel w v) (hWC : hd zC w H) (hWM : hd zM v H) (hS : va_S (lwA s) s.heap H locs) (hl : lv_has ls 8 (lwL b zC zM i)) (hi : i + 6 ≤ L) (hc : cells + 1 ≤ room_1.cells) (hs : slots + 6 ≤ room_1.slots) (kk : LK p l e s m args below meth c b zC zM Q i cells slots) : W p l e room_1 s m args below meth c H locs cells slots Q (F0 m 716 ls []) := by
  have C0 := C
  obtain ⟨⟨hx, hb, hml, hown, hts⟩, ⟨hX, hbl, hL⟩, hst, ⟨hIC, hIM, hKC, hKM⟩, hXK, hAC, hAM, hdis⟩ := C
  obtain ⟨r, w', v', e1, e2, hR'⟩ := step_12 hR (xs (i + 1))
  refine lv_aload_n hx hb dL_law_716 rfl (lv_at hl 1 rfl) ?_
  refine lw_ld C0 (k := 1) (by decide) (by decide) hi hS (lv_at hl 0 rfl) (lv_at hl 4 rfl) dL_law_717 dL_law_718 dL_law_720 dL_law_721 dL_law_722 ?_
  refine w_goW (v := (some (.int r))) (va_runV (As := [.int (xs (i + 1))]) (rest := []) ⟨hx, hb, hml, hown, hts⟩ (c_X10_side l hIC (xs (i + 1)) w e1) (cwV 1 hts gL_law_X10_side rfl rfl rfl (by decide +kernel) ⟨(Nat.le_of_ble_eq_true rfl), (Nat.le_of_ble_eq_true rfl)⟩) (lw_preC hIC hKC hWC _) rfl rfl hl.1 rfl (lv_room (Nat.le_of_ble_eq_true rfl)) dL_law_723 ⟨by show _ ≤ room_1.cells; omega, by show _ ≤ room_1.slots; omega⟩) hS hAC hWM (fun o o' ho ho' q => hdis o' o ho' ho q.symm) (fun H locs hWC hWM hS => ?_)
  refine lv_aload_n hx hb dL_law_726 rfl (lv_at hl 2 rfl) ?_
  refine lw_ld C0 (k := 1) (by decide) (by decide) hi hS (lv_at hl 0 rfl) (lv_at hl 4 rfl) dL_law_727 dL_law_728 dL_law_730 dL_law_731 dL_law_732 ?_
  refine w_goW (v := (some (.int r))) (va_runV (As := [.int (xs (i + 1))]) (rest := [.int r]) ⟨hx, hb, hml, hown, hts⟩ (c_X11_side l hIM (xs (i + 1)) v e2) (cwV 1 hts gL_law_X11_side rfl rfl rfl (by decide +kernel) ⟨(Nat.le_of_ble_eq_true rfl), (Nat.le_of_ble_eq_true rfl)⟩) (lw_preM hIM hKM hWM _) rfl rfl hl.1 rfl (lv_room (Nat.le_of_ble_eq_true rfl)) dL_law_733 ⟨by show _ ≤ room_1.cells; omega, by show _ ≤ room_1.slots; omega⟩) hS hAM hWC hdis (fun H locs hWM hWC hS => ?_)
  refine lv_icmp_eq (tgt := 2104) hx hb dL_law_736 (by decide) (fun _ => ?_) (fun z => absurd rfl z)
  exact W.widen (k := cells + 1) (n := slots + 6) (by omega) (by omega) (kk w' v' H locs ls hR' hWC hWM hS hl)
set_option maxHeartbeats 4000000 in
set_option maxRecDepth 100000 in
theorem cs_13 {p : Program} {l : Launch} {e : Env} {s : State} {m : MethodId} {args : Array Value} {below : List Frame} {meth : Method} {c : Code} {b L : Nat} {xs : Nat → Int32} {zC zM : LZ} {Q : State → Prop} (C : LX p l s m args c b L xs zC zM) {w v : Mem} {H : Heap} {locs : List Loc} {ls : Array Slot} {i cells slots : Nat} (hR : Rel w v) (hWC : hd zC w H) (hWM : hd zM v H) (hS : va_S (lwA s) s.heap H locs) (hl : lv_has ls 8 (lwL b zC zM i)) (hi : i + 6 ≤ L) (hc : cells + 1 ≤ room_1.cells) (hs : slots + 6 ≤ room_1.slots) (kk : LK p l e s m args below meth c b zC zM Q i cells slots) : W p l e room_1 s m args below meth c H locs cells slots Q (F0 m 741 ls []) := by
  have C0 := C
  obtain ⟨⟨hx, hb, hml, hown, hts⟩, ⟨hX, hbl, hL⟩, hst, ⟨hIC, hIM, hKC, hKM⟩, hXK, hAC, hAM, hdis⟩ := C
  obtain ⟨r, w', v', e1, e2, hR'⟩ := step_13 hR 
  refine lv_aload_n hx hb dL_law_741 rfl (lv_at hl 1 rfl) ?_
  refine w_goW (v := (some (.int r))) (va_runV (As := []) (rest := []) ⟨hx, hb, hml, hown, hts⟩ (c_X10_sideless l hIC  w e1) (cwV 0 hts gL_law_X10_sideless rfl rfl rfl (by decide +kernel) ⟨(Nat.le_of_ble_eq_true rfl), (Nat.le_of_ble_eq_true rfl)⟩) (lw_preC hIC hKC hWC _) rfl rfl hl.1 rfl (lv_room (Nat.le_of_ble_eq_true rfl)) dL_law_742 ⟨by show _ ≤ room_1.cells; omega, by show _ ≤ room_1.slots; omega⟩) hS hAC hWM (fun o o' ho ho' q => hdis o' o ho' ho q.symm) (fun H locs hWC hWM hS => ?_)
  refine lv_aload_n hx hb dL_law_745 rfl (lv_at hl 2 rfl) ?_
  refine w_goW (v := (some (.int r))) (va_runV (As := []) (rest := [.int r]) ⟨hx, hb, hml, hown, hts⟩ (c_X11_sideless l hIM  v e2) (cwV 0 hts gL_law_X11_sideless rfl rfl rfl (by decide +kernel) ⟨(Nat.le_of_ble_eq_true rfl), (Nat.le_of_ble_eq_true rfl)⟩) (lw_preM hIM hKM hWM _) rfl rfl hl.1 rfl (lv_room (Nat.le_of_ble_eq_true rfl)) dL_law_746 ⟨by show _ ≤ room_1.cells; omega, by show _ ≤ room_1.slots; omega⟩) hS hAM hWC hdis (fun H locs hWM hWC hS => ?_)
  refine lv_icmp_eq (tgt := 2104) hx hb dL_law_749 (by decide) (fun _ => ?_) (fun z => absurd rfl z)
  exact W.widen (k := cells + 1) (n := slots + 6) (by omega) (by omega) (kk w' v' H locs ls hR' hWC hWM hS hl)
set_option maxHeartbeats 4000000 in
set_option maxRecDepth 100000 in
theorem cs_14 {p : Program} {l : Launch} {e : Env} {s : State} {m : MethodId} {args : Array Value} {below : List Frame} {meth : Method} {c : Code} {b L : Nat} {xs : Nat → Int32} {zC zM : LZ} {Q : State → Prop} (C : LX p l s m args c b L xs zC zM) {w v : Mem} {H : Heap} {locs : List Loc} {ls : Array Slot} {i cells slots : Nat} (hR : Rel w v) (hWC : hd zC w H) (hWM : hd zM v H) (hS : va_S (lwA s) s.heap H locs) (hl : lv_has ls 8 (lwL b zC zM i)) (hi : i + 6 ≤ L) (hc : cells + 1 ≤ room_1.cells) (hs : slots + 6 ≤ room_1.slots) (kk : LK p l e s m args below meth c b zC zM Q i cells slots) : W p l e room_1 s m args below meth c H locs cells slots Q (F0 m 754 ls []) := by
  have C0 := C
  obtain ⟨⟨hx, hb, hml, hown, hts⟩, ⟨hX, hbl, hL⟩, hst, ⟨hIC, hIM, hKC, hKM⟩, hXK, hAC, hAM, hdis⟩ := C
  obtain ⟨kx, w', bb, v', e1, e2, e3, e4, hR'⟩ := step_14 hR (xs (i + 1)) (xs (i + 2))
  refine lv_aload_n hx hb dL_law_754 rfl (lv_at hl 1 rfl) ?_
  refine lw_ld C0 (k := 1) (by decide) (by decide) hi hS (lv_at hl 0 rfl) (lv_at hl 4 rfl) dL_law_755 dL_law_756 dL_law_758 dL_law_759 dL_law_760 ?_
  refine lw_ld C0 (k := 2) (by decide) (by decide) hi hS (lv_at hl 0 rfl) (lv_at hl 4 rfl) dL_law_761 dL_law_762 dL_law_764 dL_law_765 dL_law_766 ?_
  refine lv_aload_n hx hb dL_law_767 rfl (lv_at hl 3 rfl) ?_
  refine w_goW (v := (some (.int kx))) (vx_runSW (As := [.ref (zC.2.1 66), .int (xs (i + 1)), .int (xs (i + 2)), .ref (zC.2.1 88)]) (rest := []) ⟨hx, hb, hml, hown, hts⟩ (c_L_hem l hst hIC (xs (i + 1)) (xs (i + 2)) w e1) (vx_cwSW 4 hts gL_law_L_hem rfl rfl rfl (by decide +kernel) ⟨(Nat.le_of_ble_eq_true rfl), (Nat.le_of_ble_eq_true rfl)⟩) (lw_preX C0 hS hWC _) rfl rfl hl.1 rfl (lv_room (Nat.le_of_ble_eq_true rfl)) dL_law_768 ⟨by show cells + 1 ≤ room_1.cells; omega, by show slots + 6 ≤ room_1.slots; omega⟩) hS hAC hWM (fun o o' ho ho' q => hdis o' o ho' ho q.symm) (fun H locs hWC hWM hS => ?_)
  refine lv_istore (lv' := (5, .int kx) :: lwL b zC zM i) hx hb dL_law_771 hl (by decide) rfl (fun ls hl => ?_)
  refine lv_aload_n hx hb dL_law_773 rfl (lv_at hl 3 rfl) ?_
  refine lw_ld C0 (k := 1) (by decide) (by decide) hi hS (lv_at hl 1 rfl) (lv_at hl 5 rfl) dL_law_774 dL_law_775 dL_law_777 dL_law_778 dL_law_779 ?_
  refine lw_ld C0 (k := 2) (by decide) (by decide) hi hS (lv_at hl 1 rfl) (lv_at hl 5 rfl) dL_law_780 dL_law_781 dL_law_783 dL_law_784 dL_law_785 ?_
  refine w_goW (v := (some (.int bb))) (va_runV (As := [.int (xs (i + 1)), .int (xs (i + 2))]) (rest := []) ⟨hx, hb, hml, hown, hts⟩ (c_X11_hem l hIM (xs (i + 1)) (xs (i + 2)) v e2) (cwV 2 hts gL_law_X11_hem rfl rfl rfl (by decide +kernel) ⟨(Nat.le_of_ble_eq_true rfl), (Nat.le_of_ble_eq_true rfl)⟩) (lw_preM hIM hKM hWM _) rfl rfl hl.1 rfl (lv_room (Nat.le_of_ble_eq_true rfl)) dL_law_786 ⟨by show _ ≤ room_1.cells; omega, by show _ ≤ room_1.slots; omega⟩) hS hAM hWC hdis (fun H locs hWM hWC hS => ?_)
  refine lv_istore (lv' := (6, .int bb) :: (5, .int kx) :: lwL b zC zM i) hx hb dL_law_789 hl (by decide) rfl (fun ls hl => ?_)
  refine lv_aload_n hx hb dL_law_791 rfl (lv_at hl 4 rfl) ?_
  refine m_goR (v := some (.int kx)) (va_runV (As := []) (rest := []) ⟨hx, hb, hml, hown, hts⟩ (c_X11_thrown l hIM v' e3) (cwV 0 hts gL_law_X11_thrown rfl rfl rfl (by decide +kernel) ⟨(Nat.le_of_ble_eq_true rfl), (Nat.le_of_ble_eq_true rfl)⟩) (lw_preM hIM hKM hWM _) rfl rfl hl.1 rfl (lv_room (Nat.le_of_ble_eq_true rfl)) dL_law_792 ⟨by show _ ≤ room_1.cells; omega, by show _ ≤ room_1.slots; omega⟩) ?_
  refine lv_iload hx hb dL_law_795 (lv_at hl 1 rfl) ?_
  refine lv_icmp_eq (tgt := 802) hx hb dL_law_797 (by decide) (fun _ => ?_) (fun z => absurd rfl z)
  refine lv_iload hx hb dL_law_802 (lv_at hl 1 rfl) ?_
  refine lv_if_ne (tgt := 819) hx hb dL_law_804 (by decide) (fun _ => ?_) (fun z => ?_)
  · refine lv_goto (tgt := 2104) hx hb dL_law_819 (by decide) ?_
    exact W.widen (k := cells + 1) (n := slots + 6) (by omega) (by omega) (kk w' v' H locs ls hR' hWC hWM hS (lv_sub hl [2, 3, 4, 5, 6] rfl))
  · have k0 : kx = 0 := z
    refine lv_aload_n hx hb dL_law_807 rfl (lv_at hl 5 rfl) ?_
    refine lv_iconst (v := 0) hx hb dL_law_808 (by decide) ?_
    refine lw_out hx hb hIC hKC hWC dL_law_809 ?_
    refine lv_iload hx hb dL_law_810 (lv_at hl 0 rfl) ?_
    refine lv_i2l (v := bb.toInt64) hx hb dL_law_812 rfl ?_
    refine W.lcmp hx hb dL_law_813 ?_
    rw [e4 k0, lw_cmp]
    refine lv_if_eq (tgt := 819) hx hb dL_law_814 (by decide) (fun _ => ?_) (fun z => absurd rfl z)
    refine lv_goto (tgt := 2104) hx hb dL_law_819 (by decide) ?_
    exact W.widen (k := cells + 1) (n := slots + 6) (by omega) (by omega) (kk w' v' H locs ls hR' hWC hWM hS (lv_sub hl [2, 3, 4, 5, 6] rfl))
set_option maxHeartbeats 4000000 in
set_option maxRecDepth 100000 in
theorem cs_15 {p : Program} {l : Launch} {e : Env} {s : State} {m : MethodId} {args : Array Value} {below : List Frame} {meth : Method} {c : Code} {b L : Nat} {xs : Nat → Int32} {zC zM : LZ} {Q : State → Prop} (C : LX p l s m args c b L xs zC zM) {w v : Mem} {H : Heap} {locs : List Loc} {ls : Array Slot} {i cells slots : Nat} (hR : Rel w v) (hWC : hd zC w H) (hWM : hd zM v H) (hS : va_S (lwA s) s.heap H locs) (hl : lv_has ls 8 (lwL b zC zM i)) (hi : i + 6 ≤ L) (hc : cells + 1 ≤ room_1.cells) (hs : slots + 6 ≤ room_1.slots) (kk : LK p l e s m args below meth c b zC zM Q i cells slots) : W p l e room_1 s m args below meth c H locs cells slots Q (F0 m 822 ls []) := by
  have C0 := C
  obtain ⟨⟨hx, hb, hml, hown, hts⟩, ⟨hX, hbl, hL⟩, hst, ⟨hIC, hIM, hKC, hKM⟩, hXK, hAC, hAM, hdis⟩ := C
  obtain ⟨kx, w', bb, v', e1, e2, e3, e4, hR'⟩ := step_15 hR (xs (i + 1)) (xs (i + 2))
  refine lv_aload_n hx hb dL_law_822 rfl (lv_at hl 1 rfl) ?_
  refine lw_ld C0 (k := 1) (by decide) (by decide) hi hS (lv_at hl 0 rfl) (lv_at hl 4 rfl) dL_law_823 dL_law_824 dL_law_826 dL_law_827 dL_law_828 ?_
  refine lw_ld C0 (k := 2) (by decide) (by decide) hi hS (lv_at hl 0 rfl) (lv_at hl 4 rfl) dL_law_829 dL_law_830 dL_law_832 dL_law_833 dL_law_834 ?_
  refine lv_aload_n hx hb dL_law_835 rfl (lv_at hl 3 rfl) ?_
  refine w_goW (v := (some (.int kx))) (vx_runSW (As := [.ref (zC.2.1 66), .int (xs (i + 1)), .int (xs (i + 2)), .ref (zC.2.1 88)]) (rest := []) ⟨hx, hb, hml, hown, hts⟩ (c_L_fed l hst hIC (xs (i + 1)) (xs (i + 2)) w e1) (vx_cwSW 4 hts gL_law_L_fed rfl rfl rfl (by decide +kernel) ⟨(Nat.le_of_ble_eq_true rfl), (Nat.le_of_ble_eq_true rfl)⟩) (lw_preX C0 hS hWC _) rfl rfl hl.1 rfl (lv_room (Nat.le_of_ble_eq_true rfl)) dL_law_836 ⟨by show cells + 1 ≤ room_1.cells; omega, by show slots + 6 ≤ room_1.slots; omega⟩) hS hAC hWM (fun o o' ho ho' q => hdis o' o ho' ho q.symm) (fun H locs hWC hWM hS => ?_)
  refine lv_istore (lv' := (5, .int kx) :: lwL b zC zM i) hx hb dL_law_839 hl (by decide) rfl (fun ls hl => ?_)
  refine lv_aload_n hx hb dL_law_841 rfl (lv_at hl 3 rfl) ?_
  refine lw_ld C0 (k := 1) (by decide) (by decide) hi hS (lv_at hl 1 rfl) (lv_at hl 5 rfl) dL_law_842 dL_law_843 dL_law_845 dL_law_846 dL_law_847 ?_
  refine lw_ld C0 (k := 2) (by decide) (by decide) hi hS (lv_at hl 1 rfl) (lv_at hl 5 rfl) dL_law_848 dL_law_849 dL_law_851 dL_law_852 dL_law_853 ?_
  refine w_goW (v := (some (.int bb))) (va_runV (As := [.int (xs (i + 1)), .int (xs (i + 2))]) (rest := []) ⟨hx, hb, hml, hown, hts⟩ (c_X11_fed l hIM (xs (i + 1)) (xs (i + 2)) v e2) (cwV 2 hts gL_law_X11_fed rfl rfl rfl (by decide +kernel) ⟨(Nat.le_of_ble_eq_true rfl), (Nat.le_of_ble_eq_true rfl)⟩) (lw_preM hIM hKM hWM _) rfl rfl hl.1 rfl (lv_room (Nat.le_of_ble_eq_true rfl)) dL_law_854 ⟨by show _ ≤ room_1.cells; omega, by show _ ≤ room_1.slots; omega⟩) hS hAM hWC hdis (fun H locs hWM hWC hS => ?_)
  refine lv_istore (lv' := (6, .int bb) :: (5, .int kx) :: lwL b zC zM i) hx hb dL_law_857 hl (by decide) rfl (fun ls hl => ?_)
  refine lv_aload_n hx hb dL_law_859 rfl (lv_at hl 4 rfl) ?_
  refine m_goR (v := some (.int kx)) (va_runV (As := []) (rest := []) ⟨hx, hb, hml, hown, hts⟩ (c_X11_thrown l hIM v' e3) (cwV 0 hts gL_law_X11_thrown rfl rfl rfl (by decide +kernel) ⟨(Nat.le_of_ble_eq_true rfl), (Nat.le_of_ble_eq_true rfl)⟩) (lw_preM hIM hKM hWM _) rfl rfl hl.1 rfl (lv_room (Nat.le_of_ble_eq_true rfl)) dL_law_860 ⟨by show _ ≤ room_1.cells; omega, by show _ ≤ room_1.slots; omega⟩) ?_
  refine lv_iload hx hb dL_law_863 (lv_at hl 1 rfl) ?_
  refine lv_icmp_eq (tgt := 870) hx hb dL_law_865 (by decide) (fun _ => ?_) (fun z => absurd rfl z)
  refine lv_iload hx hb dL_law_870 (lv_at hl 1 rfl) ?_
  refine lv_if_ne (tgt := 887) hx hb dL_law_872 (by decide) (fun _ => ?_) (fun z => ?_)
  · refine lv_goto (tgt := 2104) hx hb dL_law_887 (by decide) ?_
    exact W.widen (k := cells + 1) (n := slots + 6) (by omega) (by omega) (kk w' v' H locs ls hR' hWC hWM hS (lv_sub hl [2, 3, 4, 5, 6] rfl))
  · have k0 : kx = 0 := z
    refine lv_aload_n hx hb dL_law_875 rfl (lv_at hl 5 rfl) ?_
    refine lv_iconst (v := 0) hx hb dL_law_876 (by decide) ?_
    refine lw_out hx hb hIC hKC hWC dL_law_877 ?_
    refine lv_iload hx hb dL_law_878 (lv_at hl 0 rfl) ?_
    refine lv_i2l (v := bb.toInt64) hx hb dL_law_880 rfl ?_
    refine W.lcmp hx hb dL_law_881 ?_
    rw [e4 k0, lw_cmp]
    refine lv_if_eq (tgt := 887) hx hb dL_law_882 (by decide) (fun _ => ?_) (fun z => absurd rfl z)
    refine lv_goto (tgt := 2104) hx hb dL_law_887 (by decide) ?_
    exact W.widen (k := cells + 1) (n := slots + 6) (by omega) (by omega) (kk w' v' H locs ls hR' hWC hWM hS (lv_sub hl [2, 3, 4, 5, 6] rfl))
set_option maxHeartbeats 4000000 in
set_option maxRecDepth 100000 in
theorem cs_16 {p : Program} {l : Launch} {e : Env} {s : State} {m : MethodId} {args : Array Value} {below : List Frame} {meth : Method} {c : Code} {b L : Nat} {xs : Nat → Int32} {zC zM : LZ} {Q : State → Prop} (C : LX p l s m args c b L xs zC zM) {w v : Mem} {H : Heap} {locs : List Loc} {ls : Array Slot} {i cells slots : Nat} (hR : Rel w v) (hWC : hd zC w H) (hWM : hd zM v H) (hS : va_S (lwA s) s.heap H locs) (hl : lv_has ls 8 (lwL b zC zM i)) (hi : i + 6 ≤ L) (hc : cells + 1 ≤ room_1.cells) (hs : slots + 6 ≤ room_1.slots) (kk : LK p l e s m args below meth c b zC zM Q i cells slots) : W p l e room_1 s m args below meth c H locs cells slots Q (F0 m 890 ls []) := by
  have C0 := C
  obtain ⟨⟨hx, hb, hml, hown, hts⟩, ⟨hX, hbl, hL⟩, hst, ⟨hIC, hIM, hKC, hKM⟩, hXK, hAC, hAM, hdis⟩ := C
  obtain ⟨r, w', e1, e2, hR'⟩ := step_16 hR
  refine lv_aload_n hx hb dL_law_890 rfl (lv_at hl 1 rfl) ?_
  refine w_goW (v := (some (.int r))) (va_runV (As := []) (rest := []) ⟨hx, hb, hml, hown, hts⟩ (c_X10_meets l hIC  w e1) (cwV 0 hts gL_law_X10_meets rfl rfl rfl (by decide +kernel) ⟨(Nat.le_of_ble_eq_true rfl), (Nat.le_of_ble_eq_true rfl)⟩) (lw_preC hIC hKC hWC _) rfl rfl hl.1 rfl (lv_room (Nat.le_of_ble_eq_true rfl)) dL_law_891 ⟨by show _ ≤ room_1.cells; omega, by show _ ≤ room_1.slots; omega⟩) hS hAC hWM (fun o o' ho ho' q => hdis o' o ho' ho q.symm) (fun H locs hWC hWM hS => ?_)
  refine lv_aload_n hx hb dL_law_894 rfl (lv_at hl 2 rfl) ?_
  refine m_goR (v := (some (.int r))) (va_runV (As := []) (rest := [.int r]) ⟨hx, hb, hml, hown, hts⟩ (c_X11_meets l hIM  v e2) (cwV 0 hts gL_law_X11_meets rfl rfl rfl (by decide +kernel) ⟨(Nat.le_of_ble_eq_true rfl), (Nat.le_of_ble_eq_true rfl)⟩) (lw_preM hIM hKM hWM _) rfl rfl hl.1 rfl (lv_room (Nat.le_of_ble_eq_true rfl)) dL_law_895 ⟨by show _ ≤ room_1.cells; omega, by show _ ≤ room_1.slots; omega⟩) ?_
  refine lv_icmp_eq (tgt := 2104) hx hb dL_law_898 (by decide) (fun _ => ?_) (fun z => absurd rfl z)
  exact W.widen (k := cells + 1) (n := slots + 6) (by omega) (by omega) (kk w' v H locs ls hR' hWC hWM hS hl)
set_option maxHeartbeats 4000000 in
set_option maxRecDepth 100000 in
theorem cs_17 {p : Program} {l : Launch} {e : Env} {s : State} {m : MethodId} {args : Array Value} {below : List Frame} {meth : Method} {c : Code} {b L : Nat} {xs : Nat → Int32} {zC zM : LZ} {Q : State → Prop} (C : LX p l s m args c b L xs zC zM) {w v : Mem} {H : Heap} {locs : List Loc} {ls : Array Slot} {i cells slots : Nat} (hR : Rel w v) (hWC : hd zC w H) (hWM : hd zM v H) (hS : va_S (lwA s) s.heap H locs) (hl : lv_has ls 8 (lwL b zC zM i)) (hi : i + 6 ≤ L) (hc : cells + 1 ≤ room_1.cells) (hs : slots + 6 ≤ room_1.slots) (kk : LK p l e s m args below meth c b zC zM Q i cells slots) : W p l e room_1 s m args below meth c H locs cells slots Q (F0 m 903 ls []) := by
  have C0 := C
  obtain ⟨⟨hx, hb, hml, hown, hts⟩, ⟨hX, hbl, hL⟩, hst, ⟨hIC, hIM, hKC, hKM⟩, hXK, hAC, hAM, hdis⟩ := C
  obtain ⟨r, w', v', e1, e2, hR'⟩ := step_17 hR (xs (i + 1)) (xs (i + 2))
  refine lv_aload_n hx hb dL_law_903 rfl (lv_at hl 1 rfl) ?_
  refine lw_ld C0 (k := 1) (by decide) (by decide) hi hS (lv_at hl 0 rfl) (lv_at hl 4 rfl) dL_law_904 dL_law_905 dL_law_907 dL_law_908 dL_law_909 ?_
  refine lw_ld C0 (k := 2) (by decide) (by decide) hi hS (lv_at hl 0 rfl) (lv_at hl 4 rfl) dL_law_910 dL_law_911 dL_law_913 dL_law_914 dL_law_915 ?_
  refine w_goW (v := (some (.int r))) (va_runV (As := [.int (xs (i + 1)), .int (xs (i + 2))]) (rest := []) ⟨hx, hb, hml, hown, hts⟩ (c_X10_feeds l hIC (xs (i + 1)) (xs (i + 2)) w e1) (cwV 2 hts gL_law_X10_feeds rfl rfl rfl (by decide +kernel) ⟨(Nat.le_of_ble_eq_true rfl), (Nat.le_of_ble_eq_true rfl)⟩) (lw_preC hIC hKC hWC _) rfl rfl hl.1 rfl (lv_room (Nat.le_of_ble_eq_true rfl)) dL_law_916 ⟨by show _ ≤ room_1.cells; omega, by show _ ≤ room_1.slots; omega⟩) hS hAC hWM (fun o o' ho ho' q => hdis o' o ho' ho q.symm) (fun H locs hWC hWM hS => ?_)
  refine lv_aload_n hx hb dL_law_919 rfl (lv_at hl 2 rfl) ?_
  refine lw_ld C0 (k := 1) (by decide) (by decide) hi hS (lv_at hl 0 rfl) (lv_at hl 4 rfl) dL_law_920 dL_law_921 dL_law_923 dL_law_924 dL_law_925 ?_
  refine lw_ld C0 (k := 2) (by decide) (by decide) hi hS (lv_at hl 0 rfl) (lv_at hl 4 rfl) dL_law_926 dL_law_927 dL_law_929 dL_law_930 dL_law_931 ?_
  refine w_goW (v := (some (.int r))) (va_runV (As := [.int (xs (i + 1)), .int (xs (i + 2))]) (rest := [.int r]) ⟨hx, hb, hml, hown, hts⟩ (c_X11_feeds l hIM (xs (i + 1)) (xs (i + 2)) v e2) (cwV 2 hts gL_law_X11_feeds rfl rfl rfl (by decide +kernel) ⟨(Nat.le_of_ble_eq_true rfl), (Nat.le_of_ble_eq_true rfl)⟩) (lw_preM hIM hKM hWM _) rfl rfl hl.1 rfl (lv_room (Nat.le_of_ble_eq_true rfl)) dL_law_932 ⟨by show _ ≤ room_1.cells; omega, by show _ ≤ room_1.slots; omega⟩) hS hAM hWC hdis (fun H locs hWM hWC hS => ?_)
  refine lv_icmp_eq (tgt := 2104) hx hb dL_law_935 (by decide) (fun _ => ?_) (fun z => absurd rfl z)
  exact W.widen (k := cells + 1) (n := slots + 6) (by omega) (by omega) (kk w' v' H locs ls hR' hWC hWM hS hl)
set_option maxHeartbeats 4000000 in
set_option maxRecDepth 100000 in
theorem cs_18 {p : Program} {l : Launch} {e : Env} {s : State} {m : MethodId} {args : Array Value} {below : List Frame} {meth : Method} {c : Code} {b L : Nat} {xs : Nat → Int32} {zC zM : LZ} {Q : State → Prop} (C : LX p l s m args c b L xs zC zM) {w v : Mem} {H : Heap} {locs : List Loc} {ls : Array Slot} {i cells slots : Nat} (hR : Rel w v) (hWC : hd zC w H) (hWM : hd zM v H) (hS : va_S (lwA s) s.heap H locs) (hl : lv_has ls 8 (lwL b zC zM i)) (hi : i + 6 ≤ L) (hc : cells + 1 ≤ room_1.cells) (hs : slots + 6 ≤ room_1.slots) (kk : LK p l e s m args below meth c b zC zM Q i cells slots) : W p l e room_1 s m args below meth c H locs cells slots Q (F0 m 940 ls []) := by
  have C0 := C
  obtain ⟨⟨hx, hb, hml, hown, hts⟩, ⟨hX, hbl, hL⟩, hst, ⟨hIC, hIM, hKC, hKM⟩, hXK, hAC, hAM, hdis⟩ := C
  obtain ⟨r, w', v', e1, e2, hR'⟩ := step_18 hR (xs (i + 1)) (xs (i + 2))
  refine lv_aload_n hx hb dL_law_940 rfl (lv_at hl 1 rfl) ?_
  refine lw_ld C0 (k := 1) (by decide) (by decide) hi hS (lv_at hl 0 rfl) (lv_at hl 4 rfl) dL_law_941 dL_law_942 dL_law_944 dL_law_945 dL_law_946 ?_
  refine lw_ld C0 (k := 2) (by decide) (by decide) hi hS (lv_at hl 0 rfl) (lv_at hl 4 rfl) dL_law_947 dL_law_948 dL_law_950 dL_law_951 dL_law_952 ?_
  refine w_goW (v := (some (.int r))) (va_runV (As := [.int (xs (i + 1)), .int (xs (i + 2))]) (rest := []) ⟨hx, hb, hml, hown, hts⟩ (c_X10_judge l hIC (xs (i + 1)) (xs (i + 2)) w e1) (cwV 2 hts gL_law_X10_judge rfl rfl rfl (by decide +kernel) ⟨(Nat.le_of_ble_eq_true rfl), (Nat.le_of_ble_eq_true rfl)⟩) (lw_preC hIC hKC hWC _) rfl rfl hl.1 rfl (lv_room (Nat.le_of_ble_eq_true rfl)) dL_law_953 ⟨by show _ ≤ room_1.cells; omega, by show _ ≤ room_1.slots; omega⟩) hS hAC hWM (fun o o' ho ho' q => hdis o' o ho' ho q.symm) (fun H locs hWC hWM hS => ?_)
  refine lv_aload_n hx hb dL_law_956 rfl (lv_at hl 2 rfl) ?_
  refine lw_ld C0 (k := 1) (by decide) (by decide) hi hS (lv_at hl 0 rfl) (lv_at hl 4 rfl) dL_law_957 dL_law_958 dL_law_960 dL_law_961 dL_law_962 ?_
  refine lw_ld C0 (k := 2) (by decide) (by decide) hi hS (lv_at hl 0 rfl) (lv_at hl 4 rfl) dL_law_963 dL_law_964 dL_law_966 dL_law_967 dL_law_968 ?_
  refine w_goW (v := (some (.int r))) (va_runV (As := [.int (xs (i + 1)), .int (xs (i + 2))]) (rest := [.int r]) ⟨hx, hb, hml, hown, hts⟩ (c_X11_judge l hIM (xs (i + 1)) (xs (i + 2)) v e2) (cwV 2 hts gL_law_X11_judge rfl rfl rfl (by decide +kernel) ⟨(Nat.le_of_ble_eq_true rfl), (Nat.le_of_ble_eq_true rfl)⟩) (lw_preM hIM hKM hWM _) rfl rfl hl.1 rfl (lv_room (Nat.le_of_ble_eq_true rfl)) dL_law_969 ⟨by show _ ≤ room_1.cells; omega, by show _ ≤ room_1.slots; omega⟩) hS hAM hWC hdis (fun H locs hWM hWC hS => ?_)
  refine lv_icmp_eq (tgt := 2104) hx hb dL_law_972 (by decide) (fun _ => ?_) (fun z => absurd rfl z)
  exact W.widen (k := cells + 1) (n := slots + 6) (by omega) (by omega) (kk w' v' H locs ls hR' hWC hWM hS hl)
set_option maxHeartbeats 4000000 in
set_option maxRecDepth 100000 in
theorem cs_19 {p : Program} {l : Launch} {e : Env} {s : State} {m : MethodId} {args : Array Value} {below : List Frame} {meth : Method} {c : Code} {b L : Nat} {xs : Nat → Int32} {zC zM : LZ} {Q : State → Prop} (C : LX p l s m args c b L xs zC zM) {w v : Mem} {H : Heap} {locs : List Loc} {ls : Array Slot} {i cells slots : Nat} (hR : Rel w v) (hWC : hd zC w H) (hWM : hd zM v H) (hS : va_S (lwA s) s.heap H locs) (hl : lv_has ls 8 (lwL b zC zM i)) (hi : i + 6 ≤ L) (hc : cells + 1 ≤ room_1.cells) (hs : slots + 6 ≤ room_1.slots) (kk : LK p l e s m args below meth c b zC zM Q i cells slots) : W p l e room_1 s m args below meth c H locs cells slots Q (F0 m 977 ls []) := by
  have C0 := C
  obtain ⟨⟨hx, hb, hml, hown, hts⟩, ⟨hX, hbl, hL⟩, hst, ⟨hIC, hIM, hKC, hKM⟩, hXK, hAC, hAM, hdis⟩ := C
  obtain ⟨r, w', v', e1, e2, hR'⟩ := step_19 hR (xs (i + 1)) (xs (i + 2))
  refine lv_aload_n hx hb dL_law_977 rfl (lv_at hl 1 rfl) ?_
  refine lw_ld C0 (k := 1) (by decide) (by decide) hi hS (lv_at hl 0 rfl) (lv_at hl 4 rfl) dL_law_978 dL_law_979 dL_law_981 dL_law_982 dL_law_983 ?_
  refine lw_ld C0 (k := 2) (by decide) (by decide) hi hS (lv_at hl 0 rfl) (lv_at hl 4 rfl) dL_law_984 dL_law_985 dL_law_987 dL_law_988 dL_law_989 ?_
  refine w_goW (v := (some (.int r))) (va_runV (As := [.int (xs (i + 1)), .int (xs (i + 2))]) (rest := []) ⟨hx, hb, hml, hown, hts⟩ (c_X10_cloth l hIC (xs (i + 1)) (xs (i + 2)) w e1) (cwV 2 hts gL_law_X10_cloth rfl rfl rfl (by decide +kernel) ⟨(Nat.le_of_ble_eq_true rfl), (Nat.le_of_ble_eq_true rfl)⟩) (lw_preC hIC hKC hWC _) rfl rfl hl.1 rfl (lv_room (Nat.le_of_ble_eq_true rfl)) dL_law_990 ⟨by show _ ≤ room_1.cells; omega, by show _ ≤ room_1.slots; omega⟩) hS hAC hWM (fun o o' ho ho' q => hdis o' o ho' ho q.symm) (fun H locs hWC hWM hS => ?_)
  refine lv_aload_n hx hb dL_law_993 rfl (lv_at hl 2 rfl) ?_
  refine lw_ld C0 (k := 1) (by decide) (by decide) hi hS (lv_at hl 0 rfl) (lv_at hl 4 rfl) dL_law_994 dL_law_995 dL_law_997 dL_law_998 dL_law_999 ?_
  refine lw_ld C0 (k := 2) (by decide) (by decide) hi hS (lv_at hl 0 rfl) (lv_at hl 4 rfl) dL_law_1000 dL_law_1001 dL_law_1003 dL_law_1004 dL_law_1005 ?_
  refine w_goW (v := (some (.int r))) (va_runV (As := [.int (xs (i + 1)), .int (xs (i + 2))]) (rest := [.int r]) ⟨hx, hb, hml, hown, hts⟩ (c_X11_cloth l hIM (xs (i + 1)) (xs (i + 2)) v e2) (cwV 2 hts gL_law_X11_cloth rfl rfl rfl (by decide +kernel) ⟨(Nat.le_of_ble_eq_true rfl), (Nat.le_of_ble_eq_true rfl)⟩) (lw_preM hIM hKM hWM _) rfl rfl hl.1 rfl (lv_room (Nat.le_of_ble_eq_true rfl)) dL_law_1006 ⟨by show _ ≤ room_1.cells; omega, by show _ ≤ room_1.slots; omega⟩) hS hAM hWC hdis (fun H locs hWM hWC hS => ?_)
  refine lv_icmp_eq (tgt := 2104) hx hb dL_law_1009 (by decide) (fun _ => ?_) (fun z => absurd rfl z)
  exact W.widen (k := cells + 1) (n := slots + 6) (by omega) (by omega) (kk w' v' H locs ls hR' hWC hWM hS hl)
set_option maxHeartbeats 4000000 in
set_option maxRecDepth 100000 in
theorem cs_20 {p : Program} {l : Launch} {e : Env} {s : State} {m : MethodId} {args : Array Value} {below : List Frame} {meth : Method} {c : Code} {b L : Nat} {xs : Nat → Int32} {zC zM : LZ} {Q : State → Prop} (C : LX p l s m args c b L xs zC zM) {w v : Mem} {H : Heap} {locs : List Loc} {ls : Array Slot} {i cells slots : Nat} (hR : Rel w v) (hWC : hd zC w H) (hWM : hd zM v H) (hS : va_S (lwA s) s.heap H locs) (hl : lv_has ls 8 (lwL b zC zM i)) (hi : i + 6 ≤ L) (hc : cells + 1 ≤ room_1.cells) (hs : slots + 6 ≤ room_1.slots) (kk : LK p l e s m args below meth c b zC zM Q i cells slots) : W p l e room_1 s m args below meth c H locs cells slots Q (F0 m 1014 ls []) := by
  have C0 := C
  obtain ⟨⟨hx, hb, hml, hown, hts⟩, ⟨hX, hbl, hL⟩, hst, ⟨hIC, hIM, hKC, hKM⟩, hXK, hAC, hAM, hdis⟩ := C
  obtain ⟨r, w', v', e1, e2, hR'⟩ := step_20 hR (xs (i + 1)) (xs (i + 2))
  refine lv_aload_n hx hb dL_law_1014 rfl (lv_at hl 1 rfl) ?_
  refine lw_ld C0 (k := 1) (by decide) (by decide) hi hS (lv_at hl 0 rfl) (lv_at hl 4 rfl) dL_law_1015 dL_law_1016 dL_law_1018 dL_law_1019 dL_law_1020 ?_
  refine lw_ld C0 (k := 2) (by decide) (by decide) hi hS (lv_at hl 0 rfl) (lv_at hl 4 rfl) dL_law_1021 dL_law_1022 dL_law_1024 dL_law_1025 dL_law_1026 ?_
  refine w_goW (v := (some (.int r))) (va_runV (As := [.int (xs (i + 1)), .int (xs (i + 2))]) (rest := []) ⟨hx, hb, hml, hown, hts⟩ (c_X10_tensions l hIC (xs (i + 1)) (xs (i + 2)) w e1) (cwV 2 hts gL_law_X10_tensions rfl rfl rfl (by decide +kernel) ⟨(Nat.le_of_ble_eq_true rfl), (Nat.le_of_ble_eq_true rfl)⟩) (lw_preC hIC hKC hWC _) rfl rfl hl.1 rfl (lv_room (Nat.le_of_ble_eq_true rfl)) dL_law_1027 ⟨by show _ ≤ room_1.cells; omega, by show _ ≤ room_1.slots; omega⟩) hS hAC hWM (fun o o' ho ho' q => hdis o' o ho' ho q.symm) (fun H locs hWC hWM hS => ?_)
  refine lv_aload_n hx hb dL_law_1030 rfl (lv_at hl 2 rfl) ?_
  refine lw_ld C0 (k := 1) (by decide) (by decide) hi hS (lv_at hl 0 rfl) (lv_at hl 4 rfl) dL_law_1031 dL_law_1032 dL_law_1034 dL_law_1035 dL_law_1036 ?_
  refine lw_ld C0 (k := 2) (by decide) (by decide) hi hS (lv_at hl 0 rfl) (lv_at hl 4 rfl) dL_law_1037 dL_law_1038 dL_law_1040 dL_law_1041 dL_law_1042 ?_
  refine w_goW (v := (some (.int r))) (va_runV (As := [.int (xs (i + 1)), .int (xs (i + 2))]) (rest := [.int r]) ⟨hx, hb, hml, hown, hts⟩ (c_X11_tensions l hIM (xs (i + 1)) (xs (i + 2)) v e2) (cwV 2 hts gL_law_X11_tensions rfl rfl rfl (by decide +kernel) ⟨(Nat.le_of_ble_eq_true rfl), (Nat.le_of_ble_eq_true rfl)⟩) (lw_preM hIM hKM hWM _) rfl rfl hl.1 rfl (lv_room (Nat.le_of_ble_eq_true rfl)) dL_law_1043 ⟨by show _ ≤ room_1.cells; omega, by show _ ≤ room_1.slots; omega⟩) hS hAM hWC hdis (fun H locs hWM hWC hS => ?_)
  refine lv_icmp_eq (tgt := 2104) hx hb dL_law_1046 (by decide) (fun _ => ?_) (fun z => absurd rfl z)
  exact W.widen (k := cells + 1) (n := slots + 6) (by omega) (by omega) (kk w' v' H locs ls hR' hWC hWM hS hl)
set_option maxHeartbeats 4000000 in
set_option maxRecDepth 100000 in
theorem cs_21 {p : Program} {l : Launch} {e : Env} {s : State} {m : MethodId} {args : Array Value} {below : List Frame} {meth : Method} {c : Code} {b L : Nat} {xs : Nat → Int32} {zC zM : LZ} {Q : State → Prop} (C : LX p l s m args c b L xs zC zM) {w v : Mem} {H : Heap} {locs : List Loc} {ls : Array Slot} {i cells slots : Nat} (hR : Rel w v) (hWC : hd zC w H) (hWM : hd zM v H) (hS : va_S (lwA s) s.heap H locs) (hl : lv_has ls 8 (lwL b zC zM i)) (hi : i + 6 ≤ L) (hc : cells + 1 ≤ room_1.cells) (hs : slots + 6 ≤ room_1.slots) (kk : LK p l e s m args below meth c b zC zM Q i cells slots) : W p l e room_1 s m args below meth c H locs cells slots Q (F0 m 1051 ls []) := by
  have C0 := C
  obtain ⟨⟨hx, hb, hml, hown, hts⟩, ⟨hX, hbl, hL⟩, hst, ⟨hIC, hIM, hKC, hKM⟩, hXK, hAC, hAM, hdis⟩ := C
  obtain ⟨r, e1, e2⟩ := step_21 hR 
  refine lv_aload_n hx hb dL_law_1051 rfl (lv_at hl 1 rfl) ?_
  refine m_goR (v := (some (.int r))) (va_runV (As := []) (rest := []) ⟨hx, hb, hml, hown, hts⟩ (c_X10_lock l hIC  w e1) (cwV 0 hts gL_law_X10_lock rfl rfl rfl (by decide +kernel) ⟨(Nat.le_of_ble_eq_true rfl), (Nat.le_of_ble_eq_true rfl)⟩) (lw_preC hIC hKC hWC _) rfl rfl hl.1 rfl (lv_room (Nat.le_of_ble_eq_true rfl)) dL_law_1052 ⟨by show _ ≤ room_1.cells; omega, by show _ ≤ room_1.slots; omega⟩) ?_
  refine lv_aload_n hx hb dL_law_1055 rfl (lv_at hl 2 rfl) ?_
  refine m_goR (v := (some (.int r))) (va_runV (As := []) (rest := [.int r]) ⟨hx, hb, hml, hown, hts⟩ (c_X11_lock l hIM  v e2) (cwV 0 hts gL_law_X11_lock rfl rfl rfl (by decide +kernel) ⟨(Nat.le_of_ble_eq_true rfl), (Nat.le_of_ble_eq_true rfl)⟩) (lw_preM hIM hKM hWM _) rfl rfl hl.1 rfl (lv_room (Nat.le_of_ble_eq_true rfl)) dL_law_1056 ⟨by show _ ≤ room_1.cells; omega, by show _ ≤ room_1.slots; omega⟩) ?_
  refine lv_icmp_eq (tgt := 2104) hx hb dL_law_1059 (by decide) (fun _ => ?_) (fun z => absurd rfl z)
  exact W.widen (k := cells + 1) (n := slots + 6) (by omega) (by omega) (kk w v H locs ls hR hWC hWM hS hl)
set_option maxHeartbeats 4000000 in
set_option maxRecDepth 100000 in
theorem cs_22 {p : Program} {l : Launch} {e : Env} {s : State} {m : MethodId} {args : Array Value} {below : List Frame} {meth : Method} {c : Code} {b L : Nat} {xs : Nat → Int32} {zC zM : LZ} {Q : State → Prop} (C : LX p l s m args c b L xs zC zM) {w v : Mem} {H : Heap} {locs : List Loc} {ls : Array Slot} {i cells slots : Nat} (hR : Rel w v) (hWC : hd zC w H) (hWM : hd zM v H) (hS : va_S (lwA s) s.heap H locs) (hl : lv_has ls 8 (lwL b zC zM i)) (hi : i + 6 ≤ L) (hc : cells + 1 ≤ room_1.cells) (hs : slots + 6 ≤ room_1.slots) (kk : LK p l e s m args below meth c b zC zM Q i cells slots) : W p l e room_1 s m args below meth c H locs cells slots Q (F0 m 1064 ls []) := by
  have C0 := C
  obtain ⟨⟨hx, hb, hml, hown, hts⟩, ⟨hX, hbl, hL⟩, hst, ⟨hIC, hIM, hKC, hKM⟩, hXK, hAC, hAM, hdis⟩ := C
  obtain ⟨r, e1, e2⟩ := step_22 hR (xs (i + 1))
  refine lv_aload_n hx hb dL_law_1064 rfl (lv_at hl 1 rfl) ?_
  refine lw_ld C0 (k := 1) (by decide) (by decide) hi hS (lv_at hl 0 rfl) (lv_at hl 4 rfl) dL_law_1065 dL_law_1066 dL_law_1068 dL_law_1069 dL_law_1070 ?_
  refine m_goR (v := (some (.int r))) (va_runV (As := [.int (xs (i + 1))]) (rest := []) ⟨hx, hb, hml, hown, hts⟩ (c_X10_tune l hIC (xs (i + 1)) w e1) (cwV 1 hts gL_law_X10_tune rfl rfl rfl (by decide +kernel) ⟨(Nat.le_of_ble_eq_true rfl), (Nat.le_of_ble_eq_true rfl)⟩) (lw_preC hIC hKC hWC _) rfl rfl hl.1 rfl (lv_room (Nat.le_of_ble_eq_true rfl)) dL_law_1071 ⟨by show _ ≤ room_1.cells; omega, by show _ ≤ room_1.slots; omega⟩) ?_
  refine lv_aload_n hx hb dL_law_1074 rfl (lv_at hl 2 rfl) ?_
  refine lw_ld C0 (k := 1) (by decide) (by decide) hi hS (lv_at hl 0 rfl) (lv_at hl 4 rfl) dL_law_1075 dL_law_1076 dL_law_1078 dL_law_1079 dL_law_1080 ?_
  refine m_goR (v := (some (.int r))) (va_runV (As := [.int (xs (i + 1))]) (rest := [.int r]) ⟨hx, hb, hml, hown, hts⟩ (c_X11_tune l hIM (xs (i + 1)) v e2) (cwV 1 hts gL_law_X11_tune rfl rfl rfl (by decide +kernel) ⟨(Nat.le_of_ble_eq_true rfl), (Nat.le_of_ble_eq_true rfl)⟩) (lw_preM hIM hKM hWM _) rfl rfl hl.1 rfl (lv_room (Nat.le_of_ble_eq_true rfl)) dL_law_1081 ⟨by show _ ≤ room_1.cells; omega, by show _ ≤ room_1.slots; omega⟩) ?_
  refine lv_icmp_eq (tgt := 2104) hx hb dL_law_1084 (by decide) (fun _ => ?_) (fun z => absurd rfl z)
  exact W.widen (k := cells + 1) (n := slots + 6) (by omega) (by omega) (kk w v H locs ls hR hWC hWM hS hl)
set_option maxHeartbeats 4000000 in
set_option maxRecDepth 100000 in
theorem cs_23 {p : Program} {l : Launch} {e : Env} {s : State} {m : MethodId} {args : Array Value} {below : List Frame} {meth : Method} {c : Code} {b L : Nat} {xs : Nat → Int32} {zC zM : LZ} {Q : State → Prop} (C : LX p l s m args c b L xs zC zM) {w v : Mem} {H : Heap} {locs : List Loc} {ls : Array Slot} {i cells slots : Nat} (hR : Rel w v) (hWC : hd zC w H) (hWM : hd zM v H) (hS : va_S (lwA s) s.heap H locs) (hl : lv_has ls 8 (lwL b zC zM i)) (hi : i + 6 ≤ L) (hc : cells + 1 ≤ room_1.cells) (hs : slots + 6 ≤ room_1.slots) (kk : LK p l e s m args below meth c b zC zM Q i cells slots) : W p l e room_1 s m args below meth c H locs cells slots Q (F0 m 1089 ls []) := by
  have C0 := C
  obtain ⟨⟨hx, hb, hml, hown, hts⟩, ⟨hX, hbl, hL⟩, hst, ⟨hIC, hIM, hKC, hKM⟩, hXK, hAC, hAM, hdis⟩ := C
  obtain ⟨r, w', v', e1, e2, hR'⟩ := step_23 hR (xs (i + 1)) (xs (i + 2))
  refine lv_aload_n hx hb dL_law_1089 rfl (lv_at hl 1 rfl) ?_
  refine lw_ld C0 (k := 1) (by decide) (by decide) hi hS (lv_at hl 0 rfl) (lv_at hl 4 rfl) dL_law_1090 dL_law_1091 dL_law_1093 dL_law_1094 dL_law_1095 ?_
  refine lw_ld C0 (k := 2) (by decide) (by decide) hi hS (lv_at hl 0 rfl) (lv_at hl 4 rfl) dL_law_1096 dL_law_1097 dL_law_1099 dL_law_1100 dL_law_1101 ?_
  refine w_goW (v := (some (.int r))) (va_runV (As := [.int (xs (i + 1)), .int (xs (i + 2))]) (rest := []) ⟨hx, hb, hml, hown, hts⟩ (c_X10_wind l hIC (xs (i + 1)) (xs (i + 2)) w e1) (cwV 2 hts gL_law_X10_wind rfl rfl rfl (by decide +kernel) ⟨(Nat.le_of_ble_eq_true rfl), (Nat.le_of_ble_eq_true rfl)⟩) (lw_preC hIC hKC hWC _) rfl rfl hl.1 rfl (lv_room (Nat.le_of_ble_eq_true rfl)) dL_law_1102 ⟨by show _ ≤ room_1.cells; omega, by show _ ≤ room_1.slots; omega⟩) hS hAC hWM (fun o o' ho ho' q => hdis o' o ho' ho q.symm) (fun H locs hWC hWM hS => ?_)
  refine lv_aload_n hx hb dL_law_1105 rfl (lv_at hl 2 rfl) ?_
  refine lw_ld C0 (k := 1) (by decide) (by decide) hi hS (lv_at hl 0 rfl) (lv_at hl 4 rfl) dL_law_1106 dL_law_1107 dL_law_1109 dL_law_1110 dL_law_1111 ?_
  refine lw_ld C0 (k := 2) (by decide) (by decide) hi hS (lv_at hl 0 rfl) (lv_at hl 4 rfl) dL_law_1112 dL_law_1113 dL_law_1115 dL_law_1116 dL_law_1117 ?_
  refine w_goW (v := (some (.int r))) (va_runV (As := [.int (xs (i + 1)), .int (xs (i + 2))]) (rest := [.int r]) ⟨hx, hb, hml, hown, hts⟩ (c_X11_wind l hIM (xs (i + 1)) (xs (i + 2)) v e2) (cwV 2 hts gL_law_X11_wind rfl rfl rfl (by decide +kernel) ⟨(Nat.le_of_ble_eq_true rfl), (Nat.le_of_ble_eq_true rfl)⟩) (lw_preM hIM hKM hWM _) rfl rfl hl.1 rfl (lv_room (Nat.le_of_ble_eq_true rfl)) dL_law_1118 ⟨by show _ ≤ room_1.cells; omega, by show _ ≤ room_1.slots; omega⟩) hS hAM hWC hdis (fun H locs hWM hWC hS => ?_)
  refine lv_icmp_eq (tgt := 2104) hx hb dL_law_1121 (by decide) (fun _ => ?_) (fun z => absurd rfl z)
  exact W.widen (k := cells + 1) (n := slots + 6) (by omega) (by omega) (kk w' v' H locs ls hR' hWC hWM hS hl)
set_option maxHeartbeats 4000000 in
set_option maxRecDepth 100000 in
theorem cs_24 {p : Program} {l : Launch} {e : Env} {s : State} {m : MethodId} {args : Array Value} {below : List Frame} {meth : Method} {c : Code} {b L : Nat} {xs : Nat → Int32} {zC zM : LZ} {Q : State → Prop} (C : LX p l s m args c b L xs zC zM) {w v : Mem} {H : Heap} {locs : List Loc} {ls : Array Slot} {i cells slots : Nat} (hR : Rel w v) (hWC : hd zC w H) (hWM : hd zM v H) (hS : va_S (lwA s) s.heap H locs) (hl : lv_has ls 8 (lwL b zC zM i)) (hi : i + 6 ≤ L) (hc : cells + 1 ≤ room_1.cells) (hs : slots + 6 ≤ room_1.slots) (kk : LK p l e s m args below meth c b zC zM Q i cells slots) : W p l e room_1 s m args below meth c H locs cells slots Q (F0 m 1126 ls []) := by
  have C0 := C
  obtain ⟨⟨hx, hb, hml, hown, hts⟩, ⟨hX, hbl, hL⟩, hst, ⟨hIC, hIM, hKC, hKM⟩, hXK, hAC, hAM, hdis⟩ := C
  obtain ⟨r, w', v', e1, e2, hR'⟩ := step_24 hR (xs (i + 1)) (xs (i + 2))
  refine lv_aload_n hx hb dL_law_1126 rfl (lv_at hl 1 rfl) ?_
  refine lw_ld C0 (k := 1) (by decide) (by decide) hi hS (lv_at hl 0 rfl) (lv_at hl 4 rfl) dL_law_1127 dL_law_1128 dL_law_1130 dL_law_1131 dL_law_1132 ?_
  refine lw_ld C0 (k := 2) (by decide) (by decide) hi hS (lv_at hl 0 rfl) (lv_at hl 4 rfl) dL_law_1133 dL_law_1134 dL_law_1136 dL_law_1137 dL_law_1138 ?_
  refine w_goW (v := (some (.int r))) (va_runV (As := [.int (xs (i + 1)), .int (xs (i + 2))]) (rest := []) ⟨hx, hb, hml, hown, hts⟩ (c_X10_step l hIC (xs (i + 1)) (xs (i + 2)) w e1) (cwV 2 hts gL_law_X10_step rfl rfl rfl (by decide +kernel) ⟨(Nat.le_of_ble_eq_true rfl), (Nat.le_of_ble_eq_true rfl)⟩) (lw_preC hIC hKC hWC _) rfl rfl hl.1 rfl (lv_room (Nat.le_of_ble_eq_true rfl)) dL_law_1139 ⟨by show _ ≤ room_1.cells; omega, by show _ ≤ room_1.slots; omega⟩) hS hAC hWM (fun o o' ho ho' q => hdis o' o ho' ho q.symm) (fun H locs hWC hWM hS => ?_)
  refine lv_aload_n hx hb dL_law_1142 rfl (lv_at hl 2 rfl) ?_
  refine lw_ld C0 (k := 1) (by decide) (by decide) hi hS (lv_at hl 0 rfl) (lv_at hl 4 rfl) dL_law_1143 dL_law_1144 dL_law_1146 dL_law_1147 dL_law_1148 ?_
  refine lw_ld C0 (k := 2) (by decide) (by decide) hi hS (lv_at hl 0 rfl) (lv_at hl 4 rfl) dL_law_1149 dL_law_1150 dL_law_1152 dL_law_1153 dL_law_1154 ?_
  refine w_goW (v := (some (.int r))) (va_runV (As := [.int (xs (i + 1)), .int (xs (i + 2))]) (rest := [.int r]) ⟨hx, hb, hml, hown, hts⟩ (c_X11_step l hIM (xs (i + 1)) (xs (i + 2)) v e2) (cwV 2 hts gL_law_X11_step rfl rfl rfl (by decide +kernel) ⟨(Nat.le_of_ble_eq_true rfl), (Nat.le_of_ble_eq_true rfl)⟩) (lw_preM hIM hKM hWM _) rfl rfl hl.1 rfl (lv_room (Nat.le_of_ble_eq_true rfl)) dL_law_1155 ⟨by show _ ≤ room_1.cells; omega, by show _ ≤ room_1.slots; omega⟩) hS hAM hWC hdis (fun H locs hWM hWC hS => ?_)
  refine lv_icmp_eq (tgt := 2104) hx hb dL_law_1158 (by decide) (fun _ => ?_) (fun z => absurd rfl z)
  exact W.widen (k := cells + 1) (n := slots + 6) (by omega) (by omega) (kk w' v' H locs ls hR' hWC hWM hS hl)
