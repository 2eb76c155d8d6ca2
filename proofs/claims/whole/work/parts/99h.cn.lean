/-! ===== the law's cases (99h: by wip/gen/cases.py) ===== -/
set_option maxHeartbeats 4000000 in
set_option maxRecDepth 100000 in
theorem cs_25 {p : Program} {l : Launch} {e : Env} {s : State} {m : MethodId} {args : Array Value} {below : List Frame} {meth : Method} {c : Code} {b L : Nat} {xs : Nat → Int32} {zC zM : LZ} {Q : State → Prop} (C : LX p l s m args c b L xs zC zM) {w v : Mem} {H : Heap} {locs : List Loc} {ls : Array Slot} {i cells slots : Nat} (hR : Rel w v) (hWC : hd zC w H) (hWM : hd zM v H) (hS : va_S (lwA s) s.heap H locs) (hl : lv_has ls 8 (lwL b zC zM i)) (hi : i + 6 ≤ L) (hc : cells + 1 ≤ room_1.cells) (hs : slots + 6 ≤ room_1.slots) (kk : LK p l e s m args below meth c b zC zM Q i cells slots) : W p l e room_1 s m args below meth c H locs cells slots Q (F0 m 1163 ls []) := by
  have C0 := C
  obtain ⟨⟨hx, hb, hml, hown, hts⟩, ⟨hX, hbl, hL⟩, hst, ⟨hIC, hIM, hKC, hKM⟩, hXK, hAC, hAM, hdis⟩ := C
  obtain ⟨r, w', v', e1, e2, hR'⟩ := step_25 hR 
  refine lv_aload_n hx hb dL_law_1163 rfl (lv_at hl 1 rfl) ?_
  refine w_goW (v := (some (.int r))) (va_runV (As := []) (rest := []) ⟨hx, hb, hml, hown, hts⟩ (c_X10_stepless l hIC  w e1) (cwV 0 hts gL_law_X10_stepless rfl rfl rfl (by decide +kernel) ⟨(Nat.le_of_ble_eq_true rfl), (Nat.le_of_ble_eq_true rfl)⟩) (lw_preC hIC hKC hWC _) rfl rfl hl.1 rfl (lv_room (Nat.le_of_ble_eq_true rfl)) dL_law_1164 ⟨by show _ ≤ room_1.cells; omega, by show _ ≤ room_1.slots; omega⟩) hS hAC hWM (fun o o' ho ho' q => hdis o' o ho' ho q.symm) (fun H locs hWC hWM hS => ?_)
  refine lv_aload_n hx hb dL_law_1167 rfl (lv_at hl 2 rfl) ?_
  refine w_goW (v := (some (.int r))) (va_runV (As := []) (rest := [.int r]) ⟨hx, hb, hml, hown, hts⟩ (c_X11_stepless l hIM  v e2) (cwV 0 hts gL_law_X11_stepless rfl rfl rfl (by decide +kernel) ⟨(Nat.le_of_ble_eq_true rfl), (Nat.le_of_ble_eq_true rfl)⟩) (lw_preM hIM hKM hWM _) rfl rfl hl.1 rfl (lv_room (Nat.le_of_ble_eq_true rfl)) dL_law_1168 ⟨by show _ ≤ room_1.cells; omega, by show _ ≤ room_1.slots; omega⟩) hS hAM hWC hdis (fun H locs hWM hWC hS => ?_)
  refine lv_icmp_eq (tgt := 2104) hx hb dL_law_1171 (by decide) (fun _ => ?_) (fun z => absurd rfl z)
  exact W.widen (k := cells + 1) (n := slots + 6) (by omega) (by omega) (kk w' v' H locs ls hR' hWC hWM hS hl)
set_option maxHeartbeats 4000000 in
set_option maxRecDepth 100000 in
theorem cs_26 {p : Program} {l : Launch} {e : Env} {s : State} {m : MethodId} {args : Array Value} {below : List Frame} {meth : Method} {c : Code} {b L : Nat} {xs : Nat → Int32} {zC zM : LZ} {Q : State → Prop} (C : LX p l s m args c b L xs zC zM) {w v : Mem} {H : Heap} {locs : List Loc} {ls : Array Slot} {i cells slots : Nat} (hR : Rel w v) (hWC : hd zC w H) (hWM : hd zM v H) (hS : va_S (lwA s) s.heap H locs) (hl : lv_has ls 8 (lwL b zC zM i)) (hi : i + 6 ≤ L) (hc : cells + 1 ≤ room_1.cells) (hs : slots + 6 ≤ room_1.slots) (kk : LK p l e s m args below meth c b zC zM Q i cells slots) : W p l e room_1 s m args below meth c H locs cells slots Q (F0 m 1176 ls []) := by
  have C0 := C
  obtain ⟨⟨hx, hb, hml, hown, hts⟩, ⟨hX, hbl, hL⟩, hst, ⟨hIC, hIM, hKC, hKM⟩, hXK, hAC, hAM, hdis⟩ := C
  obtain ⟨r, w', v', e1, e2, hR'⟩ := step_26 hR 
  refine lv_aload_n hx hb dL_law_1176 rfl (lv_at hl 1 rfl) ?_
  refine w_goW (v := (some (.int r))) (va_runV (As := []) (rest := []) ⟨hx, hb, hml, hown, hts⟩ (c_X10_sew l hIC  w e1) (cwV 0 hts gL_law_X10_sew rfl rfl rfl (by decide +kernel) ⟨(Nat.le_of_ble_eq_true rfl), (Nat.le_of_ble_eq_true rfl)⟩) (lw_preC hIC hKC hWC _) rfl rfl hl.1 rfl (lv_room (Nat.le_of_ble_eq_true rfl)) dL_law_1177 ⟨by show _ ≤ room_1.cells; omega, by show _ ≤ room_1.slots; omega⟩) hS hAC hWM (fun o o' ho ho' q => hdis o' o ho' ho q.symm) (fun H locs hWC hWM hS => ?_)
  refine lv_aload_n hx hb dL_law_1180 rfl (lv_at hl 2 rfl) ?_
  refine w_goW (v := (some (.int r))) (va_runV (As := []) (rest := [.int r]) ⟨hx, hb, hml, hown, hts⟩ (c_X11_sew l hIM  v e2) (cwV 0 hts gL_law_X11_sew rfl rfl rfl (by decide +kernel) ⟨(Nat.le_of_ble_eq_true rfl), (Nat.le_of_ble_eq_true rfl)⟩) (lw_preM hIM hKM hWM _) rfl rfl hl.1 rfl (lv_room (Nat.le_of_ble_eq_true rfl)) dL_law_1181 ⟨by show _ ≤ room_1.cells; omega, by show _ ≤ room_1.slots; omega⟩) hS hAM hWC hdis (fun H locs hWM hWC hS => ?_)
  refine lv_icmp_eq (tgt := 2104) hx hb dL_law_1184 (by decide) (fun _ => ?_) (fun z => absurd rfl z)
  exact W.widen (k := cells + 1) (n := slots + 6) (by omega) (by omega) (kk w' v' H locs ls hR' hWC hWM hS hl)
set_option maxHeartbeats 4000000 in
set_option maxRecDepth 100000 in
theorem cs_27 {p : Program} {l : Launch} {e : Env} {s : State} {m : MethodId} {args : Array Value} {below : List Frame} {meth : Method} {c : Code} {b L : Nat} {xs : Nat → Int32} {zC zM : LZ} {Q : State → Prop} (C : LX p l s m args c b L xs zC zM) {w v : Mem} {H : Heap} {locs : List Loc} {ls : Array Slot} {i cells slots : Nat} (hR : Rel w v) (hWC : hd zC w H) (hWM : hd zM v H) (hS : va_S (lwA s) s.heap H locs) (hl : lv_has ls 8 (lwL b zC zM i)) (hi : i + 6 ≤ L) (hc : cells + 1 ≤ room_1.cells) (hs : slots + 6 ≤ room_1.slots) (kk : LK p l e s m args below meth c b zC zM Q i cells slots) : W p l e room_1 s m args below meth c H locs cells slots Q (F0 m 1189 ls []) := by
  have C0 := C
  obtain ⟨⟨hx, hb, hml, hown, hts⟩, ⟨hX, hbl, hL⟩, hst, ⟨hIC, hIM, hKC, hKM⟩, hXK, hAC, hAM, hdis⟩ := C
  obtain ⟨kx, w', bb, v', e1, e2, e3, e4, hR'⟩ := step_27 hR (xs (i + 1))
  refine lv_aload_n hx hb dL_law_1189 rfl (lv_at hl 1 rfl) ?_
  refine lw_ld C0 (k := 1) (by decide) (by decide) hi hS (lv_at hl 0 rfl) (lv_at hl 4 rfl) dL_law_1190 dL_law_1191 dL_law_1193 dL_law_1194 dL_law_1195 ?_
  refine lv_aload_n hx hb dL_law_1196 rfl (lv_at hl 3 rfl) ?_
  refine w_goW (v := (some (.int kx))) (vx_runSW (As := [.ref (zC.2.1 66), .int (xs (i + 1)), .ref (zC.2.1 88)]) (rest := []) ⟨hx, hb, hml, hown, hts⟩ (c_L_seam l hst hIC (xs (i + 1)) w e1) (vx_cwSW 3 hts gL_law_L_seam rfl rfl rfl (by decide +kernel) ⟨(Nat.le_of_ble_eq_true rfl), (Nat.le_of_ble_eq_true rfl)⟩) (lw_preX C0 hS hWC _) rfl rfl hl.1 rfl (lv_room (Nat.le_of_ble_eq_true rfl)) dL_law_1197 ⟨by show cells + 1 ≤ room_1.cells; omega, by show slots + 6 ≤ room_1.slots; omega⟩) hS hAC hWM (fun o o' ho ho' q => hdis o' o ho' ho q.symm) (fun H locs hWC hWM hS => ?_)
  refine lv_istore (lv' := (5, .int kx) :: lwL b zC zM i) hx hb dL_law_1200 hl (by decide) rfl (fun ls hl => ?_)
  refine lv_aload_n hx hb dL_law_1202 rfl (lv_at hl 3 rfl) ?_
  refine lw_ld C0 (k := 1) (by decide) (by decide) hi hS (lv_at hl 1 rfl) (lv_at hl 5 rfl) dL_law_1203 dL_law_1204 dL_law_1206 dL_law_1207 dL_law_1208 ?_
  refine w_goW (v := (some (.int bb))) (va_runV (As := [.int (xs (i + 1))]) (rest := []) ⟨hx, hb, hml, hown, hts⟩ (c_X11_seam l hIM (xs (i + 1)) v e2) (cwV 1 hts gL_law_X11_seam rfl rfl rfl (by decide +kernel) ⟨(Nat.le_of_ble_eq_true rfl), (Nat.le_of_ble_eq_true rfl)⟩) (lw_preM hIM hKM hWM _) rfl rfl hl.1 rfl (lv_room (Nat.le_of_ble_eq_true rfl)) dL_law_1209 ⟨by show _ ≤ room_1.cells; omega, by show _ ≤ room_1.slots; omega⟩) hS hAM hWC hdis (fun H locs hWM hWC hS => ?_)
  refine lv_istore (lv' := (6, .int bb) :: (5, .int kx) :: lwL b zC zM i) hx hb dL_law_1212 hl (by decide) rfl (fun ls hl => ?_)
  refine lv_aload_n hx hb dL_law_1214 rfl (lv_at hl 4 rfl) ?_
  refine m_goR (v := some (.int kx)) (va_runV (As := []) (rest := []) ⟨hx, hb, hml, hown, hts⟩ (c_X11_thrown l hIM v' e3) (cwV 0 hts gL_law_X11_thrown rfl rfl rfl (by decide +kernel) ⟨(Nat.le_of_ble_eq_true rfl), (Nat.le_of_ble_eq_true rfl)⟩) (lw_preM hIM hKM hWM _) rfl rfl hl.1 rfl (lv_room (Nat.le_of_ble_eq_true rfl)) dL_law_1215 ⟨by show _ ≤ room_1.cells; omega, by show _ ≤ room_1.slots; omega⟩) ?_
  refine lv_iload hx hb dL_law_1218 (lv_at hl 1 rfl) ?_
  refine lv_icmp_eq (tgt := 1225) hx hb dL_law_1220 (by decide) (fun _ => ?_) (fun z => absurd rfl z)
  refine lv_iload hx hb dL_law_1225 (lv_at hl 1 rfl) ?_
  refine lv_if_ne (tgt := 1242) hx hb dL_law_1227 (by decide) (fun _ => ?_) (fun z => ?_)
  · refine lv_goto (tgt := 2104) hx hb dL_law_1242 (by decide) ?_
    exact W.widen (k := cells + 1) (n := slots + 6) (by omega) (by omega) (kk w' v' H locs ls hR' hWC hWM hS (lv_sub hl [2, 3, 4, 5, 6] rfl))
  · have k0 : kx = 0 := z
    refine lv_aload_n hx hb dL_law_1230 rfl (lv_at hl 5 rfl) ?_
    refine lv_iconst (v := 0) hx hb dL_law_1231 (by decide) ?_
    refine lw_out hx hb hIC hKC hWC dL_law_1232 ?_
    refine lv_iload hx hb dL_law_1233 (lv_at hl 0 rfl) ?_
    refine lv_i2l (v := bb.toInt64) hx hb dL_law_1235 rfl ?_
    refine W.lcmp hx hb dL_law_1236 ?_
    rw [e4 k0, lw_cmp]
    refine lv_if_eq (tgt := 1242) hx hb dL_law_1237 (by decide) (fun _ => ?_) (fun z => absurd rfl z)
    refine lv_goto (tgt := 2104) hx hb dL_law_1242 (by decide) ?_
    exact W.widen (k := cells + 1) (n := slots + 6) (by omega) (by omega) (kk w' v' H locs ls hR' hWC hWM hS (lv_sub hl [2, 3, 4, 5, 6] rfl))
set_option maxHeartbeats 4000000 in
set_option maxRecDepth 100000 in
theorem cs_28 {p : Program} {l : Launch} {e : Env} {s : State} {m : MethodId} {args : Array Value} {below : List Frame} {meth : Method} {c : Code} {b L : Nat} {xs : Nat → Int32} {zC zM : LZ} {Q : State → Prop} (C : LX p l s m args c b L xs zC zM) {w v : Mem} {H : Heap} {locs : List Loc} {ls : Array Slot} {i cells slots : Nat} (hR : Rel w v) (hWC : hd zC w H) (hWM : hd zM v H) (hS : va_S (lwA s) s.heap H locs) (hl : lv_has ls 8 (lwL b zC zM i)) (hi : i + 6 ≤ L) (hc : cells + 1 ≤ room_1.cells) (hs : slots + 6 ≤ room_1.slots) (kk : LK p l e s m args below meth c b zC zM Q i cells slots) : W p l e room_1 s m args below meth c H locs cells slots Q (F0 m 1245 ls []) := by
  have C0 := C
  obtain ⟨⟨hx, hb, hml, hown, hts⟩, ⟨hX, hbl, hL⟩, hst, ⟨hIC, hIM, hKC, hKM⟩, hXK, hAC, hAM, hdis⟩ := C
  obtain ⟨kx, w', bb, v', e1, e2, e3, e4, hR'⟩ := step_28 hR (xs (i + 1)) (xs (i + 2))
  refine lv_aload_n hx hb dL_law_1245 rfl (lv_at hl 1 rfl) ?_
  refine lw_ld C0 (k := 1) (by decide) (by decide) hi hS (lv_at hl 0 rfl) (lv_at hl 4 rfl) dL_law_1246 dL_law_1247 dL_law_1249 dL_law_1250 dL_law_1251 ?_
  refine lw_ld C0 (k := 2) (by decide) (by decide) hi hS (lv_at hl 0 rfl) (lv_at hl 4 rfl) dL_law_1252 dL_law_1253 dL_law_1255 dL_law_1256 dL_law_1257 ?_
  refine lv_aload_n hx hb dL_law_1258 rfl (lv_at hl 3 rfl) ?_
  refine w_goW (v := (some (.int kx))) (vx_runSW (As := [.ref (zC.2.1 66), .int (xs (i + 1)), .int (xs (i + 2)), .ref (zC.2.1 88)]) (rest := []) ⟨hx, hb, hml, hown, hts⟩ (c_L_sewn l hst hIC (xs (i + 1)) (xs (i + 2)) w e1) (vx_cwSW 4 hts gL_law_L_sewn rfl rfl rfl (by decide +kernel) ⟨(Nat.le_of_ble_eq_true rfl), (Nat.le_of_ble_eq_true rfl)⟩) (lw_preX C0 hS hWC _) rfl rfl hl.1 rfl (lv_room (Nat.le_of_ble_eq_true rfl)) dL_law_1259 ⟨by show cells + 1 ≤ room_1.cells; omega, by show slots + 6 ≤ room_1.slots; omega⟩) hS hAC hWM (fun o o' ho ho' q => hdis o' o ho' ho q.symm) (fun H locs hWC hWM hS => ?_)
  refine lv_istore (lv' := (5, .int kx) :: lwL b zC zM i) hx hb dL_law_1262 hl (by decide) rfl (fun ls hl => ?_)
  refine lv_aload_n hx hb dL_law_1264 rfl (lv_at hl 3 rfl) ?_
  refine lw_ld C0 (k := 1) (by decide) (by decide) hi hS (lv_at hl 1 rfl) (lv_at hl 5 rfl) dL_law_1265 dL_law_1266 dL_law_1268 dL_law_1269 dL_law_1270 ?_
  refine lw_ld C0 (k := 2) (by decide) (by decide) hi hS (lv_at hl 1 rfl) (lv_at hl 5 rfl) dL_law_1271 dL_law_1272 dL_law_1274 dL_law_1275 dL_law_1276 ?_
  refine w_goW (v := (some (.int bb))) (va_runV (As := [.int (xs (i + 1)), .int (xs (i + 2))]) (rest := []) ⟨hx, hb, hml, hown, hts⟩ (c_X11_sewn l hIM (xs (i + 1)) (xs (i + 2)) v e2) (cwV 2 hts gL_law_X11_sewn rfl rfl rfl (by decide +kernel) ⟨(Nat.le_of_ble_eq_true rfl), (Nat.le_of_ble_eq_true rfl)⟩) (lw_preM hIM hKM hWM _) rfl rfl hl.1 rfl (lv_room (Nat.le_of_ble_eq_true rfl)) dL_law_1277 ⟨by show _ ≤ room_1.cells; omega, by show _ ≤ room_1.slots; omega⟩) hS hAM hWC hdis (fun H locs hWM hWC hS => ?_)
  refine lv_istore (lv' := (6, .int bb) :: (5, .int kx) :: lwL b zC zM i) hx hb dL_law_1280 hl (by decide) rfl (fun ls hl => ?_)
  refine lv_aload_n hx hb dL_law_1282 rfl (lv_at hl 4 rfl) ?_
  refine m_goR (v := some (.int kx)) (va_runV (As := []) (rest := []) ⟨hx, hb, hml, hown, hts⟩ (c_X11_thrown l hIM v' e3) (cwV 0 hts gL_law_X11_thrown rfl rfl rfl (by decide +kernel) ⟨(Nat.le_of_ble_eq_true rfl), (Nat.le_of_ble_eq_true rfl)⟩) (lw_preM hIM hKM hWM _) rfl rfl hl.1 rfl (lv_room (Nat.le_of_ble_eq_true rfl)) dL_law_1283 ⟨by show _ ≤ room_1.cells; omega, by show _ ≤ room_1.slots; omega⟩) ?_
  refine lv_iload hx hb dL_law_1286 (lv_at hl 1 rfl) ?_
  refine lv_icmp_eq (tgt := 1293) hx hb dL_law_1288 (by decide) (fun _ => ?_) (fun z => absurd rfl z)
  refine lv_iload hx hb dL_law_1293 (lv_at hl 1 rfl) ?_
  refine lv_if_ne (tgt := 1310) hx hb dL_law_1295 (by decide) (fun _ => ?_) (fun z => ?_)
  · refine lv_goto (tgt := 2104) hx hb dL_law_1310 (by decide) ?_
    exact W.widen (k := cells + 1) (n := slots + 6) (by omega) (by omega) (kk w' v' H locs ls hR' hWC hWM hS (lv_sub hl [2, 3, 4, 5, 6] rfl))
  · have k0 : kx = 0 := z
    refine lv_aload_n hx hb dL_law_1298 rfl (lv_at hl 5 rfl) ?_
    refine lv_iconst (v := 0) hx hb dL_law_1299 (by decide) ?_
    refine lw_out hx hb hIC hKC hWC dL_law_1300 ?_
    refine lv_iload hx hb dL_law_1301 (lv_at hl 0 rfl) ?_
    refine lv_i2l (v := bb.toInt64) hx hb dL_law_1303 rfl ?_
    refine W.lcmp hx hb dL_law_1304 ?_
    rw [e4 k0, lw_cmp]
    refine lv_if_eq (tgt := 1310) hx hb dL_law_1305 (by decide) (fun _ => ?_) (fun z => absurd rfl z)
    refine lv_goto (tgt := 2104) hx hb dL_law_1310 (by decide) ?_
    exact W.widen (k := cells + 1) (n := slots + 6) (by omega) (by omega) (kk w' v' H locs ls hR' hWC hWM hS (lv_sub hl [2, 3, 4, 5, 6] rfl))
set_option maxHeartbeats 4000000 in
set_option maxRecDepth 100000 in
theorem cs_29 {p : Program} {l : Launch} {e : Env} {s : State} {m : MethodId} {args : Array Value} {below : List Frame} {meth : Method} {c : Code} {b L : Nat} {xs : Nat → Int32} {zC zM : LZ} {Q : State → Prop} (C : LX p l s m args c b L xs zC zM) {w v : Mem} {H : Heap} {locs : List Loc} {ls : Array Slot} {i cells slots : Nat} (hR : Rel w v) (hWC : hd zC w H) (hWM : hd zM v H) (hS : va_S (lwA s) s.heap H locs) (hl : lv_has ls 8 (lwL b zC zM i)) (hi : i + 6 ≤ L) (hc : cells + 1 ≤ room_1.cells) (hs : slots + 6 ≤ room_1.slots) (kk : LK p l e s m args below meth c b zC zM Q i cells slots) : W p l e room_1 s m args below meth c H locs cells slots Q (F0 m 1313 ls []) := by
  have C0 := C
  obtain ⟨⟨hx, hb, hml, hown, hts⟩, ⟨hX, hbl, hL⟩, hst, ⟨hIC, hIM, hKC, hKM⟩, hXK, hAC, hAM, hdis⟩ := C
  obtain ⟨r, e1, e2⟩ := step_29 hR (xs (i + 1))
  refine lv_aload_n hx hb dL_law_1313 rfl (lv_at hl 1 rfl) ?_
  refine lw_ld C0 (k := 1) (by decide) (by decide) hi hS (lv_at hl 0 rfl) (lv_at hl 4 rfl) dL_law_1314 dL_law_1315 dL_law_1317 dL_law_1318 dL_law_1319 ?_
  refine m_goR (v := (some (.int r))) (va_runV (As := [.int (xs (i + 1))]) (rest := []) ⟨hx, hb, hml, hown, hts⟩ (c_X10_thread l hIC (xs (i + 1)) w e1) (cwV 1 hts gL_law_X10_thread rfl rfl rfl (by decide +kernel) ⟨(Nat.le_of_ble_eq_true rfl), (Nat.le_of_ble_eq_true rfl)⟩) (lw_preC hIC hKC hWC _) rfl rfl hl.1 rfl (lv_room (Nat.le_of_ble_eq_true rfl)) dL_law_1320 ⟨by show _ ≤ room_1.cells; omega, by show _ ≤ room_1.slots; omega⟩) ?_
  refine lv_aload_n hx hb dL_law_1323 rfl (lv_at hl 2 rfl) ?_
  refine lw_ld C0 (k := 1) (by decide) (by decide) hi hS (lv_at hl 0 rfl) (lv_at hl 4 rfl) dL_law_1324 dL_law_1325 dL_law_1327 dL_law_1328 dL_law_1329 ?_
  refine m_goR (v := (some (.int r))) (va_runV (As := [.int (xs (i + 1))]) (rest := [.int r]) ⟨hx, hb, hml, hown, hts⟩ (c_X11_thread l hIM (xs (i + 1)) v e2) (cwV 1 hts gL_law_X11_thread rfl rfl rfl (by decide +kernel) ⟨(Nat.le_of_ble_eq_true rfl), (Nat.le_of_ble_eq_true rfl)⟩) (lw_preM hIM hKM hWM _) rfl rfl hl.1 rfl (lv_room (Nat.le_of_ble_eq_true rfl)) dL_law_1330 ⟨by show _ ≤ room_1.cells; omega, by show _ ≤ room_1.slots; omega⟩) ?_
  refine lv_icmp_eq (tgt := 2104) hx hb dL_law_1333 (by decide) (fun _ => ?_) (fun z => absurd rfl z)
  exact W.widen (k := cells + 1) (n := slots + 6) (by omega) (by omega) (kk w v H locs ls hR hWC hWM hS hl)
set_option maxHeartbeats 4000000 in
set_option maxRecDepth 100000 in
theorem cs_30 {p : Program} {l : Launch} {e : Env} {s : State} {m : MethodId} {args : Array Value} {below : List Frame} {meth : Method} {c : Code} {b L : Nat} {xs : Nat → Int32} {zC zM : LZ} {Q : State → Prop} (C : LX p l s m args c b L xs zC zM) {w v : Mem} {H : Heap} {locs : List Loc} {ls : Array Slot} {i cells slots : Nat} (hR : Rel w v) (hWC : hd zC w H) (hWM : hd zM v H) (hS : va_S (lwA s) s.heap H locs) (hl : lv_has ls 8 (lwL b zC zM i)) (hi : i + 6 ≤ L) (hc : cells + 1 ≤ room_1.cells) (hs : slots + 6 ≤ room_1.slots) (kk : LK p l e s m args below meth c b zC zM Q i cells slots) : W p l e room_1 s m args below meth c H locs cells slots Q (F0 m 1338 ls []) := by
  have C0 := C
  obtain ⟨⟨hx, hb, hml, hown, hts⟩, ⟨hX, hbl, hL⟩, hst, ⟨hIC, hIM, hKC, hKM⟩, hXK, hAC, hAM, hdis⟩ := C
  obtain ⟨r, w', v', e1, e2, hR'⟩ := step_30 hR (xs (i + 1)) (xs (i + 2))
  refine lv_aload_n hx hb dL_law_1338 rfl (lv_at hl 1 rfl) ?_
  refine lw_ld C0 (k := 1) (by decide) (by decide) hi hS (lv_at hl 0 rfl) (lv_at hl 4 rfl) dL_law_1339 dL_law_1340 dL_law_1342 dL_law_1343 dL_law_1344 ?_
  refine lw_ld C0 (k := 2) (by decide) (by decide) hi hS (lv_at hl 0 rfl) (lv_at hl 4 rfl) dL_law_1345 dL_law_1346 dL_law_1348 dL_law_1349 dL_law_1350 ?_
  refine w_goW (v := (some (.int r))) (va_runV (As := [.int (xs (i + 1)), .int (xs (i + 2))]) (rest := []) ⟨hx, hb, hml, hown, hts⟩ (c_X10_names l hIC (xs (i + 1)) (xs (i + 2)) w e1) (cwV 2 hts gL_law_X10_names rfl rfl rfl (by decide +kernel) ⟨(Nat.le_of_ble_eq_true rfl), (Nat.le_of_ble_eq_true rfl)⟩) (lw_preC hIC hKC hWC _) rfl rfl hl.1 rfl (lv_room (Nat.le_of_ble_eq_true rfl)) dL_law_1351 ⟨by show _ ≤ room_1.cells; omega, by show _ ≤ room_1.slots; omega⟩) hS hAC hWM (fun o o' ho ho' q => hdis o' o ho' ho q.symm) (fun H locs hWC hWM hS => ?_)
  refine lv_aload_n hx hb dL_law_1354 rfl (lv_at hl 2 rfl) ?_
  refine lw_ld C0 (k := 1) (by decide) (by decide) hi hS (lv_at hl 0 rfl) (lv_at hl 4 rfl) dL_law_1355 dL_law_1356 dL_law_1358 dL_law_1359 dL_law_1360 ?_
  refine lw_ld C0 (k := 2) (by decide) (by decide) hi hS (lv_at hl 0 rfl) (lv_at hl 4 rfl) dL_law_1361 dL_law_1362 dL_law_1364 dL_law_1365 dL_law_1366 ?_
  refine w_goW (v := (some (.int r))) (va_runV (As := [.int (xs (i + 1)), .int (xs (i + 2))]) (rest := [.int r]) ⟨hx, hb, hml, hown, hts⟩ (c_X11_names l hIM (xs (i + 1)) (xs (i + 2)) v e2) (cwV 2 hts gL_law_X11_names rfl rfl rfl (by decide +kernel) ⟨(Nat.le_of_ble_eq_true rfl), (Nat.le_of_ble_eq_true rfl)⟩) (lw_preM hIM hKM hWM _) rfl rfl hl.1 rfl (lv_room (Nat.le_of_ble_eq_true rfl)) dL_law_1367 ⟨by show _ ≤ room_1.cells; omega, by show _ ≤ room_1.slots; omega⟩) hS hAM hWC hdis (fun H locs hWM hWC hS => ?_)
  refine lv_icmp_eq (tgt := 2104) hx hb dL_law_1370 (by decide) (fun _ => ?_) (fun z => absurd rfl z)
  exact W.widen (k := cells + 1) (n := slots + 6) (by omega) (by omega) (kk w' v' H locs ls hR' hWC hWM hS hl)
set_option maxHeartbeats 4000000 in
set_option maxRecDepth 100000 in
theorem cs_31 {p : Program} {l : Launch} {e : Env} {s : State} {m : MethodId} {args : Array Value} {below : List Frame} {meth : Method} {c : Code} {b L : Nat} {xs : Nat → Int32} {zC zM : LZ} {Q : State → Prop} (C : LX p l s m args c b L xs zC zM) {w v : Mem} {H : Heap} {locs : List Loc} {ls : Array Slot} {i cells slots : Nat} (hR : Rel w v) (hWC : hd zC w H) (hWM : hd zM v H) (hS : va_S (lwA s) s.heap H locs) (hl : lv_has ls 8 (lwL b zC zM i)) (hi : i + 6 ≤ L) (hc : cells + 1 ≤ room_1.cells) (hs : slots + 6 ≤ room_1.slots) (kk : LK p l e s m args below meth c b zC zM Q i cells slots) : W p l e room_1 s m args below meth c H locs cells slots Q (F0 m 1375 ls []) := by
  have C0 := C
  obtain ⟨⟨hx, hb, hml, hown, hts⟩, ⟨hX, hbl, hL⟩, hst, ⟨hIC, hIM, hKC, hKM⟩, hXK, hAC, hAM, hdis⟩ := C
  obtain ⟨r, w', v', e1, e2, hR'⟩ := step_31 hR (xs (i + 1)) (xs (i + 2)) (xs (i + 3))
  refine lv_aload_n hx hb dL_law_1375 rfl (lv_at hl 1 rfl) ?_
  refine lw_ld C0 (k := 1) (by decide) (by decide) hi hS (lv_at hl 0 rfl) (lv_at hl 4 rfl) dL_law_1376 dL_law_1377 dL_law_1379 dL_law_1380 dL_law_1381 ?_
  refine lw_ld C0 (k := 2) (by decide) (by decide) hi hS (lv_at hl 0 rfl) (lv_at hl 4 rfl) dL_law_1382 dL_law_1383 dL_law_1385 dL_law_1386 dL_law_1387 ?_
  refine lw_ld C0 (k := 3) (by decide) (by decide) hi hS (lv_at hl 0 rfl) (lv_at hl 4 rfl) dL_law_1388 dL_law_1389 dL_law_1391 dL_law_1392 dL_law_1393 ?_
  refine w_goW (v := (some (.int r))) (va_runV (As := [.int (xs (i + 1)), .int (xs (i + 2)), .int (xs (i + 3))]) (rest := []) ⟨hx, hb, hml, hown, hts⟩ (c_X10_name l hIC (xs (i + 1)) (xs (i + 2)) (xs (i + 3)) w e1) (cwV 3 hts gL_law_X10_name rfl rfl rfl (by decide +kernel) ⟨(Nat.le_of_ble_eq_true rfl), (Nat.le_of_ble_eq_true rfl)⟩) (lw_preC hIC hKC hWC _) rfl rfl hl.1 rfl (lv_room (Nat.le_of_ble_eq_true rfl)) dL_law_1394 ⟨by show _ ≤ room_1.cells; omega, by show _ ≤ room_1.slots; omega⟩) hS hAC hWM (fun o o' ho ho' q => hdis o' o ho' ho q.symm) (fun H locs hWC hWM hS => ?_)
  refine lv_aload_n hx hb dL_law_1397 rfl (lv_at hl 2 rfl) ?_
  refine lw_ld C0 (k := 1) (by decide) (by decide) hi hS (lv_at hl 0 rfl) (lv_at hl 4 rfl) dL_law_1398 dL_law_1399 dL_law_1401 dL_law_1402 dL_law_1403 ?_
  refine lw_ld C0 (k := 2) (by decide) (by decide) hi hS (lv_at hl 0 rfl) (lv_at hl 4 rfl) dL_law_1404 dL_law_1405 dL_law_1407 dL_law_1408 dL_law_1409 ?_
  refine lw_ld C0 (k := 3) (by decide) (by decide) hi hS (lv_at hl 0 rfl) (lv_at hl 4 rfl) dL_law_1410 dL_law_1411 dL_law_1413 dL_law_1414 dL_law_1415 ?_
  refine w_goW (v := (some (.int r))) (va_runV (As := [.int (xs (i + 1)), .int (xs (i + 2)), .int (xs (i + 3))]) (rest := [.int r]) ⟨hx, hb, hml, hown, hts⟩ (c_X11_name l hIM (xs (i + 1)) (xs (i + 2)) (xs (i + 3)) v e2) (cwV 3 hts gL_law_X11_name rfl rfl rfl (by decide +kernel) ⟨(Nat.le_of_ble_eq_true rfl), (Nat.le_of_ble_eq_true rfl)⟩) (lw_preM hIM hKM hWM _) rfl rfl hl.1 rfl (lv_room (Nat.le_of_ble_eq_true rfl)) dL_law_1416 ⟨by show _ ≤ room_1.cells; omega, by show _ ≤ room_1.slots; omega⟩) hS hAM hWC hdis (fun H locs hWM hWC hS => ?_)
  refine lv_icmp_eq (tgt := 2104) hx hb dL_law_1419 (by decide) (fun _ => ?_) (fun z => absurd rfl z)
  exact W.widen (k := cells + 1) (n := slots + 6) (by omega) (by omega) (kk w' v' H locs ls hR' hWC hWM hS hl)
set_option maxHeartbeats 4000000 in
set_option maxRecDepth 100000 in
theorem cs_32 {p : Program} {l : Launch} {e : Env} {s : State} {m : MethodId} {args : Array Value} {below : List Frame} {meth : Method} {c : Code} {b L : Nat} {xs : Nat → Int32} {zC zM : LZ} {Q : State → Prop} (C : LX p l s m args c b L xs zC zM) {w v : Mem} {H : Heap} {locs : List Loc} {ls : Array Slot} {i cells slots : Nat} (hR : Rel w v) (hWC : hd zC w H) (hWM : hd zM v H) (hS : va_S (lwA s) s.heap H locs) (hl : lv_has ls 8 (lwL b zC zM i)) (hi : i + 6 ≤ L) (hc : cells + 1 ≤ room_1.cells) (hs : slots + 6 ≤ room_1.slots) (kk : LK p l e s m args below meth c b zC zM Q i cells slots) : W p l e room_1 s m args below meth c H locs cells slots Q (F0 m 1424 ls []) := by
  have C0 := C
  obtain ⟨⟨hx, hb, hml, hown, hts⟩, ⟨hX, hbl, hL⟩, hst, ⟨hIC, hIM, hKC, hKM⟩, hXK, hAC, hAM, hdis⟩ := C
  obtain ⟨r, w', v', e1, e2, hR'⟩ := step_32 hR (xs (i + 1))
  refine lv_aload_n hx hb dL_law_1424 rfl (lv_at hl 1 rfl) ?_
  refine lw_ld C0 (k := 1) (by decide) (by decide) hi hS (lv_at hl 0 rfl) (lv_at hl 4 rfl) dL_law_1425 dL_law_1426 dL_law_1428 dL_law_1429 dL_law_1430 ?_
  refine w_goW (v := (some (.int r))) (va_runV (As := [.int (xs (i + 1))]) (rest := []) ⟨hx, hb, hml, hown, hts⟩ (c_X10_wear l hIC (xs (i + 1)) w e1) (cwV 1 hts gL_law_X10_wear rfl rfl rfl (by decide +kernel) ⟨(Nat.le_of_ble_eq_true rfl), (Nat.le_of_ble_eq_true rfl)⟩) (lw_preC hIC hKC hWC _) rfl rfl hl.1 rfl (lv_room (Nat.le_of_ble_eq_true rfl)) dL_law_1431 ⟨by show _ ≤ room_1.cells; omega, by show _ ≤ room_1.slots; omega⟩) hS hAC hWM (fun o o' ho ho' q => hdis o' o ho' ho q.symm) (fun H locs hWC hWM hS => ?_)
  refine lv_aload_n hx hb dL_law_1434 rfl (lv_at hl 2 rfl) ?_
  refine lw_ld C0 (k := 1) (by decide) (by decide) hi hS (lv_at hl 0 rfl) (lv_at hl 4 rfl) dL_law_1435 dL_law_1436 dL_law_1438 dL_law_1439 dL_law_1440 ?_
  refine w_goW (v := (some (.int r))) (va_runV (As := [.int (xs (i + 1))]) (rest := [.int r]) ⟨hx, hb, hml, hown, hts⟩ (c_X11_wear l hIM (xs (i + 1)) v e2) (cwV 1 hts gL_law_X11_wear rfl rfl rfl (by decide +kernel) ⟨(Nat.le_of_ble_eq_true rfl), (Nat.le_of_ble_eq_true rfl)⟩) (lw_preM hIM hKM hWM _) rfl rfl hl.1 rfl (lv_room (Nat.le_of_ble_eq_true rfl)) dL_law_1441 ⟨by show _ ≤ room_1.cells; omega, by show _ ≤ room_1.slots; omega⟩) hS hAM hWC hdis (fun H locs hWM hWC hS => ?_)
  refine lv_icmp_eq (tgt := 2104) hx hb dL_law_1444 (by decide) (fun _ => ?_) (fun z => absurd rfl z)
  exact W.widen (k := cells + 1) (n := slots + 6) (by omega) (by omega) (kk w' v' H locs ls hR' hWC hWM hS hl)
set_option maxHeartbeats 4000000 in
set_option maxRecDepth 100000 in
theorem cs_33 {p : Program} {l : Launch} {e : Env} {s : State} {m : MethodId} {args : Array Value} {below : List Frame} {meth : Method} {c : Code} {b L : Nat} {xs : Nat → Int32} {zC zM : LZ} {Q : State → Prop} (C : LX p l s m args c b L xs zC zM) {w v : Mem} {H : Heap} {locs : List Loc} {ls : Array Slot} {i cells slots : Nat} (hR : Rel w v) (hWC : hd zC w H) (hWM : hd zM v H) (hS : va_S (lwA s) s.heap H locs) (hl : lv_has ls 8 (lwL b zC zM i)) (hi : i + 6 ≤ L) (hc : cells + 1 ≤ room_1.cells) (hs : slots + 6 ≤ room_1.slots) (kk : LK p l e s m args below meth c b zC zM Q i cells slots) : W p l e room_1 s m args below meth c H locs cells slots Q (F0 m 1449 ls []) := by
  have C0 := C
  obtain ⟨⟨hx, hb, hml, hown, hts⟩, ⟨hX, hbl, hL⟩, hst, ⟨hIC, hIM, hKC, hKM⟩, hXK, hAC, hAM, hdis⟩ := C
  obtain ⟨r, e1, e2⟩ := step_33 (w := w) (v := v) (xs (i + 1)) (xs (i + 2))
  refine lv_aload_n hx hb dL_law_1449 rfl (lv_at hl 1 rfl) ?_
  refine lw_ld C0 (k := 1) (by decide) (by decide) hi hS (lv_at hl 0 rfl) (lv_at hl 4 rfl) dL_law_1450 dL_law_1451 dL_law_1453 dL_law_1454 dL_law_1455 ?_
  refine lw_ld C0 (k := 2) (by decide) (by decide) hi hS (lv_at hl 0 rfl) (lv_at hl 4 rfl) dL_law_1456 dL_law_1457 dL_law_1459 dL_law_1460 dL_law_1461 ?_
  refine m_goR (v := (some (.int r))) (va_runV (As := [.int (xs (i + 1)), .int (xs (i + 2))]) (rest := []) ⟨hx, hb, hml, hown, hts⟩ (c_X10_outcome l hIC (xs (i + 1)) (xs (i + 2)) w e1) (cwV 2 hts gL_law_X10_outcome rfl rfl rfl (by decide +kernel) ⟨(Nat.le_of_ble_eq_true rfl), (Nat.le_of_ble_eq_true rfl)⟩) (lw_preC hIC hKC hWC _) rfl rfl hl.1 rfl (lv_room (Nat.le_of_ble_eq_true rfl)) dL_law_1462 ⟨by show _ ≤ room_1.cells; omega, by show _ ≤ room_1.slots; omega⟩) ?_
  refine lv_aload_n hx hb dL_law_1465 rfl (lv_at hl 2 rfl) ?_
  refine lw_ld C0 (k := 1) (by decide) (by decide) hi hS (lv_at hl 0 rfl) (lv_at hl 4 rfl) dL_law_1466 dL_law_1467 dL_law_1469 dL_law_1470 dL_law_1471 ?_
  refine lw_ld C0 (k := 2) (by decide) (by decide) hi hS (lv_at hl 0 rfl) (lv_at hl 4 rfl) dL_law_1472 dL_law_1473 dL_law_1475 dL_law_1476 dL_law_1477 ?_
  refine m_goR (v := (some (.int r))) (va_runV (As := [.int (xs (i + 1)), .int (xs (i + 2))]) (rest := [.int r]) ⟨hx, hb, hml, hown, hts⟩ (c_X11_outcome l hIM (xs (i + 1)) (xs (i + 2)) v e2) (cwV 2 hts gL_law_X11_outcome rfl rfl rfl (by decide +kernel) ⟨(Nat.le_of_ble_eq_true rfl), (Nat.le_of_ble_eq_true rfl)⟩) (lw_preM hIM hKM hWM _) rfl rfl hl.1 rfl (lv_room (Nat.le_of_ble_eq_true rfl)) dL_law_1478 ⟨by show _ ≤ room_1.cells; omega, by show _ ≤ room_1.slots; omega⟩) ?_
  refine lv_icmp_eq (tgt := 2104) hx hb dL_law_1481 (by decide) (fun _ => ?_) (fun z => absurd rfl z)
  exact W.widen (k := cells + 1) (n := slots + 6) (by omega) (by omega) (kk w v H locs ls hR hWC hWM hS hl)
set_option maxHeartbeats 4000000 in
set_option maxRecDepth 100000 in
theorem cs_34 {p : Program} {l : Launch} {e : Env} {s : State} {m : MethodId} {args : Array Value} {below : List Frame} {meth : Method} {c : Code} {b L : Nat} {xs : Nat → Int32} {zC zM : LZ} {Q : State → Prop} (C : LX p l s m args c b L xs zC zM) {w v : Mem} {H : Heap} {locs : List Loc} {ls : Array Slot} {i cells slots : Nat} (hR : Rel w v) (hWC : hd zC w H) (hWM : hd zM v H) (hS : va_S (lwA s) s.heap H locs) (hl : lv_has ls 8 (lwL b zC zM i)) (hi : i + 6 ≤ L) (hc : cells + 1 ≤ room_1.cells) (hs : slots + 6 ≤ room_1.slots) (kk : LK p l e s m args below meth c b zC zM Q i cells slots) : W p l e room_1 s m args below meth c H locs cells slots Q (F0 m 1486 ls []) := by
  have C0 := C
  obtain ⟨⟨hx, hb, hml, hown, hts⟩, ⟨hX, hbl, hL⟩, hst, ⟨hIC, hIM, hKC, hKM⟩, hXK, hAC, hAM, hdis⟩ := C
  obtain ⟨r, w', v', e1, e2, hR'⟩ := step_34 hR (xs (i + 1)) (xs (i + 2))
  refine lv_aload_n hx hb dL_law_1486 rfl (lv_at hl 1 rfl) ?_
  refine lw_ld C0 (k := 1) (by decide) (by decide) hi hS (lv_at hl 0 rfl) (lv_at hl 4 rfl) dL_law_1487 dL_law_1488 dL_law_1490 dL_law_1491 dL_law_1492 ?_
  refine lw_ld C0 (k := 2) (by decide) (by decide) hi hS (lv_at hl 0 rfl) (lv_at hl 4 rfl) dL_law_1493 dL_law_1494 dL_law_1496 dL_law_1497 dL_law_1498 ?_
  refine w_goW (v := (some (.int r))) (va_runV (As := [.int (xs (i + 1)), .int (xs (i + 2))]) (rest := []) ⟨hx, hb, hml, hown, hts⟩ (c_X10_note l hIC (xs (i + 1)) (xs (i + 2)) w e1) (cwV 2 hts gL_law_X10_note rfl rfl rfl (by decide +kernel) ⟨(Nat.le_of_ble_eq_true rfl), (Nat.le_of_ble_eq_true rfl)⟩) (lw_preC hIC hKC hWC _) rfl rfl hl.1 rfl (lv_room (Nat.le_of_ble_eq_true rfl)) dL_law_1499 ⟨by show _ ≤ room_1.cells; omega, by show _ ≤ room_1.slots; omega⟩) hS hAC hWM (fun o o' ho ho' q => hdis o' o ho' ho q.symm) (fun H locs hWC hWM hS => ?_)
  refine lv_aload_n hx hb dL_law_1502 rfl (lv_at hl 2 rfl) ?_
  refine lw_ld C0 (k := 1) (by decide) (by decide) hi hS (lv_at hl 0 rfl) (lv_at hl 4 rfl) dL_law_1503 dL_law_1504 dL_law_1506 dL_law_1507 dL_law_1508 ?_
  refine lw_ld C0 (k := 2) (by decide) (by decide) hi hS (lv_at hl 0 rfl) (lv_at hl 4 rfl) dL_law_1509 dL_law_1510 dL_law_1512 dL_law_1513 dL_law_1514 ?_
  refine w_goW (v := (some (.int r))) (va_runV (As := [.int (xs (i + 1)), .int (xs (i + 2))]) (rest := [.int r]) ⟨hx, hb, hml, hown, hts⟩ (c_X11_note l hIM (xs (i + 1)) (xs (i + 2)) v e2) (cwV 2 hts gL_law_X11_note rfl rfl rfl (by decide +kernel) ⟨(Nat.le_of_ble_eq_true rfl), (Nat.le_of_ble_eq_true rfl)⟩) (lw_preM hIM hKM hWM _) rfl rfl hl.1 rfl (lv_room (Nat.le_of_ble_eq_true rfl)) dL_law_1515 ⟨by show _ ≤ room_1.cells; omega, by show _ ≤ room_1.slots; omega⟩) hS hAM hWC hdis (fun H locs hWM hWC hS => ?_)
  refine lv_icmp_eq (tgt := 2104) hx hb dL_law_1518 (by decide) (fun _ => ?_) (fun z => absurd rfl z)
  exact W.widen (k := cells + 1) (n := slots + 6) (by omega) (by omega) (kk w' v' H locs ls hR' hWC hWM hS hl)
set_option maxHeartbeats 4000000 in
set_option maxRecDepth 100000 in
theorem cs_35 {p : Program} {l : Launch} {e : Env} {s : State} {m : MethodId} {args : Array Value} {below : List Frame} {meth : Method} {c : Code} {b L : Nat} {xs : Nat → Int32} {zC zM : LZ} {Q : State → Prop} (C : LX p l s m args c b L xs zC zM) {w v : Mem} {H : Heap} {locs : List Loc} {ls : Array Slot} {i cells slots : Nat} (hR : Rel w v) (hWC : hd zC w H) (hWM : hd zM v H) (hS : va_S (lwA s) s.heap H locs) (hl : lv_has ls 8 (lwL b zC zM i)) (hi : i + 6 ≤ L) (hc : cells + 1 ≤ room_1.cells) (hs : slots + 6 ≤ room_1.slots) (kk : LK p l e s m args below meth c b zC zM Q i cells slots) : W p l e room_1 s m args below meth c H locs cells slots Q (F0 m 1523 ls []) := by
  have C0 := C
  obtain ⟨⟨hx, hb, hml, hown, hts⟩, ⟨hX, hbl, hL⟩, hst, ⟨hIC, hIM, hKC, hKM⟩, hXK, hAC, hAM, hdis⟩ := C
  obtain ⟨r, w', v', e1, e2, hR'⟩ := step_35 hR 
  refine lv_aload_n hx hb dL_law_1523 rfl (lv_at hl 1 rfl) ?_
  refine w_goW (v := (some (.int r))) (va_runV (As := []) (rest := []) ⟨hx, hb, hml, hown, hts⟩ (c_X10_noteless l hIC  w e1) (cwV 0 hts gL_law_X10_noteless rfl rfl rfl (by decide +kernel) ⟨(Nat.le_of_ble_eq_true rfl), (Nat.le_of_ble_eq_true rfl)⟩) (lw_preC hIC hKC hWC _) rfl rfl hl.1 rfl (lv_room (Nat.le_of_ble_eq_true rfl)) dL_law_1524 ⟨by show _ ≤ room_1.cells; omega, by show _ ≤ room_1.slots; omega⟩) hS hAC hWM (fun o o' ho ho' q => hdis o' o ho' ho q.symm) (fun H locs hWC hWM hS => ?_)
  refine lv_aload_n hx hb dL_law_1527 rfl (lv_at hl 2 rfl) ?_
  refine w_goW (v := (some (.int r))) (va_runV (As := []) (rest := [.int r]) ⟨hx, hb, hml, hown, hts⟩ (c_X11_noteless l hIM  v e2) (cwV 0 hts gL_law_X11_noteless rfl rfl rfl (by decide +kernel) ⟨(Nat.le_of_ble_eq_true rfl), (Nat.le_of_ble_eq_true rfl)⟩) (lw_preM hIM hKM hWM _) rfl rfl hl.1 rfl (lv_room (Nat.le_of_ble_eq_true rfl)) dL_law_1528 ⟨by show _ ≤ room_1.cells; omega, by show _ ≤ room_1.slots; omega⟩) hS hAM hWC hdis (fun H locs hWM hWC hS => ?_)
  refine lv_icmp_eq (tgt := 2104) hx hb dL_law_1531 (by decide) (fun _ => ?_) (fun z => absurd rfl z)
  exact W.widen (k := cells + 1) (n := slots + 6) (by omega) (by omega) (kk w' v' H locs ls hR' hWC hWM hS hl)
set_option maxHeartbeats 4000000 in
set_option maxRecDepth 100000 in
theorem cs_36 {p : Program} {l : Launch} {e : Env} {s : State} {m : MethodId} {args : Array Value} {below : List Frame} {meth : Method} {c : Code} {b L : Nat} {xs : Nat → Int32} {zC zM : LZ} {Q : State → Prop} (C : LX p l s m args c b L xs zC zM) {w v : Mem} {H : Heap} {locs : List Loc} {ls : Array Slot} {i cells slots : Nat} (hR : Rel w v) (hWC : hd zC w H) (hWM : hd zM v H) (hS : va_S (lwA s) s.heap H locs) (hl : lv_has ls 8 (lwL b zC zM i)) (hi : i + 6 ≤ L) (hc : cells + 1 ≤ room_1.cells) (hs : slots + 6 ≤ room_1.slots) (kk : LK p l e s m args below meth c b zC zM Q i cells slots) : W p l e room_1 s m args below meth c H locs cells slots Q (F0 m 1536 ls []) := by
  have C0 := C
  obtain ⟨⟨hx, hb, hml, hown, hts⟩, ⟨hX, hbl, hL⟩, hst, ⟨hIC, hIM, hKC, hKM⟩, hXK, hAC, hAM, hdis⟩ := C
  obtain ⟨r, w', v', e1, e2, hR'⟩ := step_36 hR (xs (i + 1))
  refine lv_aload_n hx hb dL_law_1536 rfl (lv_at hl 1 rfl) ?_
  refine lw_ld C0 (k := 1) (by decide) (by decide) hi hS (lv_at hl 0 rfl) (lv_at hl 4 rfl) dL_law_1537 dL_law_1538 dL_law_1540 dL_law_1541 dL_law_1542 ?_
  refine w_goW (v := (some (.int r))) (va_runV (As := [.int (xs (i + 1))]) (rest := []) ⟨hx, hb, hml, hown, hts⟩ (c_X10_left l hIC (xs (i + 1)) w e1) (cwV 1 hts gL_law_X10_left rfl rfl rfl (by decide +kernel) ⟨(Nat.le_of_ble_eq_true rfl), (Nat.le_of_ble_eq_true rfl)⟩) (lw_preC hIC hKC hWC _) rfl rfl hl.1 rfl (lv_room (Nat.le_of_ble_eq_true rfl)) dL_law_1543 ⟨by show _ ≤ room_1.cells; omega, by show _ ≤ room_1.slots; omega⟩) hS hAC hWM (fun o o' ho ho' q => hdis o' o ho' ho q.symm) (fun H locs hWC hWM hS => ?_)
  refine lv_aload_n hx hb dL_law_1546 rfl (lv_at hl 2 rfl) ?_
  refine lw_ld C0 (k := 1) (by decide) (by decide) hi hS (lv_at hl 0 rfl) (lv_at hl 4 rfl) dL_law_1547 dL_law_1548 dL_law_1550 dL_law_1551 dL_law_1552 ?_
  refine w_goW (v := (some (.int r))) (va_runV (As := [.int (xs (i + 1))]) (rest := [.int r]) ⟨hx, hb, hml, hown, hts⟩ (c_X11_left l hIM (xs (i + 1)) v e2) (cwV 1 hts gL_law_X11_left rfl rfl rfl (by decide +kernel) ⟨(Nat.le_of_ble_eq_true rfl), (Nat.le_of_ble_eq_true rfl)⟩) (lw_preM hIM hKM hWM _) rfl rfl hl.1 rfl (lv_room (Nat.le_of_ble_eq_true rfl)) dL_law_1553 ⟨by show _ ≤ room_1.cells; omega, by show _ ≤ room_1.slots; omega⟩) hS hAM hWC hdis (fun H locs hWM hWC hS => ?_)
  refine lv_icmp_eq (tgt := 2104) hx hb dL_law_1556 (by decide) (fun _ => ?_) (fun z => absurd rfl z)
  exact W.widen (k := cells + 1) (n := slots + 6) (by omega) (by omega) (kk w' v' H locs ls hR' hWC hWM hS hl)
set_option maxHeartbeats 4000000 in
set_option maxRecDepth 100000 in
theorem cs_37 {p : Program} {l : Launch} {e : Env} {s : State} {m : MethodId} {args : Array Value} {below : List Frame} {meth : Method} {c : Code} {b L : Nat} {xs : Nat → Int32} {zC zM : LZ} {Q : State → Prop} (C : LX p l s m args c b L xs zC zM) {w v : Mem} {H : Heap} {locs : List Loc} {ls : Array Slot} {i cells slots : Nat} (hR : Rel w v) (hWC : hd zC w H) (hWM : hd zM v H) (hS : va_S (lwA s) s.heap H locs) (hl : lv_has ls 8 (lwL b zC zM i)) (hi : i + 6 ≤ L) (hc : cells + 1 ≤ room_1.cells) (hs : slots + 6 ≤ room_1.slots) (kk : LK p l e s m args below meth c b zC zM Q i cells slots) : W p l e room_1 s m args below meth c H locs cells slots Q (F0 m 1561 ls []) := by
  have C0 := C
  obtain ⟨⟨hx, hb, hml, hown, hts⟩, ⟨hX, hbl, hL⟩, hst, ⟨hIC, hIM, hKC, hKM⟩, hXK, hAC, hAM, hdis⟩ := C
  obtain ⟨r, w', v', e1, e2, hR'⟩ := step_37 hR (xs (i + 1)) (xs (i + 2))
  refine lv_aload_n hx hb dL_law_1561 rfl (lv_at hl 1 rfl) ?_
  refine lw_ld C0 (k := 1) (by decide) (by decide) hi hS (lv_at hl 0 rfl) (lv_at hl 4 rfl) dL_law_1562 dL_law_1563 dL_law_1565 dL_law_1566 dL_law_1567 ?_
  refine lw_ld C0 (k := 2) (by decide) (by decide) hi hS (lv_at hl 0 rfl) (lv_at hl 4 rfl) dL_law_1568 dL_law_1569 dL_law_1571 dL_law_1572 dL_law_1573 ?_
  refine w_goW (v := (some (.int r))) (va_runV (As := [.int (xs (i + 1)), .int (xs (i + 2))]) (rest := []) ⟨hx, hb, hml, hown, hts⟩ (c_X10_state l hIC (xs (i + 1)) (xs (i + 2)) w e1) (cwV 2 hts gL_law_X10_state rfl rfl rfl (by decide +kernel) ⟨(Nat.le_of_ble_eq_true rfl), (Nat.le_of_ble_eq_true rfl)⟩) (lw_preC hIC hKC hWC _) rfl rfl hl.1 rfl (lv_room (Nat.le_of_ble_eq_true rfl)) dL_law_1574 ⟨by show _ ≤ room_1.cells; omega, by show _ ≤ room_1.slots; omega⟩) hS hAC hWM (fun o o' ho ho' q => hdis o' o ho' ho q.symm) (fun H locs hWC hWM hS => ?_)
  refine lv_aload_n hx hb dL_law_1577 rfl (lv_at hl 2 rfl) ?_
  refine lw_ld C0 (k := 1) (by decide) (by decide) hi hS (lv_at hl 0 rfl) (lv_at hl 4 rfl) dL_law_1578 dL_law_1579 dL_law_1581 dL_law_1582 dL_law_1583 ?_
  refine lw_ld C0 (k := 2) (by decide) (by decide) hi hS (lv_at hl 0 rfl) (lv_at hl 4 rfl) dL_law_1584 dL_law_1585 dL_law_1587 dL_law_1588 dL_law_1589 ?_
  refine w_goW (v := (some (.int r))) (va_runV (As := [.int (xs (i + 1)), .int (xs (i + 2))]) (rest := [.int r]) ⟨hx, hb, hml, hown, hts⟩ (c_X11_state l hIM (xs (i + 1)) (xs (i + 2)) v e2) (cwV 2 hts gL_law_X11_state rfl rfl rfl (by decide +kernel) ⟨(Nat.le_of_ble_eq_true rfl), (Nat.le_of_ble_eq_true rfl)⟩) (lw_preM hIM hKM hWM _) rfl rfl hl.1 rfl (lv_room (Nat.le_of_ble_eq_true rfl)) dL_law_1590 ⟨by show _ ≤ room_1.cells; omega, by show _ ≤ room_1.slots; omega⟩) hS hAM hWC hdis (fun H locs hWM hWC hS => ?_)
  refine lv_icmp_eq (tgt := 2104) hx hb dL_law_1593 (by decide) (fun _ => ?_) (fun z => absurd rfl z)
  exact W.widen (k := cells + 1) (n := slots + 6) (by omega) (by omega) (kk w' v' H locs ls hR' hWC hWM hS hl)
set_option maxHeartbeats 4000000 in
set_option maxRecDepth 100000 in
theorem cs_38 {p : Program} {l : Launch} {e : Env} {s : State} {m : MethodId} {args : Array Value} {below : List Frame} {meth : Method} {c : Code} {b L : Nat} {xs : Nat → Int32} {zC zM : LZ} {Q : State → Prop} (C : LX p l s m args c b L xs zC zM) {w v : Mem} {H : Heap} {locs : List Loc} {ls : Array Slot} {i cells slots : Nat} (hR : Rel w v) (hWC : hd zC w H) (hWM : hd zM v H) (hS : va_S (lwA s) s.heap H locs) (hl : lv_has ls 8 (lwL b zC zM i)) (hi : i + 6 ≤ L) (hc : cells + 1 ≤ room_1.cells) (hs : slots + 6 ≤ room_1.slots) (kk : LK p l e s m args below meth c b zC zM Q i cells slots) : W p l e room_1 s m args below meth c H locs cells slots Q (F0 m 1598 ls []) := by
  have C0 := C
  obtain ⟨⟨hx, hb, hml, hown, hts⟩, ⟨hX, hbl, hL⟩, hst, ⟨hIC, hIM, hKC, hKM⟩, hXK, hAC, hAM, hdis⟩ := C
  obtain ⟨r, w', v', e1, e2, hR'⟩ := step_38 hR (xs (i + 1))
  refine lv_aload_n hx hb dL_law_1598 rfl (lv_at hl 1 rfl) ?_
  refine lw_ld C0 (k := 1) (by decide) (by decide) hi hS (lv_at hl 0 rfl) (lv_at hl 4 rfl) dL_law_1599 dL_law_1600 dL_law_1602 dL_law_1603 dL_law_1604 ?_
  refine w_goW (v := (some (.int r))) (va_runV (As := [.int (xs (i + 1))]) (rest := []) ⟨hx, hb, hml, hown, hts⟩ (c_X10_best l hIC (xs (i + 1)) w e1) (cwV 1 hts gL_law_X10_best rfl rfl rfl (by decide +kernel) ⟨(Nat.le_of_ble_eq_true rfl), (Nat.le_of_ble_eq_true rfl)⟩) (lw_preC hIC hKC hWC _) rfl rfl hl.1 rfl (lv_room (Nat.le_of_ble_eq_true rfl)) dL_law_1605 ⟨by show _ ≤ room_1.cells; omega, by show _ ≤ room_1.slots; omega⟩) hS hAC hWM (fun o o' ho ho' q => hdis o' o ho' ho q.symm) (fun H locs hWC hWM hS => ?_)
  refine lv_aload_n hx hb dL_law_1608 rfl (lv_at hl 2 rfl) ?_
  refine lw_ld C0 (k := 1) (by decide) (by decide) hi hS (lv_at hl 0 rfl) (lv_at hl 4 rfl) dL_law_1609 dL_law_1610 dL_law_1612 dL_law_1613 dL_law_1614 ?_
  refine w_goW (v := (some (.int r))) (va_runV (As := [.int (xs (i + 1))]) (rest := [.int r]) ⟨hx, hb, hml, hown, hts⟩ (c_X11_best l hIM (xs (i + 1)) v e2) (cwV 1 hts gL_law_X11_best rfl rfl rfl (by decide +kernel) ⟨(Nat.le_of_ble_eq_true rfl), (Nat.le_of_ble_eq_true rfl)⟩) (lw_preM hIM hKM hWM _) rfl rfl hl.1 rfl (lv_room (Nat.le_of_ble_eq_true rfl)) dL_law_1615 ⟨by show _ ≤ room_1.cells; omega, by show _ ≤ room_1.slots; omega⟩) hS hAM hWC hdis (fun H locs hWM hWC hS => ?_)
  refine lv_icmp_eq (tgt := 2104) hx hb dL_law_1618 (by decide) (fun _ => ?_) (fun z => absurd rfl z)
  exact W.widen (k := cells + 1) (n := slots + 6) (by omega) (by omega) (kk w' v' H locs ls hR' hWC hWM hS hl)
set_option maxHeartbeats 4000000 in
set_option maxRecDepth 100000 in
theorem cs_39 {p : Program} {l : Launch} {e : Env} {s : State} {m : MethodId} {args : Array Value} {below : List Frame} {meth : Method} {c : Code} {b L : Nat} {xs : Nat → Int32} {zC zM : LZ} {Q : State → Prop} (C : LX p l s m args c b L xs zC zM) {w v : Mem} {H : Heap} {locs : List Loc} {ls : Array Slot} {i cells slots : Nat} (hR : Rel w v) (hWC : hd zC w H) (hWM : hd zM v H) (hS : va_S (lwA s) s.heap H locs) (hl : lv_has ls 8 (lwL b zC zM i)) (hi : i + 6 ≤ L) (hc : cells + 1 ≤ room_1.cells) (hs : slots + 6 ≤ room_1.slots) (kk : LK p l e s m args below meth c b zC zM Q i cells slots) : W p l e room_1 s m args below meth c H locs cells slots Q (F0 m 1623 ls []) := by
  have C0 := C
  obtain ⟨⟨hx, hb, hml, hown, hts⟩, ⟨hX, hbl, hL⟩, hst, ⟨hIC, hIM, hKC, hKM⟩, hXK, hAC, hAM, hdis⟩ := C
  obtain ⟨r, w', v', e1, e2, hR'⟩ := step_39 hR (xs (i + 1)) (xs (i + 2))
  refine lv_aload_n hx hb dL_law_1623 rfl (lv_at hl 1 rfl) ?_
  refine lw_ld C0 (k := 1) (by decide) (by decide) hi hS (lv_at hl 0 rfl) (lv_at hl 4 rfl) dL_law_1624 dL_law_1625 dL_law_1627 dL_law_1628 dL_law_1629 ?_
  refine lw_ld C0 (k := 2) (by decide) (by decide) hi hS (lv_at hl 0 rfl) (lv_at hl 4 rfl) dL_law_1630 dL_law_1631 dL_law_1633 dL_law_1634 dL_law_1635 ?_
  refine w_goW (v := (some (.int r))) (va_runV (As := [.int (xs (i + 1)), .int (xs (i + 2))]) (rest := []) ⟨hx, hb, hml, hown, hts⟩ (c_X10_share l hIC (xs (i + 1)) (xs (i + 2)) w e1) (cwV 2 hts gL_law_X10_share rfl rfl rfl (by decide +kernel) ⟨(Nat.le_of_ble_eq_true rfl), (Nat.le_of_ble_eq_true rfl)⟩) (lw_preC hIC hKC hWC _) rfl rfl hl.1 rfl (lv_room (Nat.le_of_ble_eq_true rfl)) dL_law_1636 ⟨by show _ ≤ room_1.cells; omega, by show _ ≤ room_1.slots; omega⟩) hS hAC hWM (fun o o' ho ho' q => hdis o' o ho' ho q.symm) (fun H locs hWC hWM hS => ?_)
  refine lv_aload_n hx hb dL_law_1639 rfl (lv_at hl 2 rfl) ?_
  refine lw_ld C0 (k := 1) (by decide) (by decide) hi hS (lv_at hl 0 rfl) (lv_at hl 4 rfl) dL_law_1640 dL_law_1641 dL_law_1643 dL_law_1644 dL_law_1645 ?_
  refine lw_ld C0 (k := 2) (by decide) (by decide) hi hS (lv_at hl 0 rfl) (lv_at hl 4 rfl) dL_law_1646 dL_law_1647 dL_law_1649 dL_law_1650 dL_law_1651 ?_
  refine w_goW (v := (some (.int r))) (va_runV (As := [.int (xs (i + 1)), .int (xs (i + 2))]) (rest := [.int r]) ⟨hx, hb, hml, hown, hts⟩ (c_X11_share l hIM (xs (i + 1)) (xs (i + 2)) v e2) (cwV 2 hts gL_law_X11_share rfl rfl rfl (by decide +kernel) ⟨(Nat.le_of_ble_eq_true rfl), (Nat.le_of_ble_eq_true rfl)⟩) (lw_preM hIM hKM hWM _) rfl rfl hl.1 rfl (lv_room (Nat.le_of_ble_eq_true rfl)) dL_law_1652 ⟨by show _ ≤ room_1.cells; omega, by show _ ≤ room_1.slots; omega⟩) hS hAM hWC hdis (fun H locs hWM hWC hS => ?_)
  refine lv_icmp_eq (tgt := 2104) hx hb dL_law_1655 (by decide) (fun _ => ?_) (fun z => absurd rfl z)
  exact W.widen (k := cells + 1) (n := slots + 6) (by omega) (by omega) (kk w' v' H locs ls hR' hWC hWM hS hl)
set_option maxHeartbeats 4000000 in
set_option maxRecDepth 100000 in
theorem cs_40 {p : Program} {l : Launch} {e : Env} {s : State} {m : MethodId} {args : Array Value} {below : List Frame} {meth : Method} {c : Code} {b L : Nat} {xs : Nat → Int32} {zC zM : LZ} {Q : State → Prop} (C : LX p l s m args c b L xs zC zM) {w v : Mem} {H : Heap} {locs : List Loc} {ls : Array Slot} {i cells slots : Nat} (hR : Rel w v) (hWC : hd zC w H) (hWM : hd zM v H) (hS : va_S (lwA s) s.heap H locs) (hl : lv_has ls 8 (lwL b zC zM i)) (hi : i + 6 ≤ L) (hc : cells + 1 ≤ room_1.cells) (hs : slots + 6 ≤ room_1.slots) (kk : LK p l e s m args below meth c b zC zM Q i cells slots) : W p l e room_1 s m args below meth c H locs cells slots Q (F0 m 1660 ls []) := by
  have C0 := C
  obtain ⟨⟨hx, hb, hml, hown, hts⟩, ⟨hX, hbl, hL⟩, hst, ⟨hIC, hIM, hKC, hKM⟩, hXK, hAC, hAM, hdis⟩ := C
  obtain ⟨r, w', v', e1, e2, hR'⟩ := step_40 hR (xs (i + 1)) (xs (i + 2)) (xs (i + 3))
  refine lv_aload_n hx hb dL_law_1660 rfl (lv_at hl 1 rfl) ?_
  refine lw_ld C0 (k := 1) (by decide) (by decide) hi hS (lv_at hl 0 rfl) (lv_at hl 4 rfl) dL_law_1661 dL_law_1662 dL_law_1664 dL_law_1665 dL_law_1666 ?_
  refine lw_ld C0 (k := 2) (by decide) (by decide) hi hS (lv_at hl 0 rfl) (lv_at hl 4 rfl) dL_law_1667 dL_law_1668 dL_law_1670 dL_law_1671 dL_law_1672 ?_
  refine lw_ld C0 (k := 3) (by decide) (by decide) hi hS (lv_at hl 0 rfl) (lv_at hl 4 rfl) dL_law_1673 dL_law_1674 dL_law_1676 dL_law_1677 dL_law_1678 ?_
  refine w_goW (v := (some (.int r))) (va_runV (As := [.int (xs (i + 1)), .int (xs (i + 2)), .int (xs (i + 3))]) (rest := []) ⟨hx, hb, hml, hown, hts⟩ (c_X10_hunt l hIC (xs (i + 1)) (xs (i + 2)) (xs (i + 3)) w e1) (cwV 3 hts gL_law_X10_hunt rfl rfl rfl (by decide +kernel) ⟨(Nat.le_of_ble_eq_true rfl), (Nat.le_of_ble_eq_true rfl)⟩) (lw_preC hIC hKC hWC _) rfl rfl hl.1 rfl (lv_room (Nat.le_of_ble_eq_true rfl)) dL_law_1679 ⟨by show _ ≤ room_1.cells; omega, by show _ ≤ room_1.slots; omega⟩) hS hAC hWM (fun o o' ho ho' q => hdis o' o ho' ho q.symm) (fun H locs hWC hWM hS => ?_)
  refine lv_aload_n hx hb dL_law_1682 rfl (lv_at hl 2 rfl) ?_
  refine lw_ld C0 (k := 1) (by decide) (by decide) hi hS (lv_at hl 0 rfl) (lv_at hl 4 rfl) dL_law_1683 dL_law_1684 dL_law_1686 dL_law_1687 dL_law_1688 ?_
  refine lw_ld C0 (k := 2) (by decide) (by decide) hi hS (lv_at hl 0 rfl) (lv_at hl 4 rfl) dL_law_1689 dL_law_1690 dL_law_1692 dL_law_1693 dL_law_1694 ?_
  refine lw_ld C0 (k := 3) (by decide) (by decide) hi hS (lv_at hl 0 rfl) (lv_at hl 4 rfl) dL_law_1695 dL_law_1696 dL_law_1698 dL_law_1699 dL_law_1700 ?_
  refine w_goW (v := (some (.int r))) (va_runV (As := [.int (xs (i + 1)), .int (xs (i + 2)), .int (xs (i + 3))]) (rest := [.int r]) ⟨hx, hb, hml, hown, hts⟩ (c_X11_hunt l hIM (xs (i + 1)) (xs (i + 2)) (xs (i + 3)) v e2) (cwV 3 hts gL_law_X11_hunt rfl rfl rfl (by decide +kernel) ⟨(Nat.le_of_ble_eq_true rfl), (Nat.le_of_ble_eq_true rfl)⟩) (lw_preM hIM hKM hWM _) rfl rfl hl.1 rfl (lv_room (Nat.le_of_ble_eq_true rfl)) dL_law_1701 ⟨by show _ ≤ room_1.cells; omega, by show _ ≤ room_1.slots; omega⟩) hS hAM hWC hdis (fun H locs hWM hWC hS => ?_)
  refine lv_icmp_eq (tgt := 2104) hx hb dL_law_1704 (by decide) (fun _ => ?_) (fun z => absurd rfl z)
  exact W.widen (k := cells + 1) (n := slots + 6) (by omega) (by omega) (kk w' v' H locs ls hR' hWC hWM hS hl)
set_option maxHeartbeats 4000000 in
set_option maxRecDepth 100000 in
theorem cs_41 {p : Program} {l : Launch} {e : Env} {s : State} {m : MethodId} {args : Array Value} {below : List Frame} {meth : Method} {c : Code} {b L : Nat} {xs : Nat → Int32} {zC zM : LZ} {Q : State → Prop} (C : LX p l s m args c b L xs zC zM) {w v : Mem} {H : Heap} {locs : List Loc} {ls : Array Slot} {i cells slots : Nat} (hR : Rel w v) (hWC : hd zC w H) (hWM : hd zM v H) (hS : va_S (lwA s) s.heap H locs) (hl : lv_has ls 8 (lwL b zC zM i)) (hi : i + 6 ≤ L) (hc : cells + 1 ≤ room_1.cells) (hs : slots + 6 ≤ room_1.slots) (kk : LK p l e s m args below meth c b zC zM Q i cells slots) : W p l e room_1 s m args below meth c H locs cells slots Q (F0 m 1709 ls []) := by
  have C0 := C
  obtain ⟨⟨hx, hb, hml, hown, hts⟩, ⟨hX, hbl, hL⟩, hst, ⟨hIC, hIM, hKC, hKM⟩, hXK, hAC, hAM, hdis⟩ := C
  obtain ⟨r, w', v', e1, e2, hR'⟩ := step_41 hR (xs (i + 1)) (xs (i + 2)) (xs (i + 3))
  refine lv_aload_n hx hb dL_law_1709 rfl (lv_at hl 1 rfl) ?_
  refine lw_ld C0 (k := 1) (by decide) (by decide) hi hS (lv_at hl 0 rfl) (lv_at hl 4 rfl) dL_law_1710 dL_law_1711 dL_law_1713 dL_law_1714 dL_law_1715 ?_
  refine lw_ld C0 (k := 2) (by decide) (by decide) hi hS (lv_at hl 0 rfl) (lv_at hl 4 rfl) dL_law_1716 dL_law_1717 dL_law_1719 dL_law_1720 dL_law_1721 ?_
  refine lw_ld C0 (k := 3) (by decide) (by decide) hi hS (lv_at hl 0 rfl) (lv_at hl 4 rfl) dL_law_1722 dL_law_1723 dL_law_1725 dL_law_1726 dL_law_1727 ?_
  refine w_goW (v := (some (.int r))) (va_runV (As := [.int (xs (i + 1)), .int (xs (i + 2)), .int (xs (i + 3))]) (rest := []) ⟨hx, hb, hml, hown, hts⟩ (c_X10_tape l hIC (xs (i + 1)) (xs (i + 2)) (xs (i + 3)) w e1) (cwV 3 hts gL_law_X10_tape rfl rfl rfl (by decide +kernel) ⟨(Nat.le_of_ble_eq_true rfl), (Nat.le_of_ble_eq_true rfl)⟩) (lw_preC hIC hKC hWC _) rfl rfl hl.1 rfl (lv_room (Nat.le_of_ble_eq_true rfl)) dL_law_1728 ⟨by show _ ≤ room_1.cells; omega, by show _ ≤ room_1.slots; omega⟩) hS hAC hWM (fun o o' ho ho' q => hdis o' o ho' ho q.symm) (fun H locs hWC hWM hS => ?_)
  refine lv_aload_n hx hb dL_law_1731 rfl (lv_at hl 2 rfl) ?_
  refine lw_ld C0 (k := 1) (by decide) (by decide) hi hS (lv_at hl 0 rfl) (lv_at hl 4 rfl) dL_law_1732 dL_law_1733 dL_law_1735 dL_law_1736 dL_law_1737 ?_
  refine lw_ld C0 (k := 2) (by decide) (by decide) hi hS (lv_at hl 0 rfl) (lv_at hl 4 rfl) dL_law_1738 dL_law_1739 dL_law_1741 dL_law_1742 dL_law_1743 ?_
  refine lw_ld C0 (k := 3) (by decide) (by decide) hi hS (lv_at hl 0 rfl) (lv_at hl 4 rfl) dL_law_1744 dL_law_1745 dL_law_1747 dL_law_1748 dL_law_1749 ?_
  refine w_goW (v := (some (.int r))) (va_runV (As := [.int (xs (i + 1)), .int (xs (i + 2)), .int (xs (i + 3))]) (rest := [.int r]) ⟨hx, hb, hml, hown, hts⟩ (c_X11_tape l hIM (xs (i + 1)) (xs (i + 2)) (xs (i + 3)) v e2) (cwV 3 hts gL_law_X11_tape rfl rfl rfl (by decide +kernel) ⟨(Nat.le_of_ble_eq_true rfl), (Nat.le_of_ble_eq_true rfl)⟩) (lw_preM hIM hKM hWM _) rfl rfl hl.1 rfl (lv_room (Nat.le_of_ble_eq_true rfl)) dL_law_1750 ⟨by show _ ≤ room_1.cells; omega, by show _ ≤ room_1.slots; omega⟩) hS hAM hWC hdis (fun H locs hWM hWC hS => ?_)
  refine lv_icmp_eq (tgt := 2104) hx hb dL_law_1753 (by decide) (fun _ => ?_) (fun z => absurd rfl z)
  exact W.widen (k := cells + 1) (n := slots + 6) (by omega) (by omega) (kk w' v' H locs ls hR' hWC hWM hS hl)
set_option maxHeartbeats 4000000 in
set_option maxRecDepth 100000 in
theorem cs_42 {p : Program} {l : Launch} {e : Env} {s : State} {m : MethodId} {args : Array Value} {below : List Frame} {meth : Method} {c : Code} {b L : Nat} {xs : Nat → Int32} {zC zM : LZ} {Q : State → Prop} (C : LX p l s m args c b L xs zC zM) {w v : Mem} {H : Heap} {locs : List Loc} {ls : Array Slot} {i cells slots : Nat} (hR : Rel w v) (hWC : hd zC w H) (hWM : hd zM v H) (hS : va_S (lwA s) s.heap H locs) (hl : lv_has ls 8 (lwL b zC zM i)) (hi : i + 6 ≤ L) (hc : cells + 1 ≤ room_1.cells) (hs : slots + 6 ≤ room_1.slots) (kk : LK p l e s m args below meth c b zC zM Q i cells slots) : W p l e room_1 s m args below meth c H locs cells slots Q (F0 m 1758 ls []) := by
  have C0 := C
  obtain ⟨⟨hx, hb, hml, hown, hts⟩, ⟨hX, hbl, hL⟩, hst, ⟨hIC, hIM, hKC, hKM⟩, hXK, hAC, hAM, hdis⟩ := C
  obtain ⟨r, w', v', e1, e2, hR'⟩ := step_42 hR (xs (i + 1))
  refine lv_aload_n hx hb dL_law_1758 rfl (lv_at hl 1 rfl) ?_
  refine lw_ld C0 (k := 1) (by decide) (by decide) hi hS (lv_at hl 0 rfl) (lv_at hl 4 rfl) dL_law_1759 dL_law_1760 dL_law_1762 dL_law_1763 dL_law_1764 ?_
  refine w_goW (v := (some (.int r))) (va_runV (As := [.int (xs (i + 1))]) (rest := []) ⟨hx, hb, hml, hown, hts⟩ (c_X10_keep l hIC (xs (i + 1)) w e1) (cwV 1 hts gL_law_X10_keep rfl rfl rfl (by decide +kernel) ⟨(Nat.le_of_ble_eq_true rfl), (Nat.le_of_ble_eq_true rfl)⟩) (lw_preC hIC hKC hWC _) rfl rfl hl.1 rfl (lv_room (Nat.le_of_ble_eq_true rfl)) dL_law_1765 ⟨by show _ ≤ room_1.cells; omega, by show _ ≤ room_1.slots; omega⟩) hS hAC hWM (fun o o' ho ho' q => hdis o' o ho' ho q.symm) (fun H locs hWC hWM hS => ?_)
  refine lv_aload_n hx hb dL_law_1768 rfl (lv_at hl 2 rfl) ?_
  refine lw_ld C0 (k := 1) (by decide) (by decide) hi hS (lv_at hl 0 rfl) (lv_at hl 4 rfl) dL_law_1769 dL_law_1770 dL_law_1772 dL_law_1773 dL_law_1774 ?_
  refine w_goW (v := (some (.int r))) (va_runV (As := [.int (xs (i + 1))]) (rest := [.int r]) ⟨hx, hb, hml, hown, hts⟩ (c_X11_keep l hIM (xs (i + 1)) v e2) (cwV 1 hts gL_law_X11_keep rfl rfl rfl (by decide +kernel) ⟨(Nat.le_of_ble_eq_true rfl), (Nat.le_of_ble_eq_true rfl)⟩) (lw_preM hIM hKM hWM _) rfl rfl hl.1 rfl (lv_room (Nat.le_of_ble_eq_true rfl)) dL_law_1775 ⟨by show _ ≤ room_1.cells; omega, by show _ ≤ room_1.slots; omega⟩) hS hAM hWC hdis (fun H locs hWM hWC hS => ?_)
  refine lv_icmp_eq (tgt := 2104) hx hb dL_law_1778 (by decide) (fun _ => ?_) (fun z => absurd rfl z)
  exact W.widen (k := cells + 1) (n := slots + 6) (by omega) (by omega) (kk w' v' H locs ls hR' hWC hWM hS hl)
set_option maxHeartbeats 4000000 in
set_option maxRecDepth 100000 in
theorem cs_43 {p : Program} {l : Launch} {e : Env} {s : State} {m : MethodId} {args : Array Value} {below : List Frame} {meth : Method} {c : Code} {b L : Nat} {xs : Nat → Int32} {zC zM : LZ} {Q : State → Prop} (C : LX p l s m args c b L xs zC zM) {w v : Mem} {H : Heap} {locs : List Loc} {ls : Array Slot} {i cells slots : Nat} (hR : Rel w v) (hWC : hd zC w H) (hWM : hd zM v H) (hS : va_S (lwA s) s.heap H locs) (hl : lv_has ls 8 (lwL b zC zM i)) (hi : i + 6 ≤ L) (hc : cells + 1 ≤ room_1.cells) (hs : slots + 6 ≤ room_1.slots) (kk : LK p l e s m args below meth c b zC zM Q i cells slots) : W p l e room_1 s m args below meth c H locs cells slots Q (F0 m 1783 ls []) := by
  have C0 := C
  obtain ⟨⟨hx, hb, hml, hown, hts⟩, ⟨hX, hbl, hL⟩, hst, ⟨hIC, hIM, hKC, hKM⟩, hXK, hAC, hAM, hdis⟩ := C
  obtain ⟨r, w', v', e1, e2, hR'⟩ := step_43 hR (xs (i + 1))
  refine lv_aload_n hx hb dL_law_1783 rfl (lv_at hl 1 rfl) ?_
  refine lw_ld C0 (k := 1) (by decide) (by decide) hi hS (lv_at hl 0 rfl) (lv_at hl 4 rfl) dL_law_1784 dL_law_1785 dL_law_1787 dL_law_1788 dL_law_1789 ?_
  refine w_goW (v := (some (.int r))) (va_runV (As := [.int (xs (i + 1))]) (rest := []) ⟨hx, hb, hml, hown, hts⟩ (c_X10_back l hIC (xs (i + 1)) w e1) (cwV 1 hts gL_law_X10_back rfl rfl rfl (by decide +kernel) ⟨(Nat.le_of_ble_eq_true rfl), (Nat.le_of_ble_eq_true rfl)⟩) (lw_preC hIC hKC hWC _) rfl rfl hl.1 rfl (lv_room (Nat.le_of_ble_eq_true rfl)) dL_law_1790 ⟨by show _ ≤ room_1.cells; omega, by show _ ≤ room_1.slots; omega⟩) hS hAC hWM (fun o o' ho ho' q => hdis o' o ho' ho q.symm) (fun H locs hWC hWM hS => ?_)
  refine lv_aload_n hx hb dL_law_1793 rfl (lv_at hl 2 rfl) ?_
  refine lw_ld C0 (k := 1) (by decide) (by decide) hi hS (lv_at hl 0 rfl) (lv_at hl 4 rfl) dL_law_1794 dL_law_1795 dL_law_1797 dL_law_1798 dL_law_1799 ?_
  refine w_goW (v := (some (.int r))) (va_runV (As := [.int (xs (i + 1))]) (rest := [.int r]) ⟨hx, hb, hml, hown, hts⟩ (c_X11_back l hIM (xs (i + 1)) v e2) (cwV 1 hts gL_law_X11_back rfl rfl rfl (by decide +kernel) ⟨(Nat.le_of_ble_eq_true rfl), (Nat.le_of_ble_eq_true rfl)⟩) (lw_preM hIM hKM hWM _) rfl rfl hl.1 rfl (lv_room (Nat.le_of_ble_eq_true rfl)) dL_law_1800 ⟨by show _ ≤ room_1.cells; omega, by show _ ≤ room_1.slots; omega⟩) hS hAM hWC hdis (fun H locs hWM hWC hS => ?_)
  refine lv_icmp_eq (tgt := 2104) hx hb dL_law_1803 (by decide) (fun _ => ?_) (fun z => absurd rfl z)
  exact W.widen (k := cells + 1) (n := slots + 6) (by omega) (by omega) (kk w' v' H locs ls hR' hWC hWM hS hl)
set_option maxHeartbeats 4000000 in
set_option maxRecDepth 100000 in
theorem cs_44 {p : Program} {l : Launch} {e : Env} {s : State} {m : MethodId} {args : Array Value} {below : List Frame} {meth : Method} {c : Code} {b L : Nat} {xs : Nat → Int32} {zC zM : LZ} {Q : State → Prop} (C : LX p l s m args c b L xs zC zM) {w v : Mem} {H : Heap} {locs : List Loc} {ls : Array Slot} {i cells slots : Nat} (hR : Rel w v) (hWC : hd zC w H) (hWM : hd zM v H) (hS : va_S (lwA s) s.heap H locs) (hl : lv_has ls 8 (lwL b zC zM i)) (hi : i + 6 ≤ L) (hc : cells + 1 ≤ room_1.cells) (hs : slots + 6 ≤ room_1.slots) (kk : LK p l e s m args below meth c b zC zM Q i cells slots) : W p l e room_1 s m args below meth c H locs cells slots Q (F0 m 1808 ls []) := by
  have C0 := C
  obtain ⟨⟨hx, hb, hml, hown, hts⟩, ⟨hX, hbl, hL⟩, hst, ⟨hIC, hIM, hKC, hKM⟩, hXK, hAC, hAM, hdis⟩ := C
  obtain ⟨r, w', v', e1, e2, hR'⟩ := step_44 hR (xs (i + 1))
  refine lv_aload_n hx hb dL_law_1808 rfl (lv_at hl 1 rfl) ?_
  refine lw_ld C0 (k := 1) (by decide) (by decide) hi hS (lv_at hl 0 rfl) (lv_at hl 4 rfl) dL_law_1809 dL_law_1810 dL_law_1812 dL_law_1813 dL_law_1814 ?_
  refine w_goW (v := (some (.int r))) (va_runV (As := [.int (xs (i + 1))]) (rest := []) ⟨hx, hb, hml, hown, hts⟩ (c_X10_toss l hIC (xs (i + 1)) w e1) (cwV 1 hts gL_law_X10_toss rfl rfl rfl (by decide +kernel) ⟨(Nat.le_of_ble_eq_true rfl), (Nat.le_of_ble_eq_true rfl)⟩) (lw_preC hIC hKC hWC _) rfl rfl hl.1 rfl (lv_room (Nat.le_of_ble_eq_true rfl)) dL_law_1815 ⟨by show _ ≤ room_1.cells; omega, by show _ ≤ room_1.slots; omega⟩) hS hAC hWM (fun o o' ho ho' q => hdis o' o ho' ho q.symm) (fun H locs hWC hWM hS => ?_)
  refine lv_aload_n hx hb dL_law_1818 rfl (lv_at hl 2 rfl) ?_
  refine lw_ld C0 (k := 1) (by decide) (by decide) hi hS (lv_at hl 0 rfl) (lv_at hl 4 rfl) dL_law_1819 dL_law_1820 dL_law_1822 dL_law_1823 dL_law_1824 ?_
  refine w_goW (v := (some (.int r))) (va_runV (As := [.int (xs (i + 1))]) (rest := [.int r]) ⟨hx, hb, hml, hown, hts⟩ (c_X11_toss l hIM (xs (i + 1)) v e2) (cwV 1 hts gL_law_X11_toss rfl rfl rfl (by decide +kernel) ⟨(Nat.le_of_ble_eq_true rfl), (Nat.le_of_ble_eq_true rfl)⟩) (lw_preM hIM hKM hWM _) rfl rfl hl.1 rfl (lv_room (Nat.le_of_ble_eq_true rfl)) dL_law_1825 ⟨by show _ ≤ room_1.cells; omega, by show _ ≤ room_1.slots; omega⟩) hS hAM hWC hdis (fun H locs hWM hWC hS => ?_)
  refine lv_icmp_eq (tgt := 2104) hx hb dL_law_1828 (by decide) (fun _ => ?_) (fun z => absurd rfl z)
  exact W.widen (k := cells + 1) (n := slots + 6) (by omega) (by omega) (kk w' v' H locs ls hR' hWC hWM hS hl)
set_option maxHeartbeats 4000000 in
set_option maxRecDepth 100000 in
theorem cs_45 {p : Program} {l : Launch} {e : Env} {s : State} {m : MethodId} {args : Array Value} {below : List Frame} {meth : Method} {c : Code} {b L : Nat} {xs : Nat → Int32} {zC zM : LZ} {Q : State → Prop} (C : LX p l s m args c b L xs zC zM) {w v : Mem} {H : Heap} {locs : List Loc} {ls : Array Slot} {i cells slots : Nat} (hR : Rel w v) (hWC : hd zC w H) (hWM : hd zM v H) (hS : va_S (lwA s) s.heap H locs) (hl : lv_has ls 8 (lwL b zC zM i)) (hi : i + 6 ≤ L) (hc : cells + 1 ≤ room_1.cells) (hs : slots + 6 ≤ room_1.slots) (kk : LK p l e s m args below meth c b zC zM Q i cells slots) : W p l e room_1 s m args below meth c H locs cells slots Q (F0 m 1833 ls []) := by
  have C0 := C
  obtain ⟨⟨hx, hb, hml, hown, hts⟩, ⟨hX, hbl, hL⟩, hst, ⟨hIC, hIM, hKC, hKM⟩, hXK, hAC, hAM, hdis⟩ := C
  obtain ⟨r, w', v', e1, e2, hR'⟩ := step_45 hR (xs (i + 1))
  refine lv_aload_n hx hb dL_law_1833 rfl (lv_at hl 1 rfl) ?_
  refine lw_ld C0 (k := 1) (by decide) (by decide) hi hS (lv_at hl 0 rfl) (lv_at hl 4 rfl) dL_law_1834 dL_law_1835 dL_law_1837 dL_law_1838 dL_law_1839 ?_
  refine w_goW (v := (some (.int r))) (va_runV (As := [.int (xs (i + 1))]) (rest := []) ⟨hx, hb, hml, hown, hts⟩ (c_X10_clear l hIC (xs (i + 1)) w e1) (cwV 1 hts gL_law_X10_clear rfl rfl rfl (by decide +kernel) ⟨(Nat.le_of_ble_eq_true rfl), (Nat.le_of_ble_eq_true rfl)⟩) (lw_preC hIC hKC hWC _) rfl rfl hl.1 rfl (lv_room (Nat.le_of_ble_eq_true rfl)) dL_law_1840 ⟨by show _ ≤ room_1.cells; omega, by show _ ≤ room_1.slots; omega⟩) hS hAC hWM (fun o o' ho ho' q => hdis o' o ho' ho q.symm) (fun H locs hWC hWM hS => ?_)
  refine lv_aload_n hx hb dL_law_1843 rfl (lv_at hl 2 rfl) ?_
  refine lw_ld C0 (k := 1) (by decide) (by decide) hi hS (lv_at hl 0 rfl) (lv_at hl 4 rfl) dL_law_1844 dL_law_1845 dL_law_1847 dL_law_1848 dL_law_1849 ?_
  refine w_goW (v := (some (.int r))) (va_runV (As := [.int (xs (i + 1))]) (rest := [.int r]) ⟨hx, hb, hml, hown, hts⟩ (c_X11_clear l hIM (xs (i + 1)) v e2) (cwV 1 hts gL_law_X11_clear rfl rfl rfl (by decide +kernel) ⟨(Nat.le_of_ble_eq_true rfl), (Nat.le_of_ble_eq_true rfl)⟩) (lw_preM hIM hKM hWM _) rfl rfl hl.1 rfl (lv_room (Nat.le_of_ble_eq_true rfl)) dL_law_1850 ⟨by show _ ≤ room_1.cells; omega, by show _ ≤ room_1.slots; omega⟩) hS hAM hWC hdis (fun H locs hWM hWC hS => ?_)
  refine lv_icmp_eq (tgt := 2104) hx hb dL_law_1853 (by decide) (fun _ => ?_) (fun z => absurd rfl z)
  exact W.widen (k := cells + 1) (n := slots + 6) (by omega) (by omega) (kk w' v' H locs ls hR' hWC hWM hS hl)
set_option maxHeartbeats 4000000 in
set_option maxRecDepth 100000 in
theorem cs_46 {p : Program} {l : Launch} {e : Env} {s : State} {m : MethodId} {args : Array Value} {below : List Frame} {meth : Method} {c : Code} {b L : Nat} {xs : Nat → Int32} {zC zM : LZ} {Q : State → Prop} (C : LX p l s m args c b L xs zC zM) {w v : Mem} {H : Heap} {locs : List Loc} {ls : Array Slot} {i cells slots : Nat} (hR : Rel w v) (hWC : hd zC w H) (hWM : hd zM v H) (hS : va_S (lwA s) s.heap H locs) (hl : lv_has ls 8 (lwL b zC zM i)) (hi : i + 6 ≤ L) (hc : cells + 1 ≤ room_1.cells) (hs : slots + 6 ≤ room_1.slots) (kk : LK p l e s m args below meth c b zC zM Q i cells slots) : W p l e room_1 s m args below meth c H locs cells slots Q (F0 m 1858 ls []) := by
  have C0 := C
  obtain ⟨⟨hx, hb, hml, hown, hts⟩, ⟨hX, hbl, hL⟩, hst, ⟨hIC, hIM, hKC, hKM⟩, hXK, hAC, hAM, hdis⟩ := C
  obtain ⟨r, w', v', e1, e2, hR'⟩ := step_46 hR (xs (i + 1)) (xs (i + 2)) (((xs (i + 3)).toInt64 <<< ((32 : Int32).toInt64 &&& 63)) ||| ((xs (i + 4)).toInt64 &&& 4294967295))
  refine lv_aload_n hx hb dL_law_1858 rfl (lv_at hl 1 rfl) ?_
  refine lw_ld C0 (k := 1) (by decide) (by decide) hi hS (lv_at hl 0 rfl) (lv_at hl 4 rfl) dL_law_1859 dL_law_1860 dL_law_1862 dL_law_1863 dL_law_1864 ?_
  refine lw_ld C0 (k := 2) (by decide) (by decide) hi hS (lv_at hl 0 rfl) (lv_at hl 4 rfl) dL_law_1865 dL_law_1866 dL_law_1868 dL_law_1869 dL_law_1870 ?_
  refine lw_ld C0 (k := 3) (by decide) (by decide) hi hS (lv_at hl 0 rfl) (lv_at hl 4 rfl) dL_law_1871 dL_law_1872 dL_law_1874 dL_law_1875 dL_law_1876 ?_
  refine lv_i2l hx hb dL_law_1877 rfl ?_
  refine lv_bipush (v := 32) hx hb dL_law_1878 (by decide) ?_
  refine lv_lshl hx hb dL_law_1880 rfl ?_
  refine lw_ld C0 (k := 4) (by decide) (by decide) hi hS (lv_at hl 0 rfl) (lv_at hl 4 rfl) dL_law_1881 dL_law_1882 dL_law_1884 dL_law_1885 dL_law_1886 ?_
  refine lv_i2l hx hb dL_law_1887 rfl ?_
  refine lv_ldc2 (v := 4294967295) hx hb hown (hts (.constantLong RL 233 4294967295) (by decide +kernel)) dL_law_1888 ?_
  refine lv_land hx hb dL_law_1891 ?_
  refine lv_lor hx hb dL_law_1892 ?_
  refine w_goW (v := (some (.int r))) (va_runV (As := [.int (xs (i + 1)), .int (xs (i + 2)), .long (((xs (i + 3)).toInt64 <<< ((32 : Int32).toInt64 &&& 63)) ||| ((xs (i + 4)).toInt64 &&& 4294967295))]) (rest := []) ⟨hx, hb, hml, hown, hts⟩ (c_X10_put l hIC (xs (i + 1)) (xs (i + 2)) (((xs (i + 3)).toInt64 <<< ((32 : Int32).toInt64 &&& 63)) ||| ((xs (i + 4)).toInt64 &&& 4294967295)) w e1) (cwV 3 hts gL_law_X10_put rfl rfl rfl (by decide +kernel) ⟨(Nat.le_of_ble_eq_true rfl), (Nat.le_of_ble_eq_true rfl)⟩) (lw_preC hIC hKC hWC _) rfl rfl hl.1 rfl (lv_room (Nat.le_of_ble_eq_true rfl)) dL_law_1893 ⟨by show _ ≤ room_1.cells; omega, by show _ ≤ room_1.slots; omega⟩) hS hAC hWM (fun o o' ho ho' q => hdis o' o ho' ho q.symm) (fun H locs hWC hWM hS => ?_)
  refine lv_aload_n hx hb dL_law_1896 rfl (lv_at hl 2 rfl) ?_
  refine lw_ld C0 (k := 1) (by decide) (by decide) hi hS (lv_at hl 0 rfl) (lv_at hl 4 rfl) dL_law_1897 dL_law_1898 dL_law_1900 dL_law_1901 dL_law_1902 ?_
  refine lw_ld C0 (k := 2) (by decide) (by decide) hi hS (lv_at hl 0 rfl) (lv_at hl 4 rfl) dL_law_1903 dL_law_1904 dL_law_1906 dL_law_1907 dL_law_1908 ?_
  refine lw_ld C0 (k := 3) (by decide) (by decide) hi hS (lv_at hl 0 rfl) (lv_at hl 4 rfl) dL_law_1909 dL_law_1910 dL_law_1912 dL_law_1913 dL_law_1914 ?_
  refine lv_i2l hx hb dL_law_1915 rfl ?_
  refine lv_bipush (v := 32) hx hb dL_law_1916 (by decide) ?_
  refine lv_lshl hx hb dL_law_1918 rfl ?_
  refine lw_ld C0 (k := 4) (by decide) (by decide) hi hS (lv_at hl 0 rfl) (lv_at hl 4 rfl) dL_law_1919 dL_law_1920 dL_law_1922 dL_law_1923 dL_law_1924 ?_
  refine lv_i2l hx hb dL_law_1925 rfl ?_
  refine lv_ldc2 (v := 4294967295) hx hb hown (hts (.constantLong RL 233 4294967295) (by decide +kernel)) dL_law_1926 ?_
  refine lv_land hx hb dL_law_1929 ?_
  refine lv_lor hx hb dL_law_1930 ?_
  refine w_goW (v := (some (.int r))) (va_runV (As := [.int (xs (i + 1)), .int (xs (i + 2)), .long (((xs (i + 3)).toInt64 <<< ((32 : Int32).toInt64 &&& 63)) ||| ((xs (i + 4)).toInt64 &&& 4294967295))]) (rest := [.int r]) ⟨hx, hb, hml, hown, hts⟩ (c_X11_put l hIM (xs (i + 1)) (xs (i + 2)) (((xs (i + 3)).toInt64 <<< ((32 : Int32).toInt64 &&& 63)) ||| ((xs (i + 4)).toInt64 &&& 4294967295)) v e2) (cwV 3 hts gL_law_X11_put rfl rfl rfl (by decide +kernel) ⟨(Nat.le_of_ble_eq_true rfl), (Nat.le_of_ble_eq_true rfl)⟩) (lw_preM hIM hKM hWM _) rfl rfl hl.1 rfl (lv_room (Nat.le_of_ble_eq_true rfl)) dL_law_1931 ⟨by show _ ≤ room_1.cells; omega, by show _ ≤ room_1.slots; omega⟩) hS hAM hWC hdis (fun H locs hWM hWC hS => ?_)
  refine lv_icmp_eq (tgt := 2104) hx hb dL_law_1934 (by decide) (fun _ => ?_) (fun z => absurd rfl z)
  exact W.widen (k := cells + 1) (n := slots + 6) (by omega) (by omega) (kk w' v' H locs ls hR' hWC hWM hS hl)
set_option maxHeartbeats 4000000 in
set_option maxRecDepth 100000 in
theorem cs_47 {p : Program} {l : Launch} {e : Env} {s : State} {m : MethodId} {args : Array Value} {below : List Frame} {meth : Method} {c : Code} {b L : Nat} {xs : Nat → Int32} {zC zM : LZ} {Q : State → Prop} (C : LX p l s m args c b L xs zC zM) {w v : Mem} {H : Heap} {locs : List Loc} {ls : Array Slot} {i cells slots : Nat} (hR : Rel w v) (hWC : hd zC w H) (hWM : hd zM v H) (hS : va_S (lwA s) s.heap H locs) (hl : lv_has ls 8 (lwL b zC zM i)) (hi : i + 6 ≤ L) (hc : cells + 1 ≤ room_1.cells) (hs : slots + 6 ≤ room_1.slots) (kk : LK p l e s m args below meth c b zC zM Q i cells slots) : W p l e room_1 s m args below meth c H locs cells slots Q (F0 m 1939 ls []) := by
  have C0 := C
  obtain ⟨⟨hx, hb, hml, hown, hts⟩, ⟨hX, hbl, hL⟩, hst, ⟨hIC, hIM, hKC, hKM⟩, hXK, hAC, hAM, hdis⟩ := C
  obtain ⟨kx, w', bb, v', e1, e2, e3, e4, hR'⟩ := step_47 hR (xs (i + 1)) (xs (i + 2))
  refine lv_aload_n hx hb dL_law_1939 rfl (lv_at hl 1 rfl) ?_
  refine lw_ld C0 (k := 1) (by decide) (by decide) hi hS (lv_at hl 0 rfl) (lv_at hl 4 rfl) dL_law_1940 dL_law_1941 dL_law_1943 dL_law_1944 dL_law_1945 ?_
  refine lw_ld C0 (k := 2) (by decide) (by decide) hi hS (lv_at hl 0 rfl) (lv_at hl 4 rfl) dL_law_1946 dL_law_1947 dL_law_1949 dL_law_1950 dL_law_1951 ?_
  refine lv_aload_n hx hb dL_law_1952 rfl (lv_at hl 3 rfl) ?_
  refine w_goW (v := (some (.int kx))) (vx_runSW (As := [.ref (zC.2.1 66), .int (xs (i + 1)), .int (xs (i + 2)), .ref (zC.2.1 88)]) (rest := []) ⟨hx, hb, hml, hown, hts⟩ (c_L_at l hst hIC (xs (i + 1)) (xs (i + 2)) w e1) (vx_cwSW 4 hts gL_law_L_at rfl rfl rfl (by decide +kernel) ⟨(Nat.le_of_ble_eq_true rfl), (Nat.le_of_ble_eq_true rfl)⟩) (lw_preX C0 hS hWC _) rfl rfl hl.1 rfl (lv_room (Nat.le_of_ble_eq_true rfl)) dL_law_1953 ⟨by show cells + 1 ≤ room_1.cells; omega, by show slots + 6 ≤ room_1.slots; omega⟩) hS hAC hWM (fun o o' ho ho' q => hdis o' o ho' ho q.symm) (fun H locs hWC hWM hS => ?_)
  refine lv_istore (lv' := (5, .int kx) :: lwL b zC zM i) hx hb dL_law_1956 hl (by decide) rfl (fun ls hl => ?_)
  refine lv_aload_n hx hb dL_law_1958 rfl (lv_at hl 3 rfl) ?_
  refine lw_ld C0 (k := 1) (by decide) (by decide) hi hS (lv_at hl 1 rfl) (lv_at hl 5 rfl) dL_law_1959 dL_law_1960 dL_law_1962 dL_law_1963 dL_law_1964 ?_
  refine lw_ld C0 (k := 2) (by decide) (by decide) hi hS (lv_at hl 1 rfl) (lv_at hl 5 rfl) dL_law_1965 dL_law_1966 dL_law_1968 dL_law_1969 dL_law_1970 ?_
  refine w_goW (v := (some (.long bb))) (va_runV (As := [.int (xs (i + 1)), .int (xs (i + 2))]) (rest := []) ⟨hx, hb, hml, hown, hts⟩ (c_X11_at l hIM (xs (i + 1)) (xs (i + 2)) v e2) (cwV 2 hts gL_law_X11_at rfl rfl rfl (by decide +kernel) ⟨(Nat.le_of_ble_eq_true rfl), (Nat.le_of_ble_eq_true rfl)⟩) (lw_preM hIM hKM hWM _) rfl rfl hl.1 rfl (lv_room (Nat.le_of_ble_eq_true rfl)) dL_law_1971 ⟨by show _ ≤ room_1.cells; omega, by show _ ≤ room_1.slots; omega⟩) hS hAM hWC hdis (fun H locs hWM hWC hS => ?_)
  refine lv_lstore (lv' := (6, .long bb) :: (5, .int kx) :: lwL b zC zM i) hx hb dL_law_1974 hl (by decide) rfl (fun ls hl => ?_)
  refine lv_aload_n hx hb dL_law_1976 rfl (lv_at hl 4 rfl) ?_
  refine m_goR (v := some (.int kx)) (va_runV (As := []) (rest := []) ⟨hx, hb, hml, hown, hts⟩ (c_X11_thrown l hIM v' e3) (cwV 0 hts gL_law_X11_thrown rfl rfl rfl (by decide +kernel) ⟨(Nat.le_of_ble_eq_true rfl), (Nat.le_of_ble_eq_true rfl)⟩) (lw_preM hIM hKM hWM _) rfl rfl hl.1 rfl (lv_room (Nat.le_of_ble_eq_true rfl)) dL_law_1977 ⟨by show _ ≤ room_1.cells; omega, by show _ ≤ room_1.slots; omega⟩) ?_
  refine lv_iload hx hb dL_law_1980 (lv_at hl 1 rfl) ?_
  refine lv_icmp_eq (tgt := 1987) hx hb dL_law_1982 (by decide) (fun _ => ?_) (fun z => absurd rfl z)
  refine lv_iload hx hb dL_law_1987 (lv_at hl 1 rfl) ?_
  refine lv_if_ne (tgt := 2003) hx hb dL_law_1989 (by decide) (fun _ => ?_) (fun z => ?_)
  · refine lv_goto (tgt := 2104) hx hb dL_law_2003 (by decide) ?_
    exact W.widen (k := cells + 1) (n := slots + 6) (by omega) (by omega) (kk w' v' H locs ls hR' hWC hWM hS (lv_sub hl [2, 3, 4, 5, 6] rfl))
  · have k0 : kx = 0 := z
    refine lv_aload_n hx hb dL_law_1992 rfl (lv_at hl 5 rfl) ?_
    refine lv_iconst (v := 0) hx hb dL_law_1993 (by decide) ?_
    refine lw_out hx hb hIC hKC hWC dL_law_1994 ?_
    refine lv_lload hx hb dL_law_1995 (lv_at hl 0 rfl) ?_
    refine W.lcmp hx hb dL_law_1997 ?_
    rw [e4 k0, lw_cmp]
    refine lv_if_eq (tgt := 2003) hx hb dL_law_1998 (by decide) (fun _ => ?_) (fun z => absurd rfl z)
    refine lv_goto (tgt := 2104) hx hb dL_law_2003 (by decide) ?_
    exact W.widen (k := cells + 1) (n := slots + 6) (by omega) (by omega) (kk w' v' H locs ls hR' hWC hWM hS (lv_sub hl [2, 3, 4, 5, 6] rfl))
set_option maxHeartbeats 4000000 in
set_option maxRecDepth 100000 in
theorem cs_48 {p : Program} {l : Launch} {e : Env} {s : State} {m : MethodId} {args : Array Value} {below : List Frame} {meth : Method} {c : Code} {b L : Nat} {xs : Nat → Int32} {zC zM : LZ} {Q : State → Prop} (C : LX p l s m args c b L xs zC zM) {w v : Mem} {H : Heap} {locs : List Loc} {ls : Array Slot} {i cells slots : Nat} (hR : Rel w v) (hWC : hd zC w H) (hWM : hd zM v H) (hS : va_S (lwA s) s.heap H locs) (hl : lv_has ls 8 (lwL b zC zM i)) (hi : i + 6 ≤ L) (hc : cells + 1 ≤ room_1.cells) (hs : slots + 6 ≤ room_1.slots) (kk : LK p l e s m args below meth c b zC zM Q i cells slots) : W p l e room_1 s m args below meth c H locs cells slots Q (F0 m 2006 ls []) := by
  have C0 := C
  obtain ⟨⟨hx, hb, hml, hown, hts⟩, ⟨hX, hbl, hL⟩, hst, ⟨hIC, hIM, hKC, hKM⟩, hXK, hAC, hAM, hdis⟩ := C
  obtain ⟨r, w', v', e1, e2, hR'⟩ := step_48 hR (xs (i + 1)) (xs (i + 2)) (xs (i + 3)) (xs (i + 4)) (xs (i + 5))
  refine lv_aload_n hx hb dL_law_2006 rfl (lv_at hl 1 rfl) ?_
  refine lw_ld C0 (k := 1) (by decide) (by decide) hi hS (lv_at hl 0 rfl) (lv_at hl 4 rfl) dL_law_2007 dL_law_2008 dL_law_2010 dL_law_2011 dL_law_2012 ?_
  refine lw_ld C0 (k := 2) (by decide) (by decide) hi hS (lv_at hl 0 rfl) (lv_at hl 4 rfl) dL_law_2013 dL_law_2014 dL_law_2016 dL_law_2017 dL_law_2018 ?_
  refine lw_ld C0 (k := 3) (by decide) (by decide) hi hS (lv_at hl 0 rfl) (lv_at hl 4 rfl) dL_law_2019 dL_law_2020 dL_law_2022 dL_law_2023 dL_law_2024 ?_
  refine lw_ld C0 (k := 4) (by decide) (by decide) hi hS (lv_at hl 0 rfl) (lv_at hl 4 rfl) dL_law_2025 dL_law_2026 dL_law_2028 dL_law_2029 dL_law_2030 ?_
  refine lw_ld C0 (k := 5) (by decide) (by decide) hi hS (lv_at hl 0 rfl) (lv_at hl 4 rfl) dL_law_2031 dL_law_2032 dL_law_2034 dL_law_2035 dL_law_2036 ?_
  refine w_goW (v := (some (.int r))) (va_runV (As := [.int (xs (i + 1)), .int (xs (i + 2)), .int (xs (i + 3)), .int (xs (i + 4)), .int (xs (i + 5))]) (rest := []) ⟨hx, hb, hml, hown, hts⟩ (c_X10_copy l hIC (xs (i + 1)) (xs (i + 2)) (xs (i + 3)) (xs (i + 4)) (xs (i + 5)) w e1) (cwV 5 hts gL_law_X10_copy rfl rfl rfl (by decide +kernel) ⟨(Nat.le_of_ble_eq_true rfl), (Nat.le_of_ble_eq_true rfl)⟩) (lw_preC hIC hKC hWC _) rfl rfl hl.1 rfl (lv_room (Nat.le_of_ble_eq_true rfl)) dL_law_2037 ⟨by show _ ≤ room_1.cells; omega, by show _ ≤ room_1.slots; omega⟩) hS hAC hWM (fun o o' ho ho' q => hdis o' o ho' ho q.symm) (fun H locs hWC hWM hS => ?_)
  refine lv_aload_n hx hb dL_law_2040 rfl (lv_at hl 2 rfl) ?_
  refine lw_ld C0 (k := 1) (by decide) (by decide) hi hS (lv_at hl 0 rfl) (lv_at hl 4 rfl) dL_law_2041 dL_law_2042 dL_law_2044 dL_law_2045 dL_law_2046 ?_
  refine lw_ld C0 (k := 2) (by decide) (by decide) hi hS (lv_at hl 0 rfl) (lv_at hl 4 rfl) dL_law_2047 dL_law_2048 dL_law_2050 dL_law_2051 dL_law_2052 ?_
  refine lw_ld C0 (k := 3) (by decide) (by decide) hi hS (lv_at hl 0 rfl) (lv_at hl 4 rfl) dL_law_2053 dL_law_2054 dL_law_2056 dL_law_2057 dL_law_2058 ?_
  refine lw_ld C0 (k := 4) (by decide) (by decide) hi hS (lv_at hl 0 rfl) (lv_at hl 4 rfl) dL_law_2059 dL_law_2060 dL_law_2062 dL_law_2063 dL_law_2064 ?_
  refine lw_ld C0 (k := 5) (by decide) (by decide) hi hS (lv_at hl 0 rfl) (lv_at hl 4 rfl) dL_law_2065 dL_law_2066 dL_law_2068 dL_law_2069 dL_law_2070 ?_
  refine w_goW (v := (some (.int r))) (va_runV (As := [.int (xs (i + 1)), .int (xs (i + 2)), .int (xs (i + 3)), .int (xs (i + 4)), .int (xs (i + 5))]) (rest := [.int r]) ⟨hx, hb, hml, hown, hts⟩ (c_X11_copy l hIM (xs (i + 1)) (xs (i + 2)) (xs (i + 3)) (xs (i + 4)) (xs (i + 5)) v e2) (cwV 5 hts gL_law_X11_copy rfl rfl rfl (by decide +kernel) ⟨(Nat.le_of_ble_eq_true rfl), (Nat.le_of_ble_eq_true rfl)⟩) (lw_preM hIM hKM hWM _) rfl rfl hl.1 rfl (lv_room (Nat.le_of_ble_eq_true rfl)) dL_law_2071 ⟨by show _ ≤ room_1.cells; omega, by show _ ≤ room_1.slots; omega⟩) hS hAM hWC hdis (fun H locs hWM hWC hS => ?_)
  refine lv_icmp_eq (tgt := 2104) hx hb dL_law_2074 (by decide) (fun _ => ?_) (fun z => absurd rfl z)
  exact W.widen (k := cells + 1) (n := slots + 6) (by omega) (by omega) (kk w' v' H locs ls hR' hWC hWM hS hl)
set_option maxHeartbeats 4000000 in
set_option maxRecDepth 100000 in
theorem cs_49 {p : Program} {l : Launch} {e : Env} {s : State} {m : MethodId} {args : Array Value} {below : List Frame} {meth : Method} {c : Code} {b L : Nat} {xs : Nat → Int32} {zC zM : LZ} {Q : State → Prop} (C : LX p l s m args c b L xs zC zM) {w v : Mem} {H : Heap} {locs : List Loc} {ls : Array Slot} {i cells slots : Nat} (hR : Rel w v) (hWC : hd zC w H) (hWM : hd zM v H) (hS : va_S (lwA s) s.heap H locs) (hl : lv_has ls 8 (lwL b zC zM i)) (hi : i + 6 ≤ L) (hc : cells + 1 ≤ room_1.cells) (hs : slots + 6 ≤ room_1.slots) (kk : LK p l e s m args below meth c b zC zM Q i cells slots) : W p l e room_1 s m args below meth c H locs cells slots Q (F0 m 2079 ls []) := by
  have C0 := C
  obtain ⟨⟨hx, hb, hml, hown, hts⟩, ⟨hX, hbl, hL⟩, hst, ⟨hIC, hIM, hKC, hKM⟩, hXK, hAC, hAM, hdis⟩ := C
  obtain ⟨r, e1, e2⟩ := step_49 hR (xs (i + 1))
  refine lv_aload_n hx hb dL_law_2079 rfl (lv_at hl 1 rfl) ?_
  refine lw_ld C0 (k := 1) (by decide) (by decide) hi hS (lv_at hl 0 rfl) (lv_at hl 4 rfl) dL_law_2080 dL_law_2081 dL_law_2083 dL_law_2084 dL_law_2085 ?_
  refine m_goR (v := (some (.int r))) (va_runV (As := [.int (xs (i + 1))]) (rest := []) ⟨hx, hb, hml, hown, hts⟩ (c_X10_count l hIC (xs (i + 1)) w e1) (cwV 1 hts gL_law_X10_count rfl rfl rfl (by decide +kernel) ⟨(Nat.le_of_ble_eq_true rfl), (Nat.le_of_ble_eq_true rfl)⟩) (lw_preC hIC hKC hWC _) rfl rfl hl.1 rfl (lv_room (Nat.le_of_ble_eq_true rfl)) dL_law_2086 ⟨by show _ ≤ room_1.cells; omega, by show _ ≤ room_1.slots; omega⟩) ?_
  refine lv_aload_n hx hb dL_law_2089 rfl (lv_at hl 2 rfl) ?_
  refine lw_ld C0 (k := 1) (by decide) (by decide) hi hS (lv_at hl 0 rfl) (lv_at hl 4 rfl) dL_law_2090 dL_law_2091 dL_law_2093 dL_law_2094 dL_law_2095 ?_
  refine m_goR (v := (some (.int r))) (va_runV (As := [.int (xs (i + 1))]) (rest := [.int r]) ⟨hx, hb, hml, hown, hts⟩ (c_X11_count l hIM (xs (i + 1)) v e2) (cwV 1 hts gL_law_X11_count rfl rfl rfl (by decide +kernel) ⟨(Nat.le_of_ble_eq_true rfl), (Nat.le_of_ble_eq_true rfl)⟩) (lw_preM hIM hKM hWM _) rfl rfl hl.1 rfl (lv_room (Nat.le_of_ble_eq_true rfl)) dL_law_2096 ⟨by show _ ≤ room_1.cells; omega, by show _ ≤ room_1.slots; omega⟩) ?_
  refine lv_icmp_eq (tgt := 2104) hx hb dL_law_2099 (by decide) (fun _ => ?_) (fun z => absurd rfl z)
  exact W.widen (k := cells + 1) (n := slots + 6) (by omega) (by omega) (kk w v H locs ls hR hWC hWM hS hl)
