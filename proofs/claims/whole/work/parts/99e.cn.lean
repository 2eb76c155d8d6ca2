/-! ===== CamStitch(), its body (99e: by wip/gen/cn10m.py) ===== -/
theorem len_s {α : Type} {n : Nat} {ds : List α} (h : ds.length = n + 1) : ∃ a ds', ds = a :: ds' ∧ ds'.length = n := by
  cases ds with
  | nil => simp at h
  | cons a l => exact ⟨a, l, rfl, by simpa using h⟩
/-- the class's memory at its start -/
def W0C : Mem := (fun o j => if o = 74 then (if j = 1 then 20 else if j = 2 then 20 else if j = 3 then 100000 else if j = 4 then 5000 else 0) else if o = 75 then upd (upd (fun _ => 0) 0 4) 1 0 j else 0, fun _ _ => 0)
set_option maxHeartbeats 4000000 in
set_option maxRecDepth 100000 in
theorem n_X10 (l : Launch) (dC : Nat → ClassId) (dI : Nat → Nat → Nat) (cI cL cD cT : ClassId) (h0 sz : Nat) : Met l yX10_init wsX10_init ({ frames := 3, cells := 87, slots := 5979, locals := 52 }) (nPc (dC, dI) (nT cI cL cD cT) 10 [.null, .null, .null, .null, .null, .null, .null, .null, .null, .null, .null, .null, .int 0] h0 sz) (nQc (dC, dI) 10 [.null, .null, .null, .null, .null, .null, .null, .null, .null, .null, .null, .null, .int 0] h0 sz (fun ad : Nat → Nat => ad 66 = h0) (fun ad => (List.range 88).map (fun o => (ad o, eC ad cI cL cD cT W0C o)))) 87 5979 (va_A [(h0, .inr (10, [.null, .null, .null, .null, .null, .null, .null, .null, .null, .null, .null, .null, .int 0]))] sz) := by
  refine Met.ofW (cc := cX10_init) (maxL := 2) (ret := none) (by decide) rfl ?_
  intro p e s m args below meth c s₁ B hml hv
  obtain ⟨rfl, hsz, hP, hKn⟩ := hv
  have hK := hKn.1
  have hx := B.exec
  have hb := B.bytes
  have hr := B.returns
  have hts := atoms_spec (ws := wsX10_init) B.pre
  have hown : s.vm.findClass RX10 = some m.cls := findClass_of_methodNamed B.named
  have hin : meth.name = "<init>" := (name_of_methodNamed B.named B.method).1
  subst hsz
  have hD : va_D (va_A [(h0, .inr (10, [.null, .null, .null, .null, .null, .null, .null, .null, .null, .null, .null, .null, .int 0]))] s.heap.size) [(h0, .inr (10, [.null, .null, .null, .null, .null, .null, .null, .null, .null, .null, .null, .null, .int 0]))] := n_D0
  try unfold nQc
  generalize hAe : va_A [(h0, .inr (10, [.null, .null, .null, .null, .null, .null, .null, .null, .null, .null, .null, .null, .int 0]))] s.heap.size = A at hD ⊢
  have hA : ∀ q : Nat, s.heap.size ≤ q → A q := fun q h => by rw [← hAe]; exact Or.inr h
  have hS : va_S A s.heap s.heap [] := va_S.rf
  have hP : va_P (dC, dI) vwCl [(h0, .inr (10, [.null, .null, .null, .null, .null, .null, .null, .null, .null, .null, .null, .null, .int 0]))] s.heap := hP
  have hl := lv_entry ([.ref h0]) (n := 2) (Nat.le_of_ble_eq_true rfl)
  rw [lg_entry_eq]
  generalize (lg_sl ([.ref h0]) ++ List.replicate (2 - (lg_sl ([.ref h0])).length) Slot.unset).toArray = ls at hl ⊢
  have hl : lv_has ls 2 [(0, .ref h0)] := hl
  refine lv_aload_n hx hb dX10_init_0 rfl (lv_at hl 0 rfl) ?_
  refine W.objInit hx hb hown (hts (.methodLink RX10 1 objectInit) (by decide +kernel)) (hts (.instanceMethod objectInit) (by decide +kernel)) (hts (.code objectInit ⟨#[0xb1]⟩ 1 none) (by decide +kernel)) rfl (by rw [hml]; exact hl.1) rfl dX10_init_1 (Nat.le_of_ble_eq_true rfl) (Nat.le_of_ble_eq_true rfl) ?_
  refine W.eq (g2 := F0 m 4 ls []) rfl ?_
  refine lv_aload_n hx hb dX10_init_4 rfl (lv_at hl 0 rfl) ?_
  refine va_new (ci := 5) (fs := [.null, .null, .int 0, .int 0]) (C := RX5) (T := TX5) (N := 4) hx hb hts (by decide +kernel) tyX5 tyX5_ok hown (hts (.classLink RX10 7 RX5) (by decide +kernel)) (hts (.instantiable RX5 4) (by decide +kernel)) (hts (.initialized RX5) (by decide +kernel)) hK hP hD hS hA rfl (fun j hj => by rcases (show j = 0 ∨ j = 1 ∨ j = 2 ∨ j = 3 by omega) with rfl | rfl | rfl | rfl <;> rfl) (Nat.le_of_ble_eq_true rfl) (Nat.le_of_ble_eq_true rfl) dX10_init_5 (fun p1 H hP hD hS => ?_)
  refine lv_dup hx hb dX10_init_8 rfl ?_
  refine n_callN (X := (h0, .inr (10, [.null, .null, .null, .null, .null, .null, .null, .null, .null, .null, .null, .null, .int 0])) :: []) (nw := fun u : Nat × Nat => oX5 cI cL p1 u.1 u.2) ⟨hx, hb, hml, hown, hts⟩ (n_X5 l dC dI cI cL cD cT p1 H.size) ⟨va_cnB 0 hts gX10_init_X5_init_n9 rfl rfl rfl (hKn.2.1 (RX10, 9, yX5_init, "CamStitch") (by simp [nestN])) (hts (.initialized RX5) (by decide +kernel)) (by decide +kernel) ⟨(Nat.le_of_ble_eq_true rfl), (Nat.le_of_ble_eq_true rfl)⟩, rfl, (hts (.instanceMethod yX5_init) (by decide +kernel))⟩ hKn hP hD hS hA hl.1 (lv_room (Nat.le_of_ble_eq_true rfl)) dX10_init_9 ⟨(Nat.le_of_ble_eq_true rfl), (Nat.le_of_ble_eq_true rfl)⟩ (fun u H locs hu hP hD hS => ?_)
  obtain ⟨p1_1, p1_2⟩ := u
  obtain ⟨Y1, eY1⟩ : ∃ Y : va_W, Y = [] ++ oX5 cI cL p1 p1_1 p1_2 := ⟨_, rfl⟩
  have hP : va_P (dC, dI) vwCl ((h0, .inr (10, [.null, .null, .null, .null, .null, .null, .null, .null, .null, .null, .null, .null, .int 0])) :: Y1) H := by rw [eY1]; exact hP
  have hD : va_D A ((h0, .inr (10, [.null, .null, .null, .null, .null, .null, .null, .null, .null, .null, .null, .null, .int 0])) :: Y1) := by rw [eY1]; exact hD
  refine va_putF (D := (dC, dI)) (ci := 10) (v := .ref p1) (ty := tyX10 0) (C := RX10) (T := TX10) (N := 13) hx hb hts (by decide +kernel) tyX10 tyX10_ok nmX10 hown hK hP hD hS 0 rfl rfl 0 (by decide) (hts (.fieldLink RX10 10 "CamStitch" "pattern" "LCamStitch$Pattern;") (by decide +kernel)) (fun _ h9 => h9) rfl hin rfl (by decide +kernel) rfl rfl (Nat.le_of_ble_eq_true rfl) dX10_init_12 (fun H locs hP hD hS => ?_)
  have hP : va_P (dC, dI) vwCl ((h0, .inr (10, [.ref p1, .null, .null, .null, .null, .null, .null, .null, .null, .null, .null, .null, .int 0])) :: Y1) H := hP
  have hD : va_D A ((h0, .inr (10, [.ref p1, .null, .null, .null, .null, .null, .null, .null, .null, .null, .null, .null, .int 0])) :: Y1) := hD
  refine lv_aload_n hx hb dX10_init_15 rfl (lv_at hl 0 rfl) ?_
  refine va_new (ci := 6) (fs := [.null, .null, .null, .int 0, .int 0, .int 0, .int 0, .int 0, .int 0]) (C := RX6) (T := TX6) (N := 9) hx hb hts (by decide +kernel) tyX6 tyX6_ok hown (hts (.classLink RX10 16 RX6) (by decide +kernel)) (hts (.instantiable RX6 9) (by decide +kernel)) (hts (.initialized RX6) (by decide +kernel)) hK hP hD hS hA rfl (fun j hj => by rcases (show j = 0 ∨ j = 1 ∨ j = 2 ∨ j = 3 ∨ j = 4 ∨ j = 5 ∨ j = 6 ∨ j = 7 ∨ j = 8 by omega) with rfl | rfl | rfl | rfl | rfl | rfl | rfl | rfl | rfl <;> rfl) (Nat.le_of_ble_eq_true rfl) (Nat.le_of_ble_eq_true rfl) dX10_init_16 (fun p2 H hP hD hS => ?_)
  refine lv_dup hx hb dX10_init_19 rfl ?_
  refine n_callN (X := (h0, .inr (10, [.ref p1, .null, .null, .null, .null, .null, .null, .null, .null, .null, .null, .null, .int 0])) :: Y1) (nw := fun u : Nat × Nat × Nat × Nat × Nat => oX6 cI cL p2 u.1 u.2.1 u.2.2.1 u.2.2.2.1 u.2.2.2.2) ⟨hx, hb, hml, hown, hts⟩ (n_X6 l dC dI cI cL cD cT p2 H.size) ⟨va_cnB 0 hts gX10_init_X6_init_n18 rfl rfl rfl (hKn.2.1 (RX10, 18, yX6_init, "CamStitch") (by simp [nestN])) (hts (.initialized RX6) (by decide +kernel)) (by decide +kernel) ⟨(Nat.le_of_ble_eq_true rfl), (Nat.le_of_ble_eq_true rfl)⟩, rfl, (hts (.instanceMethod yX6_init) (by decide +kernel))⟩ hKn hP hD hS hA hl.1 (lv_room (Nat.le_of_ble_eq_true rfl)) dX10_init_20 ⟨(Nat.le_of_ble_eq_true rfl), (Nat.le_of_ble_eq_true rfl)⟩ (fun u H locs hu hP hD hS => ?_)
  obtain ⟨p2_1, p2_2, p2_3, p2_4, p2_5⟩ := u
  obtain ⟨Y2, eY2⟩ : ∃ Y : va_W, Y = Y1 ++ oX6 cI cL p2 p2_1 p2_2 p2_3 p2_4 p2_5 := ⟨_, rfl⟩
  have hP : va_P (dC, dI) vwCl ((h0, .inr (10, [.ref p1, .null, .null, .null, .null, .null, .null, .null, .null, .null, .null, .null, .int 0])) :: Y2) H := by rw [eY2]; exact hP
  have hD : va_D A ((h0, .inr (10, [.ref p1, .null, .null, .null, .null, .null, .null, .null, .null, .null, .null, .null, .int 0])) :: Y2) := by rw [eY2]; exact hD
  refine va_putF (D := (dC, dI)) (ci := 10) (v := .ref p2) (ty := tyX10 1) (C := RX10) (T := TX10) (N := 13) hx hb hts (by decide +kernel) tyX10 tyX10_ok nmX10 hown hK hP hD hS 0 rfl rfl 1 (by decide) (hts (.fieldLink RX10 19 "CamStitch" "reader" "LCamStitch$Reader;") (by decide +kernel)) (fun _ h9 => h9) rfl hin rfl (by decide +kernel) rfl rfl (Nat.le_of_ble_eq_true rfl) dX10_init_23 (fun H locs hP hD hS => ?_)
  have hP : va_P (dC, dI) vwCl ((h0, .inr (10, [.ref p1, .ref p2, .null, .null, .null, .null, .null, .null, .null, .null, .null, .null, .int 0])) :: Y2) H := hP
  have hD : va_D A ((h0, .inr (10, [.ref p1, .ref p2, .null, .null, .null, .null, .null, .null, .null, .null, .null, .null, .int 0])) :: Y2) := hD
  refine lv_aload_n hx hb dX10_init_26 rfl (lv_at hl 0 rfl) ?_
  refine va_new (ci := 1) (fs := [.null, .null, .int 0]) (C := RX1) (T := TX1) (N := 3) hx hb hts (by decide +kernel) tyX1 tyX1_ok hown (hts (.classLink RX10 23 RX1) (by decide +kernel)) (hts (.instantiable RX1 3) (by decide +kernel)) (hts (.initialized RX1) (by decide +kernel)) hK hP hD hS hA rfl (fun j hj => by rcases (show j = 0 ∨ j = 1 ∨ j = 2 by omega) with rfl | rfl | rfl <;> rfl) (Nat.le_of_ble_eq_true rfl) (Nat.le_of_ble_eq_true rfl) dX10_init_27 (fun p3 H hP hD hS => ?_)
  refine lv_dup hx hb dX10_init_30 rfl ?_
  refine n_callN (X := (h0, .inr (10, [.ref p1, .ref p2, .null, .null, .null, .null, .null, .null, .null, .null, .null, .null, .int 0])) :: Y2) (nw := fun u : Nat × Nat => oX1 cI cL p3 u.1 u.2) ⟨hx, hb, hml, hown, hts⟩ (n_X1 l dC dI cI cL cD cT p3 H.size) ⟨va_cnB 0 hts gX10_init_X1_init_n25 rfl rfl rfl (hKn.2.1 (RX10, 25, yX1_init, "CamStitch") (by simp [nestN])) (hts (.initialized RX1) (by decide +kernel)) (by decide +kernel) ⟨(Nat.le_of_ble_eq_true rfl), (Nat.le_of_ble_eq_true rfl)⟩, rfl, (hts (.instanceMethod yX1_init) (by decide +kernel))⟩ hKn hP hD hS hA hl.1 (lv_room (Nat.le_of_ble_eq_true rfl)) dX10_init_31 ⟨(Nat.le_of_ble_eq_true rfl), (Nat.le_of_ble_eq_true rfl)⟩ (fun u H locs hu hP hD hS => ?_)
  obtain ⟨p3_1, p3_2⟩ := u
  obtain ⟨Y3, eY3⟩ : ∃ Y : va_W, Y = Y2 ++ oX1 cI cL p3 p3_1 p3_2 := ⟨_, rfl⟩
  have hP : va_P (dC, dI) vwCl ((h0, .inr (10, [.ref p1, .ref p2, .null, .null, .null, .null, .null, .null, .null, .null, .null, .null, .int 0])) :: Y3) H := by rw [eY3]; exact hP
  have hD : va_D A ((h0, .inr (10, [.ref p1, .ref p2, .null, .null, .null, .null, .null, .null, .null, .null, .null, .null, .int 0])) :: Y3) := by rw [eY3]; exact hD
  refine va_putF (D := (dC, dI)) (ci := 10) (v := .ref p3) (ty := tyX10 2) (C := RX10) (T := TX10) (N := 13) hx hb hts (by decide +kernel) tyX10 tyX10_ok nmX10 hown hK hP hD hS 0 rfl rfl 2 (by decide) (hts (.fieldLink RX10 26 "CamStitch" "work" "LCamStitch$Disc;") (by decide +kernel)) (fun _ h9 => h9) rfl hin rfl (by decide +kernel) rfl rfl (Nat.le_of_ble_eq_true rfl) dX10_init_34 (fun H locs hP hD hS => ?_)
  have hP : va_P (dC, dI) vwCl ((h0, .inr (10, [.ref p1, .ref p2, .ref p3, .null, .null, .null, .null, .null, .null, .null, .null, .null, .int 0])) :: Y3) H := hP
  have hD : va_D A ((h0, .inr (10, [.ref p1, .ref p2, .ref p3, .null, .null, .null, .null, .null, .null, .null, .null, .null, .int 0])) :: Y3) := hD
  refine lv_aload_n hx hb dX10_init_37 rfl (lv_at hl 0 rfl) ?_
  refine va_new (ci := 1) (fs := [.null, .null, .int 0]) (C := RX1) (T := TX1) (N := 3) hx hb hts (by decide +kernel) tyX1 tyX1_ok hown (hts (.classLink RX10 23 RX1) (by decide +kernel)) (hts (.instantiable RX1 3) (by decide +kernel)) (hts (.initialized RX1) (by decide +kernel)) hK hP hD hS hA rfl (fun j hj => by rcases (show j = 0 ∨ j = 1 ∨ j = 2 by omega) with rfl | rfl | rfl <;> rfl) (Nat.le_of_ble_eq_true rfl) (Nat.le_of_ble_eq_true rfl) dX10_init_38 (fun p4 H hP hD hS => ?_)
  refine lv_dup hx hb dX10_init_41 rfl ?_
  refine n_callN (X := (h0, .inr (10, [.ref p1, .ref p2, .ref p3, .null, .null, .null, .null, .null, .null, .null, .null, .null, .int 0])) :: Y3) (nw := fun u : Nat × Nat => oX1 cI cL p4 u.1 u.2) ⟨hx, hb, hml, hown, hts⟩ (n_X1 l dC dI cI cL cD cT p4 H.size) ⟨va_cnB 0 hts gX10_init_X1_init_n25 rfl rfl rfl (hKn.2.1 (RX10, 25, yX1_init, "CamStitch") (by simp [nestN])) (hts (.initialized RX1) (by decide +kernel)) (by decide +kernel) ⟨(Nat.le_of_ble_eq_true rfl), (Nat.le_of_ble_eq_true rfl)⟩, rfl, (hts (.instanceMethod yX1_init) (by decide +kernel))⟩ hKn hP hD hS hA hl.1 (lv_room (Nat.le_of_ble_eq_true rfl)) dX10_init_42 ⟨(Nat.le_of_ble_eq_true rfl), (Nat.le_of_ble_eq_true rfl)⟩ (fun u H locs hu hP hD hS => ?_)
  obtain ⟨p4_1, p4_2⟩ := u
  obtain ⟨Y4, eY4⟩ : ∃ Y : va_W, Y = Y3 ++ oX1 cI cL p4 p4_1 p4_2 := ⟨_, rfl⟩
  have hP : va_P (dC, dI) vwCl ((h0, .inr (10, [.ref p1, .ref p2, .ref p3, .null, .null, .null, .null, .null, .null, .null, .null, .null, .int 0])) :: Y4) H := by rw [eY4]; exact hP
  have hD : va_D A ((h0, .inr (10, [.ref p1, .ref p2, .ref p3, .null, .null, .null, .null, .null, .null, .null, .null, .null, .int 0])) :: Y4) := by rw [eY4]; exact hD
  refine va_putF (D := (dC, dI)) (ci := 10) (v := .ref p4) (ty := tyX10 3) (C := RX10) (T := TX10) (N := 13) hx hb hts (by decide +kernel) tyX10 tyX10_ok nmX10 hown hK hP hD hS 0 rfl rfl 3 (by decide) (hts (.fieldLink RX10 30 "CamStitch" "spare" "LCamStitch$Disc;") (by decide +kernel)) (fun _ h9 => h9) rfl hin rfl (by decide +kernel) rfl rfl (Nat.le_of_ble_eq_true rfl) dX10_init_45 (fun H locs hP hD hS => ?_)
  have hP : va_P (dC, dI) vwCl ((h0, .inr (10, [.ref p1, .ref p2, .ref p3, .ref p4, .null, .null, .null, .null, .null, .null, .null, .null, .int 0])) :: Y4) H := hP
  have hD : va_D A ((h0, .inr (10, [.ref p1, .ref p2, .ref p3, .ref p4, .null, .null, .null, .null, .null, .null, .null, .null, .int 0])) :: Y4) := hD
  refine lv_aload_n hx hb dX10_init_48 rfl (lv_at hl 0 rfl) ?_
  refine lv_bipush (v := 8) hx hb dX10_init_49 (by decide) ?_
  refine n_newq (C := RX1) hx hb hown (hts (.classLink RX10 23 RX1) (by decide +kernel)) hKn.2.2.1 hK 2 rfl hP hD hS hA (n := 8) (N' := 8) (by decide) rfl (Nat.le_of_ble_eq_true rfl) (Nat.le_of_ble_eq_true rfl) (Nat.le_of_ble_eq_true rfl) dX10_init_51 (fun qs H hP hD hS => ?_)
  obtain ⟨hP, hD⟩ := n_rot1 (Y := Y4) hP hD
  refine va_putF (D := (dC, dI)) (ci := 10) (v := .ref qs) (ty := tyX10 4) (C := RX10) (T := TX10) (N := 13) hx hb hts (by decide +kernel) tyX10 tyX10_ok nmX10 hown hK hP hD hS 0 rfl rfl 4 (by decide) (hts (.fieldLink RX10 33 "CamStitch" "shelves" "[LCamStitch$Disc;") (by decide +kernel)) (fun _ h9 => h9) rfl hin rfl (by decide +kernel) rfl rfl (Nat.le_of_ble_eq_true rfl) dX10_init_54 (fun H locs hP hD hS => ?_)
  have hP : va_P (dC, dI) vwCl ((h0, .inr (10, [.ref p1, .ref p2, .ref p3, .ref p4, .ref qs, .null, .null, .null, .null, .null, .null, .null, .int 0])) :: (qs, .inl (cD, 8, .inr (.inr (.inr (.inr fun _ => none))))) :: Y4) H := hP
  have hD : va_D A ((h0, .inr (10, [.ref p1, .ref p2, .ref p3, .ref p4, .ref qs, .null, .null, .null, .null, .null, .null, .null, .int 0])) :: (qs, .inl (cD, 8, .inr (.inr (.inr (.inr fun _ => none))))) :: Y4) := hD
  refine lv_aload_n hx hb dX10_init_57 rfl (lv_at hl 0 rfl) ?_
  refine va_new (ci := 3) (fs := [.null, .int 0, .int 0, .int 0, .int 0]) (C := RX3) (T := TX3) (N := 5) hx hb hts (by decide +kernel) tyX3 tyX3_ok hown (hts (.classLink RX10 37 RX3) (by decide +kernel)) (hts (.instantiable RX3 5) (by decide +kernel)) (hts (.initialized RX3) (by decide +kernel)) hK hP hD hS hA rfl (fun j hj => by rcases (show j = 0 ∨ j = 1 ∨ j = 2 ∨ j = 3 ∨ j = 4 by omega) with rfl | rfl | rfl | rfl | rfl <;> rfl) (Nat.le_of_ble_eq_true rfl) (Nat.le_of_ble_eq_true rfl) dX10_init_58 (fun p5 H hP hD hS => ?_)
  refine lv_dup hx hb dX10_init_61 rfl ?_
  refine n_callN (X := (h0, .inr (10, [.ref p1, .ref p2, .ref p3, .ref p4, .ref qs, .null, .null, .null, .null, .null, .null, .null, .int 0])) :: (qs, .inl (cD, 8, .inr (.inr (.inr (.inr fun _ => none))))) :: Y4) (nw := fun u : Nat => oX3 cI cL p5 u) ⟨hx, hb, hml, hown, hts⟩ (n_X3 l dC dI cI cL cD cT p5 H.size) ⟨va_cnB 0 hts gX10_init_X3_init_n39 rfl rfl rfl (hKn.2.1 (RX10, 39, yX3_init, "CamStitch") (by simp [nestN])) (hts (.initialized RX3) (by decide +kernel)) (by decide +kernel) ⟨(Nat.le_of_ble_eq_true rfl), (Nat.le_of_ble_eq_true rfl)⟩, rfl, (hts (.instanceMethod yX3_init) (by decide +kernel))⟩ hKn hP hD hS hA hl.1 (lv_room (Nat.le_of_ble_eq_true rfl)) dX10_init_62 ⟨(Nat.le_of_ble_eq_true rfl), (Nat.le_of_ble_eq_true rfl)⟩ (fun u H locs hu hP hD hS => ?_)
  obtain ⟨p5_1, rfl⟩ : ∃ z, z = u := ⟨u, rfl⟩
  obtain ⟨Y5, eY5⟩ : ∃ Y : va_W, Y = Y4 ++ oX3 cI cL p5 p5_1 := ⟨_, rfl⟩
  have hP : va_P (dC, dI) vwCl ((h0, .inr (10, [.ref p1, .ref p2, .ref p3, .ref p4, .ref qs, .null, .null, .null, .null, .null, .null, .null, .int 0])) :: (qs, .inl (cD, 8, .inr (.inr (.inr (.inr fun _ => none))))) :: Y5) H := by rw [eY5]; exact hP
  have hD : va_D A ((h0, .inr (10, [.ref p1, .ref p2, .ref p3, .ref p4, .ref qs, .null, .null, .null, .null, .null, .null, .null, .int 0])) :: (qs, .inl (cD, 8, .inr (.inr (.inr (.inr fun _ => none))))) :: Y5) := by rw [eY5]; exact hD
  refine va_putF (D := (dC, dI)) (ci := 10) (v := .ref p5) (ty := tyX10 5) (C := RX10) (T := TX10) (N := 13) hx hb hts (by decide +kernel) tyX10 tyX10_ok nmX10 hown hK hP hD hS 0 rfl rfl 5 (by decide) (hts (.fieldLink RX10 40 "CamStitch" "hem" "LCamStitch$Hem;") (by decide +kernel)) (fun _ h9 => h9) rfl hin rfl (by decide +kernel) rfl rfl (Nat.le_of_ble_eq_true rfl) dX10_init_65 (fun H locs hP hD hS => ?_)
  have hP : va_P (dC, dI) vwCl ((h0, .inr (10, [.ref p1, .ref p2, .ref p3, .ref p4, .ref qs, .ref p5, .null, .null, .null, .null, .null, .null, .int 0])) :: (qs, .inl (cD, 8, .inr (.inr (.inr (.inr fun _ => none))))) :: Y5) H := hP
  have hD : va_D A ((h0, .inr (10, [.ref p1, .ref p2, .ref p3, .ref p4, .ref qs, .ref p5, .null, .null, .null, .null, .null, .null, .int 0])) :: (qs, .inl (cD, 8, .inr (.inr (.inr (.inr fun _ => none))))) :: Y5) := hD
  refine lv_aload_n hx hb dX10_init_68 rfl (lv_at hl 0 rfl) ?_
  refine va_new (ci := 0) (fs := [.null, .int 0, .int 0, .int 0, .int 0]) (C := RX0) (T := TX0) (N := 5) hx hb hts (by decide +kernel) tyX0 tyX0_ok hown (hts (.classLink RX10 44 RX0) (by decide +kernel)) (hts (.instantiable RX0 5) (by decide +kernel)) (hts (.initialized RX0) (by decide +kernel)) hK hP hD hS hA rfl (fun j hj => by rcases (show j = 0 ∨ j = 1 ∨ j = 2 ∨ j = 3 ∨ j = 4 by omega) with rfl | rfl | rfl | rfl | rfl <;> rfl) (Nat.le_of_ble_eq_true rfl) (Nat.le_of_ble_eq_true rfl) dX10_init_69 (fun p6 H hP hD hS => ?_)
  refine lv_dup hx hb dX10_init_72 rfl ?_
  refine n_call (X := (h0, .inr (10, [.ref p1, .ref p2, .ref p3, .ref p4, .ref qs, .ref p5, .null, .null, .null, .null, .null, .null, .int 0])) :: (qs, .inl (cD, 8, .inr (.inr (.inr (.inr fun _ => none))))) :: Y5) (nw := fun u : Nat => oX0 cI cL p6 u) ⟨hx, hb, hml, hown, hts⟩ (n_X0 l dC dI cI cL cD cT p6 H.size) (cwI 0 hts gX10_init_X0_init rfl rfl rfl (hts (.initialized RX0) (by decide +kernel)) (hts (.methodLink RX10 46 yX0_init) (by decide +kernel)) (hts (.instanceMethod yX0_init) (by decide +kernel)) rfl (by decide +kernel) ⟨(Nat.le_of_ble_eq_true rfl), (Nat.le_of_ble_eq_true rfl)⟩) hKn hP hD hS hA hl.1 (lv_room (Nat.le_of_ble_eq_true rfl)) dX10_init_73 ⟨(Nat.le_of_ble_eq_true rfl), (Nat.le_of_ble_eq_true rfl)⟩ (fun u H locs hu hP hD hS => ?_)
  obtain ⟨p6_1, rfl⟩ : ∃ z, z = u := ⟨u, rfl⟩
  obtain ⟨Y6, eY6⟩ : ∃ Y : va_W, Y = Y5 ++ oX0 cI cL p6 p6_1 := ⟨_, rfl⟩
  have hP : va_P (dC, dI) vwCl ((h0, .inr (10, [.ref p1, .ref p2, .ref p3, .ref p4, .ref qs, .ref p5, .null, .null, .null, .null, .null, .null, .int 0])) :: (qs, .inl (cD, 8, .inr (.inr (.inr (.inr fun _ => none))))) :: Y6) H := by rw [eY6]; exact hP
  have hD : va_D A ((h0, .inr (10, [.ref p1, .ref p2, .ref p3, .ref p4, .ref qs, .ref p5, .null, .null, .null, .null, .null, .null, .int 0])) :: (qs, .inl (cD, 8, .inr (.inr (.inr (.inr fun _ => none))))) :: Y6) := by rw [eY6]; exact hD
  refine va_putF (D := (dC, dI)) (ci := 10) (v := .ref p6) (ty := tyX10 6) (C := RX10) (T := TX10) (N := 13) hx hb hts (by decide +kernel) tyX10 tyX10_ok nmX10 hown hK hP hD hS 0 rfl rfl 6 (by decide) (hts (.fieldLink RX10 47 "CamStitch" "bench" "LCamStitch$Bench;") (by decide +kernel)) (fun _ h9 => h9) rfl hin rfl (by decide +kernel) rfl rfl (Nat.le_of_ble_eq_true rfl) dX10_init_76 (fun H locs hP hD hS => ?_)
  have hP : va_P (dC, dI) vwCl ((h0, .inr (10, [.ref p1, .ref p2, .ref p3, .ref p4, .ref qs, .ref p5, .ref p6, .null, .null, .null, .null, .null, .int 0])) :: (qs, .inl (cD, 8, .inr (.inr (.inr (.inr fun _ => none))))) :: Y6) H := hP
  have hD : va_D A ((h0, .inr (10, [.ref p1, .ref p2, .ref p3, .ref p4, .ref qs, .ref p5, .ref p6, .null, .null, .null, .null, .null, .int 0])) :: (qs, .inl (cD, 8, .inr (.inr (.inr (.inr fun _ => none))))) :: Y6) := hD
  refine lv_aload_n hx hb dX10_init_79 rfl (lv_at hl 0 rfl) ?_
  refine va_new (ci := 4) (fs := [.null, .null, .int 0]) (C := RX4) (T := TX4) (N := 3) hx hb hts (by decide +kernel) tyX4 tyX4_ok hown (hts (.classLink RX10 51 RX4) (by decide +kernel)) (hts (.instantiable RX4 3) (by decide +kernel)) (hts (.initialized RX4) (by decide +kernel)) hK hP hD hS hA rfl (fun j hj => by rcases (show j = 0 ∨ j = 1 ∨ j = 2 by omega) with rfl | rfl | rfl <;> rfl) (Nat.le_of_ble_eq_true rfl) (Nat.le_of_ble_eq_true rfl) dX10_init_80 (fun p7 H hP hD hS => ?_)
  refine lv_dup hx hb dX10_init_83 rfl ?_
  refine n_callN (X := (h0, .inr (10, [.ref p1, .ref p2, .ref p3, .ref p4, .ref qs, .ref p5, .ref p6, .null, .null, .null, .null, .null, .int 0])) :: (qs, .inl (cD, 8, .inr (.inr (.inr (.inr fun _ => none))))) :: Y6) (nw := fun u : Nat × Nat => oX4 cI cL p7 u.1 u.2) ⟨hx, hb, hml, hown, hts⟩ (n_X4 l dC dI cI cL cD cT p7 H.size) ⟨va_cnB 0 hts gX10_init_X4_init_n53 rfl rfl rfl (hKn.2.1 (RX10, 53, yX4_init, "CamStitch") (by simp [nestN])) (hts (.initialized RX4) (by decide +kernel)) (by decide +kernel) ⟨(Nat.le_of_ble_eq_true rfl), (Nat.le_of_ble_eq_true rfl)⟩, rfl, (hts (.instanceMethod yX4_init) (by decide +kernel))⟩ hKn hP hD hS hA hl.1 (lv_room (Nat.le_of_ble_eq_true rfl)) dX10_init_84 ⟨(Nat.le_of_ble_eq_true rfl), (Nat.le_of_ble_eq_true rfl)⟩ (fun u H locs hu hP hD hS => ?_)
  obtain ⟨p7_1, p7_2⟩ := u
  obtain ⟨Y7, eY7⟩ : ∃ Y : va_W, Y = Y6 ++ oX4 cI cL p7 p7_1 p7_2 := ⟨_, rfl⟩
  have hP : va_P (dC, dI) vwCl ((h0, .inr (10, [.ref p1, .ref p2, .ref p3, .ref p4, .ref qs, .ref p5, .ref p6, .null, .null, .null, .null, .null, .int 0])) :: (qs, .inl (cD, 8, .inr (.inr (.inr (.inr fun _ => none))))) :: Y7) H := by rw [eY7]; exact hP
  have hD : va_D A ((h0, .inr (10, [.ref p1, .ref p2, .ref p3, .ref p4, .ref qs, .ref p5, .ref p6, .null, .null, .null, .null, .null, .int 0])) :: (qs, .inl (cD, 8, .inr (.inr (.inr (.inr fun _ => none))))) :: Y7) := by rw [eY7]; exact hD
  refine va_putF (D := (dC, dI)) (ci := 10) (v := .ref p7) (ty := tyX10 7) (C := RX10) (T := TX10) (N := 13) hx hb hts (by decide +kernel) tyX10 tyX10_ok nmX10 hown hK hP hD hS 0 rfl rfl 7 (by decide) (hts (.fieldLink RX10 54 "CamStitch" "job" "LCamStitch$Job;") (by decide +kernel)) (fun _ h9 => h9) rfl hin rfl (by decide +kernel) rfl rfl (Nat.le_of_ble_eq_true rfl) dX10_init_87 (fun H locs hP hD hS => ?_)
  have hP : va_P (dC, dI) vwCl ((h0, .inr (10, [.ref p1, .ref p2, .ref p3, .ref p4, .ref qs, .ref p5, .ref p6, .ref p7, .null, .null, .null, .null, .int 0])) :: (qs, .inl (cD, 8, .inr (.inr (.inr (.inr fun _ => none))))) :: Y7) H := hP
  have hD : va_D A ((h0, .inr (10, [.ref p1, .ref p2, .ref p3, .ref p4, .ref qs, .ref p5, .ref p6, .ref p7, .null, .null, .null, .null, .int 0])) :: (qs, .inl (cD, 8, .inr (.inr (.inr (.inr fun _ => none))))) :: Y7) := hD
  refine lv_aload_n hx hb dX10_init_90 rfl (lv_at hl 0 rfl) ?_
  refine va_new (ci := 8) (fs := [.null, .null, .int 0, .int 0, .int 0, .int 0, .int 0, .int 0, .int 0, .int 0, .int 0, .int 0, .int 0, .int 0]) (C := RX8) (T := TX8) (N := 14) hx hb hts (by decide +kernel) tyX8 tyX8_ok hown (hts (.classLink RX10 58 RX8) (by decide +kernel)) (hts (.instantiable RX8 14) (by decide +kernel)) (hts (.initialized RX8) (by decide +kernel)) hK hP hD hS hA rfl (fun j hj => by rcases (show j = 0 ∨ j = 1 ∨ j = 2 ∨ j = 3 ∨ j = 4 ∨ j = 5 ∨ j = 6 ∨ j = 7 ∨ j = 8 ∨ j = 9 ∨ j = 10 ∨ j = 11 ∨ j = 12 ∨ j = 13 by omega) with rfl | rfl | rfl | rfl | rfl | rfl | rfl | rfl | rfl | rfl | rfl | rfl | rfl | rfl <;> rfl) (Nat.le_of_ble_eq_true rfl) (Nat.le_of_ble_eq_true rfl) dX10_init_91 (fun p8 H hP hD hS => ?_)
  refine lv_dup hx hb dX10_init_94 rfl ?_
  refine n_callN (X := (h0, .inr (10, [.ref p1, .ref p2, .ref p3, .ref p4, .ref qs, .ref p5, .ref p6, .ref p7, .null, .null, .null, .null, .int 0])) :: (qs, .inl (cD, 8, .inr (.inr (.inr (.inr fun _ => none))))) :: Y7) (nw := fun u : Nat × Nat => oX8 cI cL p8 u.1 u.2) ⟨hx, hb, hml, hown, hts⟩ (n_X8 l dC dI cI cL cD cT p8 H.size) ⟨va_cnB 0 hts gX10_init_X8_init_n60 rfl rfl rfl (hKn.2.1 (RX10, 60, yX8_init, "CamStitch") (by simp [nestN])) (hts (.initialized RX8) (by decide +kernel)) (by decide +kernel) ⟨(Nat.le_of_ble_eq_true rfl), (Nat.le_of_ble_eq_true rfl)⟩, rfl, (hts (.instanceMethod yX8_init) (by decide +kernel))⟩ hKn hP hD hS hA hl.1 (lv_room (Nat.le_of_ble_eq_true rfl)) dX10_init_95 ⟨(Nat.le_of_ble_eq_true rfl), (Nat.le_of_ble_eq_true rfl)⟩ (fun u H locs hu hP hD hS => ?_)
  obtain ⟨p8_1, p8_2⟩ := u
  obtain ⟨Y8, eY8⟩ : ∃ Y : va_W, Y = Y7 ++ oX8 cI cL p8 p8_1 p8_2 := ⟨_, rfl⟩
  have hP : va_P (dC, dI) vwCl ((h0, .inr (10, [.ref p1, .ref p2, .ref p3, .ref p4, .ref qs, .ref p5, .ref p6, .ref p7, .null, .null, .null, .null, .int 0])) :: (qs, .inl (cD, 8, .inr (.inr (.inr (.inr fun _ => none))))) :: Y8) H := by rw [eY8]; exact hP
  have hD : va_D A ((h0, .inr (10, [.ref p1, .ref p2, .ref p3, .ref p4, .ref qs, .ref p5, .ref p6, .ref p7, .null, .null, .null, .null, .int 0])) :: (qs, .inl (cD, 8, .inr (.inr (.inr (.inr fun _ => none))))) :: Y8) := by rw [eY8]; exact hD
  refine va_putF (D := (dC, dI)) (ci := 10) (v := .ref p8) (ty := tyX10 8) (C := RX10) (T := TX10) (N := 13) hx hb hts (by decide +kernel) tyX10 tyX10_ok nmX10 hown hK hP hD hS 0 rfl rfl 8 (by decide) (hts (.fieldLink RX10 61 "CamStitch" "seam" "LCamStitch$Seam;") (by decide +kernel)) (fun _ h9 => h9) rfl hin rfl (by decide +kernel) rfl rfl (Nat.le_of_ble_eq_true rfl) dX10_init_98 (fun H locs hP hD hS => ?_)
  have hP : va_P (dC, dI) vwCl ((h0, .inr (10, [.ref p1, .ref p2, .ref p3, .ref p4, .ref qs, .ref p5, .ref p6, .ref p7, .ref p8, .null, .null, .null, .int 0])) :: (qs, .inl (cD, 8, .inr (.inr (.inr (.inr fun _ => none))))) :: Y8) H := hP
  have hD : va_D A ((h0, .inr (10, [.ref p1, .ref p2, .ref p3, .ref p4, .ref qs, .ref p5, .ref p6, .ref p7, .ref p8, .null, .null, .null, .int 0])) :: (qs, .inl (cD, 8, .inr (.inr (.inr (.inr fun _ => none))))) :: Y8) := hD
  refine lv_aload_n hx hb dX10_init_101 rfl (lv_at hl 0 rfl) ?_
  refine va_new (ci := 7) (fs := [.int 0]) (C := RX7) (T := TX7) (N := 1) hx hb hts (by decide +kernel) tyX7 tyX7_ok hown (hts (.classLink RX10 65 RX7) (by decide +kernel)) (hts (.instantiable RX7 1) (by decide +kernel)) (hts (.initialized RX7) (by decide +kernel)) hK hP hD hS hA rfl (fun j hj => by rcases (show j = 0 by omega) with rfl <;> rfl) (Nat.le_of_ble_eq_true rfl) (Nat.le_of_ble_eq_true rfl) dX10_init_102 (fun p9 H hP hD hS => ?_)
  refine lv_dup hx hb dX10_init_105 rfl ?_
  refine n_callN (X := (h0, .inr (10, [.ref p1, .ref p2, .ref p3, .ref p4, .ref qs, .ref p5, .ref p6, .ref p7, .ref p8, .null, .null, .null, .int 0])) :: (qs, .inl (cD, 8, .inr (.inr (.inr (.inr fun _ => none))))) :: Y8) (nw := fun u : Unit => oX7 cI cL p9 ) ⟨hx, hb, hml, hown, hts⟩ (n_X7 l dC dI cI cL cD cT p9 H.size) ⟨va_cnB 0 hts gX10_init_X7_init_n67 rfl rfl rfl (hKn.2.1 (RX10, 67, yX7_init, "CamStitch") (by simp [nestN])) (hts (.initialized RX7) (by decide +kernel)) (by decide +kernel) ⟨(Nat.le_of_ble_eq_true rfl), (Nat.le_of_ble_eq_true rfl)⟩, rfl, (hts (.instanceMethod yX7_init) (by decide +kernel))⟩ hKn hP hD hS hA hl.1 (lv_room (Nat.le_of_ble_eq_true rfl)) dX10_init_106 ⟨(Nat.le_of_ble_eq_true rfl), (Nat.le_of_ble_eq_true rfl)⟩ (fun u H locs hu hP hD hS => ?_)
  obtain ⟨Y9, eY9⟩ : ∃ Y : va_W, Y = Y8 ++ oX7 cI cL p9 := ⟨_, rfl⟩
  have hP : va_P (dC, dI) vwCl ((h0, .inr (10, [.ref p1, .ref p2, .ref p3, .ref p4, .ref qs, .ref p5, .ref p6, .ref p7, .ref p8, .null, .null, .null, .int 0])) :: (qs, .inl (cD, 8, .inr (.inr (.inr (.inr fun _ => none))))) :: Y9) H := by rw [eY9]; exact hP
  have hD : va_D A ((h0, .inr (10, [.ref p1, .ref p2, .ref p3, .ref p4, .ref qs, .ref p5, .ref p6, .ref p7, .ref p8, .null, .null, .null, .int 0])) :: (qs, .inl (cD, 8, .inr (.inr (.inr (.inr fun _ => none))))) :: Y9) := by rw [eY9]; exact hD
  refine va_putF (D := (dC, dI)) (ci := 10) (v := .ref p9) (ty := tyX10 9) (C := RX10) (T := TX10) (N := 13) hx hb hts (by decide +kernel) tyX10 tyX10_ok nmX10 hown hK hP hD hS 0 rfl rfl 9 (by decide) (hts (.fieldLink RX10 68 "CamStitch" "rim" "LCamStitch$Rim;") (by decide +kernel)) (fun _ h9 => h9) rfl hin rfl (by decide +kernel) rfl rfl (Nat.le_of_ble_eq_true rfl) dX10_init_109 (fun H locs hP hD hS => ?_)
  have hP : va_P (dC, dI) vwCl ((h0, .inr (10, [.ref p1, .ref p2, .ref p3, .ref p4, .ref qs, .ref p5, .ref p6, .ref p7, .ref p8, .ref p9, .null, .null, .int 0])) :: (qs, .inl (cD, 8, .inr (.inr (.inr (.inr fun _ => none))))) :: Y9) H := hP
  have hD : va_D A ((h0, .inr (10, [.ref p1, .ref p2, .ref p3, .ref p4, .ref qs, .ref p5, .ref p6, .ref p7, .ref p8, .ref p9, .null, .null, .int 0])) :: (qs, .inl (cD, 8, .inr (.inr (.inr (.inr fun _ => none))))) :: Y9) := hD
  refine lv_aload_n hx hb dX10_init_112 rfl (lv_at hl 0 rfl) ?_
  refine va_new (ci := 2) (fs := [.null, .null, .int 0, .int 0, .int 0, .null, .null, .int 0]) (C := RX2) (T := TX2) (N := 8) hx hb hts (by decide +kernel) tyX2 tyX2_ok hown (hts (.classLink RX10 72 RX2) (by decide +kernel)) (hts (.instantiable RX2 8) (by decide +kernel)) (hts (.initialized RX2) (by decide +kernel)) hK hP hD hS hA rfl (fun j hj => by rcases (show j = 0 ∨ j = 1 ∨ j = 2 ∨ j = 3 ∨ j = 4 ∨ j = 5 ∨ j = 6 ∨ j = 7 by omega) with rfl | rfl | rfl | rfl | rfl | rfl | rfl | rfl <;> rfl) (Nat.le_of_ble_eq_true rfl) (Nat.le_of_ble_eq_true rfl) dX10_init_113 (fun p10 H hP hD hS => ?_)
  refine lv_dup hx hb dX10_init_116 rfl ?_
  refine n_callN (X := (h0, .inr (10, [.ref p1, .ref p2, .ref p3, .ref p4, .ref qs, .ref p5, .ref p6, .ref p7, .ref p8, .ref p9, .null, .null, .int 0])) :: (qs, .inl (cD, 8, .inr (.inr (.inr (.inr fun _ => none))))) :: Y9) (nw := fun u : Nat × Nat × Nat × Nat => oX2 cI cL p10 u.1 u.2.1 u.2.2.1 u.2.2.2) ⟨hx, hb, hml, hown, hts⟩ (n_X2 l dC dI cI cL cD cT p10 H.size) ⟨va_cnB 0 hts gX10_init_X2_init_n74 rfl rfl rfl (hKn.2.1 (RX10, 74, yX2_init, "CamStitch") (by simp [nestN])) (hts (.initialized RX2) (by decide +kernel)) (by decide +kernel) ⟨(Nat.le_of_ble_eq_true rfl), (Nat.le_of_ble_eq_true rfl)⟩, rfl, (hts (.instanceMethod yX2_init) (by decide +kernel))⟩ hKn hP hD hS hA hl.1 (lv_room (Nat.le_of_ble_eq_true rfl)) dX10_init_117 ⟨(Nat.le_of_ble_eq_true rfl), (Nat.le_of_ble_eq_true rfl)⟩ (fun u H locs hu hP hD hS => ?_)
  obtain ⟨p10_1, p10_2, p10_3, p10_4⟩ := u
  obtain ⟨Y10, eY10⟩ : ∃ Y : va_W, Y = Y9 ++ oX2 cI cL p10 p10_1 p10_2 p10_3 p10_4 := ⟨_, rfl⟩
  have hP : va_P (dC, dI) vwCl ((h0, .inr (10, [.ref p1, .ref p2, .ref p3, .ref p4, .ref qs, .ref p5, .ref p6, .ref p7, .ref p8, .ref p9, .null, .null, .int 0])) :: (qs, .inl (cD, 8, .inr (.inr (.inr (.inr fun _ => none))))) :: Y10) H := by rw [eY10]; exact hP
  have hD : va_D A ((h0, .inr (10, [.ref p1, .ref p2, .ref p3, .ref p4, .ref qs, .ref p5, .ref p6, .ref p7, .ref p8, .ref p9, .null, .null, .int 0])) :: (qs, .inl (cD, 8, .inr (.inr (.inr (.inr fun _ => none))))) :: Y10) := by rw [eY10]; exact hD
  refine va_putF (D := (dC, dI)) (ci := 10) (v := .ref p10) (ty := tyX10 10) (C := RX10) (T := TX10) (N := 13) hx hb hts (by decide +kernel) tyX10 tyX10_ok nmX10 hown hK hP hD hS 0 rfl rfl 10 (by decide) (hts (.fieldLink RX10 75 "CamStitch" "faults" "LCamStitch$Faults;") (by decide +kernel)) (fun _ h9 => h9) rfl hin rfl (by decide +kernel) rfl rfl (Nat.le_of_ble_eq_true rfl) dX10_init_120 (fun H locs hP hD hS => ?_)
  have hP : va_P (dC, dI) vwCl ((h0, .inr (10, [.ref p1, .ref p2, .ref p3, .ref p4, .ref qs, .ref p5, .ref p6, .ref p7, .ref p8, .ref p9, .ref p10, .null, .int 0])) :: (qs, .inl (cD, 8, .inr (.inr (.inr (.inr fun _ => none))))) :: Y10) H := hP
  have hD : va_D A ((h0, .inr (10, [.ref p1, .ref p2, .ref p3, .ref p4, .ref qs, .ref p5, .ref p6, .ref p7, .ref p8, .ref p9, .ref p10, .null, .int 0])) :: (qs, .inl (cD, 8, .inr (.inr (.inr (.inr fun _ => none))))) :: Y10) := hD
  refine lv_aload_n hx hb dX10_init_123 rfl (lv_at hl 0 rfl) ?_
  refine lv_bipush (v := 6) hx hb dX10_init_124 (by decide) ?_
  refine n_newq (C := RX9) hx hb hown (hts (.classLink RX10 79 RX9) (by decide +kernel)) hKn.2.2.2 hK 3 rfl hP hD hS hA (n := 6) (N' := 6) (by decide) rfl (Nat.le_of_ble_eq_true rfl) (Nat.le_of_ble_eq_true rfl) (Nat.le_of_ble_eq_true rfl) dX10_init_126 (fun qt H hP hD hS => ?_)
  obtain ⟨hP, hD⟩ := n_rot2 (Y := Y10) hP hD
  refine va_putF (D := (dC, dI)) (ci := 10) (v := .ref qt) (ty := tyX10 11) (C := RX10) (T := TX10) (N := 13) hx hb hts (by decide +kernel) tyX10 tyX10_ok nmX10 hown hK hP hD hS 0 rfl rfl 11 (by decide) (hts (.fieldLink RX10 81 "CamStitch" "tapes" "[LCamStitch$Tape;") (by decide +kernel)) (fun _ h9 => h9) rfl hin rfl (by decide +kernel) rfl rfl (Nat.le_of_ble_eq_true rfl) dX10_init_129 (fun H locs hP hD hS => ?_)
  have hP : va_P (dC, dI) vwCl ((h0, .inr (10, [.ref p1, .ref p2, .ref p3, .ref p4, .ref qs, .ref p5, .ref p6, .ref p7, .ref p8, .ref p9, .ref p10, .ref qt, .int 0])) :: (qs, .inl (cD, 8, .inr (.inr (.inr (.inr fun _ => none))))) :: (qt, .inl (cT, 6, .inr (.inr (.inr (.inr fun _ => none))))) :: Y10) H := hP
  have hD : va_D A ((h0, .inr (10, [.ref p1, .ref p2, .ref p3, .ref p4, .ref qs, .ref p5, .ref p6, .ref p7, .ref p8, .ref p9, .ref p10, .ref qt, .int 0])) :: (qs, .inl (cD, 8, .inr (.inr (.inr (.inr fun _ => none))))) :: (qt, .inl (cT, 6, .inr (.inr (.inr (.inr fun _ => none))))) :: Y10) := hD
  refine lv_iconst (v := 0) hx hb dX10_init_132 (by decide) ?_
  refine lv_istore_n (lv' := [(1, .int 0), (0, .ref h0)]) hx hb dX10_init_133 rfl hl (by decide) rfl (fun ls hl => ?_)
  have hl : lv_has ls 2 [(0, .ref h0), (1, .int (nI 0))] := by rw [show nI 0 = (0 : Int32) from by decide]; exact lv_sub hl [1, 0] rfl
  have eF0 : (fun _ : Nat => (none : Option Nat)) = fun j => (([] : List (Nat × Nat × Nat))[j]?).map (fun d => d.1) := by funext j; simp
  have eF1 : (fun _ : Nat => (none : Option Nat)) = fun j => (([] : List (Nat × Nat × Nat × Nat × Nat))[j]?).map (fun d => d.1) := by funext j; simp
  refine W.widen (k := 33) (n := 2169) (Nat.le_of_ble_eq_true rfl) (Nat.le_of_ble_eq_true rfl) ?_
  refine n_L134 (l := l) (dC := dC) (dI := dI) (fs := [.ref p1, .ref p2, .ref p3, .ref p4, .ref qs, .ref p5, .ref p6, .ref p7, .ref p8, .ref p9, .ref p10, .ref qt, .int 0]) (qa := qs) (eT := (qt, .inl (cT, 6, .inr (.inr (.inr (.inr fun _ => none)))))) (Y0 := Y10) (C0 := 33) (Z0 := 2169) hx hb hml hown hts hKn hA (Nat.le_of_ble_eq_true rfl) (Nat.le_of_ble_eq_true rfl) rfl (Nat.le_of_ble_eq_true rfl) (Nat.le_of_ble_eq_true rfl) (fun ds H locs ls hds hP hD hS hl => ?_) 8 0 [] H locs ls rfl rfl (by rw [List.flatMap_nil, List.append_nil, ← eF0]; exact hP) (by rw [List.flatMap_nil, List.append_nil, ← eF0]; exact hD) hS hl
  refine lv_iconst (v := 0) hx hb dX10_init_159 (by decide) ?_
  refine lv_istore_n (lv' := [(1, .int 0), (0, .ref h0)]) hx hb dX10_init_160 rfl hl (by decide) rfl (fun ls hl => ?_)
  have hl : lv_has ls 2 [(0, .ref h0), (1, .int (nI 0))] := by rw [show nI 0 = (0 : Int32) from by decide]; exact lv_sub hl [1, 0] rfl
  refine W.widen (k := 57) (n := 2961) (Nat.le_of_ble_eq_true rfl) (Nat.le_of_ble_eq_true rfl) ?_
  refine n_L161 (l := l) (dC := dC) (dI := dI) (fs := [.ref p1, .ref p2, .ref p3, .ref p4, .ref qs, .ref p5, .ref p6, .ref p7, .ref p8, .ref p9, .ref p10, .ref qt, .int 0]) (qa := qt) (eT := (qs, .inl (cD, 8, .inr (.inr (.inr (.inr fun j => (ds[j]?).map (fun d => d.1))))))) (Y0 := Y10 ++ ds.flatMap (dX1 cI cL)) (C0 := 57) (Z0 := 2961) hx hb hml hown hts hKn hA (Nat.le_of_ble_eq_true rfl) (Nat.le_of_ble_eq_true rfl) rfl (Nat.le_of_ble_eq_true rfl) (Nat.le_of_ble_eq_true rfl) (fun ts H locs ls hts' hP hD hS hl => ?_) 6 0 [] H locs ls rfl rfl (by rw [List.flatMap_nil, List.append_nil, ← eF1]; exact hP) (by rw [List.flatMap_nil, List.append_nil, ← eF1]; exact hD) hS hl
  obtain ⟨d0, ds0, rfl, hu0⟩ := len_s hds
  obtain ⟨d1, ds1, rfl, hu1⟩ := len_s hu0
  obtain ⟨d2, ds2, rfl, hu2⟩ := len_s hu1
  obtain ⟨d3, ds3, rfl, hu3⟩ := len_s hu2
  obtain ⟨d4, ds4, rfl, hu4⟩ := len_s hu3
  obtain ⟨d5, ds5, rfl, hu5⟩ := len_s hu4
  obtain ⟨d6, ds6, rfl, hu6⟩ := len_s hu5
  obtain ⟨d7, ds7, rfl, hu7⟩ := len_s hu6
  obtain rfl := List.length_eq_zero_iff.mp hu7
  obtain ⟨t0, ts0, rfl, hw0⟩ := len_s hts'
  obtain ⟨t1, ts1, rfl, hw1⟩ := len_s hw0
  obtain ⟨t2, ts2, rfl, hw2⟩ := len_s hw1
  obtain ⟨t3, ts3, rfl, hw3⟩ := len_s hw2
  obtain ⟨t4, ts4, rfl, hw4⟩ := len_s hw3
  obtain ⟨t5, ts5, rfl, hw5⟩ := len_s hw4
  obtain rfl := List.length_eq_zero_iff.mp hw5
  subst eY10 eY9 eY8 eY7 eY6 eY5 eY4 eY3 eY2 eY1
  obtain ⟨ad, ead⟩ : ∃ ad : Nat → Nat, ad = fun o => [d0.1, d0.2.1, d0.2.2, d1.1, d1.2.1, d1.2.2, d2.1, d2.2.1, d2.2.2, d3.1, d3.2.1, d3.2.2, d4.1, d4.2.1, d4.2.2, d5.1, d5.2.1, d5.2.2, d6.1, d6.2.1, d6.2.2, d7.1, d7.2.1, d7.2.2, t0.2.2.1, t0.2.2.2.1, t0.2.2.2.2, t1.2.2.1, t1.2.2.2.1, t1.2.2.2.2, t2.2.2.1, t2.2.2.2.1, t2.2.2.2.2, t3.2.2.1, t3.2.2.2.1, t3.2.2.2.2, t4.2.2.1, t4.2.2.2.1, t4.2.2.2.2, t5.2.2.1, t5.2.2.2.1, t5.2.2.2.2, p3, p3_1, p3_2, p4, p4_1, p4_2, t0.1, t0.2.1, t1.1, t1.2.1, t2.1, t2.2.1, t3.1, t3.2.1, t4.1, t4.2.1, t5.1, t5.2.1, p1, p1_1, p1_2, p2_1, p2_2, p2_3, h0, p2, p2_4, p2_5, qs, qt, p5, p5_1, p6, p6_1, p7, p7_1, p7_2, p8, p8_1, p8_2, p9, p10, p10_1, p10_2, p10_3, p10_4].getD o 0 := ⟨_, rfl⟩
  have k0 : ∀ j, j < 8 → (fun j => ([d0, d1, d2, d3, d4, d5, d6, d7][j]?).map (fun d => d.1)) j = (fun j => some (ad (3 * j))) j := by
    subst ead; intro j hj
    rcases (show j = 0 ∨ j = 1 ∨ j = 2 ∨ j = 3 ∨ j = 4 ∨ j = 5 ∨ j = 6 ∨ j = 7 by omega) with rfl | rfl | rfl | rfl | rfl | rfl | rfl | rfl <;> rfl
  have k1 : ∀ j, j < 6 → (fun j => ([t0, t1, t2, t3, t4, t5][j]?).map (fun d => d.1)) j = (fun j => some (ad (48 + 2 * j))) j := by
    subst ead; intro j hj
    rcases (show j = 0 ∨ j = 1 ∨ j = 2 ∨ j = 3 ∨ j = 4 ∨ j = 5 by omega) with rfl | rfl | rfl | rfl | rfl | rfl <;> rfl
  obtain ⟨hP, hD⟩ := n_swap (k := 1) hP hD rfl k0
  obtain ⟨hP, hD⟩ := n_swap (k := 2) hP hD rfl k1
  have hP9 := hP.sub (ws' := (List.range 88).map (fun o => (ad o, eC ad cI cL cD cT W0C o))) [34, 35, 36, 37, 38, 39, 40, 41, 42, 43, 44, 45, 46, 47, 48, 49, 50, 51, 52, 53, 54, 55, 56, 57, 60, 61, 62, 65, 66, 67, 70, 71, 72, 75, 76, 77, 80, 81, 82, 85, 86, 87, 12, 13, 14, 15, 16, 17, 58, 59, 63, 64, 68, 69, 73, 74, 78, 79, 83, 84, 3, 4, 5, 7, 8, 9, 0, 6, 10, 11, 1, 2, 18, 19, 20, 21, 22, 23, 24, 25, 26, 27, 28, 29, 30, 31, 32, 33] (by subst ead; rfl)
  have hD9 := hD.sub (ws' := (List.range 88).map (fun o => (ad o, eC ad cI cL cD cT W0C o))) [34, 35, 36, 37, 38, 39, 40, 41, 42, 43, 44, 45, 46, 47, 48, 49, 50, 51, 52, 53, 54, 55, 56, 57, 60, 61, 62, 65, 66, 67, 70, 71, 72, 75, 76, 77, 80, 81, 82, 85, 86, 87, 12, 13, 14, 15, 16, 17, 58, 59, 63, 64, 68, 69, 73, 74, 78, 79, 83, 84, 3, 4, 5, 7, 8, 9, 0, 6, 10, 11, 1, 2, 18, 19, 20, 21, 22, 23, 24, 25, 26, 27, 28, 29, 30, 31, 32, 33] (by decide +kernel) (by subst ead; rfl)
  have h66 : ad 66 = h0 := by subst ead; rfl
  refine W.widen (k := 87) (n := 5979) (Nat.le_of_ble_eq_true rfl) (Nat.le_of_ble_eq_true rfl) ?_
  exact W.vret hx hb hr (fun t ht hW => ⟨⟨ad, rfl, h66, by rw [ht]; exact hP9, hD9⟩, hS.F ht⟩) hS.2.2 dX10_init_186
