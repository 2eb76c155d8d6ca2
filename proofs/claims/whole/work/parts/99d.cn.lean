/-! ===== CamStitch() (99d: by wip/gen/cn10.py) ===== -/
theorem n_astq' {α : Type} (g : α → Nat) {f : Nat → Option Nat} {ds : List α} {k : Nat} {d : α} (hf : f = fun j => (ds[j]?).map g) (hk : ds.length = k) : va_up f k (some (g d)) = fun j => ((ds ++ [d])[j]?).map g := by
  subst hf; subst hk
  funext j
  by_cases q : j = ds.length
  · subst q
    rw [va_up_self]; simp
  · rw [va_up_ne _ _ q]
    by_cases h : j < ds.length
    · rw [List.getElem?_append_left h]
    · rw [List.getElem?_eq_none (by omega), List.getElem?_eq_none (by simp; omega)]
theorem n_swap {D : va_G} {cl : List vw_C} {A : Nat → Prop} {ws : va_W} {H : Heap} {k a n : Nat} {cA : ClassId} {f g : Nat → Option Nat} (hP : va_P D cl ws H) (hD : va_D A ws) (hk : ws[k]? = some (a, .inl (cA, n, .inr (.inr (.inr (.inr f)))))) (hf : ∀ j, j < n → f j = g j) : va_P D cl (ws.set k (a, .inl (cA, n, .inr (.inr (.inr (.inr g)))))) H ∧ va_D A (ws.set k (a, .inl (cA, n, .inr (.inr (.inr (.inr g)))))) := by
  refine ⟨fun i x hx => ?_, hD.set hk⟩
  rw [List.getElem?_set] at hx
  split at hx
  · split at hx
    · cases hx
      have h := hP k _ hk
      have e : vp_cell cA (n, .inr (.inr (.inr (.inr f)))) = vp_cell cA (n, .inr (.inr (.inr (.inr g)))) := by
        rw [vp_cell_q, vp_cell_q]
        unfold arrV
        congr 1
        congr 1
        funext j
        show va_rf (f j.val) = va_rf (g j.val)
        rw [hf j.val j.isLt]
      show H[a]? = some (vp_cell cA (n, .inr (.inr (.inr (.inr g)))))
      rw [← e]; exact h
    · exact absurd hx (by simp)
  · exact hP i x hx
abbrev dX1 (cI cL : ClassId) (d : Nat × Nat × Nat) : va_W := oX1 cI cL d.1 d.2.1 d.2.2
abbrev dX9 (cI cL : ClassId) (d : Nat × Nat × Nat × Nat × Nat) : va_W := oX9 cI cL d.1 d.2.1 d.2.2.1 d.2.2.2.1 d.2.2.2.2
set_option maxHeartbeats 4000000 in
set_option maxRecDepth 100000 in
theorem n_L134 {p : Program} {l : Launch} {e : Env} {R : Room} {s : State} {m : MethodId} {args : Array Value} {below : List Frame} {meth : Method} {c : Code} {H0 : Heap} {A : Nat → Prop} {Q : State → Prop} {dC : Nat → ClassId} {dI : Nat → Nat → Nat} {cI cL cD cT : ClassId} (hx : p.tables.exec = Jvm.exec) (hb : c.code = cX10_init) (hml : c.maxLocals = 2) (hown : s.vm.findClass RX10 = some m.cls) (hts : ∀ w ∈ wsX10_init, w.before args s = true) (hKn : nK (dC, dI) (nT cI cL cD cT) s) (hA : ∀ q, H0.size ≤ q → A q) (hRf : 3 ≤ R.frames) (hRl : 52 ≤ R.locals) {h0 qa : Nat} {fs : List Value} (hfs : fs[4]? = some (.ref qa)) {eT : Nat × va_E} {Y0 : va_W} {C0 Z0 : Nat} (hRc : C0 + 24 ≤ R.cells) (hRs : Z0 + 792 ≤ R.slots)
    (kk : ∀ (ds : List (Nat × Nat × Nat)) (H : Heap) (locs : List Loc) (ls : Array Slot), ds.length = 8 → va_P (dC, dI) vwCl ((h0, .inr (10, fs)) :: (qa, .inl (cD, 8, .inr (.inr (.inr (.inr (fun j => (ds[j]?).map (fun d => d.1))))))) :: eT :: (Y0 ++ ds.flatMap (dX1 cI cL))) H → va_D A ((h0, .inr (10, fs)) :: (qa, .inl (cD, 8, .inr (.inr (.inr (.inr (fun j => (ds[j]?).map (fun d => d.1))))))) :: eT :: (Y0 ++ ds.flatMap (dX1 cI cL))) → va_S A H0 H locs → lv_has ls 2 [(0, .ref h0)] → W p l e R s m args below meth c H locs (C0 + 24) (Z0 + 792) Q (F0 m 159 ls [])) :
    ∀ (r k : Nat) (ds : List (Nat × Nat × Nat)) (H : Heap) (locs : List Loc) (ls : Array Slot), k + r = 8 → ds.length = k → va_P (dC, dI) vwCl ((h0, .inr (10, fs)) :: (qa, .inl (cD, 8, .inr (.inr (.inr (.inr (fun j => (ds[j]?).map (fun d => d.1))))))) :: eT :: (Y0 ++ ds.flatMap (dX1 cI cL))) H → va_D A ((h0, .inr (10, fs)) :: (qa, .inl (cD, 8, .inr (.inr (.inr (.inr (fun j => (ds[j]?).map (fun d => d.1))))))) :: eT :: (Y0 ++ ds.flatMap (dX1 cI cL))) → va_S A H0 H locs → lv_has ls 2 [(0, .ref h0), (1, .int (nI k))] → W p l e R s m args below meth c H locs (C0 + 3 * k) (Z0 + 99 * k) Q (F0 m 134 ls []) := by
  have hK := hKn.1
  intro r
  induction r with
  | zero =>
    intro k ds H locs ls hk hds hP hD hS hl
    obtain rfl : k = 8 := by omega
    refine lv_iload_n hx hb dX10_init_134 rfl (lv_at hl 1 rfl) ?_
    refine lv_bipush (v := 8) hx hb dX10_init_135 (by decide) ?_
    refine lv_icmp_ge (tgt := 159) hx hb dX10_init_137 (by decide) (fun _ => ?_) (fun z => absurd (show (8 : Int32) ≤ nI 8 by decide) z)
    exact W.widen (k := C0 + 24) (n := Z0 + 792) (by omega) (by omega) (kk ds H locs ls hds hP hD hS (lv_sub hl [0] rfl))
  | succ r ih =>
    intro k ds H locs ls hk hds hP hD hS hl
    refine lv_iload_n hx hb dX10_init_134 rfl (lv_at hl 1 rfl) ?_
    refine lv_bipush (v := 8) hx hb dX10_init_135 (by decide) ?_
    refine lv_icmp_ge (tgt := 159) hx hb dX10_init_137 (by decide) (fun z => absurd z (by rw [nI_lit 8, nI_leI (by omega) (by omega)]; omega)) (fun _ => ?_)
    refine lv_aload_n hx hb dX10_init_140 rfl (lv_at hl 0 rfl) ?_
    refine va_get (D := (dC, dI)) (ci := 10) (v := .ref qa) (C := RX10) (T := TX10) (N := 13) hx hb hts (by decide +kernel) hown hK hP 0 rfl rfl 4 (by decide) (hts (.fieldLink RX10 33 "CamStitch" "shelves" "[LCamStitch$Disc;") (by decide +kernel)) (fun _ h9 => h9) hfs dX10_init_141 ?_
    refine lv_iload_n hx hb dX10_init_144 rfl (lv_at hl 1 rfl) ?_
    refine va_new (ci := 1) (fs := [.null, .null, .int 0]) (C := RX1) (T := TX1) (N := 3) hx hb hts (by decide +kernel) tyX1 tyX1_ok hown (hts (.classLink RX10 23 RX1) (by decide +kernel)) (hts (.instantiable RX1 3) (by decide +kernel)) (hts (.initialized RX1) (by decide +kernel)) hK hP hD hS hA rfl (fun j hj => by rcases (show j = 0 ∨ j = 1 ∨ j = 2 by omega) with rfl | rfl | rfl <;> rfl) (by omega) (by omega) dX10_init_145 (fun q H hP hD hS => ?_)
    refine lv_dup hx hb dX10_init_148 rfl ?_
    refine n_callN (X := (h0, .inr (10, fs)) :: (qa, .inl (cD, 8, .inr (.inr (.inr (.inr (fun j => (ds[j]?).map (fun d => d.1))))))) :: eT :: (Y0 ++ ds.flatMap (dX1 cI cL))) (nw := fun u : Nat × Nat => oX1 cI cL q u.1 u.2) ⟨hx, hb, hml, hown, hts⟩ (n_X1 l dC dI cI cL cD cT q H.size) ⟨va_cnB 0 hts gX10_init_X1_init_n25 rfl rfl rfl (hKn.2.1 (RX10, 25, yX1_init, "CamStitch") (by simp [nestN])) (hts (.initialized RX1) (by decide +kernel)) (by decide +kernel) ⟨Nat.le_trans (Nat.le_of_ble_eq_true rfl) hRf, Nat.le_trans (Nat.le_of_ble_eq_true rfl) hRl⟩, rfl, (hts (.instanceMethod yX1_init) (by decide +kernel))⟩ hKn hP hD hS hA hl.1 (lv_room (Nat.le_of_ble_eq_true rfl)) dX10_init_149 ⟨by show C0 + 3 * k + 1 + 2 ≤ R.cells; omega, by show Z0 + 99 * k + 3 + 96 ≤ R.slots; omega⟩ (fun u H locs hu hP hD hS => ?_)
    obtain ⟨a1, a2⟩ := u
    refine va_astq hx hb hK hP hD hS 1 2 ((Y0 ++ ds.flatMap (dX1 cI cL)).length + 3) 1 (vs := [.ref a1, .ref a2, .int 0]) rfl rfl (by simp [oX1]) rfl (vp_in_nI (by omega) (by decide)) dX10_init_152 (fun H locs hP hD hS => ?_)
    have eF : va_up (fun j => (ds[j]?).map (fun d => d.1)) (nI k).toNatClampNeg (some q) = fun j => ((ds ++ [(q, a1, a2)])[j]?).map (fun d => d.1) := by
      rw [nI_clamp (by omega)]
      exact n_astq' (fun d => d.1) (d := (q, a1, a2)) rfl hds
    have eY : (Y0 ++ ds.flatMap (dX1 cI cL)) ++ oX1 cI cL q a1 a2 = Y0 ++ (ds ++ [(q, a1, a2)]).flatMap (dX1 cI cL) := by
      rw [List.flatMap_append, List.append_assoc]
      rfl
    have hP : va_P (dC, dI) vwCl ((h0, .inr (10, fs)) :: (qa, .inl (cD, 8, .inr (.inr (.inr (.inr (va_up (fun j => (ds[j]?).map (fun d => d.1)) (nI k).toNatClampNeg (some q))))))) :: eT :: ((Y0 ++ ds.flatMap (dX1 cI cL)) ++ oX1 cI cL q a1 a2)) H := hP
    have hD : va_D A ((h0, .inr (10, fs)) :: (qa, .inl (cD, 8, .inr (.inr (.inr (.inr (va_up (fun j => (ds[j]?).map (fun d => d.1)) (nI k).toNatClampNeg (some q))))))) :: eT :: ((Y0 ++ ds.flatMap (dX1 cI cL)) ++ oX1 cI cL q a1 a2)) := hD
    rw [eF, eY] at hP hD
    refine lv_iinc (v := nI (k + 1)) (lv' := [(1, .int (nI (k + 1))), (0, .ref h0)]) hx hb dX10_init_153 hl (k := 1) rfl (by rw [← nI_1]; rfl) (by decide) rfl (fun ls hl => ?_)
    refine lv_goto (tgt := 134) hx hb dX10_init_156 (by decide) ?_
    exact W.widen (k := C0 + 3 * (k + 1)) (n := Z0 + 99 * (k + 1)) (by show C0 + 3 * k + 1 + 2 ≤ _; omega) (by show Z0 + 99 * k + 3 + 96 ≤ _; omega) (ih (k + 1) (ds ++ [(q, a1, a2)]) H locs ls (by omega) (by simp [hds]) hP hD hS (lv_sub hl [1, 0] rfl))
set_option maxHeartbeats 4000000 in
set_option maxRecDepth 100000 in
theorem n_L161 {p : Program} {l : Launch} {e : Env} {R : Room} {s : State} {m : MethodId} {args : Array Value} {below : List Frame} {meth : Method} {c : Code} {H0 : Heap} {A : Nat → Prop} {Q : State → Prop} {dC : Nat → ClassId} {dI : Nat → Nat → Nat} {cI cL cD cT : ClassId} (hx : p.tables.exec = Jvm.exec) (hb : c.code = cX10_init) (hml : c.maxLocals = 2) (hown : s.vm.findClass RX10 = some m.cls) (hts : ∀ w ∈ wsX10_init, w.before args s = true) (hKn : nK (dC, dI) (nT cI cL cD cT) s) (hA : ∀ q, H0.size ≤ q → A q) (hRf : 3 ≤ R.frames) (hRl : 52 ≤ R.locals) {h0 qa : Nat} {fs : List Value} (hfs : fs[11]? = some (.ref qa)) {eT : Nat × va_E} {Y0 : va_W} {C0 Z0 : Nat} (hRc : C0 + 30 ≤ R.cells) (hRs : Z0 + 3018 ≤ R.slots)
    (kk : ∀ (ds : List (Nat × Nat × Nat × Nat × Nat)) (H : Heap) (locs : List Loc) (ls : Array Slot), ds.length = 6 → va_P (dC, dI) vwCl ((h0, .inr (10, fs)) :: eT :: (qa, .inl (cT, 6, .inr (.inr (.inr (.inr (fun j => (ds[j]?).map (fun d => d.1))))))) :: (Y0 ++ ds.flatMap (dX9 cI cL))) H → va_D A ((h0, .inr (10, fs)) :: eT :: (qa, .inl (cT, 6, .inr (.inr (.inr (.inr (fun j => (ds[j]?).map (fun d => d.1))))))) :: (Y0 ++ ds.flatMap (dX9 cI cL))) → va_S A H0 H locs → lv_has ls 2 [(0, .ref h0)] → W p l e R s m args below meth c H locs (C0 + 30) (Z0 + 3018) Q (F0 m 186 ls [])) :
    ∀ (r k : Nat) (ds : List (Nat × Nat × Nat × Nat × Nat)) (H : Heap) (locs : List Loc) (ls : Array Slot), k + r = 6 → ds.length = k → va_P (dC, dI) vwCl ((h0, .inr (10, fs)) :: eT :: (qa, .inl (cT, 6, .inr (.inr (.inr (.inr (fun j => (ds[j]?).map (fun d => d.1))))))) :: (Y0 ++ ds.flatMap (dX9 cI cL))) H → va_D A ((h0, .inr (10, fs)) :: eT :: (qa, .inl (cT, 6, .inr (.inr (.inr (.inr (fun j => (ds[j]?).map (fun d => d.1))))))) :: (Y0 ++ ds.flatMap (dX9 cI cL))) → va_S A H0 H locs → lv_has ls 2 [(0, .ref h0), (1, .int (nI k))] → W p l e R s m args below meth c H locs (C0 + 5 * k) (Z0 + 503 * k) Q (F0 m 161 ls []) := by
  have hK := hKn.1
  intro r
  induction r with
  | zero =>
    intro k ds H locs ls hk hds hP hD hS hl
    obtain rfl : k = 6 := by omega
    refine lv_iload_n hx hb dX10_init_161 rfl (lv_at hl 1 rfl) ?_
    refine lv_bipush (v := 6) hx hb dX10_init_162 (by decide) ?_
    refine lv_icmp_ge (tgt := 186) hx hb dX10_init_164 (by decide) (fun _ => ?_) (fun z => absurd (show (6 : Int32) ≤ nI 6 by decide) z)
    exact W.widen (k := C0 + 30) (n := Z0 + 3018) (by omega) (by omega) (kk ds H locs ls hds hP hD hS (lv_sub hl [0] rfl))
  | succ r ih =>
    intro k ds H locs ls hk hds hP hD hS hl
    refine lv_iload_n hx hb dX10_init_161 rfl (lv_at hl 1 rfl) ?_
    refine lv_bipush (v := 6) hx hb dX10_init_162 (by decide) ?_
    refine lv_icmp_ge (tgt := 186) hx hb dX10_init_164 (by decide) (fun z => absurd z (by rw [nI_lit 6, nI_leI (by omega) (by omega)]; omega)) (fun _ => ?_)
    refine lv_aload_n hx hb dX10_init_167 rfl (lv_at hl 0 rfl) ?_
    refine va_get (D := (dC, dI)) (ci := 10) (v := .ref qa) (C := RX10) (T := TX10) (N := 13) hx hb hts (by decide +kernel) hown hK hP 0 rfl rfl 11 (by decide) (hts (.fieldLink RX10 81 "CamStitch" "tapes" "[LCamStitch$Tape;") (by decide +kernel)) (fun _ h9 => h9) hfs dX10_init_168 ?_
    refine lv_iload_n hx hb dX10_init_171 rfl (lv_at hl 1 rfl) ?_
    refine va_new (ci := 9) (fs := [.null, .null, .int 0, .int 0]) (C := RX9) (T := TX9) (N := 4) hx hb hts (by decide +kernel) tyX9 tyX9_ok hown (hts (.classLink RX10 79 RX9) (by decide +kernel)) (hts (.instantiable RX9 4) (by decide +kernel)) (hts (.initialized RX9) (by decide +kernel)) hK hP hD hS hA rfl (fun j hj => by rcases (show j = 0 ∨ j = 1 ∨ j = 2 ∨ j = 3 by omega) with rfl | rfl | rfl | rfl <;> rfl) (by omega) (by omega) dX10_init_172 (fun q H hP hD hS => ?_)
    refine lv_dup hx hb dX10_init_175 rfl ?_
    refine n_callN (X := (h0, .inr (10, fs)) :: eT :: (qa, .inl (cT, 6, .inr (.inr (.inr (.inr (fun j => (ds[j]?).map (fun d => d.1))))))) :: (Y0 ++ ds.flatMap (dX9 cI cL))) (nw := fun u : Nat × Nat × Nat × Nat => oX9 cI cL q u.1 u.2.1 u.2.2.1 u.2.2.2) ⟨hx, hb, hml, hown, hts⟩ (n_X9 l dC dI cI cL cD cT q H.size) ⟨va_cnB 0 hts gX10_init_X9_init_n85 rfl rfl rfl (hKn.2.1 (RX10, 85, yX9_init, "CamStitch") (by simp [nestN])) (hts (.initialized RX9) (by decide +kernel)) (by decide +kernel) ⟨Nat.le_trans (Nat.le_of_ble_eq_true rfl) hRf, Nat.le_trans (Nat.le_of_ble_eq_true rfl) hRl⟩, rfl, (hts (.instanceMethod yX9_init) (by decide +kernel))⟩ hKn hP hD hS hA hl.1 (lv_room (Nat.le_of_ble_eq_true rfl)) dX10_init_176 ⟨by show C0 + 5 * k + 1 + 4 ≤ R.cells; omega, by show Z0 + 503 * k + 4 + 499 ≤ R.slots; omega⟩ (fun u H locs hu hP hD hS => ?_)
    obtain ⟨a1, a2, a3, a4⟩ := u
    refine va_astq hx hb hK hP hD hS 2 3 ((Y0 ++ ds.flatMap (dX9 cI cL)).length + 3) 9 (vs := [.ref a1, .ref a2, .int 0, .int 0]) rfl rfl (by simp [oX9]) rfl (vp_in_nI (by omega) (by decide)) dX10_init_179 (fun H locs hP hD hS => ?_)
    have eF : va_up (fun j => (ds[j]?).map (fun d => d.1)) (nI k).toNatClampNeg (some q) = fun j => ((ds ++ [(q, a1, a2, a3, a4)])[j]?).map (fun d => d.1) := by
      rw [nI_clamp (by omega)]
      exact n_astq' (fun d => d.1) (d := (q, a1, a2, a3, a4)) rfl hds
    have eY : (Y0 ++ ds.flatMap (dX9 cI cL)) ++ oX9 cI cL q a1 a2 a3 a4 = Y0 ++ (ds ++ [(q, a1, a2, a3, a4)]).flatMap (dX9 cI cL) := by
      rw [List.flatMap_append, List.append_assoc]
      rfl
    have hP : va_P (dC, dI) vwCl ((h0, .inr (10, fs)) :: eT :: (qa, .inl (cT, 6, .inr (.inr (.inr (.inr (va_up (fun j => (ds[j]?).map (fun d => d.1)) (nI k).toNatClampNeg (some q))))))) :: ((Y0 ++ ds.flatMap (dX9 cI cL)) ++ oX9 cI cL q a1 a2 a3 a4)) H := hP
    have hD : va_D A ((h0, .inr (10, fs)) :: eT :: (qa, .inl (cT, 6, .inr (.inr (.inr (.inr (va_up (fun j => (ds[j]?).map (fun d => d.1)) (nI k).toNatClampNeg (some q))))))) :: ((Y0 ++ ds.flatMap (dX9 cI cL)) ++ oX9 cI cL q a1 a2 a3 a4)) := hD
    rw [eF, eY] at hP hD
    refine lv_iinc (v := nI (k + 1)) (lv' := [(1, .int (nI (k + 1))), (0, .ref h0)]) hx hb dX10_init_180 hl (k := 1) rfl (by rw [← nI_1]; rfl) (by decide) rfl (fun ls hl => ?_)
    refine lv_goto (tgt := 161) hx hb dX10_init_183 (by decide) ?_
    exact W.widen (k := C0 + 5 * (k + 1)) (n := Z0 + 503 * (k + 1)) (by show C0 + 5 * k + 1 + 4 ≤ _; omega) (by show Z0 + 503 * k + 4 + 499 ≤ _; omega) (ih (k + 1) (ds ++ [(q, a1, a2, a3, a4)]) H locs ls (by omega) (by simp [hds]) hP hD hS (lv_sub hl [1, 0] rfl))
