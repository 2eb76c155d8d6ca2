/-! ===== constructors: the rows they stand on (99a: by wip/gen/p99a.txt) ===== -/
abbrev nT (cI cL cD cT : ClassId) : List (ClassId × FieldType) := [(cI, .int), (cL, .long), (cD, .object RX1), (cT, .object RX9)]
theorem n_re {D : va_G} {cl : List vw_C} {A : Nat → Prop} {ws ws' : va_W} {H : Heap} (f : Nat → Nat) (hf : ∀ k x, ws'[k]? = some x → ws[f k]? = some x) (hi : ∀ i j, i < ws'.length → j < ws'.length → f i = f j → i = j) (hP : va_P D cl ws H) (hD : va_D A ws) : va_P D cl ws' H ∧ va_D A ws' := by
  refine ⟨fun k x hk => hP (f k) x (hf k x hk), fun i j x y hx hy exy => ?_, fun k x hk => hD.2 (f k) x (hf k x hk)⟩
  exact hi i j (List.getElem?_eq_some_iff.mp hx).1 (List.getElem?_eq_some_iff.mp hy).1 (hD.1 _ _ x y (hf i x hx) (hf j y hy) exy)
theorem n_rot1 {D : va_G} {cl : List vw_C} {A : Nat → Prop} {Y : va_W} {a b : Nat × va_E} {H : Heap} (hP : va_P D cl (a :: (Y ++ [b])) H) (hD : va_D A (a :: (Y ++ [b]))) : va_P D cl (a :: b :: Y) H ∧ va_D A (a :: b :: Y) := by
  refine n_re (fun k => if k = 0 then 0 else if k = 1 then Y.length + 1 else k - 1) (fun k x hk => ?_) (fun i j hi hj h => ?_) hP hD
  · match k, hk with
    | 0, hk => exact hk
    | 1, hk => simpa using hk
    | k + 2, hk =>
      have hk' : Y[k]? = some x := hk
      have hl := (List.getElem?_eq_some_iff.mp hk').1
      show (a :: (Y ++ [b]))[k + 1]? = some x
      rw [List.getElem?_cons_succ, List.getElem?_append_left hl]; exact hk'
  · simp only [List.length_cons] at hi hj
    by_cases i0 : i = 0 <;> by_cases j0 : j = 0 <;> by_cases i1 : i = 1 <;> by_cases j1 : j = 1 <;> simp [i0, j0, i1, j1] at h ⊢ <;> omega
theorem n_rot2 {D : va_G} {cl : List vw_C} {A : Nat → Prop} {Y : va_W} {a a' b : Nat × va_E} {H : Heap} (hP : va_P D cl (a :: a' :: (Y ++ [b])) H) (hD : va_D A (a :: a' :: (Y ++ [b]))) : va_P D cl (a :: a' :: b :: Y) H ∧ va_D A (a :: a' :: b :: Y) := by
  refine n_re (fun k => if k = 0 then 0 else if k = 1 then 1 else if k = 2 then Y.length + 2 else k - 1) (fun k x hk => ?_) (fun i j hi hj h => ?_) hP hD
  · match k, hk with
    | 0, hk => exact hk
    | 1, hk => exact hk
    | 2, hk => simpa using hk
    | k + 3, hk =>
      have hk' : Y[k]? = some x := hk
      have hl := (List.getElem?_eq_some_iff.mp hk').1
      show (a :: a' :: (Y ++ [b]))[k + 2]? = some x
      rw [List.getElem?_cons_succ, List.getElem?_cons_succ, List.getElem?_append_left hl]; exact hk'
  · simp only [List.length_cons] at hi hj
    by_cases i0 : i = 0 <;> by_cases j0 : j = 0 <;> by_cases i1 : i = 1 <;> by_cases j1 : j = 1 <;> by_cases i2 : i = 2 <;> by_cases j2 : j = 2 <;> simp [i0, j0, i1, j1, i2, j2] at h ⊢ <;> omega
theorem n_last {D : va_G} {cl : List vw_C} {X : va_W} {x : Nat × va_E} {H : Heap} (hP : va_P D cl (X ++ [x]) H) : va_P D cl [x] H := fun k y hk => by
  have hz : k < 1 := (List.getElem?_eq_some_iff.mp hk).1
  obtain rfl : k = 0 := by omega
  cases hk
  exact hP X.length x (by simp)
section CN
variable {p : Program} {l : Launch} {e : Env} {R : Room} {s : State} {m : MethodId} {args : Array Value} {below : List Frame} {meth : Method} {c : Code} {H H0 : Heap} {locs : List Loc} {cells slots : Nat} {Q : State → Prop}
variable {cc : ByteArray} {pc : Nat} {ls : Array Slot} {rest : List Value} {D : va_G} {cl : List vw_C} {tys : List (ClassId × FieldType)} {ws : va_W} {A : Nat → Prop}
theorem n_newi (hexec : p.tables.exec = Jvm.exec) (hb : c.code = cc) (harr : (Cond.arrayClass .int).before args s = true) (hK : va_K D cl tys s) (t0 : Nat) {cI : ClassId} (ht : tys[t0]? = some (cI, .int)) (hP : va_P D cl ws H) (hD : va_D A ws) (hS : va_S A H0 H locs) (hA : ∀ q, H0.size ≤ q → A q)
    {n : Int32} {N' : Nat} (hn : ¬ n < 0) (hN : n.toNatClampNeg = N') (hbytes : N' * 4 ≤ 536870912) (hcells : cells + 1 ≤ R.cells) (hslots : slots + N' ≤ R.slots) (hdg : decode cc pc = .ok (.newarray .int, 2))
    (kk : ∀ (q : Nat) (H1 : Heap), va_P D cl (ws ++ [(q, .inl (cI, N', .inl fun _ => 0))]) H1 → va_D A (ws ++ [(q, .inl (cI, N', .inl fun _ => 0))]) → va_S A H0 H1 locs →
      W p l e R s m args below meth c H1 locs (cells + 1) (slots + N') Q (F0 m (pc + 2) ls (.ref q :: rest))) : W p l e R s m args below meth c H locs cells slots Q (F0 m pc ls (.int n :: rest)) := by
  refine va_newa (atype := .int) (ty := .int) (a0 := (N', .inl fun _ => 0)) hexec hb harr rfl hK hP hD hS hA (fun cA => rfl) hn hN hbytes hcells hslots hdg (fun q cA H1 hK1 hP1 hD1 hS1 => ?_)
  have e1 : s.vm.findClass ("[" ++ FieldType.int.toString) = some cA := (hK1.2 tys.length (cA, .int) (by simp)).2
  have e2 : s.vm.findClass ("[" ++ FieldType.int.toString) = some cI := (hK.2 t0 _ ht).2
  have e3 : cA = cI := Option.some.inj (Eq.trans (Eq.symm e1) e2)
  subst e3
  exact kk q H1 hP1 hD1 hS1
theorem n_newl (hexec : p.tables.exec = Jvm.exec) (hb : c.code = cc) (harr : (Cond.arrayClass .long).before args s = true) (hK : va_K D cl tys s) (t0 : Nat) {cL : ClassId} (ht : tys[t0]? = some (cL, .long)) (hP : va_P D cl ws H) (hD : va_D A ws) (hS : va_S A H0 H locs) (hA : ∀ q, H0.size ≤ q → A q)
    {n : Int32} {N' : Nat} (hn : ¬ n < 0) (hN : n.toNatClampNeg = N') (hbytes : N' * 8 ≤ 536870912) (hcells : cells + 1 ≤ R.cells) (hslots : slots + N' ≤ R.slots) (hdg : decode cc pc = .ok (.newarray .long, 2))
    (kk : ∀ (q : Nat) (H1 : Heap), va_P D cl (ws ++ [(q, .inl (cL, N', .inr (.inl fun _ => 0)))]) H1 → va_D A (ws ++ [(q, .inl (cL, N', .inr (.inl fun _ => 0)))]) → va_S A H0 H1 locs →
      W p l e R s m args below meth c H1 locs (cells + 1) (slots + N') Q (F0 m (pc + 2) ls (.ref q :: rest))) : W p l e R s m args below meth c H locs cells slots Q (F0 m pc ls (.int n :: rest)) := by
  refine va_newa (atype := .long) (ty := .long) (a0 := (N', .inr (.inl fun _ => 0))) hexec hb harr rfl hK hP hD hS hA (fun cA => rfl) hn hN hbytes hcells hslots hdg (fun q cA H1 hK1 hP1 hD1 hS1 => ?_)
  have e1 : s.vm.findClass ("[" ++ FieldType.long.toString) = some cA := (hK1.2 tys.length (cA, .long) (by simp)).2
  have e2 : s.vm.findClass ("[" ++ FieldType.long.toString) = some cL := (hK.2 t0 _ ht).2
  have e3 : cA = cL := Option.some.inj (Eq.trans (Eq.symm e1) e2)
  subst e3
  exact kk q H1 hP1 hD1 hS1
theorem n_newq (hexec : p.tables.exec = Jvm.exec) (hb : c.code = cc) {own C : String} {index : Nat} (hown : s.vm.findClass own = some m.cls) (hclink : (Cond.classLink own index C).before args s = true) (hover : va_AO C s) (hK : va_K D cl tys s) (t0 : Nat) {cD : ClassId} (ht : tys[t0]? = some (cD, .object C)) (hP : va_P D cl ws H) (hD : va_D A ws) (hS : va_S A H0 H locs) (hA : ∀ q, H0.size ≤ q → A q)
    {n : Int32} {N' : Nat} (hn : ¬ n < 0) (hN : n.toNatClampNeg = N') (hbytes : N' * 4 ≤ 536870912) (hcells : cells + 1 ≤ R.cells) (hslots : slots + N' ≤ R.slots) (hdg : decode cc pc = .ok (.anewarray index, 3))
    (kk : ∀ (q : Nat) (H1 : Heap), va_P D cl (ws ++ [(q, .inl (cD, N', .inr (.inr (.inr (.inr (fun _ => none))))))]) H1 → va_D A (ws ++ [(q, .inl (cD, N', .inr (.inr (.inr (.inr (fun _ => none))))))]) → va_S A H0 H1 locs →
      W p l e R s m args below meth c H1 locs (cells + 1) (slots + N') Q (F0 m (pc + 3) ls (.ref q :: rest))) : W p l e R s m args below meth c H locs cells slots Q (F0 m pc ls (.int n :: rest)) := by
  refine va_newq hexec hb hown hclink hover hK hP hD hS hA hn hN hbytes hcells hslots hdg (fun q cA H1 hK1 hP1 hD1 hS1 => ?_)
  obtain ⟨_, _, _, _, _, e1⟩ := (hK1.2 tys.length (cA, .object C) (by simp)).2
  obtain ⟨_, _, _, _, _, e2⟩ := (hK.2 t0 _ ht).2
  have e3 : cA = cD := Option.some.inj (Eq.trans (Eq.symm e1) e2)
  subst e3
  exact kk q H1 hP1 hD1 hS1
theorem n_go {S : Type} {post : S → Prop} {B : S → State → Prop} {mc ms : Nat} {st0 : List Value} {a : Array Value} {q : Nat} {e0 : va_E} {X : va_W} {nw : S → va_W} (hr : va_Run p l e R s m args below meth c H locs cells slots mc ms (F0 m pc ls st0) rest (va_Qv post B (va_A [(q, e0)] H.size) a) (va_A [(q, e0)] H.size)) (hP : va_P D cl (X ++ [(q, e0)]) H) (hD : va_D A (X ++ [(q, e0)])) (hS : va_S A H0 H locs) (hA : ∀ q, H0.size ≤ q → A q) (hB : ∀ u t, B u t → va_P D cl (nw u) t.heap ∧ va_D (va_A [(q, e0)] H.size) (nw u))
    (kk : ∀ (u : S) (H1 : Heap) (locs1 : List Loc), post u → va_P D cl (X ++ nw u) H1 → va_D A (X ++ nw u) → va_S A H0 H1 locs1 → W p l e R s m args below meth c H1 locs1 (cells + mc) (slots + ms) Q (F0 m (pc + 3) ls rest)) : W p l e R s m args below meth c H locs cells slots Q (F0 m pc ls st0) := by
  have hl0 : (X ++ [(q, e0)])[X.length]? = some (q, e0) := by simp
  have hF : ∀ x, va_A [(q, e0)] H.size x → A x := fun x h => by
    rcases h with ⟨k, e, h⟩ | h
    · have hz : k < 1 := (List.getElem?_eq_some_iff.mp h).1
      obtain rfl : k = 0 := by omega
      cases h
      exact hD.2 X.length (q, e0) hl0
    · exact hA x (Nat.le_trans hS.1 h)
  refine va_callv hr hS (fun x _ h => hF x h) hF (fun u t H1 locs1 ht hvm hw hB1 hz1 hk1 hS1 => ?_)
  obtain ⟨b1, b2⟩ := hB u t hB1
  rw [ht] at b1
  have ap : ∀ (k : Nat) (x : Nat × va_E), X[k]? = some x → x.1 < H.size ∧ ¬ va_A [(q, e0)] H.size x.1 := by
    intro k x hk
    have hl := (List.getElem?_eq_some_iff.mp hk).1
    have hk' : (X ++ [(q, e0)])[k]? = some x := by rw [List.getElem?_append_left hl]; exact hk
    have hlt := (hP k x hk').lt
    refine ⟨hlt, fun h => ?_⟩
    rcases h with ⟨j, e, h⟩ | h
    · have hz : j < 1 := (List.getElem?_eq_some_iff.mp h).1
      obtain rfl : j = 0 := by omega
      have h1 : q = x.1 := congrArg Prod.fst (Option.some.inj h)
      have := hD.1 k X.length x (q, e0) hk' hl0 h1.symm
      omega
    · omega
  refine kk u H1 locs1 hw ?_ ?_ hS1
  · intro k x hk
    by_cases hl : k < X.length
    · rw [List.getElem?_append_left hl] at hk
      exact (hP k x (by rw [List.getElem?_append_left hl]; exact hk)).kept (hk1 x.1 (ap k x hk).1 (ap k x hk).2)
    · rw [List.getElem?_append_right (by omega)] at hk
      exact b1 _ x hk
  · refine ⟨fun i j x y hx hy exy => ?_, fun k x hk => ?_⟩
    · by_cases hi : i < X.length
      · rw [List.getElem?_append_left hi] at hx
        by_cases hj : j < X.length
        · rw [List.getElem?_append_left hj] at hy
          exact hD.1 i j x y (by rw [List.getElem?_append_left hi]; exact hx) (by rw [List.getElem?_append_left hj]; exact hy) exy
        · rw [List.getElem?_append_right (by omega)] at hy
          exact absurd (by rw [exy]; exact b2.2 _ y hy) (ap i x hx).2
      · rw [List.getElem?_append_right (by omega)] at hx
        by_cases hj : j < X.length
        · rw [List.getElem?_append_left hj] at hy
          exact absurd (by rw [← exy]; exact b2.2 _ x hx) (ap j y hy).2
        · rw [List.getElem?_append_right (by omega)] at hy
          have := b2.1 _ _ x y hx hy exy
          omega
    · by_cases hl : k < X.length
      · rw [List.getElem?_append_left hl] at hk
        exact hD.2 k x (by rw [List.getElem?_append_left hl]; exact hk)
      · rw [List.getElem?_append_right (by omega)] at hk
        exact hF _ (b2.2 _ x hk)
end CN
/-- the links between nest mates that the constructors use, and the arrays' classes -/
def nestN : List (String × Nat × MethodName × String) := [(RX10, 9, yX5_init, "CamStitch"), (RX10, 18, yX6_init, "CamStitch"), (RX10, 25, yX1_init, "CamStitch"), (RX10, 39, yX3_init, "CamStitch"), (RX10, 53, yX4_init, "CamStitch"), (RX10, 60, yX8_init, "CamStitch"), (RX10, 67, yX7_init, "CamStitch"), (RX10, 74, yX2_init, "CamStitch"), (RX10, 85, yX9_init, "CamStitch"), (RX6, 11, yX5_init, "CamStitch"), (RX9, 17, yX1_init, "CamStitch")]
def nK (D : va_G) (tys : List (ClassId × FieldType)) (U : State) : Prop := va_K D vwCl tys U ∧ (∀ q ∈ nestN, va_Nw (zn q) U) ∧ va_AO RX1 U ∧ va_AO RX9 U
theorem nK_call {D : va_G} {tys : List (ClassId × FieldType)} {U : State} {g : JFrame} {mk : MethodId} {a : Array Value} (h : nK D tys U) : nK D tys (U.calling g mk a) :=
  ⟨va_K.moved (u := U) (U := U.calling g mk a) (Vm.Alike.refl U.vm) h.1, fun q hq => va_Nw.same rfl rfl (h.2.1 q hq), va_AO.moved (u := U) (U := U.calling g mk a) (Vm.Alike.refl U.vm) h.2.2.1, va_AO.moved (u := U) (U := U.calling g mk a) (Vm.Alike.refl U.vm) h.2.2.2⟩
theorem nK_warm {D : va_G} {tys : List (ClassId × FieldType)} {s U : State} (hW : s.WarmedH U.vm) (h : nK D tys s) : nK D tys U :=
  ⟨va_K.moved hW.alike h.1, fun q hq => va_Nw.warmM hW (h.2.1 q hq), va_AO.moved hW.alike h.2.2.1, va_AO.moved hW.alike h.2.2.2⟩
/-- a constructor's contract: one new object, and what comes with it -/
abbrev nPc (D : va_G) (tys : List (ClassId × FieldType)) (ci : Nat) (fs : List Value) (h0 sz : Nat) : Array Value → State → Prop := va_Pc [.ref h0] (fun U => U.heap.size = sz ∧ va_P D vwCl [(h0, .inr (ci, fs))] U.heap ∧ nK D tys U)
abbrev nQc {S : Type} (D : va_G) (ci : Nat) (fs : List Value) (h0 sz : Nat) (post : S → Prop) (nw : S → va_W) : Array Value → State → Outcome → State → Prop := va_Qv post (fun u t => va_P D vwCl (nw u) t.heap ∧ va_D (va_A [(h0, .inr (ci, fs))] sz) (nw u)) (va_A [(h0, .inr (ci, fs))] sz)
theorem n_D0 {e0 : va_E} {h0 sz : Nat} : va_D (va_A [(h0, e0)] sz) [(h0, e0)] := by
  refine ⟨fun i j x y hx hy _ => ?_, fun k x hk => Or.inl ⟨k, x.2, hk⟩⟩
  have h1 : i < 1 := (List.getElem?_eq_some_iff.mp hx).1
  have h2 : j < 1 := (List.getElem?_eq_some_iff.mp hy).1
  omega
section CM
variable {p : Program} {l : Launch} {e : Env} {R : Room} {s : State} {m : MethodId} {args : Array Value} {below : List Frame} {meth : Method} {c : Code} {H H0 : Heap} {locs : List Loc} {cells slots : Nat} {Q : State → Prop}
variable {cc : ByteArray} {pc : Nat} {ls : Array Slot} {rest : List Value} {D : va_G} {tys : List (ClassId × FieldType)} {ws : va_W} {A : Nat → Prop}
theorem n_call {S : Type} {post : S → Prop} {nw : S → va_W} {y : MethodName} {wsy Ts : List Cond} {bytes : ByteArray} {own : String} {maxL nL mc ms index ci q : Nat} {fs : List Value} {rm0 : Room} {X : va_W} (F : CallFix p m c cc nL s args Ts own) (hM : Met l y wsy rm0 (nPc D tys ci fs q H.size) (nQc D ci fs q H.size post nw) mc ms (va_A [(q, .inr (ci, fs))] H.size)) (cw : CallB R s args own index y bytes maxL none wsy rm0 mc ms 0 ∧ y.name = "<init>" ∧ (Cond.instanceMethod y).before args s = true) (hK : nK D tys s) (hP : va_P D vwCl (X ++ [(q, .inr (ci, fs))]) H) (hD : va_D A (X ++ [(q, .inr (ci, fs))])) (hS : va_S A H0 H locs) (hA : ∀ q, H0.size ≤ q → A q) (hg : ls.size = nL) (hW : 2 * (F0 m pc ls (.ref q :: rest)).monitorRoom + (rest.map fun v => v.category).sum ≤ 8) (hdg : decode cc pc = .ok (.invokespecial index, 3)) (hf : cells + mc ≤ R.cells ∧ slots + ms ≤ R.slots)
    (kk : ∀ (u : S) (H1 : Heap) (locs1 : List Loc), post u → va_P D vwCl (X ++ nw u) H1 → va_D A (X ++ nw u) → va_S A H0 H1 locs1 → W p l e R s m args below meth c H1 locs1 (cells + mc) (slots + ms) Q (F0 m (pc + 3) ls rest)) : W p l e R s m args below meth c H locs cells slots Q (F0 m pc ls (.ref q :: rest)) :=
  n_go (va_runI (As := []) (rest := rest) F hM cw ⟨fun a U g mk x => by obtain ⟨q0, q1, qP, qK⟩ := x; exact ⟨q0, q1, qP, nK_call qK⟩, fun U hU hw => ⟨rfl, by rw [hU], by rw [hU]; exact n_last hP, nK_warm hw hK⟩⟩ rfl rfl hg rfl hW hdg hf) hP hD hS hA (fun u t h => h) kk
theorem n_callN {S : Type} {post : S → Prop} {nw : S → va_W} {y : MethodName} {wsy Ts : List Cond} {bytes : ByteArray} {own host : String} {maxL nL mc ms index ci q : Nat} {fs : List Value} {rm0 : Room} {X : va_W} (F : CallFix p m c cc nL s args Ts own) (hM : Met l y wsy rm0 (nPc D tys ci fs q H.size) (nQc D ci fs q H.size post nw) mc ms (va_A [(q, .inr (ci, fs))] H.size)) (cw : va_CN R s args own index y host bytes maxL none wsy rm0 mc ms 0 ∧ y.name = "<init>" ∧ (Cond.instanceMethod y).before args s = true) (hK : nK D tys s) (hP : va_P D vwCl (X ++ [(q, .inr (ci, fs))]) H) (hD : va_D A (X ++ [(q, .inr (ci, fs))])) (hS : va_S A H0 H locs) (hA : ∀ q, H0.size ≤ q → A q) (hg : ls.size = nL) (hW : 2 * (F0 m pc ls (.ref q :: rest)).monitorRoom + (rest.map fun v => v.category).sum ≤ 8) (hdg : decode cc pc = .ok (.invokespecial index, 3)) (hf : cells + mc ≤ R.cells ∧ slots + ms ≤ R.slots)
    (kk : ∀ (u : S) (H1 : Heap) (locs1 : List Loc), post u → va_P D vwCl (X ++ nw u) H1 → va_D A (X ++ nw u) → va_S A H0 H1 locs1 → W p l e R s m args below meth c H1 locs1 (cells + mc) (slots + ms) Q (F0 m (pc + 3) ls rest)) : W p l e R s m args below meth c H locs cells slots Q (F0 m pc ls (.ref q :: rest)) :=
  n_go (va_runIN (As := []) (rest := rest) F hM cw ⟨fun a U g mk x => by obtain ⟨q0, q1, qP, qK⟩ := x; exact ⟨q0, q1, qP, nK_call qK⟩, fun U hU hw => ⟨rfl, by rw [hU], by rw [hU]; exact n_last hP, nK_warm hw hK⟩⟩ rfl rfl hg rfl hW hdg hf) hP hD hS hA (fun u t h => h) kk
end CM
theorem n_astq {ws : va_W} {f : Nat → Option Nat} {ds : List (Nat × Nat × Nat)} {k : Nat} {d : Nat × Nat × Nat} (hf : f = fun j => (ds[j]?).map (fun d => d.1)) (hk : ds.length = k) : va_up f k (some d.1) = fun j => ((ds ++ [d])[j]?).map (fun d => d.1) := by
  subst hf; subst hk
  funext j
  by_cases q : j = ds.length
  · subst q
    rw [va_up_self]; simp
  · rw [va_up_ne _ _ q]
    by_cases h : j < ds.length
    · rw [List.getElem?_append_left h]
    · rw [List.getElem?_eq_none (by omega), List.getElem?_eq_none (by simp; omega)]
