abbrev vwCl : List vw_C := [(RX0, TX0, 5), (RX1, TX1, 3), (RX2, TX2, 8), (RX3, TX3, 5), (RX4, TX4, 3), (RX5, TX5, 4), (RX6, TX6, 9), (RX7, TX7, 1), (RX8, TX8, 14), (RX9, TX9, 4), (RX10, TX10, 13), (RX11, TX11, 62)]
abbrev LZ : Type := va_G × (Nat → Nat) × (Mem → Nat → va_E) × Nat × List (ClassId × FieldType) × List (String × Nat × MethodName × String)
def zw (z : LZ) (w : Mem) : va_W := (List.range z.2.2.2.1).map (fun o => (z.2.1 o, z.2.2.1 w o))
def hd (z : LZ) (w : Mem) (H : Heap) : Prop := va_P z.1 vwCl (zw z w) H
def zn (q : String × Nat × MethodName × String) : Cond := .methodLinkNest q.1 q.2.1 q.2.2.1 q.2.2.2
def ks (z : LZ) (s : State) : Prop := va_K z.1 vwCl z.2.2.2.2.1 s ∧ ∀ q ∈ z.2.2.2.2.2, va_Nw (zn q) s
def az (z : LZ) : Nat → Prop := fun q => ∃ o, o < z.2.2.2.1 ∧ q = z.2.1 o
/-- the layout is one: addresses apart, an object is told by what it holds itself -/
def iz (z : LZ) : Prop := (∀ i j, i < z.2.2.2.1 → j < z.2.2.2.1 → z.2.1 i = z.2.1 j → i = j) ∧ ∀ (w w' : Mem) (o : Nat), w.1 o = w'.1 o → w.2 o = w'.2 o → z.2.2.1 w o = z.2.2.1 w' o
theorem zw_at {z : LZ} {w : Mem} {o : Nat} (ho : o < z.2.2.2.1) {e : va_E} (he : z.2.2.1 w o = e) : (zw z w)[o]? = some (z.2.1 o, e) := by
  subst he
  simp [zw, ho]
theorem zw_in {z : LZ} {w : Mem} {k : Nat} {q : Nat × va_E} (h : (zw z w)[k]? = some q) : k < z.2.2.2.1 ∧ q = (z.2.1 k, z.2.2.1 w k) := by
  have hk : k < z.2.2.2.1 := by
    have := (List.getElem?_eq_some_iff.mp h).1
    simpa [zw] using this
  refine ⟨hk, ?_⟩
  rw [zw_at hk rfl] at h
  exact (Option.some.inj h).symm
theorem zw_D {z : LZ} (hi : iz z) (w : Mem) : va_D (az z) (zw z w) := by
  refine ⟨fun i j p q hp hq hpq => ?_, fun k q hk => ?_⟩
  · obtain ⟨h1, h2⟩ := zw_in hp
    obtain ⟨h3, h4⟩ := zw_in hq
    subst h2; subst h4
    exact hi.1 i j h1 h3 hpq
  · obtain ⟨h1, h2⟩ := zw_in hk
    subst h2
    exact ⟨k, h1, rfl⟩
theorem zw_set {z : LZ} {w w' : Mem} {o : Nat} {e : va_E} (he : z.2.2.1 w' o = e) (hf : ∀ o', o' ≠ o → z.2.2.1 w' o' = z.2.2.1 w o') : (zw z w).set o (z.2.1 o, e) = zw z w' := by
  apply List.ext_getElem?
  intro k
  by_cases hk : k < z.2.2.2.1
  · rw [zw_at hk rfl, List.getElem?_set]
    by_cases hko : o = k
    · subst hko
      rw [if_pos rfl, if_pos (by simpa [zw] using hk), he]
    · rw [if_neg hko, zw_at hk rfl, hf k (fun q => hko q.symm)]
  · rw [List.getElem?_eq_none (by simpa [zw] using hk), List.getElem?_eq_none (by simpa [zw] using hk)]
theorem ks_call {z : LZ} {U : State} {g : JFrame} {mk : MethodId} {a : Array Value} (h : ks z U) : ks z (U.calling g mk a) :=
  ⟨va_K.moved (u := U) (U := U.calling g mk a) (Vm.Alike.refl U.vm) h.1, fun q hq => va_Nw.same rfl rfl (h.2 q hq)⟩
theorem ks_warm {z : LZ} {s U : State} (hW : s.WarmedH U.vm) (h : ks z s) : ks z U :=
  ⟨va_K.moved hW.alike h.1, fun q hq => va_Nw.warmM hW (h.2 q hq)⟩
/-! contracts: over a layout and a memory; the heap stays (QR), or holds another memory (QW) -/
def PZ (z : LZ) (w : Mem) (av : List Value) : Array Value → State → Prop := va_Pc av (fun U => hd z w U.heap ∧ ks z U)
def QR (v : Option Value) : Array Value → State → Outcome → State → Prop := fun _ st oc t => oc = .returned v ∧ t.heap = st.heap
def QW (z : LZ) (v : Option Value) (w : Mem) : Array Value → State → Outcome → State → Prop := fun _ st oc t => (oc = .returned v ∧ hd z w t.heap) ∧ va_F (az z) st t
abbrev rm (f n : Nat) : Room := { frames := f, cells := 0, slots := 0, locals := n }
section MZ
variable {p : Program} {l : Launch} {e : Env} {R : Room} {s : State} {m : MethodId} {args : Array Value} {below : List Frame} {meth : Method} {c : Code} {H : Heap} {locs : List Loc} {cells slots : Nat} {Q : State → Prop}
variable {cc : ByteArray} {pc : Nat} {ls : Array Slot} {rest : List Value} {z : LZ} {w : Mem} {H0 : Heap}
theorem m_get (hx : p.tables.exec = Jvm.exec) (hb : c.code = cc) {own ref C : String} {T : u_T} {N ci index : Nat} {Ts : List Cond} (hts : ∀ w ∈ Ts, w.before args s = true) (hin : ∀ w ∈ u_ws C T N, w ∈ Ts) (hown : s.vm.findClass own = some m.cls) (hK : ks z s) (hW : hd z w H) (o : Nat) (ho : o < z.2.2.2.1) {fs : List Value} (hE : z.2.2.1 w o = .inr (ci, fs)) (hc : vwCl[ci]? = some (C, T, N)) (k : Nat) (hk : k < N) (hlink : (Cond.fieldLink own index ref (T k).2.1 (T k).2.2.1).before args s = true) (hsame : ∀ x, s.fieldFound? (T k).1 (T k).2.1 (T k).2.2.1 = some x → s.fieldFound? ref (T k).2.1 (T k).2.2.1 = some x) {v : Value} (hv : fs[k]? = some v) (hdg : decode cc pc = .ok (.getfield index, 3))
    (kk : W p l e R s m args below meth c H locs cells slots Q (F0 m (pc + 3) ls (v :: rest))) : W p l e R s m args below meth c H locs cells slots Q (F0 m pc ls (.ref (z.2.1 o) :: rest)) :=
  va_get hx hb hts hin hown hK.1 hW o (zw_at ho hE) hc k hk hlink hsame hv hdg kk
theorem m_put (hx : p.tables.exec = Jvm.exec) (hb : c.code = cc) {own ref C : String} {T : u_T} {N ci index : Nat} {Ts : List Cond} (hts : ∀ w ∈ Ts, w.before args s = true) (hin : ∀ w ∈ u_ws C T N, w ∈ Ts) (ty0 : Nat → FieldType) (hty : ∀ k, k < N → parseFieldDescriptor (T k).2.2.1 = some (ty0 k)) (hnm : ∀ a, a < N → ∀ b, b < N → a ≠ b → (T a).2.1 ≠ (T b).2.1) (hown : s.vm.findClass own = some m.cls) (hK : ks z s) (hi : iz z) (hW : hd z w H) (hS : va_S (az z) H0 H locs) (o : Nat) (ho : o < z.2.2.2.1) {fs : List Value} (hE : z.2.2.1 w o = .inr (ci, fs)) (hc : vwCl[ci]? = some (C, T, N)) (k : Nat) (hk : k < N) (hlink : (Cond.fieldLink own index ref (T k).2.1 (T k).2.2.1).before args s = true) (hsame : ∀ x, s.fieldFound? (T k).1 (T k).2.1 (T k).2.2.1 = some x → s.fieldFound? ref (T k).2.1 (T k).2.2.1 = some x) (hfin : (T k).2.2.2 = false) {ty : FieldType} {v : Int32} (hd0 : parseFieldDescriptor (T k).2.2.1 = some ty) (hn : narrow ty (.int v) = .int v) (hfit : fits ty (.int v) = true) (hl : k < fs.length) (hE' : z.2.2.1 (mS w o k v) o = .inr (ci, fs.set k (.int v)))
    (hdg : decode cc pc = .ok (.putfield index, 3)) (kk : ∀ (H1 : Heap) (locs1 : List Loc), hd z (mS w o k v) H1 → va_S (az z) H0 H1 locs1 → W p l e R s m args below meth c H1 locs1 cells slots Q (F0 m (pc + 3) ls rest)) : W p l e R s m args below meth c H locs cells slots Q (F0 m pc ls (.int v :: .ref (z.2.1 o) :: rest)) := by
  refine va_put hx hb hts hin ty0 hty hnm hown hK.1 hW (zw_D hi w) hS o (zw_at ho hE) hc k hk hlink hsame hfin hd0 hn hfit hl hdg (fun H1 locs1 hP _ hS1 => kk H1 locs1 ?_ hS1)
  rw [zw_set hE' (fun o' h => hi.2 _ _ o' (mS_o h) rfl)] at hP
  exact hP
theorem m_iald (hx : p.tables.exec = Jvm.exec) (hb : c.code = cc) (hK : ks z s) (hW : hd z w H) (o t0 : Nat) (ho : o < z.2.2.2.1) {cA : ClassId} {n : Nat} (hE : z.2.2.1 w o = .inl (cA, n, .inl (w.1 o))) (ht : z.2.2.2.2.1[t0]? = some (cA, .int)) {i : Int32} (hin : inb i n = true) (hdg : decode cc pc = .ok (.iaload, 1))
    (kk : W p l e R s m args below meth c H locs cells slots Q (F0 m (pc + 1) ls (.int (w.1 o i.toNatClampNeg) :: rest))) : W p l e R s m args below meth c H locs cells slots Q (F0 m pc ls (.int i :: .ref (z.2.1 o) :: rest)) :=
  va_iald hx hb hK.1 hW o t0 (zw_at ho hE) ht (inb_vp hin) hdg kk
theorem m_lald (hx : p.tables.exec = Jvm.exec) (hb : c.code = cc) (hK : ks z s) (hW : hd z w H) (o t0 : Nat) (ho : o < z.2.2.2.1) {cA : ClassId} {n : Nat} (hE : z.2.2.1 w o = .inl (cA, n, .inr (.inl (w.2 o)))) (ht : z.2.2.2.2.1[t0]? = some (cA, .long)) {i : Int32} (hin : inb i n = true) (hdg : decode cc pc = .ok (.laload, 1))
    (kk : W p l e R s m args below meth c H locs cells slots Q (F0 m (pc + 1) ls (.long (w.2 o i.toNatClampNeg) :: rest))) : W p l e R s m args below meth c H locs cells slots Q (F0 m pc ls (.int i :: .ref (z.2.1 o) :: rest)) :=
  va_lald hx hb hK.1 hW o t0 (zw_at ho hE) ht (inb_vp hin) hdg kk
theorem m_aald (hx : p.tables.exec = Jvm.exec) (hb : c.code = cc) (hK : ks z s) (hW : hd z w H) (o t0 : Nat) (ho : o < z.2.2.2.1) {cA : ClassId} {C : String} {n : Nat} {f : Nat → Nat} (hE : z.2.2.1 w o = .inl (cA, n, .inr (.inr (.inr (.inr (fun j => some (z.2.1 (f j)))))))) (ht : z.2.2.2.2.1[t0]? = some (cA, .object C)) {i : Int32} (hin : inb i n = true) (hdg : decode cc pc = .ok (.aaload, 1))
    (kk : W p l e R s m args below meth c H locs cells slots Q (F0 m (pc + 1) ls (.ref (z.2.1 (f i.toNatClampNeg)) :: rest))) : W p l e R s m args below meth c H locs cells slots Q (F0 m pc ls (.int i :: .ref (z.2.1 o) :: rest)) :=
  va_aldq hx hb hK.1 hW o t0 (zw_at ho hE) ht (inb_vp hin) hdg kk
theorem m_iast (hx : p.tables.exec = Jvm.exec) (hb : c.code = cc) (hK : ks z s) (hi : iz z) (hW : hd z w H) (hS : va_S (az z) H0 H locs) (o t0 : Nat) (ho : o < z.2.2.2.1) {cA : ClassId} {n : Nat} (hE : ∀ w : Mem, z.2.2.1 w o = .inl (cA, n, .inl (w.1 o))) (ht : z.2.2.2.2.1[t0]? = some (cA, .int)) {i x : Int32} (hin : inb i n = true) (hdg : decode cc pc = .ok (.iastore, 1))
    (kk : ∀ (H1 : Heap) (locs1 : List Loc), hd z (mS w o i.toNatClampNeg x) H1 → va_S (az z) H0 H1 locs1 → W p l e R s m args below meth c H1 locs1 cells slots Q (F0 m (pc + 1) ls rest)) : W p l e R s m args below meth c H locs cells slots Q (F0 m pc ls (.int x :: .int i :: .ref (z.2.1 o) :: rest)) := by
  refine va_iast hx hb hK.1 hW (zw_D hi w) hS o t0 (zw_at ho (hE w)) ht (inb_vp hin) hdg (fun H1 locs1 hP _ hS1 => kk H1 locs1 ?_ hS1)
  rw [zw_set (w := w) (w' := mS w o i.toNatClampNeg x) (by rw [hE, mS_s]) (fun o' h => hi.2 _ _ o' (mS_o h) rfl)] at hP
  exact hP
theorem m_last (hx : p.tables.exec = Jvm.exec) (hb : c.code = cc) (hK : ks z s) (hi : iz z) (hW : hd z w H) (hS : va_S (az z) H0 H locs) (o t0 : Nat) (ho : o < z.2.2.2.1) {cA : ClassId} {n : Nat} (hE : ∀ w : Mem, z.2.2.1 w o = .inl (cA, n, .inr (.inl (w.2 o)))) (ht : z.2.2.2.2.1[t0]? = some (cA, .long)) {i : Int32} {x : Int64} (hin : inb i n = true) (hdg : decode cc pc = .ok (.lastore, 1))
    (kk : ∀ (H1 : Heap) (locs1 : List Loc), hd z (mL w o i.toNatClampNeg x) H1 → va_S (az z) H0 H1 locs1 → W p l e R s m args below meth c H1 locs1 cells slots Q (F0 m (pc + 1) ls rest)) : W p l e R s m args below meth c H locs cells slots Q (F0 m pc ls (.long x :: .int i :: .ref (z.2.1 o) :: rest)) := by
  refine va_last hx hb hK.1 hW (zw_D hi w) hS o t0 (zw_at ho (hE w)) ht (inb_vp hin) hdg (fun H1 locs1 hP _ hS1 => kk H1 locs1 ?_ hS1)
  rw [zw_set (w := w) (w' := mL w o i.toNatClampNeg x) (by rw [hE, mL_s]) (fun o' h => hi.2 _ _ o' rfl (mL_o h))] at hP
  exact hP
theorem m_ialen (hx : p.tables.exec = Jvm.exec) (hb : c.code = cc) (hK : ks z s) (hW : hd z w H) (o t0 : Nat) (ho : o < z.2.2.2.1) {cA : ClassId} {x : vp_A} (hE : z.2.2.1 w o = .inl (cA, x)) {ty : FieldType} (ht : z.2.2.2.2.1[t0]? = some (cA, ty)) {v : Int32} (hv : Int32.ofNat x.1 = v) (hdg : decode cc pc = .ok (.arraylength, 1))
    (kk : W p l e R s m args below meth c H locs cells slots Q (F0 m (pc + 1) ls (.int v :: rest))) : W p l e R s m args below meth c H locs cells slots Q (F0 m pc ls (.ref (z.2.1 o) :: rest)) :=
  va_alen hx hb hK.1 hW o t0 (zw_at ho hE) ht hv hdg kk
/-! calls -/
variable {y : MethodName} {bytes : ByteArray} {maxL nL n index : Nat} {ret : Option FieldType} {ws : List Cond} {rr : Room} {Ts : List Cond} {own C host : String} {As st0 : List Value} {a : Array Value}
theorem m_blind {av : List Value} : FrameBlind (PZ z w av) := fun a U g mk q => ⟨q.1, q.2.1, ks_call q.2.2⟩
theorem m_preS (hK : ks z s) (hW : hd z w H) (As : List Value) : PreS s H (PZ z w As) As := ⟨m_blind, fun U hU hw => ⟨rfl, by rw [hU]; exact hW, ks_warm hw hK⟩⟩
theorem m_preV (hK : ks z s) (hW : hd z w H) (o : Nat) (ho : o < z.2.2.2.1) {ci : Nat} {fs : List Value} {q : vw_C} (hE : z.2.2.1 w o = .inr (ci, fs)) (hc : vwCl[ci]? = some q) (As : List Value) : PreV s H q.1 (z.2.1 o) (PZ z w (.ref (z.2.1 o) :: As)) As :=
  ⟨m_blind, va_recv hK.1 hW hc (zw_at ho hE), fun U hU hw => ⟨rfl, by rw [hU]; exact hW, ks_warm hw hK⟩⟩
/-- behind a call that leaves the heap -/
theorem m_goR {v : Option Value} (hr : va_Run p l e R s m args below meth c H locs cells slots 0 0 (F0 m pc ls st0) rest (QR v a) (fun _ => False))
    (kk : W p l e R s m args below meth c H locs cells slots Q (F0 m (pc + 3) ls (v.toList ++ rest))) : W p l e R s m args below meth c H locs cells slots Q (F0 m pc ls st0) := by
  intro T hT X
  obtain ⟨v', st₀, t, T', L, h0, X', hL, e1, e2, ⟨hv, hh⟩, st⟩ := hr T hT X
  cases hv
  have hLn : L = [] := by
    cases L with
    | nil => rfl
    | cons q _ => exact (hL q List.mem_cons_self).elim
  subst hLn
  rw [List.append_nil] at X'
  obtain ⟨t2, a1, b1⟩ := kk T' (by rw [e1, hh, h0]) X'
  exact ⟨t2, st t2 a1, b1⟩
/-- behind a call that writes -/
theorem m_goW {v : Option Value} {w' : Mem} (hr : va_Run p l e R s m args below meth c H locs cells slots 0 0 (F0 m pc ls st0) rest (QW z v w' a) (az z)) (hS : va_S (az z) H0 H locs)
    (kk : ∀ (H1 : Heap) (locs1 : List Loc), hd z w' H1 → va_S (az z) H0 H1 locs1 → W p l e R s m args below meth c H1 locs1 cells slots Q (F0 m (pc + 3) ls (v.toList ++ rest))) : W p l e R s m args below meth c H locs cells slots Q (F0 m pc ls st0) := by
  intro T hT X
  obtain ⟨v', st₀, t, T', L, h0, X', hL, e1, e2, ⟨⟨hv, hp⟩, hz, hk⟩, st⟩ := hr T hT X
  cases hv
  rw [h0] at hz hk
  obtain ⟨t2, a1, b1⟩ := kk T'.heap (locs ++ L) (by rw [e1]; exact hp)
    ⟨Nat.le_trans hS.1 (by rw [e1]; exact hz), fun q h1 h2 => by rw [e1, hk q (Nat.lt_of_lt_of_le h1 hS.1) h2]; exact hS.2.1 q h1 h2, fun q hq => by
      rcases List.mem_append.mp hq with h | h
      · exact hS.2.2 q h
      · exact hL q h⟩ T' rfl X'
  exact ⟨t2, st t2 a1, b1⟩
theorem m_goRi {r : Int32} (hr : va_Run p l e R s m args below meth c H locs cells slots 0 0 (F0 m pc ls st0) rest (QR (some (.int r)) a) (fun _ => False))
    (kk : W p l e R s m args below meth c H locs cells slots Q (F0 m (pc + 3) ls (.int r :: rest))) : W p l e R s m args below meth c H locs cells slots Q (F0 m pc ls st0) := m_goR hr kk
theorem m_goWi {r : Int32} {w' : Mem} (hr : va_Run p l e R s m args below meth c H locs cells slots 0 0 (F0 m pc ls st0) rest (QW z (some (.int r)) w' a) (az z)) (hS : va_S (az z) H0 H locs)
    (kk : ∀ (H1 : Heap) (locs1 : List Loc), hd z w' H1 → va_S (az z) H0 H1 locs1 → W p l e R s m args below meth c H1 locs1 cells slots Q (F0 m (pc + 3) ls (.int r :: rest))) : W p l e R s m args below meth c H locs cells slots Q (F0 m pc ls st0) := m_goW hr hS kk
theorem m_goRl {r : Int64} (hr : va_Run p l e R s m args below meth c H locs cells slots 0 0 (F0 m pc ls st0) rest (QR (some (.long r)) a) (fun _ => False))
    (kk : W p l e R s m args below meth c H locs cells slots Q (F0 m (pc + 3) ls (.long r :: rest))) : W p l e R s m args below meth c H locs cells slots Q (F0 m pc ls st0) := m_goR hr kk
theorem m_goWl {r : Int64} {w' : Mem} (hr : va_Run p l e R s m args below meth c H locs cells slots 0 0 (F0 m pc ls st0) rest (QW z (some (.long r)) w' a) (az z)) (hS : va_S (az z) H0 H locs)
    (kk : ∀ (H1 : Heap) (locs1 : List Loc), hd z w' H1 → va_S (az z) H0 H1 locs1 → W p l e R s m args below meth c H1 locs1 cells slots Q (F0 m (pc + 3) ls (.long r :: rest))) : W p l e R s m args below meth c H locs cells slots Q (F0 m pc ls st0) := m_goW hr hS kk
theorem m_goWv {w' : Mem} (hr : va_Run p l e R s m args below meth c H locs cells slots 0 0 (F0 m pc ls st0) rest (QW z none w' a) (az z)) (hS : va_S (az z) H0 H locs)
    (kk : ∀ (H1 : Heap) (locs1 : List Loc), hd z w' H1 → va_S (az z) H0 H1 locs1 → W p l e R s m args below meth c H1 locs1 cells slots Q (F0 m (pc + 3) ls (rest))) : W p l e R s m args below meth c H locs cells slots Q (F0 m pc ls st0) := m_goW hr hS kk
end MZ
/-! a method's contract out of the walk of its body -/
/-- as the kit's own row, for a method of a class that has native ones beside it -/
theorem m_ofWF {l : Launch} {y : MethodName} {ws ws' : List Cond} {rm : Room} {Pc : Array Value → State → Prop} {Qc : Array Value → State → Outcome → State → Prop} {mc ms : Nat} {free : Addr → Prop} {cc : ByteArray} {maxL : Nat} {ret : Option FieldType}
    (hy : plainFor y = true) (hw : ws = Cond.code y cc maxL ret :: ws')
    (body : ∀ p e s m args below meth c s₁, BodyLoose p l y (headSpec ws rm) cc maxL ret e s m args below meth c s₁ → c.maxLocals = maxL → Pc args s →
      W p l e (headSpec ws rm).room s m args below meth c s.heap [] 0 0 (MQ below Qc args s mc ms free) (entryFrame m args maxL)) : Met l y ws rm Pc Qc mc ms free := by
  refine MetFree.of_bodySF (code := cc) (maxLocals := maxL) (ret := ret) hy (fun args s m h hn => ?_) (fun p e s m args below meth c s₁ B hml hP _ => ?_)
  · obtain ⟨meth, c, h1, h2, h3, h4, h5, h6, -, -⟩ := Cond.code_spec hn (atoms_spec (ws := ws) h _ (by rw [hw]; exact List.mem_cons_self))
    exact ⟨meth, c, h1, h2, h3, h4, h5, h6⟩
  · obtain ⟨t, a1, o, b1, b2, b3⟩ := body p e s m args below meth c s₁ B hml hP s₁ (by rw [B.state]; rfl) (Stand.of_body B)
    exact ⟨t, o, a1, b1, b2, ⟨b3.1, b3.2⟩⟩
section MK
variable {l : Launch} {y : MethodName} {ws ws' : List Cond} {r0 : Room} {cc : ByteArray} {maxL : Nat} {z : LZ} {w : Mem} {av : List Value}
theorem mk_Ri {r : Int32} (hy : plainFor y = true) (hw : ws = Cond.code y cc maxL (some .int) :: ws') (hlen : (lg_sl av).length ≤ maxL)
    (body : ∀ (p : Program) (e : Env) (s : State) (m : MethodId) (args : Array Value) (below : List Frame) (meth : Method) (c : Code), p.tables.exec = Jvm.exec → c.code = cc → c.maxLocals = maxL → (∀ w ∈ ws, w.before args s = true) → s.vm.findClass y.cls = some m.cls → ks z s → hd z w s.heap → ∀ (Q : State → Prop),
      (∀ (v : Int32) (pc : Nat) (ls : Array Slot), some v = some r → decode cc pc = .ok (.ireturn, 1) → W p l e r0 s m args below meth c s.heap [] 0 0 Q (F0 m pc ls [.int v])) →
      ∀ ls, lv_has ls maxL (lv_args 0 av) → W p l e r0 s m args below meth c s.heap [] 0 0 Q (F0 m 0 ls [])) : Met l y ws r0 (PZ z w av) (QR (some (.int r))) 0 0 (fun _ => False) := by
  refine m_ofWF (cc := cc) (maxL := maxL) (ret := some .int) hy hw ?_
  intro p e s m args below meth c s₁ B hml hv
  obtain ⟨rfl, hP, hK⟩ := hv
  have hlocks := B.notSynchronized
  have hts := atoms_spec (ws := ws) B.pre
  have hl := lv_entry av (n := maxL) hlen
  rw [lg_entry_eq]
  refine body p e s m _ below meth c B.exec B.bytes hml hts (findClass_of_methodNamed B.named) hK hP _ (fun v pc ls hr hd => ?_) _ hl
  cases hr
  exact W.iret B.exec B.bytes B.returns (fun t ht hW => ⟨rfl, ht⟩) (fun q h => by cases h) hd
theorem mk_Rz {r : Int32} (hy : plainFor y = true) (hw : ws = Cond.code y cc maxL (some .boolean) :: ws') (hlen : (lg_sl av).length ≤ maxL)
    (body : ∀ (p : Program) (e : Env) (s : State) (m : MethodId) (args : Array Value) (below : List Frame) (meth : Method) (c : Code), p.tables.exec = Jvm.exec → c.code = cc → c.maxLocals = maxL → (∀ w ∈ ws, w.before args s = true) → s.vm.findClass y.cls = some m.cls → ks z s → hd z w s.heap → ∀ (Q : State → Prop),
      (∀ (v : Int32) (pc : Nat) (ls : Array Slot), some v = some r → narrow .boolean (.int v) = .int v → decode cc pc = .ok (.ireturn, 1) → W p l e r0 s m args below meth c s.heap [] 0 0 Q (F0 m pc ls [.int v])) →
      ∀ ls, lv_has ls maxL (lv_args 0 av) → W p l e r0 s m args below meth c s.heap [] 0 0 Q (F0 m 0 ls [])) : Met l y ws r0 (PZ z w av) (QR (some (.int r))) 0 0 (fun _ => False) := by
  refine m_ofWF (cc := cc) (maxL := maxL) (ret := some .boolean) hy hw ?_
  intro p e s m args below meth c s₁ B hml hv
  obtain ⟨rfl, hP, hK⟩ := hv
  have hlocks := B.notSynchronized
  have hts := atoms_spec (ws := ws) B.pre
  have hl := lv_entry av (n := maxL) hlen
  rw [lg_entry_eq]
  refine body p e s m _ below meth c B.exec B.bytes hml hts (findClass_of_methodNamed B.named) hK hP _ (fun v pc ls hr hn hd => ?_) _ hl
  cases hr
  exact W.zret B.exec B.bytes B.returns hn (fun t ht hW => ⟨rfl, ht⟩) (fun q h => by cases h) hd
theorem mk_Rl {r : Int64} (hy : plainFor y = true) (hw : ws = Cond.code y cc maxL (some .long) :: ws') (hlen : (lg_sl av).length ≤ maxL)
    (body : ∀ (p : Program) (e : Env) (s : State) (m : MethodId) (args : Array Value) (below : List Frame) (meth : Method) (c : Code), p.tables.exec = Jvm.exec → c.code = cc → c.maxLocals = maxL → (∀ w ∈ ws, w.before args s = true) → s.vm.findClass y.cls = some m.cls → ks z s → hd z w s.heap → ∀ (Q : State → Prop),
      (∀ (v : Int64) (pc : Nat) (ls : Array Slot), some v = some r → decode cc pc = .ok (.lreturn, 1) → W p l e r0 s m args below meth c s.heap [] 0 0 Q (F0 m pc ls [.long v])) →
      ∀ ls, lv_has ls maxL (lv_args 0 av) → W p l e r0 s m args below meth c s.heap [] 0 0 Q (F0 m 0 ls [])) : Met l y ws r0 (PZ z w av) (QR (some (.long r))) 0 0 (fun _ => False) := by
  refine m_ofWF (cc := cc) (maxL := maxL) (ret := some .long) hy hw ?_
  intro p e s m args below meth c s₁ B hml hv
  obtain ⟨rfl, hP, hK⟩ := hv
  have hlocks := B.notSynchronized
  have hts := atoms_spec (ws := ws) B.pre
  have hl := lv_entry av (n := maxL) hlen
  rw [lg_entry_eq]
  refine body p e s m _ below meth c B.exec B.bytes hml hts (findClass_of_methodNamed B.named) hK hP _ (fun v pc ls hr hd => ?_) _ hl
  cases hr
  exact W.lret B.exec B.bytes B.returns (fun t ht hW => ⟨rfl, ht⟩) (fun q h => by cases h) hd
theorem mk_Wi {r : Int32} {w' : Mem} (hy : plainFor y = true) (hw : ws = Cond.code y cc maxL (some .int) :: ws') (hlen : (lg_sl av).length ≤ maxL)
    (body : ∀ (p : Program) (e : Env) (s : State) (m : MethodId) (args : Array Value) (below : List Frame) (meth : Method) (c : Code), p.tables.exec = Jvm.exec → c.code = cc → c.maxLocals = maxL → (∀ w ∈ ws, w.before args s = true) → s.vm.findClass y.cls = some m.cls → ks z s → hd z w s.heap → ∀ (Q : State → Prop),
      (∀ (v : Int32) (w1 : Mem) (H : Heap) (locs : List Loc) (pc : Nat) (ls : Array Slot), some (v, w1) = some (r, w') → hd z w1 H → va_S (az z) s.heap H locs → decode cc pc = .ok (.ireturn, 1) → W p l e r0 s m args below meth c H locs 0 0 Q (F0 m pc ls [.int v])) →
      ∀ ls, lv_has ls maxL (lv_args 0 av) → W p l e r0 s m args below meth c s.heap [] 0 0 Q (F0 m 0 ls [])) : Met l y ws r0 (PZ z w av) (QW z (some (.int r)) w') 0 0 (az z) := by
  refine m_ofWF (cc := cc) (maxL := maxL) (ret := some .int) hy hw ?_
  intro p e s m args below meth c s₁ B hml hv
  obtain ⟨rfl, hP, hK⟩ := hv
  have hlocks := B.notSynchronized
  have hts := atoms_spec (ws := ws) B.pre
  have hl := lv_entry av (n := maxL) hlen
  rw [lg_entry_eq]
  refine body p e s m _ below meth c B.exec B.bytes hml hts (findClass_of_methodNamed B.named) hK hP _ (fun v w1 H locs pc ls hr hW hS hd => ?_) _ hl
  cases hr
  exact W.iret B.exec B.bytes B.returns (fun t ht _ => ⟨⟨rfl, by rw [ht]; exact hW⟩, hS.F ht⟩) hS.2.2 hd
theorem mk_Wz {r : Int32} {w' : Mem} (hy : plainFor y = true) (hw : ws = Cond.code y cc maxL (some .boolean) :: ws') (hlen : (lg_sl av).length ≤ maxL)
    (body : ∀ (p : Program) (e : Env) (s : State) (m : MethodId) (args : Array Value) (below : List Frame) (meth : Method) (c : Code), p.tables.exec = Jvm.exec → c.code = cc → c.maxLocals = maxL → (∀ w ∈ ws, w.before args s = true) → s.vm.findClass y.cls = some m.cls → ks z s → hd z w s.heap → ∀ (Q : State → Prop),
      (∀ (v : Int32) (w1 : Mem) (H : Heap) (locs : List Loc) (pc : Nat) (ls : Array Slot), some (v, w1) = some (r, w') → narrow .boolean (.int v) = .int v → hd z w1 H → va_S (az z) s.heap H locs → decode cc pc = .ok (.ireturn, 1) → W p l e r0 s m args below meth c H locs 0 0 Q (F0 m pc ls [.int v])) →
      ∀ ls, lv_has ls maxL (lv_args 0 av) → W p l e r0 s m args below meth c s.heap [] 0 0 Q (F0 m 0 ls [])) : Met l y ws r0 (PZ z w av) (QW z (some (.int r)) w') 0 0 (az z) := by
  refine m_ofWF (cc := cc) (maxL := maxL) (ret := some .boolean) hy hw ?_
  intro p e s m args below meth c s₁ B hml hv
  obtain ⟨rfl, hP, hK⟩ := hv
  have hlocks := B.notSynchronized
  have hts := atoms_spec (ws := ws) B.pre
  have hl := lv_entry av (n := maxL) hlen
  rw [lg_entry_eq]
  refine body p e s m _ below meth c B.exec B.bytes hml hts (findClass_of_methodNamed B.named) hK hP _ (fun v w1 H locs pc ls hr hn hW hS hd => ?_) _ hl
  cases hr
  exact W.zret B.exec B.bytes B.returns hn (fun t ht _ => ⟨⟨rfl, by rw [ht]; exact hW⟩, hS.F ht⟩) hS.2.2 hd
theorem mk_Wl {r : Int64} {w' : Mem} (hy : plainFor y = true) (hw : ws = Cond.code y cc maxL (some .long) :: ws') (hlen : (lg_sl av).length ≤ maxL)
    (body : ∀ (p : Program) (e : Env) (s : State) (m : MethodId) (args : Array Value) (below : List Frame) (meth : Method) (c : Code), p.tables.exec = Jvm.exec → c.code = cc → c.maxLocals = maxL → (∀ w ∈ ws, w.before args s = true) → s.vm.findClass y.cls = some m.cls → ks z s → hd z w s.heap → ∀ (Q : State → Prop),
      (∀ (v : Int64) (w1 : Mem) (H : Heap) (locs : List Loc) (pc : Nat) (ls : Array Slot), some (v, w1) = some (r, w') → hd z w1 H → va_S (az z) s.heap H locs → decode cc pc = .ok (.lreturn, 1) → W p l e r0 s m args below meth c H locs 0 0 Q (F0 m pc ls [.long v])) →
      ∀ ls, lv_has ls maxL (lv_args 0 av) → W p l e r0 s m args below meth c s.heap [] 0 0 Q (F0 m 0 ls [])) : Met l y ws r0 (PZ z w av) (QW z (some (.long r)) w') 0 0 (az z) := by
  refine m_ofWF (cc := cc) (maxL := maxL) (ret := some .long) hy hw ?_
  intro p e s m args below meth c s₁ B hml hv
  obtain ⟨rfl, hP, hK⟩ := hv
  have hlocks := B.notSynchronized
  have hts := atoms_spec (ws := ws) B.pre
  have hl := lv_entry av (n := maxL) hlen
  rw [lg_entry_eq]
  refine body p e s m _ below meth c B.exec B.bytes hml hts (findClass_of_methodNamed B.named) hK hP _ (fun v w1 H locs pc ls hr hW hS hd => ?_) _ hl
  cases hr
  exact W.lret B.exec B.bytes B.returns (fun t ht _ => ⟨⟨rfl, by rw [ht]; exact hW⟩, hS.F ht⟩) hS.2.2 hd
theorem mk_Wv {w' : Mem} (hy : plainFor y = true) (hw : ws = Cond.code y cc maxL none :: ws') (hlen : (lg_sl av).length ≤ maxL)
    (body : ∀ (p : Program) (e : Env) (s : State) (m : MethodId) (args : Array Value) (below : List Frame) (meth : Method) (c : Code), p.tables.exec = Jvm.exec → c.code = cc → c.maxLocals = maxL → (∀ w ∈ ws, w.before args s = true) → s.vm.findClass y.cls = some m.cls → ks z s → hd z w s.heap → ∀ (Q : State → Prop),
      (∀ (w1 : Mem) (H : Heap) (locs : List Loc) (pc : Nat) (ls : Array Slot), some w1 = some w' → hd z w1 H → va_S (az z) s.heap H locs → decode cc pc = .ok (.return_, 1) → W p l e r0 s m args below meth c H locs 0 0 Q (F0 m pc ls [])) →
      ∀ ls, lv_has ls maxL (lv_args 0 av) → W p l e r0 s m args below meth c s.heap [] 0 0 Q (F0 m 0 ls [])) : Met l y ws r0 (PZ z w av) (QW z none w') 0 0 (az z) := by
  refine m_ofWF (cc := cc) (maxL := maxL) (ret := none) hy hw ?_
  intro p e s m args below meth c s₁ B hml hv
  obtain ⟨rfl, hP, hK⟩ := hv
  have hlocks := B.notSynchronized
  have hts := atoms_spec (ws := ws) B.pre
  have hl := lv_entry av (n := maxL) hlen
  rw [lg_entry_eq]
  refine body p e s m _ below meth c B.exec B.bytes hml hts (findClass_of_methodNamed B.named) hK hP _ (fun w1 H locs pc ls hr hW hS hd => ?_) _ hl
  cases hr
  exact W.vret B.exec B.bytes B.returns (fun t ht _ => ⟨⟨rfl, by rw [ht]; exact hW⟩, hS.F ht⟩) hS.2.2 hd
end MK
