/-! ===== methods that throw: what a contract says of them ===== -/
abbrev rmx (f n : Nat) : Room := { frames := f, cells := 1, slots := 6, locals := n }
def xIA : String := "java/lang/IllegalArgumentException"
def xIS : String := "java/lang/IllegalStateException"
def exn (k : Nat) : String := if k = 0 then "java/lang/IllegalArgumentException" else "java/lang/IllegalStateException"
abbrev xNM : List String := ["java/lang/RuntimeException", "java/lang/Exception"]
def xstr : List (Nat × String) := [(131, "no such what"), (138, "no such point"), (148, "no pattern"), (160, "no disc at work"), (182, "no such stitch"), (213, "no such side, or no disc with a length"), (229, "no such side or stitch, or no disc with a length"), (302, "none was sewn"), (401, "no such tape"), (407, "no row, or no such place")]
/-- what a throw needs of the state: the texts, and Throwable's two statics, that no object of the layout is -/
def xBs : List Cond := [.castable xIA xIA, .castable xIS xIS, .declares (Bundle.initS "java/lang/RuntimeException"), .declares (Bundle.initS "java/lang/Exception"), .declares (Bundle.initS Bundle.tN)]
def xk (z : LZ) (U : State) : Prop := ((∀ w ∈ xBs, va_Nw w U) ∧ va_Nc xIS xIA U) ∧ (∀ q ∈ xstr, ∃ sa, vk_R RX10 q.1 q.2 sa U) ∧ vx_Zq Bundle.tN "UNASSIGNED_STACK" Bundle.steD (az z) U U.heap ∧ vx_Zq Bundle.tN "SUPPRESSED_SENTINEL" Bundle.listD (az z) U U.heap
theorem xk_call {z : LZ} {U : State} {g : JFrame} {mk : MethodId} {a : Array Value} (h : xk z U) : xk z (U.calling g mk a) := by
  obtain ⟨⟨h0, h9⟩, h1, h2, h3⟩ := h
  refine ⟨⟨fun w hw => va_Nw.same (u := U) (by simp only [xBs, List.mem_cons, List.not_mem_nil, or_false] at hw; rcases hw with rfl | rfl | rfl | rfl | rfl <;> rfl) rfl (h0 w hw), va_Nc.moved (u := U) (U := U.calling g mk a) (Vm.Alike.refl U.vm) h9⟩, fun q hq => ?_, vx_Zq.moved (u := U) (U := U.calling g mk a) (Vm.Alike.refl U.vm) h2, vx_Zq.moved (u := U) (U := U.calling g mk a) (Vm.Alike.refl U.vm) h3⟩
  obtain ⟨sa, hs⟩ := h1 q hq
  exact ⟨sa, vk_R.same rfl hs⟩
theorem xk_warm {z : LZ} {s U : State} {H : Heap} (hW : s.WarmedH U.vm) (h00 : (∀ w ∈ xBs, va_Nw w s) ∧ va_Nc xIS xIA s) (h1 : ∀ q ∈ xstr, ∃ sa, vk_R RX10 q.1 q.2 sa s) (h2 : vx_Zq Bundle.tN "UNASSIGNED_STACK" Bundle.steD (az z) s H) (h3 : vx_Zq Bundle.tN "SUPPRESSED_SENTINEL" Bundle.listD (az z) s H) (hU : U.heap = H) : xk z U := by
  obtain ⟨h0, h9⟩ := h00
  refine ⟨⟨fun w hw => ?_, h9.moved hW.alike⟩, fun q hq => ?_, ?_, ?_⟩
  · have hn := h0 w hw
    simp only [xBs, List.mem_cons, List.not_mem_nil, or_false] at hw
    rcases hw with rfl | rfl | rfl | rfl | rfl
    · exact va_Nw.warmC hW hn
    · exact va_Nw.warmC hW hn
    · exact va_Nw.warmD hW hn
    · exact va_Nw.warmD hW hn
    · exact va_Nw.warmD hW hn
  · obtain ⟨sa, hs⟩ := h1 q hq
    exact ⟨sa, hs.warm hW⟩
  · rw [hU]; exact h2.moved hW.alike
  · rw [hU]; exact h3.moved hW.alike
def PX (z : LZ) (w : Mem) (av : List Value) : Array Value → State → Prop := va_Pc av (fun U => hd z w U.heap ∧ ks z U ∧ xk z U)
def QXi (z : LZ) (o : Sum Int32 Nat) (w : Mem) : Array Value → State → Outcome → State → Prop := fun _ st oc t => (∃ v : Int32, o = .inl v ∧ oc = .returned (some (.int v)) ∧ hd z w t.heap) ∧ va_F (az z) st t
def QXl (z : LZ) (o : Sum Int64 Nat) (w : Mem) : Array Value → State → Outcome → State → Prop := fun _ st oc t => (∃ v : Int64, o = .inl v ∧ oc = .returned (some (.long v)) ∧ hd z w t.heap) ∧ va_F (az z) st t
def XZ {α : Type} (z : LZ) (o : Sum α Nat) (w : Mem) : String → State → State → Prop := fun E st t => (∃ k : Nat, o = .inr k ∧ E = exn k ∧ hd z w t.heap) ∧ va_F (az z) st t
theorem x_good : ∀ k, k < 2 → ∀ w ∈ Cond.classLink RX10 (if k = 0 then 129 else 136) (exn k) :: Cond.initialized (exn k) :: vx_atS RX10 (if k = 0 then 133 else 140) (exn k) xNM, vx_ot w = true := by decide +kernel
theorem x_bad : ∀ k, k < 2 → ∀ w ∈ (vx_atS RX10 (if k = 0 then 133 else 140) (exn k) xNM).filter (fun w => !goodWord w), w ∈ xBs := by decide +kernel
theorem x_hat {args : Array Value} {s : State} (h0 : ∀ w ∈ xBs, va_Nw w s) (k : Nat) (hk : k < 2) (h1 : ∀ w ∈ (vx_atS RX10 (if k = 0 then 133 else 140) (exn k) xNM).filter goodWord, w.before args s = true) : ∀ w ∈ vx_atS RX10 (if k = 0 then 133 else 140) (exn k) xNM, w.before args s = true := vx_hat h1 (x_bad k hk) (fun w hw => va_Nw.use (by simp only [xBs, List.mem_cons, List.not_mem_nil, or_false] at hw; rcases hw with rfl | rfl | rfl | rfl | rfl <;> rfl) (h0 w hw))
theorem x_fit : ∀ k, k < 2 → Bundle.fit (exn k) = true := by decide +kernel
theorem x_fits : ∀ n ∈ xNM, Bundle.fit n = true := by decide +kernel
theorem hd_kept {z : LZ} {w : Mem} {H H1 : Heap} (h : hd z w H) (hk : ∀ q : Nat, q < H.size → H1[q]? = H[q]?) : hd z w H1 := va_P.kept h (fun k q hq => hk q.1 (h k q hq).lt)
/-- a method's return, by its type -/
def xret (rt : FieldType) : Instr := match rt with
  | .long => .lreturn
  | _ => .ireturn
section XR
variable {p : Program} {l : Launch} {e : Env} {R : Room} {s : State} {m : MethodId} {args : Array Value} {below : List Frame} {meth : Method} {c : Code} {H : Heap} {locs : List Loc} {Q : State → Prop}
variable {cc : ByteArray} {pc : Nat} {ls : Array Slot} {rest : List Value} {z : LZ} {w : Mem} {H0 : Heap}
/-- new E(text), thrown, and out of the method -/
theorem x_throw {α : Type} {o : Sum α Nat} {Qc : Array Value → State → Outcome → State → Prop} (hx : p.tables.exec = Jvm.exec) (hb : c.code = cc) (hst : l.stackTraces = false) (hown : s.vm.findClass RX10 = some m.cls) (hX : xk z s) (hlocks : meth.locks = false) (htab : ∀ x ∈ c.exceptionTable.toList, False) (hW : hd z w H) (hS : va_S (az z) s.heap H locs)
    (k is : Nat) (text : String) (hk : k < 2) (ho : o = .inr k) (hq : (is, text) ∈ xstr) (hsize : ls.size = c.maxLocals)
    (h1 : (Cond.classLink RX10 (if k = 0 then 129 else 136) (exn k)).before args s = true) (h2 : (Cond.initialized (exn k)).before args s = true) (h3 : ∀ w ∈ (vx_atS RX10 (if k = 0 then 133 else 140) (exn k) xNM).filter goodWord, w.before args s = true)
    (d0 : decode cc pc = .ok (.new (if k = 0 then 129 else 136), 3)) (d3 : decode cc (pc + 3) = .ok (.dup, 1)) (d4 : decode cc (pc + 4) = .ok (.ldc is, 2)) (d6 : decode cc (pc + 6) = .ok (.invokespecial (if k = 0 then 133 else 140), 3)) (d9 : decode cc (pc + 9) = .ok (.athrow, 1))
    (hR : 5 < R.frames ∧ (rest.map fun v => v.category).sum + 82 ≤ R.locals ∧ 1 ≤ R.cells ∧ 6 ≤ R.slots) :
    W p l e R s m args below meth c H locs 0 0 (vx_MQ below Qc (XZ z o w) args s 1 6 (az z)) (F0 m pc ls rest) := by
  obtain ⟨sa, hs⟩ := hX.2.1 _ hq
  refine vx_throwS (cls := exn k) (names := xNM) (A := az z) hx hb hst hown (x_fit k hk) x_fits h1 h2 hs (x_hat hX.1.1 k hk h3) (x_good k hk) hX.2.2.1 hX.2.2.2 hS hsize d0 d3 d4 d6 d9 (fun x hx => (htab x hx).elim) hR.1 hR.2.1 (by show 0 + 1 ≤ _; exact hR.2.2.1) (by show 0 + 6 ≤ _; omega) hlocks (fun t ha hz hk2 => ?_) hS.2.2 (Nat.le_refl _) (Nat.le_refl _)
  exact ⟨⟨k, ho, rfl, hd_kept hW hk2⟩, Nat.le_trans hS.1 hz, fun q h1 h2 => (hk2 q (Nat.lt_of_lt_of_le h1 hS.1)).trans (hS.2.1 q h1 h2)⟩
theorem x_throwW {α : Type} {o : Sum α Nat} {Qc : Array Value → State → Outcome → State → Prop} (hx : p.tables.exec = Jvm.exec) (hb : c.code = cc) (hst : l.stackTraces = false) (hown : s.vm.findClass RX10 = some m.cls) (hX : xk z s) (hlocks : meth.locks = false) (htab : ∀ x ∈ c.exceptionTable.toList, False) (hW : hd z w H) (hS : va_S (az z) s.heap H locs)
    (k is : Nat) (text : String) (hk : k < 2) (ho : o = .inr k) (hq : (is, text) ∈ xstr) (hsize : ls.size = c.maxLocals)
    (h1 : (Cond.classLink RX10 (if k = 0 then 129 else 136) (exn k)).before args s = true) (h2 : (Cond.initialized (exn k)).before args s = true) (h3 : ∀ w ∈ (vx_atS RX10 (if k = 0 then 133 else 140) (exn k) xNM).filter goodWord, w.before args s = true)
    (d0 : decode cc pc = .ok (.new (if k = 0 then 129 else 136), 3)) (d3 : decode cc (pc + 3) = .ok (.dup, 1)) (d4 : decode cc (pc + 4) = .ok (.ldc_w is, 3)) (d7 : decode cc (pc + 7) = .ok (.invokespecial (if k = 0 then 133 else 140), 3)) (d10 : decode cc (pc + 10) = .ok (.athrow, 1))
    (hR : 5 < R.frames ∧ (rest.map fun v => v.category).sum + 82 ≤ R.locals ∧ 1 ≤ R.cells ∧ 6 ≤ R.slots) :
    W p l e R s m args below meth c H locs 0 0 (vx_MQ below Qc (XZ z o w) args s 1 6 (az z)) (F0 m pc ls rest) := by
  obtain ⟨sa, hs⟩ := hX.2.1 _ hq
  refine vx_throwSW (cls := exn k) (names := xNM) (A := az z) hx hb hst hown (x_fit k hk) x_fits h1 h2 hs (x_hat hX.1.1 k hk h3) (x_good k hk) hX.2.2.1 hX.2.2.2 hS hsize d0 d3 d4 d7 d10 (fun x hx => (htab x hx).elim) hR.1 hR.2.1 (by show 0 + 1 ≤ _; exact hR.2.2.1) (by show 0 + 6 ≤ _; omega) hlocks (fun t ha hz hk2 => ?_) hS.2.2 (Nat.le_refl _) (Nat.le_refl _)
  exact ⟨⟨k, ho, rfl, hd_kept hW hk2⟩, Nat.le_trans hS.1 hz, fun q h1 h2 => (hk2 q (Nat.lt_of_lt_of_le h1 hS.1)).trans (hS.2.1 q h1 h2)⟩
/-- behind a call that returns or throws -/
theorem m_goXi {o : Sum Int32 Nat} {w' : Mem} {cells slots : Nat} {a : Array Value} {st0 : List Value} (hr : vx_Run p l e R s m args below meth c H locs cells slots 1 6 (F0 m pc ls st0) rest (QXi z o w' a) (XZ z o w') (az z)) (hS : va_S (az z) H0 H locs)
    (kx : ∀ (k : Nat) (ce : Cell) (q9 : Addr) (H1 : Heap) (locs1 : List Loc), o = .inr k → hd z w' H1 → va_S (az z) H0 H1 locs1 → H1[q9]? = some ce → ce.vm = .none → s.vm.findClass (exn k) = some ce.cls → vx_W p l e R s m args below meth c H1 locs1 (cells + 1) (slots + 6) Q (F0 m pc ls rest) q9)
    (kk : ∀ (v : Int32) (H1 : Heap) (locs1 : List Loc), o = .inl v → hd z w' H1 → va_S (az z) H0 H1 locs1 → W p l e R s m args below meth c H1 locs1 (cells + 1) (slots + 6) Q (F0 m (pc + 3) ls (.int v :: rest))) : W p l e R s m args below meth c H locs cells slots Q (F0 m pc ls st0) := by
  intro T hT X
  rcases hr T hT X with ⟨v, st₀, t, T', L, h0, X', hL, e1, e2, ⟨⟨r, ho, hv, hb⟩, hF⟩, st⟩ | ⟨q, st₀, t, T', L, E, ce, h0, X', hL, e1, e2, ⟨⟨k, ho, hE, hb⟩, hF⟩, hce, hcv, hcl, st⟩
  · cases hv
    obtain ⟨k1, k2, k3⟩ := vx_keep h0 e1 hS (fun q _ h => h) (fun q h => h) hL hF
    obtain ⟨t2, a1, b1⟩ := kk r T'.heap (locs ++ L) ho (by rw [e1]; exact hb) k3 T' rfl X'
    exact ⟨t2, st t2 a1, b1⟩
  · subst hE
    obtain ⟨k1, k2, k3⟩ := vx_keep h0 e1 hS (fun q _ h => h) (fun q h => h) hL hF
    obtain ⟨t2, a1, b1⟩ := kx k ce q T'.heap (locs ++ L) ho (by rw [e1]; exact hb) k3 (by rw [e1]; exact hce) hcv hcl T' rfl X'
    exact ⟨t2, st.trans a1, b1⟩
theorem m_goXl {o : Sum Int64 Nat} {w' : Mem} {cells slots : Nat} {a : Array Value} {st0 : List Value} (hr : vx_Run p l e R s m args below meth c H locs cells slots 1 6 (F0 m pc ls st0) rest (QXl z o w' a) (XZ z o w') (az z)) (hS : va_S (az z) H0 H locs)
    (kx : ∀ (k : Nat) (ce : Cell) (q9 : Addr) (H1 : Heap) (locs1 : List Loc), o = .inr k → hd z w' H1 → va_S (az z) H0 H1 locs1 → H1[q9]? = some ce → ce.vm = .none → s.vm.findClass (exn k) = some ce.cls → vx_W p l e R s m args below meth c H1 locs1 (cells + 1) (slots + 6) Q (F0 m pc ls rest) q9)
    (kk : ∀ (v : Int64) (H1 : Heap) (locs1 : List Loc), o = .inl v → hd z w' H1 → va_S (az z) H0 H1 locs1 → W p l e R s m args below meth c H1 locs1 (cells + 1) (slots + 6) Q (F0 m (pc + 3) ls (.long v :: rest))) : W p l e R s m args below meth c H locs cells slots Q (F0 m pc ls st0) := by
  intro T hT X
  rcases hr T hT X with ⟨v, st₀, t, T', L, h0, X', hL, e1, e2, ⟨⟨r, ho, hv, hb⟩, hF⟩, st⟩ | ⟨q, st₀, t, T', L, E, ce, h0, X', hL, e1, e2, ⟨⟨k, ho, hE, hb⟩, hF⟩, hce, hcv, hcl, st⟩
  · cases hv
    obtain ⟨k1, k2, k3⟩ := vx_keep h0 e1 hS (fun q _ h => h) (fun q h => h) hL hF
    obtain ⟨t2, a1, b1⟩ := kk r T'.heap (locs ++ L) ho (by rw [e1]; exact hb) k3 T' rfl X'
    exact ⟨t2, st t2 a1, b1⟩
  · subst hE
    obtain ⟨k1, k2, k3⟩ := vx_keep h0 e1 hS (fun q _ h => h) (fun q h => h) hL hF
    obtain ⟨t2, a1, b1⟩ := kx k ce q T'.heap (locs ++ L) ho (by rw [e1]; exact hb) k3 (by rw [e1]; exact hce) hcv hcl T' rfl X'
    exact ⟨t2, st.trans a1, b1⟩
theorem x_blind {av : List Value} : FrameBlind (PX z w av) := fun a U g mk q => ⟨q.1, q.2.1, ks_call q.2.2.1, xk_call q.2.2.2⟩
end XR
section MX
variable {l : Launch} {y : MethodName} {ws ws' : List Cond} {r0 : Room} {cc : ByteArray} {maxL : Nat} {z : LZ} {w : Mem} {av : List Value}
theorem mk_X {α : Type} {o : Sum α Nat} {w' : Mem} {rt : FieldType} {Qc : Array Value → State → Outcome → State → Prop} (vv : α → Value) (hst : l.stackTraces = false) (hy : plainName y.cls = true) (hyc : y.cls = RX10) (hw : ws = Cond.code y cc maxL (some rt) :: ws') (hlen : (lg_sl av).length ≤ maxL)
    (hqc : ∀ (p : Program) (e : Env) (s : State) (m : MethodId) (args : Array Value) (below : List Frame) (meth : Method) (c : Code) (H : Heap) (locs : List Loc) (pc : Nat) (ls : Array Slot) (v : α), p.tables.exec = Jvm.exec → c.code = cc → meth.sig.returnType = some rt → meth.locks = false → o = .inl v → hd z w' H → va_S (az z) s.heap H locs → decode cc pc = .ok (xret rt, 1) → W p l e r0 s m args below meth c H locs 1 6 (MQ below Qc args s 1 6 (az z)) (F0 m pc ls [vv v]))
    (hR : 5 < r0.frames ∧ 90 ≤ r0.locals ∧ 1 ≤ r0.cells ∧ 6 ≤ r0.slots)
    (body : ∀ (p : Program) (e : Env) (s : State) (m : MethodId) (args : Array Value) (below : List Frame) (meth : Method) (c : Code), p.tables.exec = Jvm.exec → c.code = cc → c.maxLocals = maxL → (∀ w ∈ ws, w.before args s = true) → s.vm.findClass RX10 = some m.cls → ks z s → hd z w s.heap → ∀ (Q : State → Prop),
      (∀ (v : α) (w1 : Mem) (H : Heap) (locs : List Loc) (pc : Nat) (ls : Array Slot), some ((Sum.inl v : Sum α Nat), w1) = some (o, w') → hd z w1 H → va_S (az z) s.heap H locs → decode cc pc = .ok (xret rt, 1) → W p l e r0 s m args below meth c H locs 0 0 Q (F0 m pc ls [vv v])) →
      (∀ (k is : Nat) (text : String) (w1 : Mem) (H : Heap) (locs : List Loc) (pc : Nat) (ls : Array Slot) (rest : List Value), k < 2 → some ((Sum.inr k : Sum α Nat), w1) = some (o, w') → (is, text) ∈ xstr → hd z w1 H → va_S (az z) s.heap H locs → ls.size = maxL →
        (Cond.classLink RX10 (if k = 0 then 129 else 136) (exn k)) ∈ ws → (Cond.initialized (exn k)) ∈ ws → (∀ w ∈ (vx_atS RX10 (if k = 0 then 133 else 140) (exn k) xNM).filter goodWord, w ∈ ws) →
        decode cc pc = .ok (.new (if k = 0 then 129 else 136), 3) → decode cc (pc + 3) = .ok (.dup, 1) → decode cc (pc + 4) = .ok (.ldc is, 2) → decode cc (pc + 6) = .ok (.invokespecial (if k = 0 then 133 else 140), 3) → decode cc (pc + 9) = .ok (.athrow, 1) → (rest.map fun v => v.category).sum ≤ 8 →
        W p l e r0 s m args below meth c H locs 0 0 Q (F0 m pc ls rest)) →
      (∀ (k is : Nat) (text : String) (w1 : Mem) (H : Heap) (locs : List Loc) (pc : Nat) (ls : Array Slot) (rest : List Value), k < 2 → some ((Sum.inr k : Sum α Nat), w1) = some (o, w') → (is, text) ∈ xstr → hd z w1 H → va_S (az z) s.heap H locs → ls.size = maxL →
        (Cond.classLink RX10 (if k = 0 then 129 else 136) (exn k)) ∈ ws → (Cond.initialized (exn k)) ∈ ws → (∀ w ∈ (vx_atS RX10 (if k = 0 then 133 else 140) (exn k) xNM).filter goodWord, w ∈ ws) →
        decode cc pc = .ok (.new (if k = 0 then 129 else 136), 3) → decode cc (pc + 3) = .ok (.dup, 1) → decode cc (pc + 4) = .ok (.ldc_w is, 3) → decode cc (pc + 7) = .ok (.invokespecial (if k = 0 then 133 else 140), 3) → decode cc (pc + 10) = .ok (.athrow, 1) → (rest.map fun v => v.category).sum ≤ 8 →
        W p l e r0 s m args below meth c H locs 0 0 Q (F0 m pc ls rest)) →
      ∀ ls, lv_has ls maxL (lv_args 0 av) → W p l e r0 s m args below meth c s.heap [] 0 0 Q (F0 m 0 ls [])) : vx_Met l y ws r0 (PX z w av) Qc (XZ z o w') 1 6 (az z) := by
  refine vx_ofW (cc := cc) (maxL := maxL) (ret := some rt) hy hw ?_
  intro p e s m args below meth c s₁ B hml htab hv
  obtain ⟨rfl, hP, hK, hX⟩ := hv
  have hlocks := B.notSynchronized
  have hts := atoms_spec (ws := ws) B.pre
  have hown : s.vm.findClass RX10 = some m.cls := by rw [← hyc]; exact findClass_of_methodNamed B.named
  have hl := lv_entry av (n := maxL) hlen
  rw [lg_entry_eq]
  refine body p e s m _ below meth c B.exec B.bytes hml hts hown hK hP _ (fun v w1 H locs pc ls hr hW hS hd => ?_) (fun k is text w1 H locs pc ls rest hk hr hq hW hS hsz h1 h2 h3 d0 d3 d4 d6 d9 hc => ?_) (fun k is text w1 H locs pc ls rest hk hr hq hW hS hsz h1 h2 h3 d0 d3 d4 d7 d10 hc => ?_) _ hl
  · cases hr
    refine vx_ret (W.widen (k := 1) (n := 6) (Nat.zero_le _) (Nat.zero_le _) ?_)
    exact hqc p e s m _ below meth c H locs pc ls v B.exec B.bytes B.returns hlocks rfl hW hS hd
  · cases hr
    exact x_throw B.exec B.bytes hst hown hX hlocks htab hW hS k is text hk rfl hq (hsz.trans hml.symm) (hts _ h1) (hts _ h2) (fun w hw => hts w (h3 w hw)) d0 d3 d4 d6 d9 ⟨hR.1, by show _ ≤ r0.locals; omega, hR.2.2.1, hR.2.2.2⟩
  · cases hr
    exact x_throwW B.exec B.bytes hst hown hX hlocks htab hW hS k is text hk rfl hq (hsz.trans hml.symm) (hts _ h1) (hts _ h2) (fun w hw => hts w (h3 w hw)) d0 d3 d4 d7 d10 ⟨hR.1, by show _ ≤ r0.locals; omega, hR.2.2.1, hR.2.2.2⟩
theorem xq_i {o : Sum Int32 Nat} {w' : Mem} : ∀ (p : Program) (e : Env) (s : State) (m : MethodId) (args : Array Value) (below : List Frame) (meth : Method) (c : Code) (H : Heap) (locs : List Loc) (pc : Nat) (ls : Array Slot) (v : Int32), p.tables.exec = Jvm.exec → c.code = cc → meth.sig.returnType = some .int → meth.locks = false → o = .inl v → hd z w' H → va_S (az z) s.heap H locs → decode cc pc = .ok (xret .int, 1) → W p l e r0 s m args below meth c H locs 1 6 (MQ below (QXi z o w') args s 1 6 (az z)) (F0 m pc ls [.int v]) := by
  intro p e s m args below meth c H locs pc ls v hx hb hr hlocks ho hW hS hd
  exact W.iret hx hb hr (fun t ht _ => ⟨⟨v, ho, rfl, by rw [ht]; exact hW⟩, hS.F ht⟩) hS.2.2 hd
theorem xq_l {o : Sum Int64 Nat} {w' : Mem} : ∀ (p : Program) (e : Env) (s : State) (m : MethodId) (args : Array Value) (below : List Frame) (meth : Method) (c : Code) (H : Heap) (locs : List Loc) (pc : Nat) (ls : Array Slot) (v : Int64), p.tables.exec = Jvm.exec → c.code = cc → meth.sig.returnType = some .long → meth.locks = false → o = .inl v → hd z w' H → va_S (az z) s.heap H locs → decode cc pc = .ok (xret .long, 1) → W p l e r0 s m args below meth c H locs 1 6 (MQ below (QXl z o w') args s 1 6 (az z)) (F0 m pc ls [.long v]) := by
  intro p e s m args below meth c H locs pc ls v hx hb hr hlocks ho hW hS hd
  exact W.lret hx hb hr (fun t ht _ => ⟨⟨v, ho, rfl, by rw [ht]; exact hW⟩, hS.F ht⟩) hS.2.2 hd
end MX
