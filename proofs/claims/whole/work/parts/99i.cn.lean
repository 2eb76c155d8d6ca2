/-! THE CLAIM OUT OF ONE WALK OF THE LAW'S BODY. Your part is whole_start (and what it stands on); all else here is the same for every law, but numbers. -/
def R_law : String := "CamStitchLaw"
def lw_P (b : Addr) (xs : List Int32) (args : Array Value) (s : State) : Prop := args = #[.ref b] ∧ s.IntsAt b xs ∧ xs.length ≤ 3072 ∧ (Jvm.Cond.and given_1 narrow_1).before args s = true
def lw_Q (_ : Array Value) (s : State) (o : Outcome) (t : State) : Prop := o = .returned (some (.int 1)) ∧ Framed s o t [] room_1.cells room_1.slots
def lw_Z (below : List Frame) (a : Array Value) (s : State) : State → Prop := fun t => ∃ o, t.status = .running ∧ Ended t below o ∧ lw_Q a s o t
/-- the law's own end, with 1 on the stack, nothing written that was there before, its room as the claim has it -/
theorem lw_ret {p : Program} {l : Launch} {e : Env} {s : State} {m : MethodId} {below : List Frame} {meth : Method} {c : Code} {b : Nat} (hx : p.tables.exec = Jvm.exec) (hb : c.code = code) (hr : meth.sig.returnType = ret) (hlocks : meth.locks = false) {pc : Nat} {H : Heap} {ls : Array Slot} (hdg : decode code pc = .ok (.ireturn, 1)) : W p l e room_1 s m #[Value.ref b] below meth c H [] room_1.cells room_1.slots (lw_Z below #[Value.ref b] s) (F0 m pc ls [.int 1]) := by
  intro T hT X
  obtain ⟨fs, hret, hrun, hended, hW, hframe⟩ := X.leave (v := some (.int 1)) (hlocks := hlocks) (fun h => by rw [hr] at h; cases h)
  have hmeth' : T.vm.method? m = some meth := X.method'
  refine ⟨T.setFrames fs, ?_, .returned (some (.int 1)), hrun, hended, rfl, ⟨_, rfl⟩, hW, hframe⟩
  jvm_step X.here [X.here.top, hx, hb, hdg, hmeth', hr, ret, narrow_b1]
  (try refine ⟨rfl, ?_⟩); (try refine ⟨rfl, ?_⟩)
  first | (intro acts; rw [hret _ acts rfl rfl rfl]) | rw [hret _ _ rfl rfl rfl]
  exact Steps.refl _
/-- what holds at the law's entry: the machine, the code, the tables' words (any of lw_tbl by 'hts w (by decide +kernel)'), the script of L ints xs at the cell b, what the Statement gives of the start (any of its parts by flat_of_before) -/
def lw_At (p : Program) (s : State) (m : MethodId) (meth : Method) (c : Code) (b L : Nat) (xs : Nat → Int32) : Prop :=
  p.tables.exec = Jvm.exec ∧ c.code = code ∧ meth.sig.returnType = ret ∧ c.maxLocals = 8 ∧ s.vm.findClass R_law = some m.cls ∧ (∀ w ∈ lw_tbl, w.before #[Value.ref b] s = true) ∧ va_X b L xs s s.heap ∧ b < s.heap.size ∧ meth.locks = false ∧ (Jvm.Cond.and given_1 narrow_1).before #[Value.ref b] s = true
/-! ===== the law's loop (99i: by wip/gen/mk99i.py) ===== -/
theorem n_K0 {dC : Nat → ClassId} {dI : Nat → Nat → Nat} {args : Array Value} {s : State} (hK : va_K (dC, dI) vwCl [] s) (h1 : (Cond.arrayClass .int).before args s = true) (h2 : (Cond.arrayClass .long).before args s = true) (h3 : va_AO RX1 s) (h4 : va_AO RX9 s) : ∃ cI cL cD cT : ClassId, va_K (dC, dI) vwCl (nT cI cL cD cT) s := by
  obtain ⟨cI, kI, xI, i1, i2, i3⟩ := Cond.arrayClass_spec h1
  obtain ⟨cL, kL, xL, l1, l2, l3⟩ := Cond.arrayClass_spec h2
  obtain ⟨xD, cD, kD, d1, d2, d3, d4, d5⟩ := Cond.arrayOver_spec h3
  obtain ⟨xT, cT, kT, t1, t2, t3, t4, t5⟩ := Cond.arrayOver_spec h4
  refine ⟨cI, cL, cD, cT, hK.1, fun k q hq => ?_⟩
  match k, hq with
  | 0, hq => cases hq; exact ⟨fun n z => ⟨(fun k h => by cases h), kI, i2, xI, i3⟩, i1⟩
  | 1, hq => cases hq; exact ⟨fun n z => ⟨(fun k h => by cases h), kL, l2, xL, l3⟩, l1⟩
  | 2, hq => cases hq; exact ⟨fun n z => ⟨(fun k h => by cases h), kD, d3, xD, d4⟩, kD, xD, d3, d4, d1, d5⟩
  | 3, hq => cases hq; exact ⟨fun n z => ⟨(fun k h => by cases h), kT, t3, xT, t4⟩, kT, xT, t3, t4, t1, t5⟩
  | k + 4, hq => simp [nT] at hq
theorem and63 (x : Int32) : ∃ n, n < 64 ∧ x &&& 63 = nI n := by
  refine ⟨(x &&& 63).toBitVec.toNat, ?_, ?_⟩
  · have h : (x &&& 63).toBitVec.toNat = x.toBitVec.toNat &&& 63 := by
      rw [Int32.toBitVec_and, BitVec.toNat_and]; rfl
    rw [h]
    exact Nat.lt_succ_of_le Nat.and_le_right
  · unfold nI
    apply Int32.toBitVec_inj.mp
    simp
set_option maxHeartbeats 4000000 in
set_option maxRecDepth 100000 in
theorem law_loop {p : Program} {l : Launch} {e : Env} {s : State} {m : MethodId} {below : List Frame} {meth : Method} {c : Code} {b L : Nat} {xs : Nat → Int32} {zC zM : LZ} (C : LX p l s m #[Value.ref b] c b L xs zC zM) (hr : meth.sig.returnType = ret) (hlocks : meth.locks = false) : ∀ (n k : Nat) (w v : Mem) (H : Heap) (locs : List Loc) (ls : Array Slot), L + 1 ≤ 6 * (k + n) → 6 * k ≤ L → Rel w v → hd zC w H → hd zM v H → va_S (lwA s) s.heap H locs → lv_has ls 8 (lwL b zC zM (6 * k)) → W p l e room_1 s m #[Value.ref b] below meth c H locs (116 + k) (14605 + 6 * k) (lw_Z below #[Value.ref b] s) (F0 m 23 ls []) := by
  have C0 := C
  obtain ⟨⟨hx, hb, hml, hown, hts⟩, ⟨hX, hbl, hL⟩, hst, ⟨hIC, hIM, hKC, hKM⟩, hXK, hAC, hAM, hdis⟩ := C
  have rc : 116 + 513 ≤ room_1.cells := Nat.le_of_ble_eq_true rfl
  have rs : 14605 + 6 * 513 + 6 ≤ room_1.slots := Nat.le_of_ble_eq_true rfl
  have hbA : ¬ lwA s b := Nat.not_le.mpr hbl
  intro n
  induction n with
  | zero => intro k w v H locs ls h1 h2; exact absurd h1 (by omega)
  | succ n ih =>
    intro k w v H locs ls h1 h2 hR hWC hWM hS hl
    refine lv_iload hx hb dL_law_23 (lv_at hl 4 rfl) ?_
    refine lv_aload_n hx hb dL_law_25 rfl (lv_at hl 0 rfl) ?_
    refine va_slen hx hb hX hbl hbA hS dL_law_26 ?_
    refine lv_bipush (v := 6) hx hb dL_law_27 (by decide) ?_
    refine lv_isub hx hb dL_law_29 ?_
    have e6 : (Int32.ofNat L - 6).toInt = (L : Int) - 6 := by
      show (nI L - 6).toInt = _
      rw [i_sub (by rw [nI_toInt (by omega)]; show -2147483648 ≤ (L : Int) - 6; omega) (by rw [nI_toInt (by omega)]; show (L : Int) - 6 < 2147483648; omega), nI_toInt (by omega)]
      rfl
    refine lv_icmp_gt (tgt := 2110) hx hb dL_law_30 (by decide) (fun _ => ?_) (fun z => ?_)
    · refine lv_iconst (v := 1) hx hb dL_law_2110 (by decide) ?_
      refine va_forget (fun q hq => hS.2.2 q hq) ?_
      refine W.widen (k := room_1.cells) (n := room_1.slots) (by omega) (by omega) ?_
      exact lw_ret hx hb hr hlocks dL_law_2111
    have hi : 6 * k + 6 ≤ L := by
      refine Decidable.byContradiction (fun q => z ?_)
      show Int32.ofNat L - 6 < nI (6 * k)
      rw [i_lt, e6, nI_toInt (by omega)]
      omega
    refine lv_aload_n hx hb dL_law_33 rfl (lv_at hl 0 rfl) ?_
    refine lv_iload hx hb dL_law_34 (lv_at hl 4 rfl) ?_
    refine va_sld hx hb hX hbl hbA hS (vp_in_nI (by omega) (by omega)) dL_law_36 ?_
    rw [nI_clamp (by omega)]
    refine lv_bipush (v := 63) hx hb dL_law_37 (by decide) ?_
    refine lv_iand hx hb dL_law_39 ?_
    obtain ⟨q, hq, eq⟩ := and63 (xs (6 * k))
    rw [eq]
    have hc : 116 + k + 1 ≤ room_1.cells := by omega
    have hs : 14605 + 6 * k + 6 ≤ room_1.slots := by omega
    have kk : LK p l e s m #[Value.ref b] below meth c b zC zM (lw_Z below #[Value.ref b] s) (6 * k) (116 + k) (14605 + 6 * k) := by
      intro w v H locs ls hR hWC hWM hS hl
      refine lv_iinc (v := nI (6 * (k + 1))) (lv' := [(4, .int (nI (6 * (k + 1)))), (0, .ref b), (1, .ref (zC.2.1 66)), (2, .ref (zM.2.1 0)), (3, .ref (zC.2.1 88))]) hx hb dL_law_2104 hl (k := 4) rfl (by rw [Nat.mul_succ, ← nI_add]; rfl) (by decide) rfl (fun ls hl => ?_)
      refine lv_goto (tgt := 23) hx hb dL_law_2107 (by decide) ?_
      exact W.widen (k := 116 + (k + 1)) (n := 14605 + 6 * (k + 1)) (by omega) (by omega) (ih (k + 1) w v H locs ls (by omega) (by omega) hR hWC hWM hS (lv_sub hl [1, 2, 3, 4, 0] rfl))
    by_cases big : 50 ≤ q
    · refine lv_tableOut (tgt := 2104) hx hb dL_law_40 (Or.inr (by rw [nI_toInt (by omega)]; omega)) (by decide) ?_
      exact W.widen (k := 116 + k + 1) (n := 14605 + 6 * k + 6) (by omega) (by omega) (kk w v H locs ls hR hWC hWM hS hl)
    by_cases q0 : q = 0
    · subst q0
      exact lv_tableIn (off := 216) (tgt := 256) hx hb dL_law_40 (by decide) (by decide) (by decide) (by decide) (cs_0 C0 hR hWC hWM hS hl hi hc hs kk)
    by_cases q1 : q = 1
    · subst q1
      exact lv_tableIn (off := 229) (tgt := 269) hx hb dL_law_40 (by decide) (by decide) (by decide) (by decide) (cs_1 C0 hR hWC hWM hS hl hi hc hs kk)
    by_cases q2 : q = 2
    · subst q2
      exact lv_tableIn (off := 254) (tgt := 294) hx hb dL_law_40 (by decide) (by decide) (by decide) (by decide) (cs_2 C0 hR hWC hWM hS hl hi hc hs kk)
    by_cases q3 : q = 3
    · subst q3
      exact lv_tableIn (off := 322) (tgt := 362) hx hb dL_law_40 (by decide) (by decide) (by decide) (by decide) (cs_3 C0 hR hWC hWM hS hl hi hc hs kk)
    by_cases q4 : q = 4
    · subst q4
      exact lv_tableIn (off := 366) (tgt := 406) hx hb dL_law_40 (by decide) (by decide) (by decide) (by decide) (cs_4 C0 hR hWC hWM hS hl hi hc hs kk)
    by_cases q5 : q = 5
    · subst q5
      exact lv_tableIn (off := 403) (tgt := 443) hx hb dL_law_40 (by decide) (by decide) (by decide) (by decide) (cs_5 C0 hR hWC hWM hS hl hi hc hs kk)
    by_cases q6 : q = 6
    · subst q6
      exact lv_tableIn (off := 459) (tgt := 499) hx hb dL_law_40 (by decide) (by decide) (by decide) (by decide) (cs_6 C0 hR hWC hWM hS hl hi hc hs kk)
    by_cases q7 : q = 7
    · subst q7
      exact lv_tableIn (off := 527) (tgt := 567) hx hb dL_law_40 (by decide) (by decide) (by decide) (by decide) (cs_7 C0 hR hWC hWM hS hl hi hc hs kk)
    by_cases q8 : q = 8
    · subst q8
      exact lv_tableIn (off := 576) (tgt := 616) hx hb dL_law_40 (by decide) (by decide) (by decide) (by decide) (cs_8 C0 hR hWC hWM hS hl hi hc hs kk)
    by_cases q9 : q = 9
    · subst q9
      exact lv_tableIn (off := 589) (tgt := 629) hx hb dL_law_40 (by decide) (by decide) (by decide) (by decide) (cs_9 C0 hR hWC hWM hS hl hi hc hs kk)
    by_cases q10 : q = 10
    · subst q10
      exact lv_tableIn (off := 614) (tgt := 654) hx hb dL_law_40 (by decide) (by decide) (by decide) (by decide) (cs_10 C0 hR hWC hWM hS hl hi hc hs kk)
    by_cases q11 : q = 11
    · subst q11
      exact lv_tableIn (off := 639) (tgt := 679) hx hb dL_law_40 (by decide) (by decide) (by decide) (by decide) (cs_11 C0 hR hWC hWM hS hl hi hc hs kk)
    by_cases q12 : q = 12
    · subst q12
      exact lv_tableIn (off := 676) (tgt := 716) hx hb dL_law_40 (by decide) (by decide) (by decide) (by decide) (cs_12 C0 hR hWC hWM hS hl hi hc hs kk)
    by_cases q13 : q = 13
    · subst q13
      exact lv_tableIn (off := 701) (tgt := 741) hx hb dL_law_40 (by decide) (by decide) (by decide) (by decide) (cs_13 C0 hR hWC hWM hS hl hi hc hs kk)
    by_cases q14 : q = 14
    · subst q14
      exact lv_tableIn (off := 714) (tgt := 754) hx hb dL_law_40 (by decide) (by decide) (by decide) (by decide) (cs_14 C0 hR hWC hWM hS hl hi hc hs kk)
    by_cases q15 : q = 15
    · subst q15
      exact lv_tableIn (off := 782) (tgt := 822) hx hb dL_law_40 (by decide) (by decide) (by decide) (by decide) (cs_15 C0 hR hWC hWM hS hl hi hc hs kk)
    by_cases q16 : q = 16
    · subst q16
      exact lv_tableIn (off := 850) (tgt := 890) hx hb dL_law_40 (by decide) (by decide) (by decide) (by decide) (cs_16 C0 hR hWC hWM hS hl hi hc hs kk)
    by_cases q17 : q = 17
    · subst q17
      exact lv_tableIn (off := 863) (tgt := 903) hx hb dL_law_40 (by decide) (by decide) (by decide) (by decide) (cs_17 C0 hR hWC hWM hS hl hi hc hs kk)
    by_cases q18 : q = 18
    · subst q18
      exact lv_tableIn (off := 900) (tgt := 940) hx hb dL_law_40 (by decide) (by decide) (by decide) (by decide) (cs_18 C0 hR hWC hWM hS hl hi hc hs kk)
    by_cases q19 : q = 19
    · subst q19
      exact lv_tableIn (off := 937) (tgt := 977) hx hb dL_law_40 (by decide) (by decide) (by decide) (by decide) (cs_19 C0 hR hWC hWM hS hl hi hc hs kk)
    by_cases q20 : q = 20
    · subst q20
      exact lv_tableIn (off := 974) (tgt := 1014) hx hb dL_law_40 (by decide) (by decide) (by decide) (by decide) (cs_20 C0 hR hWC hWM hS hl hi hc hs kk)
    by_cases q21 : q = 21
    · subst q21
      exact lv_tableIn (off := 1011) (tgt := 1051) hx hb dL_law_40 (by decide) (by decide) (by decide) (by decide) (cs_21 C0 hR hWC hWM hS hl hi hc hs kk)
    by_cases q22 : q = 22
    · subst q22
      exact lv_tableIn (off := 1024) (tgt := 1064) hx hb dL_law_40 (by decide) (by decide) (by decide) (by decide) (cs_22 C0 hR hWC hWM hS hl hi hc hs kk)
    by_cases q23 : q = 23
    · subst q23
      exact lv_tableIn (off := 1049) (tgt := 1089) hx hb dL_law_40 (by decide) (by decide) (by decide) (by decide) (cs_23 C0 hR hWC hWM hS hl hi hc hs kk)
    by_cases q24 : q = 24
    · subst q24
      exact lv_tableIn (off := 1086) (tgt := 1126) hx hb dL_law_40 (by decide) (by decide) (by decide) (by decide) (cs_24 C0 hR hWC hWM hS hl hi hc hs kk)
    by_cases q25 : q = 25
    · subst q25
      exact lv_tableIn (off := 1123) (tgt := 1163) hx hb dL_law_40 (by decide) (by decide) (by decide) (by decide) (cs_25 C0 hR hWC hWM hS hl hi hc hs kk)
    by_cases q26 : q = 26
    · subst q26
      exact lv_tableIn (off := 1136) (tgt := 1176) hx hb dL_law_40 (by decide) (by decide) (by decide) (by decide) (cs_26 C0 hR hWC hWM hS hl hi hc hs kk)
    by_cases q27 : q = 27
    · subst q27
      exact lv_tableIn (off := 1149) (tgt := 1189) hx hb dL_law_40 (by decide) (by decide) (by decide) (by decide) (cs_27 C0 hR hWC hWM hS hl hi hc hs kk)
    by_cases q28 : q = 28
    · subst q28
      exact lv_tableIn (off := 1205) (tgt := 1245) hx hb dL_law_40 (by decide) (by decide) (by decide) (by decide) (cs_28 C0 hR hWC hWM hS hl hi hc hs kk)
    by_cases q29 : q = 29
    · subst q29
      exact lv_tableIn (off := 1273) (tgt := 1313) hx hb dL_law_40 (by decide) (by decide) (by decide) (by decide) (cs_29 C0 hR hWC hWM hS hl hi hc hs kk)
    by_cases q30 : q = 30
    · subst q30
      exact lv_tableIn (off := 1298) (tgt := 1338) hx hb dL_law_40 (by decide) (by decide) (by decide) (by decide) (cs_30 C0 hR hWC hWM hS hl hi hc hs kk)
    by_cases q31 : q = 31
    · subst q31
      exact lv_tableIn (off := 1335) (tgt := 1375) hx hb dL_law_40 (by decide) (by decide) (by decide) (by decide) (cs_31 C0 hR hWC hWM hS hl hi hc hs kk)
    by_cases q32 : q = 32
    · subst q32
      exact lv_tableIn (off := 1384) (tgt := 1424) hx hb dL_law_40 (by decide) (by decide) (by decide) (by decide) (cs_32 C0 hR hWC hWM hS hl hi hc hs kk)
    by_cases q33 : q = 33
    · subst q33
      exact lv_tableIn (off := 1409) (tgt := 1449) hx hb dL_law_40 (by decide) (by decide) (by decide) (by decide) (cs_33 C0 hR hWC hWM hS hl hi hc hs kk)
    by_cases q34 : q = 34
    · subst q34
      exact lv_tableIn (off := 1446) (tgt := 1486) hx hb dL_law_40 (by decide) (by decide) (by decide) (by decide) (cs_34 C0 hR hWC hWM hS hl hi hc hs kk)
    by_cases q35 : q = 35
    · subst q35
      exact lv_tableIn (off := 1483) (tgt := 1523) hx hb dL_law_40 (by decide) (by decide) (by decide) (by decide) (cs_35 C0 hR hWC hWM hS hl hi hc hs kk)
    by_cases q36 : q = 36
    · subst q36
      exact lv_tableIn (off := 1496) (tgt := 1536) hx hb dL_law_40 (by decide) (by decide) (by decide) (by decide) (cs_36 C0 hR hWC hWM hS hl hi hc hs kk)
    by_cases q37 : q = 37
    · subst q37
      exact lv_tableIn (off := 1521) (tgt := 1561) hx hb dL_law_40 (by decide) (by decide) (by decide) (by decide) (cs_37 C0 hR hWC hWM hS hl hi hc hs kk)
    by_cases q38 : q = 38
    · subst q38
      exact lv_tableIn (off := 1558) (tgt := 1598) hx hb dL_law_40 (by decide) (by decide) (by decide) (by decide) (cs_38 C0 hR hWC hWM hS hl hi hc hs kk)
    by_cases q39 : q = 39
    · subst q39
      exact lv_tableIn (off := 1583) (tgt := 1623) hx hb dL_law_40 (by decide) (by decide) (by decide) (by decide) (cs_39 C0 hR hWC hWM hS hl hi hc hs kk)
    by_cases q40 : q = 40
    · subst q40
      exact lv_tableIn (off := 1620) (tgt := 1660) hx hb dL_law_40 (by decide) (by decide) (by decide) (by decide) (cs_40 C0 hR hWC hWM hS hl hi hc hs kk)
    by_cases q41 : q = 41
    · subst q41
      exact lv_tableIn (off := 1669) (tgt := 1709) hx hb dL_law_40 (by decide) (by decide) (by decide) (by decide) (cs_41 C0 hR hWC hWM hS hl hi hc hs kk)
    by_cases q42 : q = 42
    · subst q42
      exact lv_tableIn (off := 1718) (tgt := 1758) hx hb dL_law_40 (by decide) (by decide) (by decide) (by decide) (cs_42 C0 hR hWC hWM hS hl hi hc hs kk)
    by_cases q43 : q = 43
    · subst q43
      exact lv_tableIn (off := 1743) (tgt := 1783) hx hb dL_law_40 (by decide) (by decide) (by decide) (by decide) (cs_43 C0 hR hWC hWM hS hl hi hc hs kk)
    by_cases q44 : q = 44
    · subst q44
      exact lv_tableIn (off := 1768) (tgt := 1808) hx hb dL_law_40 (by decide) (by decide) (by decide) (by decide) (cs_44 C0 hR hWC hWM hS hl hi hc hs kk)
    by_cases q45 : q = 45
    · subst q45
      exact lv_tableIn (off := 1793) (tgt := 1833) hx hb dL_law_40 (by decide) (by decide) (by decide) (by decide) (cs_45 C0 hR hWC hWM hS hl hi hc hs kk)
    by_cases q46 : q = 46
    · subst q46
      exact lv_tableIn (off := 1818) (tgt := 1858) hx hb dL_law_40 (by decide) (by decide) (by decide) (by decide) (cs_46 C0 hR hWC hWM hS hl hi hc hs kk)
    by_cases q47 : q = 47
    · subst q47
      exact lv_tableIn (off := 1899) (tgt := 1939) hx hb dL_law_40 (by decide) (by decide) (by decide) (by decide) (cs_47 C0 hR hWC hWM hS hl hi hc hs kk)
    by_cases q48 : q = 48
    · subst q48
      exact lv_tableIn (off := 1966) (tgt := 2006) hx hb dL_law_40 (by decide) (by decide) (by decide) (by decide) (cs_48 C0 hR hWC hWM hS hl hi hc hs kk)
    by_cases q49 : q = 49
    · subst q49
      exact lv_tableIn (off := 2039) (tgt := 2079) hx hb dL_law_40 (by decide) (by decide) (by decide) (by decide) (cs_49 C0 hR hWC hWM hS hl hi hc hs kk)
    exact absurd hq (by omega)
