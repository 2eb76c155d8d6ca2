/-! ===== the law: what holds at its every step (99f) ===== -/
abbrev lwA (s : State) : Nat → Prop := fun q => s.heap.size ≤ q
def LX (p : Program) (l : Launch) (s : State) (m : MethodId) (args : Array Value) (c : Code) (b L : Nat) (xs : Nat → Int32) (zC zM : LZ) : Prop :=
  (p.tables.exec = Jvm.exec ∧ c.code = cL_law ∧ c.maxLocals = 8 ∧ s.vm.findClass RL = some m.cls ∧ (∀ w ∈ wsL_law, w.before args s = true)) ∧ (va_X b L xs s s.heap ∧ b < s.heap.size ∧ L ≤ 3072) ∧ l.stackTraces = false ∧ (IC zC ∧ IM zM ∧ ks zC s ∧ ks zM s) ∧ (((∀ w ∈ xBs, va_Nw w s) ∧ va_Nc xIS xIA s) ∧ (∀ q ∈ xstr, ∃ sa, vk_R RX10 q.1 q.2 sa s) ∧ vx_Zq Bundle.tN "UNASSIGNED_STACK" Bundle.steD (lwA s) s s.heap ∧ vx_Zq Bundle.tN "SUPPRESSED_SENTINEL" Bundle.listD (lwA s) s s.heap) ∧ (∀ q, az zC q → lwA s q) ∧ (∀ q, az zM q → lwA s q) ∧ ∀ o o', o < zC.2.2.2.1 → o' < zM.2.2.2.1 → zC.2.1 o ≠ zM.2.1 o'
section LW
variable {p : Program} {l : Launch} {e : Env} {R : Room} {s : State} {m : MethodId} {args : Array Value} {below : List Frame} {meth : Method} {c : Code} {H H0 : Heap} {locs : List Loc} {cells slots : Nat} {Q : State → Prop}
variable {cc : ByteArray} {pc : Nat} {ls : Array Slot} {rest : List Value} {A : Nat → Prop} {b L : Nat} {xs : Nat → Int32} {zC zM : LZ}
theorem w_goW {mc ms : Nat} {st0 : List Value} {a : Array Value} {v : Option Value} {w' v2 : Mem} {z z2 : LZ} (hr : va_Run p l e R s m args below meth c H locs cells slots mc ms (F0 m pc ls st0) rest (QW z v w' a) (az z)) (hS : va_S A H0 H locs) (hA : ∀ q, az z q → A q) (h2 : hd z2 v2 H) (hdis : ∀ o o', o < z2.2.2.2.1 → o' < z.2.2.2.1 → z2.2.1 o ≠ z.2.1 o')
    (kk : ∀ (H1 : Heap) (locs1 : List Loc), hd z w' H1 → hd z2 v2 H1 → va_S A H0 H1 locs1 → W p l e R s m args below meth c H1 locs1 (cells + mc) (slots + ms) Q (F0 m (pc + 3) ls (v.toList ++ rest))) : W p l e R s m args below meth c H locs cells slots Q (F0 m pc ls st0) := by
  intro T hT X
  obtain ⟨v', st₀, t, T', L, h0, X', hL, e1, e2, ⟨⟨hv, hp⟩, hz, hk⟩, st⟩ := hr T hT X
  cases hv
  rw [h0] at hz hk
  obtain ⟨t2, a1, b1⟩ := kk T'.heap (locs ++ L) (by rw [e1]; exact hp)
    (va_P.kept h2 (fun k q hq => by
      obtain ⟨g1, g2⟩ := zw_in hq
      rw [e1]
      refine hk q.1 (h2 k q hq).lt (fun ⟨o', ho', eo⟩ => ?_)
      rw [g2] at eo
      exact hdis k o' g1 ho' eo))
    ⟨Nat.le_trans hS.1 (by rw [e1]; exact hz), fun q h1 h3 => by rw [e1, hk q (Nat.lt_of_lt_of_le h1 hS.1) (fun h => h3 (hA q h))]; exact hS.2.1 q h1 h3, fun q hq => by
      rcases List.mem_append.mp hq with h | h
      · exact hS.2.2 q h
      · exact hA _ (hL q h)⟩ T' rfl X'
  exact ⟨t2, st t2 a1, b1⟩
theorem lw_preC {z : LZ} {w : Mem} (hz : IC z) (hK : ks z s) (hW : hd z w H) (As : List Value) : PreV s H RX10 (z.2.1 66) (PZ z w (.ref (z.2.1 66) :: As)) As := by
  obtain ⟨hi, hn, cI, cL, cD, cT, ht, hE, hne⟩ := hz
  exact m_preV (q := (RX10, TX10, 13)) hK hW 66 (by rw [hn]; decide) (by rw [hE]; exact eC_66) rfl As
theorem lw_preM {z : LZ} {w : Mem} (hz : IM z) (hK : ks z s) (hW : hd z w H) (As : List Value) : PreV s H RX11 (z.2.1 0) (PZ z w (.ref (z.2.1 0) :: As)) As := by
  obtain ⟨hi, hn, cI, cL, ht, hE, hne⟩ := hz
  exact m_preV (q := (RX11, TX11, 62)) hK hW 0 (by rw [hn]; decide) (by rw [hE]; rfl) rfl As
theorem lw_preX {w : Mem} (C : LX p l s m args c b L xs zC zM) (hS : va_S (lwA s) s.heap H locs) (hW : hd zC w H) (As : List Value) : PreS s H (PX zC w As) As := by
  obtain ⟨_, _, _, ⟨_, _, hK, _⟩, ⟨h0, h1, h2, h3⟩, hA, _⟩ := C
  exact ⟨x_blind, fun U hU hw => ⟨rfl, by rw [hU]; exact hW, ks_warm hw hK, xk_warm hw h0 h1 ((h2.kept (fun a ha hn => hS.2.1 a ha hn)).narrow hA) ((h3.kept (fun a ha hn => hS.2.1 a ha hn)).narrow hA) hU⟩⟩
/-- the k-th number of the group is loaded -/
theorem lw_ld (C : LX p l s m args c b L xs zC zM) {k i : Nat} {kc : Int} (hk : Int32.ofInt kc = nI k) (hk6 : k < 6) (hi : i + 6 ≤ L) (hS : va_S (lwA s) s.heap H locs) (h0 : ls[0]? = some (.val (.ref b))) (h4 : ls[4]? = some (.val (.int (nI i)))) (d0 : decode cL_law pc = .ok (.aload_n 0, 1)) (d1 : decode cL_law (pc + 1) = .ok (.iload 4, 2)) (d3 : decode cL_law (pc + 3) = .ok (.iconst kc, 1)) (d4 : decode cL_law (pc + 4) = .ok (.iadd, 1)) (d5 : decode cL_law (pc + 5) = .ok (.iaload, 1))
    (kk : W p l e R s m args below meth c H locs cells slots Q (F0 m (pc + 6) ls (.int (xs (i + k)) :: rest))) : W p l e R s m args below meth c H locs cells slots Q (F0 m pc ls rest) := by
  obtain ⟨⟨hx, hb, hml, hown, hts⟩, ⟨hX, hbl, hL⟩, _⟩ := C
  have hbA : ¬ lwA s b := Nat.not_le.mpr hbl
  refine lv_aload_n hx hb d0 rfl h0 ?_
  refine lv_iload hx hb d1 h4 ?_
  refine lv_iconst hx hb d3 hk ?_
  refine lv_iadd hx hb d4 ?_
  rw [nI_add]
  refine va_sld hx hb hX hbl hbA hS (vp_in_nI (by omega) (by omega)) d5 ?_
  rw [nI_clamp (by omega)]
  exact kk
end LW
