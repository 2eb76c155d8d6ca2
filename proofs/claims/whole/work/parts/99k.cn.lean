/-! ===== both at the law's start: related, each with its layout (99k) ===== -/
theorem W0C_z {o : Nat} (h1 : o ≠ 74) (h2 : o ≠ 75) (j : Nat) : W0C.1 o j = 0 := by
  show (if o = 74 then _ else if o = 75 then _ else (0 : Int32)) = 0
  rw [if_neg h1, if_neg h2]
theorem W0M_z {o : Nat} (h1 : o ≠ 0) (h2 : o ≠ 7) (j : Nat) : W0M.1 o j = 0 := by
  show (if o = 0 then _ else if o = 7 then _ else (0 : Int32)) = 0
  rw [if_neg h1, if_neg h2]
theorem Rel_0 : Rel W0C W0M := by
  have z0 : (0 : Int32) = nI 0 := by decide
  refine ⟨fun d hd => ⟨0, by omega, (W0C_z (by omega) (by omega) 2).trans z0, (W0M_z (by decide) (by decide) d).trans z0, fun j hj => absurd hj (Nat.not_lt_zero _)⟩, ⟨0, by omega, (W0C_z (by decide) (by decide) 2).trans z0, z0, fun h => absurd h (Nat.lt_irrefl 0), fun j hj => absurd hj (Nat.not_lt_zero _)⟩, ⟨0, by omega, (W0C_z (by decide) (by decide) 1).trans z0, z0, fun j hj => absurd hj (Nat.not_lt_zero _)⟩, ?_, ⟨0, by omega, (W0C_z (by decide) (by decide) 2).trans z0, z0, fun j hj => absurd hj (Nat.not_lt_zero _)⟩, ⟨rfl, Or.inl ⟨rfl, rfl⟩⟩, ⟨0, by omega, (W0C_z (by decide) (by decide) 2).trans z0, z0, fun j hj => absurd hj (Nat.not_lt_zero _)⟩, rfl, fun t ht => ⟨⟨0, by omega, (W0C_z (by omega) (by omega) 2).trans z0, (W0M_z (by decide) (by decide) t).trans z0, fun z => absurd z (by decide)⟩, ⟨0, by omega, (W0C_z (by omega) (by omega) 3).trans z0, (W0M_z (by decide) (by decide) t).trans z0⟩, fun j hj => rfl⟩⟩
  refine ⟨⟨rfl, ?_⟩, ⟨rfl, ?_⟩, ⟨rfl, ?_⟩, ⟨rfl, ?_⟩, ⟨rfl, ?_⟩, ⟨rfl, ?_⟩⟩
  · show ib 0 60 4; unfold ib; decide
  · show ib 0 60 0; unfold ib; decide
  · show ib 1 99 20; unfold ib; decide
  · show ib 1 99 20; unfold ib; decide
  · show ib 0 1000000 100000; unfold ib; decide
  · show ib 0 1000000 5000; unfold ib; decide
theorem lay_0 {dC : Nat → ClassId} {dI : Nat → Nat → Nat} {cI cL cD cT : ClassId} {s : State} {A : Nat → Prop} {H : Heap} {ad adM : Nat → Nat} {q : Nat} {W : va_W} (hK : va_K (dC, dI) vwCl (nT cI cL cD cT) s) (hN : ∀ x ∈ nestC, va_Nw (zn x) s) (hW : W = ((List.range 88).map (fun o => (ad o, eC ad cI cL cD cT W0C o)) ++ (List.range 27).map (fun o => (adM o, eM adM cI cL W0M o))) ++ [(q, .inl (cL, 1, .inr (.inl fun _ => 0)))]) (hP : va_P (dC, dI) vwCl W H) (hD : va_D A W) :
    ∃ zC zM : LZ, (IC zC ∧ IM zM ∧ ks zC s ∧ ks zM s) ∧ (hd zC W0C H ∧ hd zM W0M H) ∧ ((∀ x, az zC x → A x) ∧ (∀ x, az zM x → A x) ∧ ∀ o o', o < zC.2.2.2.1 → o' < zM.2.2.2.1 → zC.2.1 o ≠ zM.2.1 o') ∧ zC.2.1 66 = ad 66 ∧ zC.2.1 88 = q ∧ zM.2.1 0 = adM 0 := by
  have gC : ∀ k, k < 88 → W[k]? = some (ad k, eC ad cI cL cD cT W0C k) := by
    intro k hk
    rw [hW, List.getElem?_append_left (by simp; omega), List.getElem?_append_left (by simp; omega)]
    simp [hk]
  have gM : ∀ k, k < 27 → W[88 + k]? = some (adM k, eM adM cI cL W0M k) := by
    intro k hk
    rw [hW, List.getElem?_append_left (by simp; omega), List.getElem?_append_right (by simp)]
    simp [hk]
  have gO : W[115]? = some (q, .inl (cL, 1, .inr (.inl fun _ => 0))) := by
    rw [hW, List.getElem?_append_right (by simp)]
    simp
  have gA : ∀ o, o < 89 → ∃ e, W[if o = 88 then 115 else o]? = some (adO ad q o, e) := by
    intro o ho
    by_cases c : o = 88
    · subst c; rw [if_pos rfl, adO_s]; exact ⟨_, gO⟩
    · rw [if_neg c, adO_n c]; exact ⟨_, gC o (by omega)⟩
  refine ⟨((dC, dI), adO ad q, eC (adO ad q) cI cL cD cT, 89, nT cI cL cD cT, nestC), ((dC, dI), adM, eM adM cI cL, 27, [(cI, .int), (cL, .long)], []), ⟨⟨⟨fun i j hi hj h => ?_, fun w w' o h1 h2 => eC_iz h1 h2⟩, rfl, cI, cL, cD, cT, rfl, rfl, rfl⟩, ⟨⟨fun i j hi hj h => ?_, fun w w' o h1 h2 => eM_iz h1 h2⟩, rfl, cI, cL, rfl, rfl, rfl⟩, ⟨hK, hN⟩, ⟨hK.sub [0, 1] rfl, fun x hx => absurd hx List.not_mem_nil⟩⟩, ⟨fun k x hk => ?_, fun k x hk => ?_⟩, ⟨fun x hx => ?_, fun x hx => ?_, fun o o' ho ho' h => ?_⟩, adO_n (ad := ad) (q := q) (o := 66) (by decide), adO_s (ad := ad) (q := q), rfl⟩
  · obtain ⟨e1, g1⟩ := gA i hi
    obtain ⟨e2, g2⟩ := gA j hj
    have := hD.1 _ _ _ _ g1 g2 h
    have hi' : i < 89 := hi
    have hj' : j < 89 := hj
    by_cases c : i = 88
    · rw [if_pos c] at this
      by_cases d : j = 88
      · omega
      · rw [if_neg d] at this; omega
    · rw [if_neg c] at this
      by_cases d : j = 88
      · rw [if_pos d] at this; omega
      · rw [if_neg d] at this; omega
  · have := hD.1 _ _ _ _ (gM i hi) (gM j hj) h
    omega
  · obtain ⟨g1, g2⟩ := zw_in hk
    subst g2
    have g1 : k < 89 := g1
    by_cases c : k = 88
    · subst c
      show va_at (dC, dI) vwCl (adO ad q 88, .inl (cL, 1, .inr (.inl (W0C.2 88)))) H
      rw [adO_s]
      exact hP 115 _ gO
    by_cases d : k = 71
    · subst d
      have h71 := gC 71 (by decide)
      rw [eC_71] at h71
      have hS := (n_swap (g := fun j => some (adO ad q (48 + 2 * j))) hP hD h71 (fun j hj => by rw [adO_n (by omega)])).1
      refine hS 71 _ ?_
      rw [List.getElem?_set, if_pos rfl, if_pos (List.getElem?_eq_some_iff.mp h71).1]
      show _ = some (adO ad q 71, eC (adO ad q) cI cL cD cT W0C 71)
      rw [eC_71, adO_n (by decide)]
    · show va_at (dC, dI) vwCl (adO ad q k, eC (adO ad q) cI cL cD cT W0C k) H
      rw [eC_ad (by omega) d, adO_n c]
      exact hP k _ (gC k (by omega))
  · obtain ⟨g1, g2⟩ := zw_in hk
    subst g2
    exact hP _ _ (gM k g1)
  · obtain ⟨o, ho, rfl⟩ := hx
    obtain ⟨e1, g1⟩ := gA o ho
    exact hD.2 _ _ g1
  · obtain ⟨o, ho, rfl⟩ := hx
    exact hD.2 _ _ (gM o ho)
  · obtain ⟨e1, g1⟩ := gA o ho
    have := hD.1 _ _ _ _ g1 (gM o' ho') h
    have ho : o < 89 := ho
    have ho' : o' < 27 := ho'
    by_cases c : o = 88
    · rw [if_pos c] at this; omega
    · rw [if_neg c] at this; omega
