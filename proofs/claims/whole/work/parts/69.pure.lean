/-! ===== 36 left, 37 state, 38 best, 39 share, 40 hunt (69: by wip/gen/p69.txt and fr.py) ===== -/
theorem LC_size {S : Nat → Bool} {w : Mem} (h : LCp S 252 w) : w.1 83 3 = nI (cntB S 2772) := h.2.1
theorem bestC_s {S : Nat → Bool} {w : Mem} (h : LCp S 252 w) {t m L : Nat} (ht : t < 325) (hL : L ≤ 2772) (X : Int32) : f_X2_partingTrial_L10 w (m + 1) X (nI L) (nI t) = if L ≤ shN S t then f_X2_partingTrial_L10 w m X (nI L) (nI (t + 1)) else f_X2_partingTrial_L10 w m (nI t) (nI (shN S t)) (nI (t + 1)) := by
  have b := sh_b S t
  rw [f_X2_partingTrial_L10_s, if_neg (by rw [nI_lit 325, nI_leI (by omega) (by omega)]; omega), shC_e ht h, bd_s, lt_e, lt_e, nI_s]
  by_cases c : L ≤ shN S t
  · rw [if_pos c, if_pos (by rw [nI_leI (by omega) (by omega)]; exact c)]
  · rw [if_neg c, if_neg (by rw [nI_leI (by omega) (by omega)]; exact c)]
theorem best_L {S : Nat → Bool} {w : Mem} (h : LCp S 252 w) : ∀ (q t m m' br : Nat) (v : Mem), t + q = 325 → q < m → q < m' → br < 325 → LMp S 2772 v → ∃ br' v', br' < 325 ∧ f_X2_partingTrial_L10 w m (if shN S br < cntB S 2772 then nI br else -4) (nI (if shN S br < cntB S 2772 then shN S br else cntB S 2772)) (nI t) = some (if shN S br' < cntB S 2772 then nI br' else -4) ∧ f_X11_bestOf_L10 m' (nI br) (nI (shN S br)) (nI t) v = some (nI br', nI (shN S br'), v') ∧ LMp S 2772 v' ∧ FrR v v' := by
  have c2772 := cntB_le S 2772
  intro q
  induction q with
  | zero =>
    intro t m m' br v ht hm hm' hb hv
    obtain ⟨m, rfl⟩ : ∃ q, m = q + 1 := ⟨m - 1, by omega⟩
    obtain ⟨m', rfl⟩ : ∃ q, m' = q + 1 := ⟨m' - 1, by omega⟩
    obtain rfl : t = 325 := by omega
    refine ⟨br, v, hb, ?_, ?_, hv, FrR_r v⟩
    · rw [f_X2_partingTrial_L10_s, if_pos (by decide)]
    · rw [f_X11_bestOf_L10_s, if_pos (by decide)]
  | succ q ih =>
    intro t m m' br v ht hm hm' hb hv
    obtain ⟨m, rfl⟩ : ∃ q, m = q + 1 := ⟨m - 1, by omega⟩
    obtain ⟨m', rfl⟩ : ∃ q, m' = q + 1 := ⟨m' - 1, by omega⟩
    have b1 := sh_b S t
    have b2 := sh_b S br
    obtain ⟨v1, a1, a2, a3⟩ := shM_e (t := t) (by omega) hv
    have M : f_X11_bestOf_L10 (m' + 1) (nI br) (nI (shN S br)) (nI t) v = if shN S br ≤ shN S t then f_X11_bestOf_L10 m' (nI br) (nI (shN S br)) (nI (t + 1)) v1 else f_X11_bestOf_L10 m' (nI t) (nI (shN S t)) (nI (t + 1)) v1 := by
      rw [f_X11_bestOf_L10_s, if_neg (by rw [nI_lit 325, nI_leI (by omega) (by omega)]; omega), a1, b2_s, lt_e, lt_e, lt_e, nI_s]
      by_cases c : shN S br ≤ shN S t
      · have c' : nI (shN S br) ≤ nI (shN S t) := by rw [nI_leI (by omega) (by omega)]; exact c
        rw [if_pos c, if_pos c', if_pos c']
      · have c' : ¬ nI (shN S br) ≤ nI (shN S t) := by rw [nI_leI (by omega) (by omega)]; exact c
        rw [if_neg c, if_neg c', if_neg c']
    rw [M, bestC_s h (by omega) (by split <;> omega)]
    by_cases c : shN S br ≤ shN S t
    · rw [if_pos c, if_pos (by split <;> omega)]
      obtain ⟨br', v', g1, g2, g3, g4, g5⟩ := ih (t + 1) m m' br v1 (by omega) (by omega) (by omega) hb a2
      exact ⟨br', v', g1, g2, g3, g4, FrR_t a3 g5⟩
    · rw [if_neg c]
      obtain ⟨br', v', g1, g2, g3, g4, g5⟩ := ih (t + 1) m m' t v1 (by omega) (by omega) (by omega) (by omega) a2
      refine ⟨br', v', g1, ?_, g3, g4, FrR_t a3 g5⟩
      by_cases d : shN S br < cntB S 2772
      · rw [if_pos (show shN S t < cntB S 2772 by omega), if_pos (show shN S t < cntB S 2772 by omega)] at g2
        rw [if_pos d, if_pos d, if_neg c]; exact g2
      · rw [if_neg d, if_neg d]
        by_cases e : shN S t < cntB S 2772
        · rw [if_pos e, if_pos e] at g2
          rw [if_neg (show ¬ cntB S 2772 ≤ shN S t by omega)]; exact g2
        · rw [if_neg e, if_neg e] at g2
          rw [if_pos (show cntB S 2772 ≤ shN S t by omega)]; exact g2
theorem tp3_s {t0 t1 t2 δ : Type} {a : t0} {b : t1} {c : t2} {K : t0 → t1 → t2 → δ} : tp3 (a, b, c) K = K a b c := rfl
theorem best_e {S : Nat → Bool} {w v : Mem} (h : LCp S 252 w) (hv : LMp S 2772 v) : ∃ v', LMp S 2772 v' ∧ FrR v v' ∧ ((∃ b, b < 325 ∧ f_X2_partingTrial w = some (nI b) ∧ f_X11_bestOf v = some (nI b, v') ∧ 2 ≤ cntB S 2772) ∨ (f_X2_partingTrial w = some (-4) ∧ f_X11_bestOf v = some (-1, v'))) := by
  have c2772 := cntB_le S 2772
  obtain ⟨v1, a1, a2, a3⟩ := shM_e (t := 0) (by omega) hv
  obtain ⟨br, v', g1, g2, g3, g4, g5⟩ := best_L h 324 1 1999999 FU 0 v1 (by omega) (by omega) (by unfold FU; omega) (by omega) a2
  have b0 := sh_b S br
  have C : f_X2_partingTrial w = some (if shN S br < cntB S 2772 then nI br else -4) := by
    unfold f_X2_partingTrial
    rw [lt_e, LC_size h, show f_X2_partingTrial_L10 w FU (-4) (nI (cntB S 2772)) 0 = f_X2_partingTrial_L10 w (1999999 + 1) (-4) (nI (cntB S 2772)) (nI 0) from rfl, bestC_s h (by omega) c2772]
    by_cases c : cntB S 2772 ≤ shN S 0
    · rw [if_neg (show ¬ shN S 0 < cntB S 2772 by omega), if_neg (show ¬ shN S 0 < cntB S 2772 by omega)] at g2
      rw [if_pos c, g2, bd_s]
    · rw [if_pos (show shN S 0 < cntB S 2772 by omega), if_pos (show shN S 0 < cntB S 2772 by omega)] at g2
      rw [if_neg c, g2, bd_s]
  have M : f_X11_bestOf v = some (if cntB S 2772 ≤ shN S br then -1 else nI br, v') := by
    unfold f_X11_bestOf
    rw [show f_X11_shareOf 0 v = f_X11_shareOf (nI 0) v from rfl, a1, b2_s, show f_X11_bestOf_L10 FU 0 (nI (shN S 0)) 1 v1 = f_X11_bestOf_L10 FU (nI 0) (nI (shN S 0)) (nI 1) v1 from rfl, g3, bd_s, tp3_s, lt_e, g4.1]
    by_cases c : cntB S 2772 ≤ shN S br
    · rw [if_pos c, if_pos (by rw [nI_leI (by omega) (by omega)]; exact c)]
    · rw [if_neg c, if_neg (by rw [nI_leI (by omega) (by omega)]; exact c)]
  refine ⟨v', g4, FrR_t a3 g5, ?_⟩
  by_cases c : shN S br < cntB S 2772
  · rw [if_pos c] at C
    rw [if_neg (by omega)] at M
    refine Or.inl ⟨br, g1, C, M, ?_⟩
    rcases Nat.lt_or_ge (cntB S 2772) 2 with d | d
    · have := sh_1 (S := S) br (by omega); omega
    · exact d
  · rw [if_neg c] at C
    rw [if_pos (by omega)] at M
    exact Or.inr ⟨C, M⟩
theorem step_36 {w v : Mem} (h : Rel w v) (x1 : Int32) : ∃ r w' v', f_X10_left x1 w = some (r, w') ∧ f_X11_left x1 v = some (r, v') ∧ Rel w' v' := by
  unfold f_X10_left f_X11_left
  rw [ca_eq]
  rcases in_c x1 0 4 with ⟨q, k1⟩ | ⟨q, k1⟩
  rotate_left
  · rw [q, bd_s, bd_s, if_pos rfl, if_pos rfl]; exact ⟨-1, w, v, rfl, rfl, h⟩
  rw [q, bd_s, bd_s, if_neg one_ne, if_neg one_ne]
  simp at k1
  obtain ⟨M, hM, rfl⟩ := i_nat (x := x1) (N := 5) (by omega) (by omega) (by omega)
  obtain ⟨n, hn⟩ := NT_of h.2.2.2.2.2.2.1
  obtain ⟨w', a1, a2, a3⟩ := gn_e (M := M) (by omega) hn
  obtain ⟨v', b1, b2, b3⟩ := lefts_e (M := M) (by omega) hn
  rw [a1, b1, bd_s, bd_s, LC_size a2, b2.1]
  exact ⟨_, w', v', rfl, rfl, Rel_F h a3 b3⟩
theorem step_38 {w v : Mem} (h : Rel w v) (x1 : Int32) : ∃ r w' v', f_X10_best x1 w = some (r, w') ∧ f_X11_best x1 v = some (r, v') ∧ Rel w' v' := by
  unfold f_X10_best f_X11_best
  rw [ca_eq]
  rcases in_c x1 0 4 with ⟨q, k1⟩ | ⟨q, k1⟩
  rotate_left
  · rw [q, bd_s, bd_s, if_pos rfl, if_pos rfl]; exact ⟨-1, w, v, rfl, rfl, h⟩
  rw [q, bd_s, bd_s, if_neg one_ne, if_neg one_ne]
  simp at k1
  obtain ⟨M, hM, rfl⟩ := i_nat (x := x1) (N := 5) (by omega) (by omega) (by omega)
  obtain ⟨n, hn⟩ := NT_of h.2.2.2.2.2.2.1
  obtain ⟨w', a1, a2, a3⟩ := gn_e (M := M) (by omega) hn
  obtain ⟨v', b1, b2, b3⟩ := lefts_e (M := M) (by omega) hn
  obtain ⟨v2, c1, c2, c3⟩ := best_e a2 b2
  have cl := cntB_le (sN (fun j => (v.1 13 j).toNatClampNeg) (fun j => (v.1 14 j).toNatClampNeg) M n) 2772
  rw [a1, b1, bd_s, bd_s, b2.1]
  rcases c3 with ⟨b, d1, d2, d3, d4⟩ | ⟨d2, d3⟩
  · rw [d2, bd_s, if_pos (by rw [nI_lit 2, nI_leI (by omega) (by omega)]; exact d4), d3, b2_s, lt_e, if_neg (show ¬ nI b = -1 from fun z => no1 (i := b) (by omega) z.symm)]
    exact ⟨_, w', v2, rfl, rfl, Rel_F h a3 (FrR_t b3 c2)⟩
  · rw [d2, bd_s]
    by_cases e : 2 ≤ cntB (sN (fun j => (v.1 13 j).toNatClampNeg) (fun j => (v.1 14 j).toNatClampNeg) M n) 2772
    · rw [if_pos (by rw [nI_lit 2, nI_leI (by omega) (by omega)]; exact e), d3, b2_s, lt_e, if_pos rfl]
      exact ⟨_, w', v2, rfl, rfl, Rel_F h a3 (FrR_t b3 c2)⟩
    · rw [if_neg (by rw [nI_lit 2, nI_leI (by omega) (by omega)]; exact e), lt_e, if_pos rfl]
      exact ⟨_, w', v', rfl, rfl, Rel_F h a3 b3⟩
theorem step_39 {w v : Mem} (h : Rel w v) (x1 x2 : Int32) : ∃ r w' v', f_X10_share x1 x2 w = some (r, w') ∧ f_X11_share x1 x2 v = some (r, v') ∧ Rel w' v' := by
  unfold f_X10_share f_X11_share
  rw [ca_eq, tr_eq]
  rcases in_c x1 0 4 with ⟨q, k1⟩ | ⟨q, k1⟩
  rotate_left
  · rw [q, bd_s, bd_s, if_pos rfl, if_pos rfl]; exact ⟨-1, w, v, rfl, rfl, h⟩
  rw [q, bd_s, bd_s, if_neg one_ne, if_neg one_ne]
  rcases in_c x2 0 324 with ⟨p, k2⟩ | ⟨p, k2⟩
  rotate_left
  · rw [p, bd_s, bd_s, if_pos rfl, if_pos rfl]; exact ⟨-1, w, v, rfl, rfl, h⟩
  rw [p, bd_s, bd_s, if_neg one_ne, if_neg one_ne]
  simp at k1 k2
  obtain ⟨M, hM, rfl⟩ := i_nat (x := x1) (N := 5) (by omega) (by omega) (by omega)
  obtain ⟨t, ht, rfl⟩ := i_nat (x := x2) (N := 325) (by omega) (by omega) (by omega)
  obtain ⟨n, hn⟩ := NT_of h.2.2.2.2.2.2.1
  obtain ⟨w', a1, a2, a3⟩ := gn_e (M := M) (by omega) hn
  obtain ⟨v', b1, b2, b3⟩ := lefts_e (M := M) (by omega) hn
  obtain ⟨v2, c1, c2, c3⟩ := shM_e ht b2
  rw [a1, b1, bd_s, bd_s, shC_e ht a2, bd_s, c1, b2_s]
  exact ⟨_, w', v2, rfl, rfl, Rel_F h a3 (FrR_t b3 c3)⟩
theorem cnt_ex {S : Nat → Bool} {i : Nat} : ∀ n, i < cntB S n → ∃ s, s < n ∧ S s = true ∧ cntB S s = i
  | 0, h => absurd h (Nat.not_lt_zero _)
  | n + 1, h => by
    rw [cntB_s] at h
    by_cases c : i < cntB S n
    · obtain ⟨s, h1, h2, h3⟩ := cnt_ex n c
      exact ⟨s, by omega, h2, h3⟩
    · by_cases z : S n = true
      · rw [if_pos z] at h
        exact ⟨n, by omega, z, by omega⟩
      · rw [if_neg z] at h; omega
theorem num_i {S : Nat → Bool} {w : Mem} (h : LCp S 252 w) (x : Int32) {k : Nat} (hk : k < 252) (z : nzS S k = true) : ∀ (q p m : Nat), p + q = 11 → q < m → (∃ s, s < 2772 ∧ S s = true ∧ x = nI (cntB S s) ∧ f_X2_numberOf_L15 w x (nI (cntB (nzS S) k)) m (nI (cntB S (11 * k + p))) (nI p) = some (.inl (nI s))) ∨ (f_X2_numberOf_L15 w x (nI (cntB (nzS S) k)) m (nI (cntB S (11 * k + p))) (nI p) = some (.inr (nI (cntB S (11 * (k + 1))))) ∧ ∀ u, 11 * k + p ≤ u → u < 11 * (k + 1) → S u = true → ¬ x = nI (cntB S u)) := by
  obtain ⟨h1, h2, h3⟩ := h
  obtain ⟨e1, e2⟩ := h3 k hk z
  have l := cntB_lt z (show k < 252 by omega)
  have c252 := cntB_le (nzS S) 252
  intro q
  induction q with
  | zero =>
    intro p m hp hm
    obtain ⟨m, rfl⟩ : ∃ q, m = q + 1 := ⟨m - 1, by omega⟩
    obtain rfl : p = 11 := by omega
    refine Or.inr ⟨?_, fun u a b => by omega⟩
    rw [f_X2_numberOf_L15_s, if_pos (by decide), show 11 * (k + 1) = 11 * k + 11 by omega]
  | succ q ih =>
    intro p m hp hm
    obtain ⟨m, rfl⟩ : ∃ q, m = q + 1 := ⟨m - 1, by omega⟩
    have cb := cntB_le S (11 * k + p)
    have st : f_X2_numberOf_L15 w x (nI (cntB (nzS S) k)) (m + 1) (nI (cntB S (11 * k + p))) (nI p) = if S (11 * k + p) = true then (if nI (cntB S (11 * k + p)) = x then some (.inl (nI (11 * k + p))) else f_X2_numberOf_L15 w x (nI (cntB (nzS S) k)) m (nI (cntB S (11 * k + p) + 1)) (nI (p + 1))) else f_X2_numberOf_L15 w x (nI (cntB (nzS S) k)) m (nI (cntB S (11 * k + p))) (nI (p + 1)) := by
      rw [f_X2_numberOf_L15_s, if_neg (by rw [nI_lit 11, nI_leI (by omega) (by omega)]; omega), gd_t (inb_nI (by omega) (by omega))]
      simp only [lt_e]
      rw [nI_clamp (by omega), e1, e2, sh_d p (by omega), nI_s, nI_s, nI_lit 11, pk_mul, nI_add, Nat.mul_comm k 11]
      by_cases c : S (11 * k + p) = true
      · rw [if_pos c, if_neg (show ¬ (nI (mkS S k) &&& nI (2 ^ p)) = 0 from fun y => by have := (bit_e (fun p => S (11 * k + p)) (show p < 11 by omega)).mp y; rw [c] at this; exact absurd this (by decide))]
      · rw [if_neg c, if_pos (show (nI (mkS S k) &&& nI (2 ^ p)) = 0 from (bit_e (fun p => S (11 * k + p)) (show p < 11 by omega)).mpr (by simpa using c))]
    rw [st]
    by_cases c : S (11 * k + p) = true
    · rw [if_pos c]
      by_cases d : nI (cntB S (11 * k + p)) = x
      · rw [if_pos d]
        exact Or.inl ⟨11 * k + p, by omega, c, d.symm, rfl⟩
      · rw [if_neg d]
        have e : cntB S (11 * k + (p + 1)) = cntB S (11 * k + p) + 1 := by
          show cntB S (11 * k + p + 1) = _
          rw [cntB_s, if_pos c, Nat.add_comm]
        have g := ih (p + 1) m (by omega) (by omega)
        rw [e] at g
        rcases g with g | ⟨g1, g2⟩
        · exact Or.inl g
        · refine Or.inr ⟨g1, fun u a b y => ?_⟩
          by_cases f : u = 11 * k + p
          · subst f; exact fun r => d r.symm
          · exact g2 u (by omega) b y
    · rw [if_neg c]
      have e : cntB S (11 * k + (p + 1)) = cntB S (11 * k + p) := by
        show cntB S (11 * k + p + 1) = _
        rw [cntB_s, if_neg c, Nat.zero_add]
      have g := ih (p + 1) m (by omega) (by omega)
      rw [e] at g
      rcases g with g | ⟨g1, g2⟩
      · exact Or.inl g
      · refine Or.inr ⟨g1, fun u a b y => ?_⟩
        by_cases f : u = 11 * k + p
        · subst f; exact absurd y c
        · exact g2 u (by omega) b y
theorem nz_n {S : Nat → Bool} {k : Nat} (z : ¬ nzS S k = true) : ∀ p, p < 11 → S (11 * k + p) = false := by
  unfold nzS at z
  have : mkS S k = 0 := by simpa using z
  exact (mkr_0 _).mp this
theorem num_L {S : Nat → Bool} {w : Mem} (h : LCp S 252 w) (x : Int32) : ∀ (q k m : Nat), k + q = 252 → q < m → (∃ s, s < 2772 ∧ S s = true ∧ x = nI (cntB S s) ∧ f_X2_numberOf_L4 w x m (nI (cntB S (11 * k))) (nI (cntB (nzS S) k)) = some (.inl (nI s))) ∨ (f_X2_numberOf_L4 w x m (nI (cntB S (11 * k))) (nI (cntB (nzS S) k)) = some (.inr ()) ∧ ∀ u, 11 * k ≤ u → u < 2772 → S u = true → ¬ x = nI (cntB S u)) := by
  have c252 := cntB_le (nzS S) 252
  intro q
  induction q with
  | zero =>
    intro k m hk hm
    obtain ⟨m, rfl⟩ : ∃ q, m = q + 1 := ⟨m - 1, by omega⟩
    obtain rfl : k = 252 := by omega
    refine Or.inr ⟨?_, fun u a b => by omega⟩
    rw [f_X2_numberOf_L4_s, h.1, if_pos (by rw [nI_leI (by omega) (by omega)]; omega)]
  | succ q ih =>
    intro k m hk hm
    by_cases z : nzS S k = true
    · obtain ⟨m, rfl⟩ : ∃ q, m = q + 1 := ⟨m - 1, by omega⟩
      have l := cntB_lt z (show k < 252 by omega)
      have es : cntB (nzS S) (k + 1) = cntB (nzS S) k + 1 := by rw [cntB_s, if_pos z, Nat.add_comm]
      rw [f_X2_numberOf_L4_s, h.1, if_neg (by rw [nI_leI (by omega) (by omega)]; omega), show f_X2_numberOf_L15 w x (nI (cntB (nzS S) k)) FU (nI (cntB S (11 * k))) 0 = f_X2_numberOf_L15 w x (nI (cntB (nzS S) k)) FU (nI (cntB S (11 * k + 0))) (nI 0) from rfl]
      rcases num_i h x (show k < 252 by omega) z 11 0 FU (by omega) (by unfold FU; omega) with ⟨s, s1, s2, s3, s4⟩ | ⟨s1, s2⟩
      · rw [s4, bd_s]
        exact Or.inl ⟨s, s1, s2, s3, rfl⟩
      · rw [s1, bd_s]
        simp only [sm]
        rw [lt_e, nI_s, ← es]
        rcases ih (k + 1) m (by omega) (by omega) with g | ⟨g1, g2⟩
        · exact Or.inl g
        · refine Or.inr ⟨g1, fun u a b y => ?_⟩
          by_cases f : u < 11 * (k + 1)
          · exact s2 u (by omega) f y
          · exact g2 u (by omega) b y
    · have zz := nz_n z
      have es : cntB (nzS S) (k + 1) = cntB (nzS S) k := by rw [cntB_s, if_neg z, Nat.zero_add]
      have ec : cntB S (11 * (k + 1)) = cntB S (11 * k) := by
        have a0 : cntB (fun p => S (11 * k + p)) 11 = 0 := cntB_0 zz
        rw [cnt11, a0, Nat.add_zero]
      have g := ih (k + 1) m (by omega) (by omega)
      rw [es, ec] at g
      rcases g with g | ⟨g1, g2⟩
      · exact Or.inl g
      · refine Or.inr ⟨g1, fun u a b y => ?_⟩
        by_cases f : u < 11 * (k + 1)
        · have := zz (u - 11 * k) (by omega)
          rw [show 11 * k + (u - 11 * k) = u by omega, y] at this
          exact absurd this (by decide)
        · exact g2 u (by omega) b y
theorem step_37 {w v : Mem} (h : Rel w v) (x1 x2 : Int32) : ∃ r w' v', f_X10_state x1 x2 w = some (r, w') ∧ f_X11_state x1 x2 v = some (r, v') ∧ Rel w' v' := by
  unfold f_X10_state f_X11_state
  rw [ca_eq]
  rcases in_c x1 0 4 with ⟨q, k1⟩ | ⟨q, k1⟩
  rotate_left
  · rw [q, bd_s, bd_s, if_pos rfl, if_pos rfl]; exact ⟨-1, w, v, rfl, rfl, h⟩
  rw [q, bd_s, bd_s, if_neg one_ne, if_neg one_ne]
  simp at k1
  obtain ⟨M, hM, rfl⟩ := i_nat (x := x1) (N := 5) (by omega) (by omega) (by omega)
  obtain ⟨n, hn⟩ := NT_of h.2.2.2.2.2.2.1
  obtain ⟨w', a1, a2, a3⟩ := gn_e (M := M) (by omega) hn
  obtain ⟨v', b1, b2, b3⟩ := lefts_e (M := M) (by omega) hn
  rw [a1, b1, bd_s, bd_s, b2.1]
  generalize sN (fun j => (v.1 13 j).toNatClampNeg) (fun j => (v.1 14 j).toNatClampNeg) M n = S at a2 b2
  have cl := cntB_le S 2772
  have eS : (nI (cntB S 2772)).toInt = (cntB S 2772 : Nat) := nI_toInt (by omega)
  have e5 : (nI (cntB S 2772) - 1).toInt = (cntB S 2772 : Nat) - 1 := by rw [i_sub (by rw [eS]; simp; omega) (by rw [eS]; simp; omega), eS]; rfl
  unfold f_X2_numberOf
  rw [show f_X2_numberOf_L4 w' x2 FU 0 0 = f_X2_numberOf_L4 w' x2 FU (nI (cntB S (11 * 0))) (nI (cntB (nzS S) 0)) from rfl]
  rcases num_L a2 x2 252 0 FU (by omega) (by unfold FU; omega) with ⟨s, s1, s2, s3, s4⟩ | ⟨s1, s2⟩
  · have ls := cntB_lt s2 s1
    subst s3
    have i1 : f_X11_in (nI (cntB S s)) 0 (nI (cntB S 2772) - 1) = some 1 := in_t (by rw [e5, nI_toInt (by omega)]; simp; omega)
    rw [s4, i1, bd_s, bd_s, if_neg one_ne, gd_t (inb_nI (by omega) (by omega)), lt_e, nI_clamp (by omega), b2.2 s s1 s2]
    exact ⟨_, w', v', rfl, rfl, Rel_F h a3 b3⟩
  · have i0 : f_X11_in x2 0 (nI (cntB S 2772) - 1) = some 0 := in_f (by
      rw [e5]
      intro z
      simp at z
      obtain ⟨i, hi, rfl⟩ := i_nat (x := x2) (N := cntB S 2772) (by omega) (by omega) (by omega)
      obtain ⟨s, t1, t2, t3⟩ := cnt_ex 2772 hi
      exact s2 s (by omega) t1 t2 (by rw [t3]))
    rw [s1, i0, bd_s, bd_s, if_pos rfl]
    exact ⟨_, w', v', rfl, rfl, Rel_F h a3 b3⟩
