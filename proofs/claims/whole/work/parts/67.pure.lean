/-! ===== the faults: lists of states left (67: by wip/gen/p67.txt and fr.py) ===== -/
theorem narr_e {S : Nat → Bool} {t o : Nat} (ht : t < 325) (ho : o ≤ 4) {w : Mem} (h : LCp S 252 w) : ∃ w', f_X2_narrow (nI t) (nI o) w = some w' ∧ LCp (nS S t o) 252 w' ∧ FrF w w' := by
  obtain ⟨h1, h2, h3⟩ := h
  have h0 : LCp (nS S t o) 0 (mS (mS w 83 7 0) 83 3 0) := ⟨rfl, rfl, fun k hk => absurd hk (Nat.not_lt_zero _)⟩
  have f0 : FrF w (mS (mS w 83 7 0) 83 3 0) := ⟨fun o p q r => by rw [mS_o p, mS_o p], fun j p _ q => by rw [mS_nj p, mS_nj q], rfl⟩
  obtain ⟨w', g1, g2, g3⟩ := narr_L (S := S) ht ho 252 0 FU _ (by omega) (by unfold FU; omega) h0 (fun k' _ hk' q => h3 k' hk' q)
  refine ⟨w', ?_, g2, FrF_t f0 g3⟩
  unfold f_X2_narrow
  simp only [lt_e]
  rw [h1, show f_X2_narrow_L18 (nI t) (nI o) (nI (cntB (nzS S) 252)) FU 0 (mS (mS w 83 7 0) 83 3 0) = f_X2_narrow_L18 (nI t) (nI o) (nI (cntB (nzS S) 252)) FU (nI (cntB (nzS S) 0)) (mS (mS w 83 7 0) 83 3 0) from rfl, g1]; rfl
/-- the states left after i notes -/
def sN (tr oo : Nat → Nat) (m : Nat) : Nat → Nat → Bool
  | 0 => gS m
  | i + 1 => nS (sN tr oo m i) (tr i) (oo i)
theorem sN_f {tr oo : Nat → Nat} {m s : Nat} : ∀ (q i : Nat), sN tr oo m i s = false → sN tr oo m (i + q) s = false
  | 0, _, h => h
  | q + 1, i, h => by
    show (sN tr oo m (i + q) s && decide (ocN s (tr (i + q)) = oo (i + q))) = false
    rw [sN_f q i h]; rfl
def NT (w v : Mem) (n : Nat) (tr oo : Nat → Nat) : Prop := n ≤ 24 ∧ w.1 83 2 = nI n ∧ v.1 0 22 = nI n ∧ ∀ j, j < n → w.1 84 j = nI (tr j) ∧ w.1 85 j = nI (oo j) ∧ v.1 13 j = nI (tr j) ∧ v.1 14 j = nI (oo j) ∧ tr j < 325 ∧ oo j ≤ 4
theorem NT_of {w v : Mem} (h : RF w v) : ∃ n, NT w v n (fun j => (v.1 13 j).toNatClampNeg) (fun j => (v.1 14 j).toNatClampNeg) := by
  obtain ⟨n, hn, e1, e2, e3⟩ := h
  refine ⟨n, hn, e1, e2, fun j hj => ?_⟩
  obtain ⟨f1, f2, f3, f4⟩ := e3 j hj
  unfold ib at f3 f4
  obtain ⟨a, ha, ea⟩ := i_nat (x := v.1 13 j) (N := 325) f3.1 (by omega) (by omega)
  obtain ⟨b, hb, eb⟩ := i_nat (x := v.1 14 j) (N := 5) f4.1 (by omega) (by omega)
  simp only [ea, eb, nI_clamp (show a < 2147483648 by omega), nI_clamp (show b < 2147483648 by omega)]
  rw [f1, f2, ea, eb]
  exact ⟨rfl, rfl, trivial, trivial, ha, by omega⟩
theorem gn_L {n : Nat} {tr oo : Nat → Nat} {M : Nat} {v : Mem} : ∀ (q i m : Nat) (w : Mem), NT w v n tr oo → LCp (sN tr oo M i) 252 w → i + q = n → q < m → ∃ w', f_X2_gatherNoted_L7 m (nI i) w = some w' ∧ LCp (sN tr oo M n) 252 w' ∧ FrF w w' := by
  intro q
  induction q with
  | zero =>
    intro i m w hn h hi hm
    obtain ⟨m, rfl⟩ : ∃ q, m = q + 1 := ⟨m - 1, by omega⟩
    obtain rfl : i = n := by omega
    have := hn.1
    exact ⟨w, by rw [f_X2_gatherNoted_L7_s, hn.2.1, if_pos (by rw [nI_leI (by omega) (by omega)]; omega)], h, FrF_r w⟩
  | succ q ih =>
    intro i m w hn h hi hm
    obtain ⟨m, rfl⟩ : ∃ q, m = q + 1 := ⟨m - 1, by omega⟩
    have hn0 := hn
    obtain ⟨n24, e1, e2, e3⟩ := hn
    obtain ⟨f1, f2, f3, f4, f5, f6⟩ := e3 i (by omega)
    obtain ⟨w1, g1, g2, g3⟩ := narr_e f5 f6 h
    have hn1 : NT w1 v n tr oo := by
      refine ⟨n24, by rw [g3.2.1 2 (by decide) (by decide) (by decide)]; exact e1, e2, fun j hj => ?_⟩
      rw [g3.1 84 (by decide) (by decide) (by decide), g3.1 85 (by decide) (by decide) (by decide)]
      exact e3 j hj
    obtain ⟨w', k1, k2, k3⟩ := ih (i + 1) m w1 hn1 g2 (by omega) (by omega)
    refine ⟨w', ?_, k2, FrF_t g3 k3⟩
    rw [f_X2_gatherNoted_L7_s, e1, if_neg (by rw [nI_leI (by omega) (by omega)]; omega), gd_t (inb_nI (by omega) (by omega))]
    simp only [lt_e]
    rw [nI_clamp (by omega), f1, f2, g1, bd_s, nI_s]
    exact k1
theorem gn_e {n : Nat} {tr oo : Nat → Nat} {M : Nat} {w v : Mem} (hM : M ≤ 4) (hn : NT w v n tr oo) : ∃ w', f_X2_gatherNoted (nI M) w = some w' ∧ LCp (sN tr oo M n) 252 w' ∧ FrF w w' := by
  obtain ⟨w1, g1, g2, g3⟩ := gath_e hM w
  have hn1 : NT w1 v n tr oo := by
    obtain ⟨n24, e1, e2, e3⟩ := hn
    refine ⟨n24, by rw [g3.2.1 2 (by decide) (by decide) (by decide)]; exact e1, e2, fun j hj => ?_⟩
    rw [g3.1 84 (by decide) (by decide) (by decide), g3.1 85 (by decide) (by decide) (by decide)]
    exact e3 j hj
  have := hn.1
  obtain ⟨w', k1, k2, k3⟩ := gn_L (M := M) n 0 FU w1 hn1 g2 (by omega) (by unfold FU; omega)
  refine ⟨w', ?_, k2, FrF_t g3 k3⟩
  unfold f_X2_gatherNoted
  rw [g1, bd_s, show f_X2_gatherNoted_L7 FU 0 w1 = f_X2_gatherNoted_L7 FU (nI 0) w1 from rfl, k1]; rfl
/-! the reference's list -/
def LMp (S : Nat → Bool) (n : Nat) (v : Mem) : Prop := v.1 0 59 = nI (cntB S n) ∧ ∀ s, s < n → S s = true → v.1 24 (cntB S s) = nI s
theorem LM_add {S : Nat → Bool} {s : Nat} {v : Mem} (h : LMp S s v) (z : S s = true) : LMp S (s + 1) (mS (mS v 24 (cntB S s) (nI s)) 0 59 (nI (cntB S s + 1))) := by
  obtain ⟨h1, h2⟩ := h
  refine ⟨by rw [mS_eq, cntB_s, if_pos z, Nat.add_comm], fun u hu q => ?_⟩
  rw [mS_ne (show (24 : Nat) ≠ 0 by decide)]
  by_cases e : u = s
  · subst e; rw [mS_eq]
  · have := cntB_lt q (show u < s by omega)
    rw [mS_nj (by omega)]; exact h2 u (by omega) q
theorem LM_skip {S : Nat → Bool} {s : Nat} {v : Mem} (h : LMp S s v) (z : ¬ S s = true) : LMp S (s + 1) v := by
  obtain ⟨h1, h2⟩ := h
  refine ⟨by rw [cntB_s, if_neg z, Nat.zero_add]; exact h1, fun u hu q => ?_⟩
  by_cases e : u = s
  · subst e; exact absurd q z
  · exact h2 u (by omega) q
theorem FrR_add (v : Mem) (c : Nat) (x y : Int32) : FrR v (mS (mS v 24 c x) 0 59 y) :=
  ⟨fun o p q r => by rw [mS_o p, mS_o q], fun j p => by rw [mS_nj p, mS_ne (by decide)], rfl⟩
theorem ln_L {w0 v : Mem} {n : Nat} {tr oo : Nat → Nat} {M s : Nat} (hn : NT w0 v n tr oo) (hs : s < 2772) : ∀ (q i m : Nat), i + q = n → q < m → f_X11_lefts_L31 (nI s) v m (if sN tr oo M i s = true then 1 else 0) (nI i) = some (if sN tr oo M n s = true then 1 else 0) := by
  obtain ⟨n24, e1, e2, e3⟩ := hn
  intro q
  induction q with
  | zero =>
    intro i m hi hm
    obtain ⟨m, rfl⟩ : ∃ q, m = q + 1 := ⟨m - 1, by omega⟩
    obtain rfl : i = n := by omega
    rw [f_X11_lefts_L31_s, e2, if_pos (by rw [nI_leI (by omega) (by omega)]; omega)]
  | succ q ih =>
    intro i m hi hm
    obtain ⟨m, rfl⟩ : ∃ q, m = q + 1 := ⟨m - 1, by omega⟩
    obtain ⟨f1, f2, f3, f4, f5, f6⟩ := e3 i (by omega)
    rw [f_X11_lefts_L31_s, e2, if_neg (by rw [nI_leI (by omega) (by omega)]; omega)]
    by_cases z : sN tr oo M i s = true
    · rw [if_pos z, if_neg one_ne, gd_t (inb_nI (by omega) (by omega))]
      simp only [lt_e]
      rw [nI_clamp (by omega), f3, f4, ocM_e hs f5, bd_s, nI_s]
      have e : (if nI (ocN s (tr i)) = nI (oo i) then (1 : Int32) else 0) = if sN tr oo M (i + 1) s = true then 1 else 0 := by
        have ob : ocN s (tr i) ≤ 4 := ocK_b _ _ _
        have d : sN tr oo M (i + 1) s = (sN tr oo M i s && decide (ocN s (tr i) = oo i)) := rfl
        rw [d, z, Bool.true_and]
        by_cases c : ocN s (tr i) = oo i
        · rw [if_pos (by rw [c]), if_pos (decide_eq_true c)]
        · rw [if_neg (by rw [nI_eq (by omega) (by omega)]; exact c), if_neg (by rw [decide_eq_true_eq]; exact c)]
      rw [e]
      exact ih (i + 1) m (by omega) (by omega)
    · have zf : sN tr oo M i s = false := by simpa using z
      have := sN_f (q + 1) i zf
      rw [hi] at this
      rw [if_neg z, if_pos rfl, this]; rfl
theorem lefts_L {w0 : Mem} {n : Nat} {tr oo : Nat → Nat} {M : Nat} (hM : M ≤ 4) : ∀ (q s m : Nat) (v : Mem), NT w0 v n tr oo → LMp (sN tr oo M n) s v → s + q = 2772 → q < m → ∃ v', f_X11_lefts_L7 (nI M) m (nI s) v = some v' ∧ LMp (sN tr oo M n) 2772 v' ∧ FrR v v' := by
  intro q
  induction q with
  | zero =>
    intro s m v hn h hs hm
    obtain ⟨m, rfl⟩ : ∃ q, m = q + 1 := ⟨m - 1, by omega⟩
    obtain rfl : s = 2772 := by omega
    exact ⟨v, by rw [f_X11_lefts_L7_s, if_pos (by decide)], h, FrR_r v⟩
  | succ q ih =>
    intro s m v hn h hs hm
    obtain ⟨m, rfl⟩ : ∃ q, m = q + 1 := ⟨m - 1, by omega⟩
    have n24 := hn.1
    have cl := cntB_le (sN tr oo M n) s
    have cb : caN s ≤ 4 := by
      have := caK_b (s / 11)
      unfold caN; split <;> omega
    have ec : (if nI M < nI (caN s) then (0 : Int32) else 1) = if sN tr oo M 0 s = true then 1 else 0 := by
      show _ = if decide (caN s ≤ M) = true then (1 : Int32) else 0
      by_cases c : caN s ≤ M
      · rw [if_neg (by rw [nI_ltI (by omega) (by omega)]; omega), if_pos (decide_eq_true c)]
      · rw [if_pos (by rw [nI_ltI (by omega) (by omega)]; omega), if_neg (by rw [decide_eq_true_eq]; exact c)]
    have st : f_X11_lefts_L7 (nI M) (m + 1) (nI s) v = if sN tr oo M n s = true then f_X11_lefts_L7 (nI M) m (nI (s + 1)) (mS (mS v 24 (cntB (sN tr oo M n) s) (nI s)) 0 59 (nI (cntB (sN tr oo M n) s + 1))) else f_X11_lefts_L7 (nI M) m (nI (s + 1)) v := by
      have g := ln_L (M := M) hn (show s < 2772 by omega) n 0 FU (by omega) (by unfold FU; omega)
      rw [f_X11_lefts_L7_s, if_neg (by rw [nI_lit 2772, nI_leI (by omega) (by omega)]; omega), caM_e (by omega), bd_s, lt_e, ec, show f_X11_lefts_L31 (nI s) v FU (if sN tr oo M 0 s = true then 1 else 0) 0 = f_X11_lefts_L31 (nI s) v FU (if sN tr oo M 0 s = true then 1 else 0) (nI 0) from rfl, g, bd_s]
      by_cases z : sN tr oo M n s = true
      · rw [if_pos z, if_neg one_ne, h.1, gd_t (inb_nI (by omega) (by omega)), if_pos z]
        simp only [lt_e]
        rw [nI_clamp (by omega), mS_ne (show (0 : Nat) ≠ 24 by decide), h.1, nI_1, nI_s]
      · rw [if_neg z, if_pos rfl, if_neg z, lt_e, nI_s]
    rw [st]
    by_cases z : sN tr oo M n s = true
    · rw [if_pos z]
      have fr := FrR_add v (cntB (sN tr oo M n) s) (nI s) (nI (cntB (sN tr oo M n) s + 1))
      have hn1 : NT w0 (mS (mS v 24 (cntB (sN tr oo M n) s) (nI s)) 0 59 (nI (cntB (sN tr oo M n) s + 1))) n tr oo := by
        obtain ⟨n24, e1, e2, e3⟩ := hn
        refine ⟨n24, e1, by rw [fr.2.1 22 (by decide)]; exact e2, fun j hj => ?_⟩
        rw [fr.1 13 (by decide) (by decide) (by decide), fr.1 14 (by decide) (by decide) (by decide)]
        exact e3 j hj
      obtain ⟨v', g1, g2, g3⟩ := ih (s + 1) m _ hn1 (LM_add h z) (by omega) (by omega)
      exact ⟨v', g1, g2, FrR_t fr g3⟩
    · rw [if_neg z]
      exact ih (s + 1) m v hn (LM_skip h z) (by omega) (by omega)
theorem lefts_e {w0 v : Mem} {n : Nat} {tr oo : Nat → Nat} {M : Nat} (hM : M ≤ 4) (hn : NT w0 v n tr oo) : ∃ v', f_X11_lefts (nI M) v = some v' ∧ LMp (sN tr oo M n) 2772 v' ∧ FrR v v' := by
  have f0 : FrR v (mS v 0 59 0) := ⟨fun o p q r => by rw [mS_o p], fun j p => by rw [mS_nj p], rfl⟩
  have hn1 : NT w0 (mS v 0 59 0) n tr oo := by
    obtain ⟨n24, e1, e2, e3⟩ := hn
    refine ⟨n24, e1, by rw [f0.2.1 22 (by decide)]; exact e2, fun j hj => ?_⟩
    rw [f0.1 13 (by decide) (by decide) (by decide), f0.1 14 (by decide) (by decide) (by decide)]
    exact e3 j hj
  obtain ⟨v', g1, g2, g3⟩ := lefts_L hM 2772 0 FU (mS v 0 59 0) hn1 ⟨rfl, fun s hs => absurd hs (Nat.not_lt_zero _)⟩ (by omega) (by unfold FU; omega)
  refine ⟨v', ?_, g2, FrR_t f0 g3⟩
  unfold f_X11_lefts
  rw [lt_e, show f_X11_lefts_L7 (nI M) FU 0 (mS v 0 59 0) = f_X11_lefts_L7 (nI M) FU (nI 0) (mS v 0 59 0) from rfl, g1]; rfl
/-! the hunt's lists -/
theorem hg_L {M : Nat} (hM : M ≤ 4) : ∀ (q s m : Nat) (v : Mem), LMp (gS M) s v → s + q = 2772 → q < m → ∃ v', f_X11_hunt_L39 (nI M) m (nI s) v = some v' ∧ LMp (gS M) 2772 v' ∧ FrR v v' := by
  intro q
  induction q with
  | zero =>
    intro s m v h hs hm
    obtain ⟨m, rfl⟩ : ∃ q, m = q + 1 := ⟨m - 1, by omega⟩
    obtain rfl : s = 2772 := by omega
    exact ⟨v, by rw [f_X11_hunt_L39_s, if_pos (by decide)], h, FrR_r v⟩
  | succ q ih =>
    intro s m v h hs hm
    obtain ⟨m, rfl⟩ : ∃ q, m = q + 1 := ⟨m - 1, by omega⟩
    have cl := cntB_le (gS M) s
    have cb : caN s ≤ 4 := by
      have := caK_b (s / 11)
      unfold caN; split <;> omega
    have ge : gS M s = true ↔ ¬ M < caN s := by unfold gS; rw [decide_eq_true_eq]; omega
    rw [f_X11_hunt_L39_s, if_neg (by rw [nI_lit 2772, nI_leI (by omega) (by omega)]; omega), caM_e (by omega), bd_s]
    by_cases z : gS M s = true
    · have := ge.mp z
      obtain ⟨v', g1, g2, g3⟩ := ih (s + 1) m _ (LM_add h z) (by omega) (by omega)
      refine ⟨v', ?_, g2, FrR_t (FrR_add _ _ _ _) g3⟩
      rw [if_neg (by rw [nI_ltI (by omega) (by omega)]; exact this), h.1, gd_t (inb_nI (by omega) (by omega))]
      simp only [lt_e]
      rw [nI_clamp (by omega), mS_ne (show (0 : Nat) ≠ 24 by decide), h.1, nI_1, nI_s]
      exact g1
    · have : M < caN s := by
        rcases Nat.lt_or_ge M (caN s) with c | c
        · exact c
        · exact absurd (ge.mpr (by omega)) z
      rw [if_pos (by rw [nI_ltI (by omega) (by omega)]; exact this), lt_e, nI_s]
      exact ih (s + 1) m v (LM_skip h z) (by omega) (by omega)
theorem hg_e {M : Nat} (hM : M ≤ 4) (v : Mem) : ∃ v', f_X11_hunt_L39 (nI M) FU 0 (mS v 0 59 0) = some v' ∧ LMp (gS M) 2772 v' ∧ FrR v v' := by
  have f0 : FrR v (mS v 0 59 0) := ⟨fun o p q r => by rw [mS_o p], fun j p => by rw [mS_nj p], rfl⟩
  obtain ⟨v', g1, g2, g3⟩ := hg_L hM 2772 0 FU (mS v 0 59 0) ⟨rfl, fun s hs => absurd hs (Nat.not_lt_zero _)⟩ (by omega) (by unfold FU; omega)
  exact ⟨v', g1, g2, FrR_t f0 g3⟩
theorem hn_L {S : Nat → Bool} {t o : Nat} (ht : t < 325) (ho : o ≤ 4) : ∀ (q s m : Nat) (v : Mem), s + q = 2772 → q < m → v.1 0 59 = nI (cntB S 2772) → (∀ u, u < s → nS S t o u = true → v.1 24 (cntB (nS S t o) u) = nI u) → (∀ u, s ≤ u → u < 2772 → S u = true → v.1 24 (cntB S u) = nI u) → ∃ v', f_X11_hunt_L135 (nI t) (nI o) m (nI (cntB (nS S t o) s)) (nI (cntB S s)) v = some (nI (cntB (nS S t o) 2772), v') ∧ (∀ u, u < 2772 → nS S t o u = true → v'.1 24 (cntB (nS S t o) u) = nI u) ∧ FrR v v' := by
  have c2772 := cntB_le S 2772
  intro q
  induction q with
  | zero =>
    intro s m v hs hm h1 h2 h3
    obtain ⟨m, rfl⟩ : ∃ q, m = q + 1 := ⟨m - 1, by omega⟩
    obtain rfl : s = 2772 := by omega
    exact ⟨v, by rw [f_X11_hunt_L135_s, h1, if_pos (by rw [nI_leI (by omega) (by omega)]; omega)], h2, FrR_r v⟩
  | succ q ih =>
    intro s m v hs hm h1 h2 h3
    have cs := cntB_le S s
    have sub : ∀ u, nS S t o u = true → S u = true := fun u h => by
      unfold nS at h; simp only [Bool.and_eq_true] at h; exact h.1
    have cc : cntB (nS S t o) s ≤ cntB S s := cntB_sub s (fun j _ h => sub j h)
    have ob : ocN s t ≤ 4 := ocK_b _ _ _
    by_cases z : S s = true
    · obtain ⟨m, rfl⟩ : ∃ q, m = q + 1 := ⟨m - 1, by omega⟩
      have l := cntB_lt z (show s < 2772 by omega)
      have e := h3 s (Nat.le_refl _) (by omega) z
      have es : cntB S (s + 1) = cntB S s + 1 := by rw [cntB_s, if_pos z, Nat.add_comm]
      rw [f_X11_hunt_L135_s, h1, if_neg (by rw [nI_leI (by omega) (by omega)]; omega), gd_t (inb_nI (by omega) (by omega))]
      simp only [lt_e]
      rw [nI_clamp (n := cntB S s) (by omega), e, ocM_e (by omega) ht, bd_s, nI_s, nI_s, ← es]
      by_cases c : ocN s t = o
      · have zn : nS S t o s = true := by unfold nS; rw [z, decide_eq_true c]; rfl
        have en : cntB (nS S t o) (s + 1) = cntB (nS S t o) s + 1 := by rw [cntB_s, if_pos zn, Nat.add_comm]
        rw [if_pos (by rw [c]), gd_t (inb_nI (by omega) (by omega)), nI_clamp (n := cntB (nS S t o) s) (by omega), ← en]
        obtain ⟨v', g1, g2, g3⟩ := ih (s + 1) m (mS v 24 (cntB (nS S t o) s) (nI s)) (by omega) (by omega) (by rw [mS_ne (by decide)]; exact h1) (fun u hu q => by
          by_cases d : u = s
          · subst d; rw [mS_eq]
          · have := cntB_lt q (show u < s by omega)
            rw [mS_nj (by omega)]; exact h2 u (by omega) q) (fun u hu hu2 q => by
          have := cntB_lt z (show s < u by omega)
          rw [mS_nj (by omega)]; exact h3 u (by omega) hu2 q)
        exact ⟨v', g1, g2, FrR_t (w' := mS v 24 (cntB (nS S t o) s) (nI s)) ⟨fun o p q r => by rw [mS_o q], fun j p => by rw [mS_ne (by decide)], rfl⟩ g3⟩
      · have zn : ¬ nS S t o s = true := by unfold nS; rw [z, decide_eq_false c]; decide
        have en : cntB (nS S t o) (s + 1) = cntB (nS S t o) s := by rw [cntB_s, if_neg zn, Nat.zero_add]
        rw [if_neg (by rw [nI_eq (by omega) (by omega)]; exact c), ← en]
        exact ih (s + 1) m v (by omega) (by omega) h1 (fun u hu q => by
          by_cases d : u = s
          · subst d; exact absurd q zn
          · exact h2 u (by omega) q) (fun u hu hu2 q => h3 u (by omega) hu2 q)
    · have es : cntB S (s + 1) = cntB S s := by rw [cntB_s, if_neg z, Nat.zero_add]
      have zn : ¬ nS S t o s = true := fun q => z (sub s q)
      have en : cntB (nS S t o) (s + 1) = cntB (nS S t o) s := by rw [cntB_s, if_neg zn, Nat.zero_add]
      rw [← es, ← en]
      exact ih (s + 1) m v (by omega) (by omega) h1 (fun u hu q => by
          by_cases d : u = s
          · subst d; exact absurd q zn
          · exact h2 u (by omega) q) (fun u hu hu2 q => h3 u (by omega) hu2 q)
theorem hn_e {S : Nat → Bool} {t o : Nat} (ht : t < 325) (ho : o ≤ 4) {v : Mem} (h : LMp S 2772 v) : ∃ v', f_X11_hunt_L135 (nI t) (nI o) FU 0 0 v = some (nI (cntB (nS S t o) 2772), v') ∧ LMp (nS S t o) 2772 (mS v' 0 59 (nI (cntB (nS S t o) 2772))) ∧ FrR v (mS v' 0 59 (nI (cntB (nS S t o) 2772))) := by
  obtain ⟨v', g1, g2, g3⟩ := hn_L (S := S) ht ho 2772 0 FU v (by omega) (by unfold FU; omega) h.1 (fun u hu => absurd hu (Nat.not_lt_zero _)) (fun u _ hu q => h.2 u hu q)
  refine ⟨v', g1, ⟨mS_eq, fun u hu q => ?_⟩, FrR_t g3 ⟨fun o p q r => by rw [mS_o p], fun j p => by rw [mS_nj p], rfl⟩⟩
  rw [mS_ne (by decide)]; exact g2 u hu q
