/-! ===== 40 hunt (70: by wip/gen/p70.txt and fr.py) ===== -/
theorem LC_4 {S : Nat → Bool} {w : Mem} (h : LCp S 252 w) (x : Int32) : LCp S 252 (mS w 83 4 x) := by
  obtain ⟨h1, h2, h3⟩ := h
  refine ⟨by rw [mS_nj (by decide)]; exact h1, by rw [mS_nj (by decide)]; exact h2, fun k hk z => ?_⟩
  obtain ⟨e1, e2⟩ := h3 k hk z
  exact ⟨by rw [mS_ne (by decide)]; exact e1, by rw [mS_ne (by decide)]; exact e2⟩
theorem FrF_4 (w : Mem) (x : Int32) : FrF w (mS w 83 4 x) := ⟨fun o p _ _ => mS_o p, fun j _ p _ => mS_nj p, rfl⟩
/-- the next trial, or none -/
def TR (w : Mem) (tr : Int32) : Prop := (∃ b, b < 325 ∧ f_X2_partingTrial w = some (nI b) ∧ tr = nI b) ∨ (f_X2_partingTrial w = some (-4) ∧ tr = -1)
theorem tr_e {S : Nat → Bool} {w v : Mem} (h : LCp S 252 w) (hv : LMp S 2772 v) : (¬ 2 ≤ cntB S 2772 ∧ TR w (-1)) ∨ (2 ≤ cntB S 2772 ∧ ∃ v' tr, f_X11_bestOf v = some (tr, v') ∧ LMp S 2772 v' ∧ FrR v v' ∧ TR w tr) := by
  obtain ⟨v', a1, a2, a3⟩ := best_e h hv
  by_cases c : 2 ≤ cntB S 2772
  · refine Or.inr ⟨c, ?_⟩
    rcases a3 with ⟨b, b1, b2, b3, b4⟩ | ⟨b1, b2⟩
    · exact ⟨v', nI b, b3, a1, a2, Or.inl ⟨b, b1, b2, rfl⟩⟩
    · exact ⟨v', -1, b2, a1, a2, Or.inr ⟨b1, rfl⟩⟩
  · refine Or.inl ⟨c, ?_⟩
    rcases a3 with ⟨b, b1, b2, b3, b4⟩ | ⟨b1, b2⟩
    · exact absurd b4 c
    · exact Or.inr ⟨b1, rfl⟩
theorem n4 {b : Nat} (h : b < 325) : ¬ nI b = -4 := fun q => by
  rw [i_eq, nI_toInt (by omega)] at q; simp at q
theorem hunt_L {s : Nat} (hs : s < 2772) : ∀ (q i m m' : Nat) (S : Nat → Bool) (w v : Mem) (tr last : Int32), LCp S 252 w → LMp S 2772 v → TR w tr → w.1 83 4 = last → i + q = 20 → q < m → q < m' → ∃ (j : Nat) (S' : Nat → Bool) (w' v' : Mem) (last' : Int32), LCp S' 252 w' ∧ LMp S' 2772 v' ∧ FrF w w' ∧ FrR v v' ∧ w'.1 83 4 = last' ∧ f_X11_hunt_L108 (nI s) m' (nI i) last tr v = some (nI j, last', v') ∧ (f_X2_hunted_L13 (nI s) m (nI i) w = some (.inl (nI j, w')) ∨ (f_X2_hunted_L13 (nI s) m (nI i) w = some (.inr w') ∧ j = 20)) := by
  intro q
  induction q with
  | zero =>
    intro i m m' S w v tr last h hv ht hl hi hm hm'
    obtain ⟨m, rfl⟩ : ∃ q, m = q + 1 := ⟨m - 1, by omega⟩
    obtain ⟨m', rfl⟩ : ∃ q, m' = q + 1 := ⟨m' - 1, by omega⟩
    obtain rfl : i = 20 := by omega
    refine ⟨20, S, w, v, last, h, hv, FrF_r w, FrR_r v, hl, ?_, Or.inr ⟨?_, rfl⟩⟩
    · rw [f_X11_hunt_L108_s]
      by_cases c : tr = -1
      · rw [if_pos c]
      · rw [if_neg c, if_pos (by decide)]
    · rw [f_X2_hunted_L13_s, if_pos (by decide)]
  | succ q ih =>
    intro i m m' S w v tr last h hv ht hl hi hm hm'
    obtain ⟨m, rfl⟩ : ∃ q, m = q + 1 := ⟨m - 1, by omega⟩
    obtain ⟨m', rfl⟩ : ∃ q, m' = q + 1 := ⟨m' - 1, by omega⟩
    have n20 : ¬ 20 ≤ nI i := by rw [nI_lit 20, nI_leI (by omega) (by omega)]; omega
    rcases ht with ⟨b, b1, bq, b3⟩ | ⟨b1, bq⟩
    rotate_left
    · refine ⟨i, S, w, v, last, h, hv, FrF_r w, FrR_r v, hl, ?_, Or.inl ?_⟩
      · rw [f_X11_hunt_L108_s, if_pos bq]
      · rw [f_X2_hunted_L13_s, if_neg n20, b1, bd_s, if_pos rfl]
    have ob : ocN s b ≤ 4 := ocK_b _ _ _
    obtain ⟨w1, c1, c2, c3⟩ := narr_e (t := b) (o := ocN s b) b1 ob h
    obtain ⟨v1, d1, d2, d3⟩ := hn_e (t := b) (o := ocN s b) b1 ob hv
    have cl := cntB_le (nS S b (ocN s b)) 2772
    have C : f_X2_hunted_L13 (nI s) (m + 1) (nI i) w = f_X2_hunted_L13 (nI s) m (nI (i + 1)) (mS w1 83 4 (nI b)) := by
      rw [f_X2_hunted_L13_s, if_neg n20, bq, bd_s, if_neg (n4 b1), ocC_e hs b1, bd_s, c1, bd_s, lt_e, lt_e, nI_s]
    have hw : LCp (nS S b (ocN s b)) 252 (mS w1 83 4 (nI b)) := LC_4 c2 _
    have fw : FrF w (mS w1 83 4 (nI b)) := FrF_t c3 (FrF_4 _ _)
    have M0 : f_X11_hunt_L108 (nI s) (m' + 1) (nI i) last tr v = if nI (cntB (nS S b (ocN s b)) 2772) ≤ 1 then f_X11_hunt_L108 (nI s) m' (nI (i + 1)) (nI b) (-1) (mS v1 0 59 (nI (cntB (nS S b (ocN s b)) 2772))) else b2 (f_X11_bestOf (mS v1 0 59 (nI (cntB (nS S b (ocN s b)) 2772)))) fun r_61 w_63 => f_X11_hunt_L108 (nI s) m' (nI (i + 1)) (nI b) r_61 w_63 := by
      rw [f_X11_hunt_L108_s, b3, if_neg (show ¬ nI b = -1 from fun z => no1 (i := b) (by omega) z.symm), if_neg n20, ocM_e hs b1, bd_s, d1, bd_s, tp2_s, lt_e, lt_e, mS_eq, nI_s]
    rcases tr_e hw d2 with ⟨e1, e2⟩ | ⟨e1, v2, tr2, e2, e3, e4, e5⟩
    · rw [if_pos (show nI (cntB (nS S b (ocN s b)) 2772) ≤ 1 by rw [nI_lit 1, nI_leI (by omega) (by omega)]; omega)] at M0
      obtain ⟨j, S', w', v', last', g1, g2, g3, g4, g5, g6, g7⟩ := ih (i + 1) m m' _ _ _ (-1) (nI b) hw d2 e2 mS_eq (by omega) (by omega) (by omega)
      rw [C, M0]
      exact ⟨j, S', w', v', last', g1, g2, FrF_t fw g3, FrR_t d3 g4, g5, g6, g7⟩
    · rw [if_neg (show ¬ nI (cntB (nS S b (ocN s b)) 2772) ≤ 1 by rw [nI_lit 1, nI_leI (by omega) (by omega)]; omega), e2, b2_s] at M0
      obtain ⟨j, S', w', v', last', g1, g2, g3, g4, g5, g6, g7⟩ := ih (i + 1) m m' _ _ _ tr2 (nI b) hw e3 e5 mS_eq (by omega) (by omega) (by omega)
      rw [C, M0]
      exact ⟨j, S', w', v', last', g1, g2, FrF_t fw g3, FrR_t (FrR_t d3 e4) g4, g5, g6, g7⟩
theorem holds_L {S : Nat → Bool} {w : Mem} (h : LCp S 252 w) {s : Nat} (hs : s < 2772) : ∀ (q k m : Nat), k + q = 252 → q < m → (s / 11 < k ∧ f_X2_holds_L2 w (nI s) m (nI (cntB (nzS S) k)) = some (.inr ())) ∨ (k ≤ s / 11 ∧ nzS S (s / 11) = true ∧ f_X2_holds_L2 w (nI s) m (nI (cntB (nzS S) k)) = some (.inl (if S s = true then 1 else 0))) ∨ (k ≤ s / 11 ∧ ¬ nzS S (s / 11) = true ∧ f_X2_holds_L2 w (nI s) m (nI (cntB (nzS S) k)) = some (.inr ())) := by
  have c252 := cntB_le (nzS S) 252
  have hp : s % 11 < 11 := Nat.mod_lt _ (by decide)
  have hk' : s / 11 < 252 := by omega
  intro q
  induction q with
  | zero =>
    intro k m hk hm
    obtain ⟨m, rfl⟩ : ∃ q, m = q + 1 := ⟨m - 1, by omega⟩
    obtain rfl : k = 252 := by omega
    refine Or.inl ⟨hk', ?_⟩
    rw [f_X2_holds_L2_s, h.1, if_pos (by rw [nI_leI (by omega) (by omega)]; omega)]
  | succ q ih =>
    intro k m hk hm
    by_cases z : nzS S k = true
    · obtain ⟨m, rfl⟩ : ∃ q, m = q + 1 := ⟨m - 1, by omega⟩
      have l := cntB_lt z (show k < 252 by omega)
      obtain ⟨e1, e2⟩ := h.2.2 k (by omega) z
      have es : cntB (nzS S) (k + 1) = cntB (nzS S) k + 1 := by rw [cntB_s, if_pos z, Nat.add_comm]
      rw [f_X2_holds_L2_s, h.1, if_neg (by rw [nI_leI (by omega) (by omega)]; omega), gd_t (inb_nI (by omega) (by omega)), lt_e, nI_clamp (by omega), e1, nI_lit 11, pk_div (by omega) (by omega) (by omega)]
      by_cases c : k = s / 11
      · rw [if_pos (by rw [c]), lt_e, e2, lt_e, rem_e (by omega) (by omega) (by omega), lt_e, sh_d _ hp, lt_e]
        refine Or.inr (Or.inl ⟨by omega, by rw [← c]; exact z, ?_⟩)
        have sd : 11 * k + s % 11 = s := by omega
        have be := bit_e (fun p => S (11 * k + p)) hp
        rw [sd] at be
        by_cases d : S s = true
        · rw [if_neg (show ¬ (nI (mkS S k) &&& nI (2 ^ (s % 11))) = 0 from fun y => by have := be.mp y; rw [d] at this; exact absurd this (by decide)), gd_t bz1, if_pos d]
        · rw [if_pos (show (nI (mkS S k) &&& nI (2 ^ (s % 11))) = 0 from be.mpr (by simpa using d)), gd_t bz0, if_neg d]
      · rw [if_neg (by rw [nI_eq (by omega) (by omega)]; exact c), lt_e, nI_s, ← es]
        rcases ih (k + 1) m (by omega) (by omega) with ⟨g1, g2⟩ | ⟨g1, g2, g3⟩ | ⟨g1, g2, g3⟩
        · exact Or.inl ⟨by omega, g2⟩
        · exact Or.inr (Or.inl ⟨by omega, g2, g3⟩)
        · exact Or.inr (Or.inr ⟨by omega, g2, g3⟩)
    · have es : cntB (nzS S) (k + 1) = cntB (nzS S) k := by rw [cntB_s, if_neg z, Nat.zero_add]
      have g := ih (k + 1) m (by omega) (by omega)
      rw [es] at g
      rcases g with ⟨g1, g2⟩ | ⟨g1, g2, g3⟩ | ⟨g1, g2, g3⟩
      · by_cases c : s / 11 < k
        · exact Or.inl ⟨c, g2⟩
        · have e : s / 11 = k := by omega
          exact Or.inr (Or.inr ⟨by omega, by rw [e]; exact z, g2⟩)
      · exact Or.inr (Or.inl ⟨by omega, g2, g3⟩)
      · exact Or.inr (Or.inr ⟨by omega, g2, g3⟩)
theorem holds_e {S : Nat → Bool} {w : Mem} (h : LCp S 252 w) {s : Nat} (hs : s < 2772) : f_X2_holds (nI s) w = some (if S s = true then 1 else 0) := by
  unfold f_X2_holds
  rw [show f_X2_holds_L2 w (nI s) FU 0 = f_X2_holds_L2 w (nI s) FU (nI (cntB (nzS S) 0)) from rfl]
  rcases holds_L h hs 252 0 FU (by omega) (by unfold FU; omega) with ⟨g1, g2⟩ | ⟨g1, g2, g3⟩ | ⟨g1, g2, g3⟩
  · exact absurd g1 (Nat.not_lt_zero _)
  · rw [g3]; rfl
  · have := nz_n g2 (s % 11) (Nat.mod_lt _ (by decide))
    rw [show 11 * (s / 11) + s % 11 = s by omega] at this
    rw [g3, this]; rfl
theorem among_L {S : Nat → Bool} {v : Mem} (h : LMp S 2772 v) {s : Nat} (hs : s < 2772) : ∀ (q u m : Nat) (x : Int32), u + q = 2772 → q < m → f_X11_hunt_L224 (nI s) v m x (nI (cntB S u)) = some (if u ≤ s ∧ S s = true then 1 else x) := by
  have c2772 := cntB_le S 2772
  intro q
  induction q with
  | zero =>
    intro u m x hu hm
    obtain ⟨m, rfl⟩ : ∃ q, m = q + 1 := ⟨m - 1, by omega⟩
    obtain rfl : u = 2772 := by omega
    rw [f_X11_hunt_L224_s, h.1, if_pos (by rw [nI_leI (by omega) (by omega)]; omega), if_neg (by omega)]
  | succ q ih =>
    intro u m x hu hm
    by_cases z : S u = true
    · obtain ⟨m, rfl⟩ : ∃ q, m = q + 1 := ⟨m - 1, by omega⟩
      have l := cntB_lt z (show u < 2772 by omega)
      have es : cntB S (u + 1) = cntB S u + 1 := by rw [cntB_s, if_pos z, Nat.add_comm]
      rw [f_X11_hunt_L224_s, h.1, if_neg (by rw [nI_leI (by omega) (by omega)]; omega), gd_t (inb_nI (by omega) (by omega)), lt_e, nI_clamp (by omega), h.2 u (by omega) z, lt_e, lt_e, nI_s, ← es, ih (u + 1) m _ (by omega) (by omega)]
      by_cases c : u = s
      · subst c
        rw [if_neg (by omega), if_pos rfl, if_pos ⟨Nat.le_refl _, z⟩]
      · have nc : ¬ nI u = nI s := by rw [nI_eq (by omega) (by omega)]; exact c
        rw [if_neg nc]
        by_cases d : u ≤ s ∧ S s = true
        · rw [if_pos ⟨by omega, d.2⟩, if_pos d]
        · rw [if_neg (fun y => d ⟨by omega, y.2⟩), if_neg d]
    · have es : cntB S (u + 1) = cntB S u := by rw [cntB_s, if_neg z, Nat.zero_add]
      have g := ih (u + 1) m x (by omega) (by omega)
      rw [es] at g
      rw [g]
      by_cases d : u ≤ s ∧ S s = true
      · have : u ≠ s := fun e => z (by rw [e]; exact d.2)
        rw [if_pos ⟨by omega, d.2⟩, if_pos d]
      · rw [if_neg (fun y => d ⟨by omega, y.2⟩), if_neg d]
theorem step_40 {w v : Mem} (h : Rel w v) (x1 x2 x3 : Int32) : ∃ r w' v', f_X10_hunt x1 x2 x3 w = some (r, w') ∧ f_X11_hunt x1 x2 x3 v = some (r, v') ∧ Rel w' v' := by
  unfold f_X10_hunt f_X11_hunt
  rw [sta_eq, ca_eq]
  rcases in_c x1 0 2771 with ⟨q1, k1⟩ | ⟨q1, k1⟩
  rotate_left
  · rw [q1, bd_s, bd_s, if_pos rfl, if_pos rfl]; exact ⟨-1, w, v, rfl, rfl, h⟩
  rw [q1, bd_s, bd_s, if_neg one_ne, if_neg one_ne]
  rcases in_c x2 0 4 with ⟨q2, k2⟩ | ⟨q2, k2⟩
  rotate_left
  · rw [q2, bd_s, bd_s, if_pos rfl, if_pos rfl]; exact ⟨-1, w, v, rfl, rfl, h⟩
  rw [q2, bd_s, bd_s, if_neg one_ne, if_neg one_ne]
  rcases in_c x3 0 3 with ⟨q3, k3⟩ | ⟨q3, k3⟩
  rotate_left
  · rw [q3, bd_s, if_pos rfl]
    refine ⟨-1, w, v, ?_, rfl, h⟩
    by_cases c : x3 < 0
    · rw [if_pos c]
    · rw [if_neg c, if_neg (by rw [i_lt] at c; rw [i_le]; simp at c k3 ⊢; omega)]
  rw [q3, bd_s, if_neg one_ne]
  simp at k1 k2 k3
  rw [if_neg (nle_n k3.1), if_pos (show x3 ≤ 3 by rw [i_le]; simp; omega)]
  obtain ⟨s, hs, rfl⟩ := i_nat (x := x1) (N := 2772) (by omega) (by omega) (by omega)
  obtain ⟨M, hM, rfl⟩ := i_nat (x := x2) (N := 5) (by omega) (by omega) (by omega)
  obtain ⟨w1, a1, a2, a3⟩ := gath_e (M := M) (by omega) w
  obtain ⟨v1, b1, b2, b3⟩ := hg_e (M := M) (by omega) v
  have cl := cntB_le (gS M) 2772
  have hw : LCp (gS M) 252 (mS w1 83 4 (-2)) := LC_4 a2 _
  have fw : FrF w (mS w1 83 4 (-2)) := FrF_t a3 (FrF_4 _ _)
  -- from the first trial on
  have go : ∀ (tr : Int32) (v2 : Mem), LMp (gS M) 2772 v2 → FrR v v2 → TR (mS w1 83 4 (-2)) tr → ∃ (j : Nat) (S' : Nat → Bool) (w' v' : Mem), LCp S' 252 w' ∧ LMp S' 2772 v' ∧ FrF w w' ∧ FrR v v' ∧ f_X2_hunted (nI s) (nI M) w = some (nI j, w') ∧ f_X11_hunt_L108 (nI s) FU 0 (-2) tr v2 = some (nI j, w'.1 83 4, v') := by
    intro tr v2 e1 e2 e3
    obtain ⟨j, S', w', v', last', g1, g2, g3, g4, g5, g6, g7⟩ := hunt_L hs 20 0 FU FU (gS M) _ v2 tr (-2) hw e1 e3 mS_eq (by omega) (by unfold FU; omega) (by unfold FU; omega)
    refine ⟨j, S', w', v', g1, g2, FrF_t fw g3, FrR_t e2 g4, ?_, by rw [g5]; exact g6⟩
    unfold f_X2_hunted
    rw [a1, bd_s, lt_e, show f_X2_hunted_L13 (nI s) FU 0 (mS w1 83 4 (-2)) = f_X2_hunted_L13 (nI s) FU (nI 0) (mS w1 83 4 (-2)) from rfl]
    rcases g7 with g7 | ⟨g7, g8⟩
    · rw [g7]; rfl
    · rw [g7, g8]; rfl
  have fin : ∀ (j : Nat) (S' : Nat → Bool) (w' v' : Mem), LCp S' 252 w' → LMp S' 2772 v' → FrF w w' → FrR v v' → ∃ r, (if x3 = 0 then (some (nI j, w')) else if x3 = 1 then (some (w'.1 83 3, w')) else if x3 = 2 then (bd (f_X2_holds (nI s) w') fun r_15 => lt (if r_15 = 0 then 0 else 1 : Int32) fun v_17 => some (v_17, w')) else (some (w'.1 83 4, w'))) = some (r, w') ∧ (bd (f_X11_hunt_L224 (nI s) v' FU 0 0) fun x7_81 => lt (if x3 = 0 then nI j else (if x3 = 1 then (v'.1 0 59) else (if x3 = 2 then x7_81 else w'.1 83 4)) : Int32) fun v_82 => some (v_82, v')) = some (r, v') ∧ Rel w' v' := by
    intro j S' w' v' g1 g2 g3 g4
    have am := among_L g2 hs 2772 0 FU 0 (by omega) (by unfold FU; omega)
    rw [show f_X11_hunt_L224 (nI s) v' FU 0 0 = f_X11_hunt_L224 (nI s) v' FU 0 (nI (cntB S' 0)) from rfl, am, bd_s, lt_e, holds_e g1 hs, bd_s, lt_e]
    have hr := Rel_F h g3 g4
    by_cases c0 : x3 = 0
    · rw [if_pos c0, if_pos c0]; exact ⟨_, rfl, rfl, hr⟩
    rw [if_neg c0, if_neg c0]
    by_cases c1 : x3 = 1
    · rw [if_pos c1, if_pos c1, LC_size g1, g2.1]; exact ⟨_, rfl, rfl, hr⟩
    rw [if_neg c1, if_neg c1]
    by_cases c2 : x3 = 2
    · rw [if_pos c2, if_pos c2]
      refine ⟨_, rfl, ?_, hr⟩
      by_cases d : S' s = true
      · rw [if_pos ⟨Nat.zero_le _, d⟩, if_pos d, if_neg one_ne]
      · rw [if_neg (fun z => d z.2), if_neg d, if_pos rfl]
    rw [if_neg c2, if_neg c2]
    exact ⟨_, rfl, rfl, hr⟩
  rw [lt_e, b1, bd_s, lt_e, b2.1]
  dsimp only
  rcases tr_e hw b2 with ⟨e1, e2⟩ | ⟨e1, v2, tr2, e2, e3, e4, e5⟩
  · obtain ⟨j, S', w', v', g1, g2, g3, g4, g5, g6⟩ := go (-1) v1 b2 b3 e2
    obtain ⟨r, r1, r2, r3⟩ := fin j S' w' v' g1 g2 g3 g4
    rw [if_pos (show nI (cntB (gS M) 2772) ≤ 1 by rw [nI_lit 1, nI_leI (by omega) (by omega)]; omega), g5, b2_s, g6, bd_s, tp3_s]
    exact ⟨r, w', v', r1, r2, r3⟩
  · obtain ⟨j, S', w', v', g1, g2, g3, g4, g5, g6⟩ := go tr2 v2 e3 (FrR_t b3 e4) e5
    obtain ⟨r, r1, r2, r3⟩ := fin j S' w' v' g1 g2 g3 g4
    rw [if_neg (show ¬ nI (cntB (gS M) 2772) ≤ 1 by rw [nI_lit 1, nI_leI (by omega) (by omega)]; omega), e2, b2_s, g5, b2_s, g6, bd_s, tp3_s]
    exact ⟨r, w', v', r1, r2, r3⟩
