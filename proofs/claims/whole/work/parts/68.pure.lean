/-! ===== the faults: shares and the best trial (68: by wip/gen/p68.txt and fr.py) ===== -/
def IsMx (S : Nat → Bool) (t n x : Nat) : Prop := (∀ o, o ≤ 4 → cntB (nS S t o) n ≤ x) ∧ ∃ o, o ≤ 4 ∧ cntB (nS S t o) n = x
theorem IsMx_u {S : Nat → Bool} {t n x y : Nat} (a : IsMx S t n x) (b : IsMx S t n y) : x = y := by
  obtain ⟨a1, o, a2, a3⟩ := a
  obtain ⟨b1, u, b2, b3⟩ := b
  have := a1 u b2
  have := b1 o a2
  omega
def mx2 (a b : Nat) : Nat := if b ≤ a then a else b
theorem mx2_e (a b : Nat) : a ≤ mx2 a b ∧ b ≤ mx2 a b ∧ (mx2 a b = a ∨ mx2 a b = b) := by unfold mx2; split <;> omega
def shN (S : Nat → Bool) (t : Nat) : Nat := mx2 (mx2 (cntB (nS S t 1) 2772) (mx2 (cntB (nS S t 3) 2772) (cntB (nS S t 2) 2772))) (mx2 (cntB (nS S t 4) 2772) (cntB (nS S t 0) 2772))
theorem sh_is (S : Nat → Bool) (t : Nat) : IsMx S t 2772 (shN S t) := by
  obtain ⟨a1, a2, a3⟩ := mx2_e (cntB (nS S t 3) 2772) (cntB (nS S t 2) 2772)
  obtain ⟨b1, b2, b3⟩ := mx2_e (cntB (nS S t 1) 2772) (mx2 (cntB (nS S t 3) 2772) (cntB (nS S t 2) 2772))
  obtain ⟨c1, c2, c3⟩ := mx2_e (cntB (nS S t 4) 2772) (cntB (nS S t 0) 2772)
  obtain ⟨d1, d2, d3⟩ := mx2_e (mx2 (cntB (nS S t 1) 2772) (mx2 (cntB (nS S t 3) 2772) (cntB (nS S t 2) 2772))) (mx2 (cntB (nS S t 4) 2772) (cntB (nS S t 0) 2772))
  constructor
  · intro o ho
    unfold shN
    rcases (show o = 0 ∨ o = 1 ∨ o = 2 ∨ o = 3 ∨ o = 4 by omega) with rfl | rfl | rfl | rfl | rfl <;> omega
  · unfold shN
    rcases d3 with d | d
    · rcases b3 with b | b
      · exact ⟨1, by omega, by omega⟩
      · rcases a3 with a | a
        · exact ⟨3, by omega, by omega⟩
        · exact ⟨2, by omega, by omega⟩
    · rcases c3 with c | c
      · exact ⟨4, by omega, by omega⟩
      · exact ⟨0, by omega, by omega⟩
theorem sh_b (S : Nat → Bool) (t : Nat) : shN S t ≤ 2772 := by
  obtain ⟨_, o, _, h⟩ := sh_is S t
  have := cntB_le (nS S t o) 2772
  omega
theorem sum5 (S : Nat → Bool) (t : Nat) : ∀ n, cntB S n = cntB (nS S t 0) n + cntB (nS S t 1) n + cntB (nS S t 2) n + cntB (nS S t 3) n + cntB (nS S t 4) n
  | 0 => rfl
  | n + 1 => by
    have ih := sum5 S t n
    have ob : ocN n t ≤ 4 := ocK_b _ _ _
    have e : ∀ o, (if nS S t o n = true then 1 else 0) = if S n = true ∧ ocN n t = o then 1 else 0 := fun o => by
      unfold nS; simp only [Bool.and_eq_true, decide_eq_true_eq]
    simp only [cntB_s, e]
    by_cases z : S n = true
    · simp only [z, true_and, if_true]
      rcases (show ocN n t = 0 ∨ ocN n t = 1 ∨ ocN n t = 2 ∨ ocN n t = 3 ∨ ocN n t = 4 by omega) with c | c | c | c | c <;> simp only [c] <;> simp <;> omega
    · simp only [z]; simp; omega
theorem sh_1 {S : Nat → Bool} (t : Nat) (h : cntB S 2772 ≤ 1) : cntB S 2772 ≤ shN S t := by
  have s := sum5 S t 2772
  have b := (sh_is S t).1
  have b0 := b 0 (by omega)
  have b1 := b 1 (by omega)
  have b2 := b 2 (by omega)
  have b3 := b 3 (by omega)
  have b4 := b 4 (by omega)
  omega
/-! the reference's share -/
theorem shM_L {S : Nat → Bool} {t : Nat} (ht : t < 325) : ∀ (q s m x : Nat) (v : Mem), s + q = 2772 → q < m → v.1 0 59 = nI (cntB S 2772) → (∀ u, u < 2772 → S u = true → v.1 24 (cntB S u) = nI u) → (∀ o, o ≤ 4 → v.1 25 o = nI (cntB (nS S t o) s)) → IsMx S t s x → ∃ x' v', f_X11_shareOf_L24 (nI t) m (nI x) (nI (cntB S s)) v = some (nI x', v') ∧ IsMx S t 2772 x' ∧ (∀ o, o ≠ 25 → v'.1 o = v.1 o) ∧ v'.2 = v.2 := by
  have c2772 := cntB_le S 2772
  intro q
  induction q with
  | zero =>
    intro s m x v hs hm h1 h2 h3 h4
    obtain ⟨m, rfl⟩ : ∃ q, m = q + 1 := ⟨m - 1, by omega⟩
    obtain rfl : s = 2772 := by omega
    exact ⟨x, v, by rw [f_X11_shareOf_L24_s, h1, if_pos (by rw [nI_leI (by omega) (by omega)]; omega)], h4, fun _ _ => rfl, rfl⟩
  | succ q ih =>
    intro s m x v hs hm h1 h2 h3 h4
    have cs := cntB_le S s
    by_cases z : S s = true
    · obtain ⟨m, rfl⟩ : ∃ q, m = q + 1 := ⟨m - 1, by omega⟩
      have l := cntB_lt z (show s < 2772 by omega)
      have e := h2 s (by omega) z
      have es : cntB S (s + 1) = cntB S s + 1 := by rw [cntB_s, if_pos z, Nat.add_comm]
      have ob : ocN s t ≤ 4 := ocK_b _ _ _
      have co := cntB_le (nS S t (ocN s t)) s
      have zn : nS S t (ocN s t) s = true := by unfold nS; rw [z, decide_eq_true rfl]; rfl
      have en : cntB (nS S t (ocN s t)) (s + 1) = cntB (nS S t (ocN s t)) s + 1 := by rw [cntB_s, if_pos zn, Nat.add_comm]
      have eo : ∀ o, o ≠ ocN s t → cntB (nS S t o) (s + 1) = cntB (nS S t o) s := fun o ho => by
        rw [cntB_s, if_neg (by unfold nS; simp only [Bool.and_eq_true, decide_eq_true_eq]; exact fun q => ho q.2.symm), Nat.zero_add]
      have xb : x ≤ 2772 := by
        obtain ⟨_, o, _, h⟩ := h4
        have := cntB_le (nS S t o) s
        omega
      rw [f_X11_shareOf_L24_s, h1, if_neg (by rw [nI_leI (by omega) (by omega)]; omega), gd_t (inb_nI (by omega) (by omega))]
      simp only [lt_e]
      rw [nI_clamp (n := cntB S s) (by omega), e, ocM_e (by omega) ht, bd_s, gd_t (inb_nI (by omega) (by omega)), nI_clamp (n := ocN s t) (by omega), h3 _ ob, mS_eq, nI_1, nI_s, ← es, ← en]
      have ex : (if nI (cntB (nS S t (ocN s t)) (s + 1)) ≤ nI x then nI x else nI (cntB (nS S t (ocN s t)) (s + 1))) = nI (mx2 x (cntB (nS S t (ocN s t)) (s + 1))) := by
        unfold mx2
        by_cases c : cntB (nS S t (ocN s t)) (s + 1) ≤ x
        · rw [if_pos c, if_pos (by rw [nI_leI (by omega) (by omega)]; exact c)]
        · rw [if_neg c, if_neg (by rw [nI_leI (by omega) (by omega)]; exact c)]
      rw [ex]
      have h4' : IsMx S t (s + 1) (mx2 x (cntB (nS S t (ocN s t)) (s + 1))) := by
        obtain ⟨p1, p2, p3⟩ := mx2_e x (cntB (nS S t (ocN s t)) (s + 1))
        obtain ⟨h5, o, h6, h7⟩ := h4
        refine ⟨fun u hu => ?_, ?_⟩
        · by_cases d : u = ocN s t
          · rw [d]; exact p2
          · rw [eo u d]; have := h5 u hu; omega
        · rcases p3 with p | p
          · by_cases d : o = ocN s t
            · refine ⟨o, h6, ?_⟩
              rw [d] at h7 ⊢
              omega
            · exact ⟨o, h6, by rw [eo o d, h7, p]⟩
          · exact ⟨ocN s t, ob, p.symm⟩
      obtain ⟨x', v', g1, g2, g3, g4⟩ := ih (s + 1) m _ (mS v 25 (ocN s t) (nI (cntB (nS S t (ocN s t)) (s + 1)))) (by omega) (by omega) (by rw [mS_ne (by decide)]; exact h1) (fun u hu q => by rw [mS_ne (by decide)]; exact h2 u hu q) (fun o ho => by
        by_cases d : o = ocN s t
        · subst d; rw [mS_eq]
        · rw [mS_nj d, eo o d]; exact h3 o ho) h4'
      exact ⟨x', v', g1, g2, fun o ho => by rw [g3 o ho, mS_o ho], by rw [g4]; rfl⟩
    · have es : cntB S (s + 1) = cntB S s := by rw [cntB_s, if_neg z, Nat.zero_add]
      have eo : ∀ o, cntB (nS S t o) (s + 1) = cntB (nS S t o) s := fun o => by
        rw [cntB_s, if_neg (by unfold nS; simp only [Bool.and_eq_true]; exact fun q => z q.1), Nat.zero_add]
      rw [← es]
      refine ih (s + 1) m x v (by omega) (by omega) h1 h2 (fun o ho => by rw [eo o]; exact h3 o ho) ?_
      obtain ⟨h5, o, h6, h7⟩ := h4
      exact ⟨fun u hu => by rw [eo u]; exact h5 u hu, o, h6, by rw [eo o]; exact h7⟩
theorem sh0_e (v : Mem) : ∃ v', f_X11_shareOf_L2 FU 0 v = some v' ∧ (∀ o, o ≤ 4 → v'.1 25 o = nI 0) ∧ (∀ o, o ≠ 25 → v'.1 o = v.1 o) ∧ v'.2 = v.2 := by
  refine ⟨mS (mS (mS (mS (mS v 25 0 0) 25 1 0) 25 2 0) 25 3 0) 25 4 0, ?_, fun o ho => ?_, fun o ho => by rw [mS_o ho, mS_o ho, mS_o ho, mS_o ho, mS_o ho], rfl⟩
  · have st : ∀ (i m : Nat) (u : Mem), i < 5 → f_X11_shareOf_L2 (m + 1) (nI i) u = f_X11_shareOf_L2 m (nI (i + 1)) (mS u 25 i 0) := fun i m u hi => by
      rw [f_X11_shareOf_L2_s, if_neg (by rw [nI_lit 5, nI_leI (by omega) (by omega)]; omega), gd_t (inb_nI (by omega) (by omega)), lt_e, lt_e, nI_clamp (by omega), nI_s]
    rw [show f_X11_shareOf_L2 FU 0 v = f_X11_shareOf_L2 (1999994 + 1 + 1 + 1 + 1 + 1 + 1) (nI 0) v from rfl, st 0 _ _ (by omega), st 1 _ _ (by omega), st 2 _ _ (by omega), st 3 _ _ (by omega), st 4 _ _ (by omega), f_X11_shareOf_L2_s, if_pos (by decide)]
  · rcases (show o = 0 ∨ o = 1 ∨ o = 2 ∨ o = 3 ∨ o = 4 by omega) with rfl | rfl | rfl | rfl | rfl <;> rfl
theorem shM_e {S : Nat → Bool} {t : Nat} (ht : t < 325) {v : Mem} (h : LMp S 2772 v) : ∃ v', f_X11_shareOf (nI t) v = some (nI (shN S t), v') ∧ LMp S 2772 v' ∧ FrR v v' := by
  obtain ⟨v1, a1, a2, a3, a4⟩ := sh0_e v
  obtain ⟨x', v', g1, g2, g3, g4⟩ := shM_L (S := S) ht 2772 0 FU 0 v1 (by omega) (by unfold FU; omega) (by rw [a3 0 (by decide)]; exact h.1) (fun u hu q => by rw [a3 24 (by decide)]; exact h.2 u hu q) (fun o ho => a2 o ho) ⟨fun o ho => Nat.le_refl _, 0, by omega, rfl⟩
  have ex := IsMx_u g2 (sh_is S t)
  rw [ex] at g1
  refine ⟨v', ?_, ⟨?_, fun s hs q => ?_⟩, ⟨fun o p q r => by rw [g3 o r, a3 o r], fun j p => by rw [g3 0 (by decide), a3 0 (by decide)], by rw [g4, a4]⟩⟩
  · unfold f_X11_shareOf
    rw [a1, bd_s, show f_X11_shareOf_L24 (nI t) FU 0 0 v1 = f_X11_shareOf_L24 (nI t) FU (nI 0) (nI (cntB S 0)) v1 from rfl, g1, bd_s, tp2_s]
  · rw [g3 0 (by decide), a3 0 (by decide)]; exact h.1
  · rw [g3 24 (by decide), a3 24 (by decide)]; exact h.2 s hs q
/-! the class's share -/
theorem shC_L {S : Nat → Bool} {t : Nat} (ht : t < 325) {w : Mem} (h : LCp S 252 w) : ∀ (q k m : Nat), k + q = 252 → q < m → f_X2_greatestShare_L61 w (nI (t/65+1)) (nI (t%13) - 6) (nI (mkr (fun p => abI p (clN t)) 11)) (nI (mkr (fun p => blI p (clN t)) 11)) (nI (mkr (fun p => !abI p (clN t) && !blI p (clN t)) 11)) m (nI (cntB (nS S t 1) (11 * k))) (nI (cntB (nS S t 3) (11 * k))) (nI (cntB (nS S t 2) (11 * k))) (nI (cntB (nS S t 4) (11 * k))) (nI (cntB (nS S t 0) (11 * k))) (nI (cntB (nzS S) k)) = some (nI (cntB (nS S t 1) 2772), nI (cntB (nS S t 3) 2772), nI (cntB (nS S t 2) 2772), nI (cntB (nS S t 4) 2772), nI (cntB (nS S t 0) 2772)) := by
  obtain ⟨h1, h2, h3⟩ := h
  have c252 := cntB_le (nzS S) 252
  have ex := ex_d (clN t) (cl_b t).1 (cl_b t).2
  intro q
  induction q with
  | zero =>
    intro k m hk hm
    obtain ⟨m, rfl⟩ : ∃ q, m = q + 1 := ⟨m - 1, by omega⟩
    obtain rfl : k = 252 := by omega
    rw [f_X2_greatestShare_L61_s, h1, if_pos (by rw [nI_leI (by omega) (by omega)]; omega)]
  | succ q ih =>
    intro k m hk hm
    have ck := cntB_le (nzS S) k
    have add := fun o => cnt11 (nS S t o) k
    have nse : ∀ o p, p < 11 → nS S t o (11 * k + p) = (S (11 * k + p) && decide (ocK k p t = o)) := fun o p hp => by
      unfold nS ocN; rw [(dm k p hp).1, (dm k p hp).2]
    by_cases z : nzS S k = true
    · obtain ⟨m, rfl⟩ : ∃ q, m = q + 1 := ⟨m - 1, by omega⟩
      have l := cntB_lt z (show k < 252 by omega)
      obtain ⟨e1, e2⟩ := h3 k (by omega) z
      have es : cntB (nzS S) (k + 1) = cntB (nzS S) k + 1 := by rw [cntB_s, if_pos z, Nat.add_comm]
      have g := ih (k + 1) m (by omega) (by omega)
      rw [es] at g
      rw [f_X2_greatestShare_L61_s, h1, if_neg (by rw [nI_leI (by omega) (by omega)]; omega), gd_t (inb_nI (by omega) (by omega))]
      rw [nI_clamp (n := cntB (nzS S) k) (by omega), e1, e2, lt_e, sk_e (by omega) t, bd_s]
      by_cases s : skI k t = true
      · have c1 : cntB (fun p => nS S t 1 (11 * k + p)) 11 = cntB (fun p => S (11 * k + p)) 11 := cntB_c (fun p hp => by
          rw [nse 1 p hp]; unfold ocK; rw [if_pos s]; simp)
        have c0 : ∀ o, o ≠ 1 → cntB (fun p => nS S t o (11 * k + p)) 11 = 0 := fun o ho => cntB_0 (fun p hp => by
          rw [nse o p hp]; unfold ocK; rw [if_pos s]
          rw [decide_eq_false (fun q => ho q.symm)]; simp)
        rw [add 0, add 1, add 2, add 3, add 4, c1, c0 0 (by decide), c0 2 (by decide), c0 3 (by decide), c0 4 (by decide)] at g
        have bc : f_J6_bitCount_0f7a4 (nI (mkS S k)) = some (nI (cntB (fun p => S (11 * k + p)) 11)) := bc_e _
        rw [if_pos s, if_neg one_ne, lt_e, bc, bd_s, lt_e, lt_e, nI_add, nI_s]
        exact g
      · have ab : ∀ p, p < 11 → decide (ocK k p t = 3) = abI p (clN t) := fun p hp => by
          unfold ocK; rw [if_neg s]
          cases abI p (clN t) <;> cases blI p (clN t) <;> cases brI k t <;> rfl
        have bl : ∀ p, p < 11 → decide (ocK k p t = 2) = blI p (clN t) := fun p hp => by
          have e := ex p hp
          unfold ocK; rw [if_neg s]
          revert e
          cases abI p (clN t) <;> cases blI p (clN t) <;> cases brI k t <;> decide
        have c1 : cntB (fun p => nS S t 1 (11 * k + p)) 11 = 0 := cntB_0 (fun p hp => by
          rw [nse 1 p hp]
          have : decide (ocK k p t = 1) = false := by
            unfold ocK; rw [if_neg s]
            cases abI p (clN t) <;> cases blI p (clN t) <;> cases brI k t <;> rfl
          rw [this]; simp)
        have c3 : cntB (fun j => S (11 * k + j) && abI j (clN t)) 11 = cntB (fun p => nS S t 3 (11 * k + p)) 11 := cntB_c (fun p hp => by
          rw [nse 3 p hp, ab p hp])
        have c2 : cntB (fun j => S (11 * k + j) && blI j (clN t)) 11 = cntB (fun p => nS S t 2 (11 * k + p)) 11 := cntB_c (fun p hp => by
          rw [nse 2 p hp, bl p hp])
        have m3 : nI (mkS S k) &&& nI (mkr (fun p => abI p (clN t)) 11) = nI (mkr (fun j => S (11 * k + j) && abI j (clN t)) 11) := mkr_and _ _
        have m2 : nI (mkS S k) &&& nI (mkr (fun p => blI p (clN t)) 11) = nI (mkr (fun j => S (11 * k + j) && blI j (clN t)) 11) := mkr_and _ _
        have mm : nI (mkS S k) &&& nI (mkr (fun p => !abI p (clN t) && !blI p (clN t)) 11) = nI (mkr (fun j => S (11 * k + j) && (!abI j (clN t) && !blI j (clN t))) 11) := mkr_and _ _
        rw [if_neg s, if_pos rfl, lt_e, m3, bc_e, bd_s, c3, lt_e, lt_e, m2, bc_e, bd_s, c2, lt_e, lt_e, mm, bc_e, bd_s, lt_e, br_e (by omega) t, bd_s, nI_add (cntB (nS S t 3) (11 * k)), nI_add (cntB (nS S t 2) (11 * k))]
        rw [add 0, add 1, add 2, add 3, add 4, c1] at g
        by_cases b : brI k t = true
        · have c4 : cntB (fun j => S (11 * k + j) && (!abI j (clN t) && !blI j (clN t))) 11 = cntB (fun p => nS S t 4 (11 * k + p)) 11 := cntB_c (fun p hp => by
            rw [nse 4 p hp]; unfold ocK; rw [if_neg s, if_pos b]
            cases abI p (clN t) <;> cases blI p (clN t) <;> rfl)
          have c0 : cntB (fun p => nS S t 0 (11 * k + p)) 11 = 0 := cntB_0 (fun p hp => by
            rw [nse 0 p hp]
            have : decide (ocK k p t = 0) = false := by
              unfold ocK; rw [if_neg s, if_pos b]
              cases abI p (clN t) <;> cases blI p (clN t) <;> rfl
            rw [this]; simp)
          rw [c0] at g
          rw [if_pos b, if_neg one_ne, c4, lt_e, lt_e, nI_add (cntB (nS S t 4) (11 * k)), nI_s]
          exact g
        · have c0 : cntB (fun j => S (11 * k + j) && (!abI j (clN t) && !blI j (clN t))) 11 = cntB (fun p => nS S t 0 (11 * k + p)) 11 := cntB_c (fun p hp => by
            rw [nse 0 p hp]; unfold ocK; rw [if_neg s, if_neg b]
            cases abI p (clN t) <;> cases blI p (clN t) <;> rfl)
          have c4 : cntB (fun p => nS S t 4 (11 * k + p)) 11 = 0 := cntB_0 (fun p hp => by
            rw [nse 4 p hp]
            have : decide (ocK k p t = 4) = false := by
              unfold ocK; rw [if_neg s, if_neg b]
              cases abI p (clN t) <;> cases blI p (clN t) <;> rfl
            rw [this]; simp)
          rw [c4] at g
          rw [if_neg b, if_pos rfl, c0, lt_e, lt_e, nI_add (cntB (nS S t 0) (11 * k)), nI_s]
          exact g
    · have zz : ∀ p, p < 11 → S (11 * k + p) = false := by
        unfold nzS at z
        have : mkS S k = 0 := by simpa using z
        exact (mkr_0 _).mp this
      have c0 : ∀ o, cntB (nS S t o) (11 * (k + 1)) = cntB (nS S t o) (11 * k) := fun o => by
        have a0 : cntB (fun p => nS S t o (11 * k + p)) 11 = 0 := cntB_0 (fun p hp => by unfold nS; rw [zz p hp]; rfl)
        rw [add o, a0, Nat.add_zero]
      have es : cntB (nzS S) (k + 1) = cntB (nzS S) k := by rw [cntB_s, if_neg z, Nat.zero_add]
      have g := ih (k + 1) m (by omega) (by omega)
      rw [c0, c0, c0, c0, c0, es] at g
      exact g
theorem tp5_s {t0 t1 t2 t3 t4 δ : Type} {a : t0} {b : t1} {c : t2} {d : t3} {e : t4} {K : t0 → t1 → t2 → t3 → t4 → δ} : tp5 (a, b, c, d, e) K = K a b c d e := rfl
theorem shC_e {S : Nat → Bool} {t : Nat} (ht : t < 325) {w : Mem} (h : LCp S 252 w) : f_X2_greatestShare (nI t) w = some (nI (shN S t)) := by
  obtain ⟨a1, a2, a3⟩ := ab_d (clN t) (cl_b t).1 (cl_b t).2
  have c := fun o => cntB_le (nS S t o) 2772
  have c0 := c 0
  have c1 := c 1
  have c2 := c 2
  have c3 := c 3
  have c4 := c 4
  have m32 := mx2_e (cntB (nS S t 3) 2772) (cntB (nS S t 2) 2772)
  have m132 := mx2_e (cntB (nS S t 1) 2772) (mx2 (cntB (nS S t 3) 2772) (cntB (nS S t 2) 2772))
  have m40 := mx2_e (cntB (nS S t 4) 2772) (cntB (nS S t 0) 2772)
  have mi : ∀ a b, a ≤ 2772 → b ≤ 2772 → imax (nI a) (nI b) = nI (mx2 a b) := fun a b p q => imax_n (by omega) (by omega)
  have z : ∀ o, nI (cntB (nS S t o) (11 * 0)) = 0 := fun o => rfl
  have z' : nI (cntB (nzS S) 0) = 0 := rfl
  have g := shC_L ht h 252 0 FU (by omega) (by unfold FU; omega)
  rw [z, z, z, z, z, z'] at g
  unfold f_X2_greatestShare shN
  rw [spd_e ht, bd_s, swg_e ht, bd_s, clo_e ht, bd_s, a1, bd_s, bd_s, a2, bd_s, a3, lt_e, g, bd_s]
  rw [tp5_s, lt_e, lt_e, lt_e, lt_e, mi _ _ c3 c2, mi _ _ c1 (by omega), mi _ _ c4 c0, mi _ _ (by omega) (by omega)]
