/-! ===== the faults: outcomes, causes, masks (65: by wip/gen/p65.txt and fr.py) ===== -/
theorem nI_and (a b : Nat) : nI a &&& nI b = nI (a &&& b) := by
  refine Int32.toBitVec_inj.mp ?_
  show BitVec.ofNat 32 a &&& BitVec.ofNat 32 b = BitVec.ofNat 32 (a &&& b)
  exact (BitVec.ofNat_and).symm
def mkr (f : Nat → Bool) : Nat → Nat
  | 0 => 0
  | n + 1 => (if f n = true then 2 ^ n else 0) + mkr f n
theorem mkr_lt (f : Nat → Bool) : ∀ n, mkr f n < 2 ^ n
  | 0 => by show 0 < 1; omega
  | n + 1 => by
    have := mkr_lt f n
    show (if f n = true then 2 ^ n else 0) + mkr f n < 2 ^ (n + 1)
    rw [Nat.pow_succ]
    split <;> omega
theorem mkr_tb (f : Nat → Bool) : ∀ n j, (mkr f n).testBit j = (decide (j < n) && f j)
  | 0, j => by
    show (0 : Nat).testBit j = _
    rw [Nat.zero_testBit]; simp
  | n + 1, j => by
    have ih := mkr_tb f n
    show ((if f n = true then 2 ^ n else 0) + mkr f n).testBit j = _
    by_cases c : f n = true
    · rw [if_pos c]
      rcases Nat.lt_trichotomy j n with d | d | d
      · rw [Nat.testBit_two_pow_add_gt d, ih j, decide_eq_true d, decide_eq_true (show j < n + 1 by omega)]
      · subst d
        rw [Nat.testBit_two_pow_add_eq, ih j, decide_eq_false (Nat.lt_irrefl j), decide_eq_true (show j < j + 1 by omega), c]; rfl
      · have l := mkr_lt f n
        have p : 2 ^ (n + 1) ≤ 2 ^ j := Nat.pow_le_pow_right (by decide) (by omega)
        rw [Nat.pow_succ] at p
        rw [Nat.testBit_lt_two_pow (by omega), decide_eq_false (show ¬ j < n + 1 by omega)]; rfl
    · rw [if_neg c, Nat.zero_add, ih j]
      by_cases d : j = n
      · subst d
        rw [decide_eq_false (Nat.lt_irrefl j), Bool.not_eq_true _ |>.mp c]; simp
      · by_cases e : j < n
        · rw [decide_eq_true e, decide_eq_true (show j < n + 1 by omega)]
        · rw [decide_eq_false e, decide_eq_false (show ¬ j < n + 1 by omega)]
theorem mkr_b (f : Nat → Bool) : mkr f 11 < 2048 := mkr_lt f 11
theorem mkr_c {f g : Nat → Bool} : ∀ {n : Nat}, (∀ j, j < n → f j = g j) → mkr f n = mkr g n
  | 0, _ => rfl
  | n + 1, h => by
    show (if f n = true then 2 ^ n else 0) + mkr f n = (if g n = true then 2 ^ n else 0) + mkr g n
    rw [h n (by omega), mkr_c (fun j hj => h j (by omega))]
theorem mkr_and (f g : Nat → Bool) : nI (mkr f 11) &&& nI (mkr g 11) = nI (mkr (fun j => f j && g j) 11) := by
  rw [nI_and]
  congr 1
  refine Nat.eq_of_testBit_eq (fun j => ?_)
  rw [Nat.testBit_and, mkr_tb, mkr_tb, mkr_tb]
  cases decide (j < 11) <;> simp
theorem mkr_0 (f : Nat → Bool) : mkr f 11 = 0 ↔ ∀ j, j < 11 → f j = false := by
  constructor
  · intro h j hj
    have := mkr_tb f 11 j
    rw [h, Nat.zero_testBit, decide_eq_true hj, Bool.true_and] at this
    exact this.symm
  · intro h
    rw [mkr_c (g := fun _ => false) h]; decide
theorem bit_e (f : Nat → Bool) {p : Nat} (hp : p < 11) : (nI (mkr f 11) &&& nI (2 ^ p)) = 0 ↔ f p = false := by
  have hb := mkr_b f
  have ha : mkr f 11 &&& 2 ^ p ≤ mkr f 11 := Nat.and_le_left
  rw [nI_and, show (0 : Int32) = nI 0 from rfl, nI_eq (by omega) (by omega)]
  have e : (mkr f 11 &&& 2 ^ p).testBit p = f p := by
    rw [Nat.testBit_and, mkr_tb, Nat.testBit_two_pow, decide_eq_true hp]; simp
  constructor
  · intro h; rw [h, Nat.zero_testBit] at e; exact e.symm
  · intro h
    refine Nat.eq_of_testBit_eq (fun j => ?_)
    rw [Nat.zero_testBit, Nat.testBit_and, Nat.testBit_two_pow]
    by_cases d : p = j
    · subst d; rw [mkr_tb, h]; simp
    · rw [decide_eq_false d]; simp
def cntB (f : Nat → Bool) : Nat → Nat
  | 0 => 0
  | n + 1 => (if f n = true then 1 else 0) + cntB f n
theorem cntB_c {f g : Nat → Bool} : ∀ {n : Nat}, (∀ j, j < n → f j = g j) → cntB f n = cntB g n
  | 0, _ => rfl
  | n + 1, h => by
    show (if f n = true then 1 else 0) + cntB f n = (if g n = true then 1 else 0) + cntB g n
    rw [h n (by omega), cntB_c (fun j hj => h j (by omega))]
theorem bc_d : ∀ a, a < 2048 → f_J6_bitCount_0f7a4 (nI a) = some (nI (cntB (fun j => a.testBit j) 11)) := by decide +kernel
theorem bc_e (f : Nat → Bool) : f_J6_bitCount_0f7a4 (nI (mkr f 11)) = some (nI (cntB f 11)) := by
  rw [bc_d _ (mkr_b f)]
  congr 2
  refine cntB_c (fun j hj => ?_)
  rw [mkr_tb, decide_eq_true hj, Bool.true_and]
theorem sh_d : ∀ p, p < 11 → (1 : Int32) <<< (nI p &&& 31) = nI (2 ^ p) := by decide +kernel
def abI (p c : Nat) : Bool := decide (¬ 10 * (nI p - 5) ≤ 6 * nI c)
def blI (p c : Nat) : Bool := decide (¬ (-6) * nI c ≤ 10 * (nI p - 5))
theorem ab_d : ∀ c, c < 6 → 1 ≤ c → f_X2_pullsAbove (nI c) = some (nI (mkr (fun p => abI p c) 11)) ∧ f_X2_pullsBelow (nI c) = some (nI (mkr (fun p => blI p c) 11)) ∧ ((2047 &&& (nI (mkr (fun p => abI p c) 11) ^^^ (-1))) &&& (nI (mkr (fun p => blI p c) 11) ^^^ (-1)) : Int32) = nI (mkr (fun p => !abI p c && !blI p c) 11) := by decide +kernel
theorem ex_d : ∀ c, c < 6 → 1 ≤ c → ∀ p, p < 11 → (abI p c && blI p c) = false := by decide +kernel
def skI (k t : Nat) : Bool := decide (¬ iabs ((2 * (nI (k/28) - 4)) + ((nI (k/4%7) - 3) * (nI (t%13) - 6))) ≤ ((9 - nI (k%4)) - nI (t/65+1)))
def brI (k t : Nat) : Bool := decide (iabs (nI (k/4%7) - 3) = 3) && (decide (¬ nI (t/65+1) < 4) && decide (¬ iabs (nI (t%13) - 6) < 4))
def clN (t : Nat) : Nat := t/13%5+1
def ocK (k p t : Nat) : Nat := if skI k t = true then 1 else if abI p (clN t) = true then 3 else if blI p (clN t) = true then 2 else if brI k t = true then 4 else 0
def ocN (s t : Nat) : Nat := ocK (s/11) (s%11) t
theorem ocK_b (k p t : Nat) : ocK k p t ≤ 4 := by
  unfold ocK
  repeat' split
  all_goals omega
theorem cl_b (t : Nat) : clN t < 6 ∧ 1 ≤ clN t := by unfold clN; omega
theorem spd_e {t : Nat} (ht : t < 325) : f_X2_speedOf (nI t) = some (nI (t/65+1)) := by
  unfold f_X2_speedOf
  rw [nI_lit 65, pk_div (by omega) (by omega) (by omega), nI_1]
theorem swg_e {t : Nat} (ht : t < 325) : f_X2_swingOf (nI t) = some (nI (t%13) - 6) := by
  unfold f_X2_swingOf
  rw [nI_lit 13, rem_e (by omega) (by omega) (by omega)]; rfl
theorem clo_e {t : Nat} (ht : t < 325) : f_X2_clothOf (nI t) = some (nI (clN t)) := by
  unfold f_X2_clothOf clN
  rw [nI_lit 13, pk_div (by omega) (by omega) (by omega), nI_lit 5, rem_e (by omega) (by omega) (by omega), lt_e, nI_1]
theorem tim_e {k : Nat} (hk : k < 252) : f_X2_timingOf (nI k) = some (nI (k/28) - 4) := by
  unfold f_X2_timingOf
  rw [nI_lit 28, pk_div (by omega) (by omega) (by omega)]
theorem ben_e {k : Nat} (hk : k < 252) : f_X2_bentOf (nI k) = some (nI (k/4%7) - 3) := by
  unfold f_X2_bentOf
  rw [nI_lit 4, pk_div (by omega) (by omega) (by omega), nI_lit 7, rem_e (by omega) (by omega) (by omega)]; rfl
theorem wor_e {k : Nat} (hk : k < 252) : f_X2_wornOf (nI k) = some (nI (k%4)) := by
  unfold f_X2_wornOf
  rw [nI_lit 4, rem_e (by omega) (by omega) (by omega)]; rfl
theorem bz0 : bz 0 = true := by decide
theorem bz1 : bz 1 = true := by decide
theorem sk_e {k : Nat} (hk : k < 252) (t : Nat) : f_X2_skips (nI k) (nI (t/65+1)) (nI (t%13) - 6) = some (if skI k t = true then 1 else 0) := by
  unfold f_X2_skips skI
  rw [tim_e hk, bd_s, ben_e hk, bd_s, lt_e, wor_e hk, bd_s, lt_e]
  by_cases c : iabs ((2 * (nI (k/28) - 4)) + ((nI (k/4%7) - 3) * (nI (t%13) - 6))) ≤ ((9 - nI (k%4)) - nI (t/65+1))
  · rw [if_pos c, if_neg (by simp [c]), gd_t bz0]
  · rw [if_neg c, if_pos (by simp [c]), gd_t bz1]
theorem br_e {k : Nat} (hk : k < 252) (t : Nat) : f_X2_breaks (nI k) (nI (t/65+1)) (nI (t%13) - 6) = some (if brI k t = true then 1 else 0) := by
  unfold f_X2_breaks brI
  rw [ben_e hk, bd_s, lt_e]
  by_cases c1 : iabs (nI (k/4%7) - 3) = 3
  · rw [if_pos c1]
    by_cases c2 : nI (t/65+1) < 4
    · rw [if_pos c2, if_neg (by simp [c2])]
    · rw [if_neg c2, lt_e, lt_e]
      by_cases c3 : iabs (nI (t%13) - 6) < 4
      · rw [if_pos c3, if_neg (by simp [c3]), gd_t bz0]
      · rw [if_neg c3, if_pos (by simp [c1, c2, c3]), gd_t bz1]
  · rw [if_neg c1, if_neg (by simp [c1])]
theorem m2047 : nI (mkr (fun _ => true) 11) = 2047 := by decide +kernel
theorem m32 : nI (mkr (fun p => decide (p = 5)) 11) = 32 := by decide +kernel
theorem m0 : nI (mkr (fun _ => false) 11) = 0 := by decide +kernel
theorem pw_e {k t o : Nat} (hk : k < 252) (ht : t < 325) (ho : o ≤ 4) : f_X2_pullsWith (nI k) (nI t) (nI o) = some (nI (mkr (fun p => decide (ocK k p t = o)) 11)) := by
  obtain ⟨a1, a2, a3⟩ := ab_d (clN t) (cl_b t).1 (cl_b t).2
  have ex := ex_d (clN t) (cl_b t).1 (cl_b t).2
  have cv : ∀ (f : Nat → Bool), (∀ p, p < 11 → f p = decide (ocK k p t = o)) → nI (mkr f 11) = nI (mkr (fun p => decide (ocK k p t = o)) 11) := fun f h => by rw [mkr_c h]
  have o0 : ¬ o = 0 → ¬ nI o = 0 := fun h => nI_ne (a := o) (b := 0) (by omega) (by omega) h
  have o1 : ¬ o = 1 → ¬ nI o = 1 := fun h => nI_ne (a := o) (b := 1) (by omega) (by omega) h
  have o2 : ¬ o = 2 → ¬ nI o = 2 := fun h => nI_ne (a := o) (b := 2) (by omega) (by omega) h
  have o3 : ¬ o = 3 → ¬ nI o = 3 := fun h => nI_ne (a := o) (b := 3) (by omega) (by omega) h
  unfold f_X2_pullsWith
  rw [spd_e ht, bd_s, swg_e ht, bd_s, sk_e hk t, bd_s]
  by_cases s : skI k t = true
  · rw [if_pos s, if_neg one_ne, lt_e]
    by_cases c : o = 1
    · subst c
      rw [if_pos (show nI 1 = 1 from rfl), ← m2047]
      rw [cv _ (fun p hp => by unfold ocK; rw [if_pos s]; rfl)]
    · rw [if_neg (o1 c), ← m0]
      rw [cv _ (fun p hp => by unfold ocK; rw [if_pos s]; simp; omega)]
  rw [if_neg s, if_pos rfl, clo_e ht, bd_s, a1, bd_s, bd_s, a2, bd_s, a3]
  by_cases c0 : o = 0
  · subst c0
    rw [if_pos (show nI 0 = 0 from rfl), br_e hk t, bd_s]
    by_cases b : brI k t = true
    · rw [if_pos b, if_neg one_ne, ← m0]
      rw [cv _ (fun p hp => by
        unfold ocK; rw [if_neg s, if_pos b]
        cases abI p (clN t) <;> cases blI p (clN t) <;> rfl)]
    · rw [if_neg b, if_pos rfl, lt_e]
      rw [cv _ (fun p hp => by
        unfold ocK; rw [if_neg s, if_neg b]
        cases abI p (clN t) <;> cases blI p (clN t) <;> rfl)]
  rw [if_neg (o0 c0)]
  by_cases c1 : o = 1
  · subst c1
    rw [if_pos (show nI 1 = 1 from rfl), ← m0]
    rw [cv _ (fun p hp => by
      unfold ocK; rw [if_neg s]
      cases abI p (clN t) <;> cases blI p (clN t) <;> cases brI k t <;> rfl)]
  rw [if_neg (o1 c1)]
  by_cases c2 : o = 2
  · subst c2
    rw [if_pos (show nI 2 = 2 from rfl)]
    rw [cv _ (fun p hp => by
      have e := ex p hp
      unfold ocK; rw [if_neg s]
      revert e
      cases abI p (clN t) <;> cases blI p (clN t) <;> cases brI k t <;> decide)]
  rw [if_neg (o2 c2)]
  by_cases c3 : o = 3
  · subst c3
    rw [if_pos (show nI 3 = 3 from rfl)]
    rw [cv _ (fun p hp => by
      unfold ocK; rw [if_neg s]
      cases abI p (clN t) <;> cases blI p (clN t) <;> cases brI k t <;> rfl)]
  rw [if_neg (o3 c3)]
  obtain rfl : o = 4 := by omega
  rw [if_pos (show nI 4 = 4 from rfl), br_e hk t, bd_s]
  by_cases b : brI k t = true
  · rw [if_pos b, if_neg one_ne, lt_e]
    rw [cv _ (fun p hp => by
      unfold ocK; rw [if_neg s, if_pos b]
      cases abI p (clN t) <;> cases blI p (clN t) <;> rfl)]
  · rw [if_neg b, if_pos rfl, ← m0]
    rw [cv _ (fun p hp => by
      unfold ocK; rw [if_neg s, if_neg b]
      cases abI p (clN t) <;> cases blI p (clN t) <;> rfl)]
theorem ocC_e {s t : Nat} (hs : s < 2772) (ht : t < 325) : f_X2_outcomeOf (nI s) (nI t) = some (nI (ocN s t)) := by
  have hp : s % 11 < 11 := Nat.mod_lt _ (by decide)
  have hk : s / 11 < 252 := by omega
  have st : ∀ (o m : Nat), o < 4 → f_X2_outcomeOf_L15 (nI t) (nI (s/11)) (nI (2 ^ (s % 11))) (m + 1) (nI o) = if ocN s t = o then some (.inl (nI o)) else f_X2_outcomeOf_L15 (nI t) (nI (s/11)) (nI (2 ^ (s % 11))) m (nI (o + 1)) := by
    intro o m ho
    rw [f_X2_outcomeOf_L15_s, if_neg (by rw [nI_lit 4, nI_leI (by omega) (by omega)]; omega), pw_e hk ht (by omega), bd_s, lt_e, nI_s]
    by_cases c : ocN s t = o
    · rw [if_pos c, if_neg (by rw [bit_e _ hp]; unfold ocN at c; simp [c])]
    · rw [if_neg c, if_pos (by rw [bit_e _ hp]; unfold ocN at c; simp [c])]
  have ed : ∀ m, f_X2_outcomeOf_L15 (nI t) (nI (s/11)) (nI (2 ^ (s % 11))) (m + 1) (nI 4) = some (.inr ()) := fun m => by
    rw [f_X2_outcomeOf_L15_s, if_pos (show 4 ≤ nI 4 by decide)]
  have ob := ocK_b (s/11) (s%11) t
  have ob' : ocN s t ≤ 4 := ob
  unfold f_X2_outcomeOf
  rw [nI_lit 11, pk_div (by omega) (by omega) (by omega), rem_e (by omega) (by omega) (by omega)]
  simp only [lt_e]
  rw [sh_d _ hp, show FU = 1999995 + 1 + 1 + 1 + 1 + 1 from rfl, show f_X2_outcomeOf_L15 (nI t) (nI (s/11)) (nI (2 ^ (s % 11))) (1999995 + 1 + 1 + 1 + 1 + 1) 0 = f_X2_outcomeOf_L15 (nI t) (nI (s/11)) (nI (2 ^ (s % 11))) (1999995 + 1 + 1 + 1 + 1 + 1) (nI 0) from rfl, st 0 _ (by omega), st 1 _ (by omega), st 2 _ (by omega), st 3 _ (by omega), ed]
  rcases (show ocN s t = 0 ∨ ocN s t = 1 ∨ ocN s t = 2 ∨ ocN s t = 3 ∨ ocN s t = 4 by omega) with c | c | c | c | c <;> rw [c] <;> rfl
theorem ocM_e {s t : Nat} (hs : s < 2772) (ht : t < 325) : f_X11_outcomeOf (nI s) (nI t) = some (nI (ocN s t)) := by
  have q1 : s / 308 = s / 11 / 28 := by omega
  have q2 : s / 44 % 7 = s / 11 / 4 % 7 := by omega
  unfold f_X11_outcomeOf ocN ocK skI brI abI blI
  rw [nI_lit 308, pk_div (by omega) (by omega) (by omega), lt_e, nI_lit 44, pk_div (by omega) (by omega) (by omega), nI_lit 7, rem_e (by omega) (by omega) (by omega), lt_e, lt_e, nI_lit 11, pk_div (by omega) (by omega) (by omega), nI_lit 4, rem_e (by omega) (by omega) (by omega), lt_e, rem_e (by omega) (by omega) (by omega), lt_e, lt_e, nI_lit 65, pk_div (by omega) (by omega) (by omega), nI_1, lt_e, nI_lit 13, pk_div (by omega) (by omega) (by omega), nI_lit 5, rem_e (by omega) (by omega) (by omega), lt_e, nI_1, lt_e, rem_e (by omega) (by omega) (by omega), lt_e, lt_e, away_e, bd_s, q1, q2]
  unfold clN
  rw [away_e, bd_s, away_e, bd_s, lt_e]
  simp only [Bool.and_eq_true, decide_eq_true_eq]
  repeat' split
  all_goals first | rfl | (exfalso; simp_all; done)
theorem step_33 {w v : Mem} (x1 x2 : Int32) : ∃ r, f_X10_outcome x1 x2 = some r ∧ f_X11_outcome x1 x2 = some r := by
  unfold f_X10_outcome f_X11_outcome
  rw [sta_eq, tr_eq]
  rcases in_c x1 0 2771 with ⟨q, k1⟩ | ⟨q, k1⟩
  rotate_left
  · rw [q, bd_s, bd_s, if_pos rfl, if_pos rfl]; exact ⟨-1, rfl, rfl⟩
  rw [q, bd_s, bd_s, if_neg one_ne, if_neg one_ne]
  rcases in_c x2 0 324 with ⟨p, k2⟩ | ⟨p, k2⟩
  rotate_left
  · rw [p, bd_s, bd_s, if_pos rfl, if_pos rfl]; exact ⟨-1, rfl, rfl⟩
  rw [p, bd_s, bd_s, if_neg one_ne, if_neg one_ne]
  simp at k1 k2
  obtain ⟨s, hs, rfl⟩ := i_nat (x := x1) (N := 2772) (by omega) (by omega) (by omega)
  obtain ⟨t, ht, rfl⟩ := i_nat (x := x2) (N := 325) (by omega) (by omega) (by omega)
  rw [ocC_e hs ht, ocM_e hs ht]
  exact ⟨_, rfl, rfl⟩
