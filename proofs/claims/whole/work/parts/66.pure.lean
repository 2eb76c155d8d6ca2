/-! ===== the faults: the states left (66: by wip/gen/p66.txt and fr.py) ===== -/
theorem cntB_le (f : Nat → Bool) : ∀ n, cntB f n ≤ n
  | 0 => Nat.le_refl _
  | n + 1 => by
    have := cntB_le f n
    show (if f n = true then 1 else 0) + cntB f n ≤ n + 1
    split <;> omega
theorem cntB_s (f : Nat → Bool) (n : Nat) : cntB f (n + 1) = (if f n = true then 1 else 0) + cntB f n := rfl
theorem cntB_mono (f : Nat → Bool) (n : Nat) : ∀ q, cntB f n ≤ cntB f (n + q)
  | 0 => Nat.le_refl _
  | q + 1 => Nat.le_trans (cntB_mono f n q) (Nat.le_add_left _ _)
theorem cntB_m2 (f : Nat → Bool) {a b : Nat} (h : a ≤ b) : cntB f a ≤ cntB f b := by
  have := cntB_mono f a (b - a)
  rw [show a + (b - a) = b by omega] at this; exact this
theorem cntB_lt {f : Nat → Bool} {a b : Nat} (h : f a = true) (hb : a < b) : cntB f a < cntB f b := by
  have := cntB_m2 f (show a + 1 ≤ b by omega)
  rw [cntB_s, if_pos h] at this; omega
theorem cntB_sub {f g : Nat → Bool} : ∀ n, (∀ j, j < n → g j = true → f j = true) → cntB g n ≤ cntB f n
  | 0, _ => Nat.le_refl _
  | n + 1, h => by
    have ih := cntB_sub n (fun j hj => h j (by omega))
    rw [cntB_s, cntB_s]
    by_cases c : g n = true
    · rw [if_pos c, if_pos (h n (by omega) c)]; omega
    · rw [if_neg c]; omega
theorem cntB_add (f : Nat → Bool) (a : Nat) : ∀ n, cntB f (a + n) = cntB f a + cntB (fun j => f (a + j)) n
  | 0 => rfl
  | n + 1 => by
    have ih := cntB_add f a n
    show (if f (a + n) = true then 1 else 0) + cntB f (a + n) = cntB f a + ((if f (a + n) = true then 1 else 0) + cntB (fun j => f (a + j)) n)
    omega
theorem cntB_0 {f : Nat → Bool} : ∀ {n : Nat}, (∀ j, j < n → f j = false) → cntB f n = 0
  | 0, _ => rfl
  | n + 1, h => by
    rw [cntB_s, h n (by omega), if_neg (by decide), cntB_0 (fun j hj => h j (by omega))]
def mkS (S : Nat → Bool) (k : Nat) : Nat := mkr (fun p => S (11 * k + p)) 11
def nzS (S : Nat → Bool) (k : Nat) : Bool := decide (¬ mkS S k = 0)
def ent (w : Mem) (S : Nat → Bool) (k : Nat) : Prop := w.1 86 (cntB (nzS S) k) = nI k ∧ w.1 87 (cntB (nzS S) k) = nI (mkS S k)
def LCp (S : Nat → Bool) (n : Nat) (w : Mem) : Prop := w.1 83 7 = nI (cntB (nzS S) n) ∧ w.1 83 3 = nI (cntB S (11 * n)) ∧ ∀ k, k < n → nzS S k = true → ent w S k
def FrF (w w' : Mem) : Prop := (∀ o, o ≠ 83 → o ≠ 86 → o ≠ 87 → w'.1 o = w.1 o) ∧ (∀ j, j ≠ 3 → j ≠ 4 → j ≠ 7 → w'.1 83 j = w.1 83 j) ∧ w'.2 = w.2
theorem FrF_r (w : Mem) : FrF w w := ⟨fun _ _ _ _ => rfl, fun _ _ _ _ => rfl, rfl⟩
theorem FrF_t {w w' w2 : Mem} (a : FrF w w') (b : FrF w' w2) : FrF w w2 :=
  ⟨fun o p q r => by rw [b.1 o p q r, a.1 o p q r], fun j p q r => by rw [b.2.1 j p q r, a.2.1 j p q r], by rw [b.2.2, a.2.2]⟩
def FrR (v v' : Mem) : Prop := (∀ o, o ≠ 0 → o ≠ 24 → o ≠ 25 → v'.1 o = v.1 o) ∧ (∀ j, j ≠ 59 → v'.1 0 j = v.1 0 j) ∧ v'.2 = v.2
theorem FrR_r (v : Mem) : FrR v v := ⟨fun _ _ _ _ => rfl, fun _ _ => rfl, rfl⟩
theorem FrR_t {w w' w2 : Mem} (a : FrR w w') (b : FrR w' w2) : FrR w w2 :=
  ⟨fun o p q r => by rw [b.1 o p q r, a.1 o p q r], fun j p => by rw [b.2.1 j p, a.2.1 j p], by rw [b.2.2, a.2.2]⟩
theorem Rel_F {w v w' v' : Mem} (h : Rel w v) (a : FrF w w') (b : FrR v v') : Rel w' v' := by
  obtain ⟨hD, hP, hH, hB, hJ, hS, hF, hR, hT⟩ := h
  obtain ⟨a1, a2, a3⟩ := a
  obtain ⟨b1, b2, b3⟩ := b
  refine ⟨?_, ?_, ?_, ?_, ?_, ?_, ?_, ?_, ?_⟩
  · exact RD_c hD (fun o ho => a1 o (by omega) (by omega) (by omega)) (b1 _ (by decide) (by decide) (by decide)) (b1 _ (by decide) (by decide) (by decide)) (b1 _ (by decide) (by decide) (by decide))
  · exact RP_c hP (a1 _ (by decide) (by decide) (by decide)) (a1 _ (by decide) (by decide) (by decide)) (a1 _ (by decide) (by decide) (by decide)) (b2 _ (by decide)) (b2 _ (by decide)) (b1 _ (by decide) (by decide) (by decide)) (b1 _ (by decide) (by decide) (by decide))
  · exact RH_c hH (by rw [a1 72 (by decide) (by decide) (by decide)]) (a1 _ (by decide) (by decide) (by decide)) (b2 _ (by decide)) (b1 _ (by decide) (by decide) (by decide))
  · exact RB_c hB (a1 _ (by decide) (by decide) (by decide)) (a1 _ (by decide) (by decide) (by decide)) (b1 _ (by decide) (by decide) (by decide)) (b2 _ (by decide)) (b2 _ (by decide)) (b2 _ (by decide)) (b2 _ (by decide))
  · exact RJ_c hJ (by rw [a1 76 (by decide) (by decide) (by decide)]) (a1 _ (by decide) (by decide) (by decide)) (a1 _ (by decide) (by decide) (by decide)) (b2 _ (by decide)) (b1 _ (by decide) (by decide) (by decide)) (b1 _ (by decide) (by decide) (by decide))
  · exact RS_c hS (a1 _ (by decide) (by decide) (by decide)) (a1 _ (by decide) (by decide) (by decide)) (a1 _ (by decide) (by decide) (by decide)) (b2 _ (by decide)) (b1 _ (by decide) (by decide) (by decide)) (b1 _ (by decide) (by decide) (by decide)) (b1 _ (by decide) (by decide) (by decide))
  · exact RF_c hF (a2 _ (by decide) (by decide) (by decide)) (a1 _ (by decide) (by decide) (by decide)) (a1 _ (by decide) (by decide) (by decide)) (b2 _ (by decide)) (b1 _ (by decide) (by decide) (by decide)) (b1 _ (by decide) (by decide) (by decide))
  · exact RR_c hR (by rw [a1 66 (by decide) (by decide) (by decide)]) (b2 _ (by decide))
  · exact RT_c hT (fun o p q => a1 o (by omega) (by omega) (by omega)) (fun o p q => by rw [a3]) (b1 _ (by decide) (by decide) (by decide)) (b1 _ (by decide) (by decide) (by decide)) (b1 _ (by decide) (by decide) (by decide)) (by rw [b3])
theorem cnt11 (S : Nat → Bool) (k : Nat) : cntB S (11 * (k + 1)) = cntB S (11 * k) + cntB (fun p => S (11 * k + p)) 11 := by
  rw [show 11 * (k + 1) = 11 * k + 11 by omega]; exact cntB_add S (11 * k) 11
/-- a kind is kept, or not; what else is told of the old lists stays -/
theorem keep_e {S : Nat → Bool} {k : Nat} (hk : k < 252) {w : Mem} (h : LCp S k w) : ∃ w', f_X2_keepKind (nI k) (nI (mkS S k)) w = some w' ∧ LCp S (k + 1) w' ∧ FrF w w' ∧ ∀ j, cntB (nzS S) k < j → w'.1 86 j = w.1 86 j ∧ w'.1 87 j = w.1 87 j := by
  obtain ⟨h1, h2, h3⟩ := h
  have mb := mkr_b (fun p => S (11 * k + p))
  have cb := cntB_le (nzS S) k
  have cb2 := cntB_le S (11 * k)
  have e11 := cnt11 S k
  unfold f_X2_keepKind
  by_cases z : mkS S k = 0
  · have nz0 : nzS S k = false := by unfold nzS; simp [z]
    refine ⟨w, by rw [z, if_pos (show nI 0 = 0 by decide)], ⟨?_, ?_, fun k' hk' q => ?_⟩, FrF_r w, fun _ _ => ⟨rfl, rfl⟩⟩
    · rw [cntB_s, nz0, if_neg (by decide), Nat.zero_add]; exact h1
    · rw [e11, cntB_0 ((mkr_0 _).mp z)]; exact h2
    · by_cases e : k' = k
      · subst e; rw [nz0] at q; exact absurd q (by decide)
      · exact h3 k' (by omega) q
  have nz1 : nzS S k = true := by unfold nzS; simp [z]
  rw [if_neg (show ¬ nI (mkS S k) = 0 from nI_ne (a := mkS S k) (b := 0) (by unfold mkS; omega) (by omega) z), h1, if_neg (show ¬ 252 ≤ nI (cntB (nzS S) k) by rw [nI_lit 252, nI_leI (by omega) (by omega)]; omega), gd_t (inb_nI (by omega) (by omega))]
  have bc : f_J6_bitCount_0f7a4 (nI (mkS S k)) = some (nI (cntB (fun p => S (11 * k + p)) 11)) := bc_e _
  simp (disch := decide) only [lt_e, mS_ne, mS_nj, mS_eq, h1, nI_clamp (show cntB (nzS S) k < 2147483648 by omega), bc, bd_s, h2, nI_add, nI_1]
  rw [gd_t (inb_nI (by omega) (by omega))]
  refine ⟨_, rfl, ⟨?_, ?_, fun k' hk' q => ?_⟩, ⟨fun o p q r => ?_, fun j p _ q => ?_, rfl⟩, fun j hj => ⟨?_, ?_⟩⟩
  · rw [mS_nj (by decide), mS_eq, cntB_s, if_pos nz1, Nat.add_comm]
  · rw [mS_eq, e11]
  · by_cases e : k' = k
    · subst e
      unfold ent
      simp (disch := decide) only [mS_ne, mS_eq]
      exact ⟨trivial, trivial⟩
    · have lt' := cntB_lt q (show k' < k by omega)
      obtain ⟨g1, g2⟩ := h3 k' (by omega) q
      unfold ent
      have ne : cntB (nzS S) k' ≠ cntB (nzS S) k := by omega
      simp (disch := first | decide | assumption) only [mS_ne, mS_nj]
      exact ⟨g1, g2⟩
  · rw [mS_o p, mS_o p, mS_o r, mS_o q]
  · rw [mS_nj p, mS_nj q, mS_ne (by decide), mS_ne (by decide)]
  · have ne : j ≠ cntB (nzS S) k := by omega
    simp (disch := first | decide | assumption) only [mS_ne, mS_nj]
  · have ne : j ≠ cntB (nzS S) k := by omega
    simp (disch := first | decide | assumption) only [mS_ne, mS_nj]
/-! the causes -/
def caK (k : Nat) : Nat := (if k/28 = 4 then 0 else 1) + (if k/4%7 = 3 then 0 else 1) + (if k%4 = 0 then 0 else 1)
def caN (s : Nat) : Nat := caK (s/11) + (if s%11 = 5 then 0 else 1)
theorem ifI {a b : Nat} (ha : a < 2147483648) (hb : b < 2147483648) : (if nI a = nI b then (0 : Int32) else 1) = nI (if a = b then 0 else 1) := by
  by_cases c : a = b
  · rw [if_pos c, if_pos (by rw [c])]; rfl
  · rw [if_neg c, if_neg (nI_ne ha hb c)]; rfl
theorem ifS {a : Nat} {x : Int32} (b : Nat) (hx : x = nI b) (ha : a < 2147483648) (hb : b < 2147483648) : (if nI a - x = 0 then (0 : Int32) else 1) = nI (if a = b then 0 else 1) := by
  subst hx
  rw [← ifI ha hb]
  have e : nI a - nI b = 0 ↔ nI a = nI b := by
    constructor
    · intro h
      have := congrArg (· + nI b) h
      simpa using this
    · intro h; rw [h, Int32.sub_self]
  by_cases c : nI a = nI b
  · rw [if_pos c, if_pos (e.mpr c)]
  · rw [if_neg c, if_neg (fun q => c (e.mp q))]
theorem caC_e {k : Nat} (hk : k < 252) : f_X2_causesOf (nI k) = some (nI (caK k)) := by
  unfold f_X2_causesOf caK
  rw [tim_e hk, bd_s, ifS (x := 4) 4 rfl (by omega) (by omega), lt_e, ben_e hk, bd_s, ifS (x := 3) 3 rfl (by omega) (by omega), lt_e, nI_add, lt_e, wor_e hk, bd_s, show (0 : Int32) = nI 0 from rfl]
  have e := ifI (a := k % 4) (b := 0) (by omega) (by omega)
  rw [show (0 : Int32) = nI 0 from rfl] at e
  rw [e, lt_e, nI_add]
theorem caM_e {s : Nat} (hs : s < 2772) : f_X11_causes (nI s) = some (nI (caN s)) := by
  have q1 : s / 308 = s / 11 / 28 := by omega
  have q2 : s / 44 % 7 = s / 11 / 4 % 7 := by omega
  have i4 := ifI (a := s/11/28) (b := 4) (by omega) (by omega)
  have i3 := ifI (a := s/11/4%7) (b := 3) (by omega) (by omega)
  have i0 := ifI (a := s/11%4) (b := 0) (by omega) (by omega)
  have i5 := ifI (a := s%11) (b := 5) (by omega) (by omega)
  have r1 : irm (nI s / 44) 7 = nI (s/44%7) := by
    rw [nI_lit 44, pk_div (by omega) (by omega) (by omega)]; exact rem_e (n := 7) (by omega) (by omega) (by omega)
  have r2 : irm (nI s / 11) 4 = nI (s/11%4) := by
    rw [nI_lit 11, pk_div (by omega) (by omega) (by omega)]; exact rem_e (n := 4) (by omega) (by omega) (by omega)
  have r3 : irm (nI s) 11 = nI (s%11) := rem_e (n := 11) (by omega) (by omega) (by omega)
  have r0 : nI s / 308 = nI (s/308) := pk_div (d := 308) (by omega) (by omega) (by omega)
  unfold f_X11_causes caN caK
  rw [r0, r1, r2, r3, q1, q2]
  simp only [lt_e]
  rw [show (4 : Int32) = nI 4 from rfl, show (3 : Int32) = nI 3 from rfl, show (5 : Int32) = nI 5 from rfl]
  have i0' : (if nI (s / 11 % 4) = 0 then (0 : Int32) else 1) = nI (if s / 11 % 4 = 0 then 0 else 1) := i0
  rw [i4, i3, i0', i5, nI_add, nI_add, nI_add]
theorem caK_b (k : Nat) : caK k ≤ 3 := by
  unfold caK
  repeat' split
  all_goals omega
/-- the class gathers the states of at most m causes -/
def gS (m : Nat) (s : Nat) : Bool := decide (caN s ≤ m)
theorem dm (k p : Nat) (hp : p < 11) : (11 * k + p) / 11 = k ∧ (11 * k + p) % 11 = p := by omega
theorem gS_mk {m k : Nat} : nI (mkS (gS m) k) = if m < caK k then 0 else if m ≤ caK k then 32 else 2047 := by
  have cv : ∀ (f : Nat → Bool), (∀ p, p < 11 → f p = gS m (11 * k + p)) → nI (mkS (gS m) k) = nI (mkr f 11) := fun f h => by
    unfold mkS; rw [mkr_c h]
  by_cases a : m < caK k
  · rw [if_pos a, ← m0]
    exact cv _ (fun p hp => by unfold gS caN; rw [(dm k p hp).1, (dm k p hp).2]; symm; rw [decide_eq_false_iff_not]; omega)
  rw [if_neg a]
  by_cases b : m ≤ caK k
  · rw [if_pos b, ← m32]
    refine cv _ (fun p hp => ?_)
    unfold gS caN; rw [(dm k p hp).1, (dm k p hp).2]
    by_cases c : p = 5
    · rw [if_pos c, decide_eq_true c, decide_eq_true (by omega)]
    · rw [if_neg c, decide_eq_false c, decide_eq_false (by omega)]
  · rw [if_neg b, ← m2047]
    exact cv _ (fun p hp => by
      unfold gS caN; rw [(dm k p hp).1, (dm k p hp).2]; symm; rw [decide_eq_true_eq]; split <;> omega)
theorem gath_L {M : Nat} (hM : M ≤ 4) : ∀ (q k m : Nat) (w : Mem), k + q = 252 → q < m → LCp (gS M) k w → ∃ w', f_X2_gather_L12 (nI M) m (nI k) w = some w' ∧ LCp (gS M) 252 w' ∧ FrF w w' := by
  intro q
  induction q with
  | zero =>
    intro k m w hk hm h
    obtain ⟨m, rfl⟩ : ∃ q, m = q + 1 := ⟨m - 1, by omega⟩
    obtain rfl : k = 252 := by omega
    exact ⟨w, by rw [f_X2_gather_L12_s, if_pos (by decide)], h, FrF_r w⟩
  | succ q ih =>
    intro k m w hk hm h
    obtain ⟨m, rfl⟩ : ∃ q, m = q + 1 := ⟨m - 1, by omega⟩
    obtain ⟨w1, k1, k2, k3, _⟩ := keep_e (show k < 252 by omega) h
    obtain ⟨w', g1, g2, g3⟩ := ih (k + 1) m w1 (by omega) (by omega) k2
    have cb := caK_b k
    have me := gS_mk (m := M) (k := k)
    refine ⟨w', ?_, g2, FrF_t k3 g3⟩
    rw [f_X2_gather_L12_s, if_neg (by rw [nI_lit 252, nI_leI (by omega) (by omega)]; omega), caC_e (by omega), bd_s]
    simp only [lt_e]
    rw [nI_s]
    by_cases a : M < caK k
    · rw [if_pos a] at me
      rw [if_pos (show nI M < nI (caK k) by rw [nI_ltI (by omega) (by omega)]; exact a)]
      have z : mkS (gS M) k = 0 := by
        have mb := mkr_b (fun p => gS M (11 * k + p))
        rw [show (0 : Int32) = nI 0 from rfl] at me
        exact (nI_eq (by unfold mkS; omega) (by omega)).mp me
      rw [z] at k1
      unfold f_X2_keepKind at k1
      rw [if_pos (show nI 0 = 0 by decide)] at k1
      rw [Option.some.inj k1]; exact g1
    · rw [if_neg a] at me
      have le : (if nI M ≤ nI (caK k) then (32 : Int32) else 2047) = if M ≤ caK k then 32 else 2047 := by
        by_cases b : M ≤ caK k
        · rw [if_pos b, if_pos (by rw [nI_leI (by omega) (by omega)]; exact b)]
        · rw [if_neg b, if_neg (by rw [nI_leI (by omega) (by omega)]; exact b)]
      rw [if_neg (show ¬ nI M < nI (caK k) by rw [nI_ltI (by omega) (by omega)]; exact a), le, ← me, k1, bd_s]; exact g1
theorem gath_e {M : Nat} (hM : M ≤ 4) (w : Mem) : ∃ w', f_X2_gather (nI M) w = some w' ∧ LCp (gS M) 252 w' ∧ FrF w w' := by
  have h0 : LCp (gS M) 0 (mS (mS w 83 7 0) 83 3 0) := ⟨rfl, rfl, fun k hk => absurd hk (Nat.not_lt_zero _)⟩
  have f0 : FrF w (mS (mS w 83 7 0) 83 3 0) := ⟨fun o p q r => by rw [mS_o p, mS_o p], fun j p _ q => by rw [mS_nj p, mS_nj q], rfl⟩
  obtain ⟨w', g1, g2, g3⟩ := gath_L hM 252 0 FU _ (by omega) (by unfold FU; omega) h0
  refine ⟨w', ?_, g2, FrF_t f0 g3⟩
  unfold f_X2_gather
  simp only [lt_e]
  rw [show f_X2_gather_L12 (nI M) FU 0 (mS (mS w 83 7 0) 83 3 0) = f_X2_gather_L12 (nI M) FU (nI 0) (mS (mS w 83 7 0) 83 3 0) from rfl, g1]; rfl
/-- of the states left those stay that have an outcome by a trial -/
def nS (S : Nat → Bool) (t o s : Nat) : Bool := S s && decide (ocN s t = o)
theorem nS_mk {S : Nat → Bool} {t o k : Nat} (hk : k < 252) (ht : t < 325) (ho : o ≤ 4) : ∃ r, f_X2_pullsWith (nI k) (nI t) (nI o) = some r ∧ nI (mkS S k) &&& r = nI (mkS (nS S t o) k) := by
  refine ⟨_, pw_e hk ht ho, ?_⟩
  unfold mkS
  rw [mkr_and]
  refine congrArg nI (mkr_c (fun p hp => ?_))
  unfold nS ocN
  rw [(dm k p hp).1, (dm k p hp).2]
theorem narr_L {S : Nat → Bool} {t o : Nat} (ht : t < 325) (ho : o ≤ 4) : ∀ (q k m : Nat) (w : Mem), k + q = 252 → q < m → LCp (nS S t o) k w → (∀ k', k ≤ k' → k' < 252 → nzS S k' = true → ent w S k') → ∃ w', f_X2_narrow_L18 (nI t) (nI o) (nI (cntB (nzS S) 252)) m (nI (cntB (nzS S) k)) w = some w' ∧ LCp (nS S t o) 252 w' ∧ FrF w w' := by
  have c252 := cntB_le (nzS S) 252
  intro q
  induction q with
  | zero =>
    intro k m w hk hm h he
    obtain ⟨m, rfl⟩ : ∃ q, m = q + 1 := ⟨m - 1, by omega⟩
    obtain rfl : k = 252 := by omega
    exact ⟨w, by rw [f_X2_narrow_L18_s, if_pos (by rw [nI_leI (by omega) (by omega)]; omega)], h, FrF_r w⟩
  | succ q ih =>
    intro k m w hk hm h he
    have ck := cntB_le (nzS S) k
    obtain ⟨w1, k1, k2, k3, k4⟩ := keep_e (show k < 252 by omega) h
    have sub : ∀ k', nzS (nS S t o) k' = true → nzS S k' = true := by
      intro k' h1
      unfold nzS at h1 ⊢
      rw [decide_eq_true_eq] at h1 ⊢
      intro z
      refine h1 ((mkr_0 _).mpr (fun j hj => ?_))
      have := (mkr_0 _).mp z j hj
      unfold nS; rw [this]; rfl
    have cs : cntB (nzS (nS S t o)) k ≤ cntB (nzS S) k := cntB_sub k (fun j _ h1 => sub j h1)
    by_cases z : nzS S k = true
    · obtain ⟨m, rfl⟩ : ∃ q, m = q + 1 := ⟨m - 1, by omega⟩
      have he1 : ∀ k', k + 1 ≤ k' → k' < 252 → nzS S k' = true → ent w1 S k' := by
        intro k' h1 h2 h3
        have l := cntB_lt z (show k < k' by omega)
        obtain ⟨e1, e2⟩ := he k' (by omega) h2 h3
        obtain ⟨f1, f2⟩ := k4 (cntB (nzS S) k') (by omega)
        exact ⟨by rw [f1]; exact e1, by rw [f2]; exact e2⟩
      obtain ⟨w', g1, g2, g3⟩ := ih (k + 1) m w1 (by omega) (by omega) k2 he1
      have l := cntB_lt z (show k < 252 by omega)
      obtain ⟨e1, e2⟩ := he k (Nat.le_refl _) (by omega) z
      obtain ⟨r, p1, p2⟩ := nS_mk (S := S) (t := t) (o := o) (show k < 252 by omega) ht ho
      refine ⟨w', ?_, g2, FrF_t k3 g3⟩
      rw [f_X2_narrow_L18_s, if_neg (by rw [nI_leI (by omega) (by omega)]; omega), gd_t (inb_nI (by omega) (by omega))]
      simp only [lt_e]
      rw [nI_clamp (by omega), e1, e2, p1, bd_s, p2, k1, bd_s, nI_s]
      rw [cntB_s (nzS S) k, if_pos z, Nat.add_comm] at g1
      exact g1
    · have z' : ¬ nzS (nS S t o) k = true := fun q => z (sub k q)
      have m0' : mkS (nS S t o) k = 0 := by
        unfold nzS at z'; simpa using z'
      rw [m0'] at k1
      unfold f_X2_keepKind at k1
      rw [if_pos (show nI 0 = 0 by decide)] at k1
      have ew := Option.some.inj k1
      subst ew
      obtain ⟨w', g1, g2, g3⟩ := ih (k + 1) m w (by omega) (by omega) k2 (fun k' h1 h2 h3 => he k' (by omega) h2 h3)
      rw [cntB_s (nzS S) k, if_neg z, Nat.zero_add] at g1
      exact ⟨w', g1, g2, g3⟩
