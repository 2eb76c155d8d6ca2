/-! ===== 1 read: the orders come to an end (98a: by wip/gen/p98a.txt and fr.py) ===== -/
/-- the text read without the loops: place, and how deep beyond the start -/
def scS (tx : Nat → Int32) (q c : Nat) : Option (Nat × Nat) :=
  if tx q = 1 then some (q + 3, c) else if tx q = 2 then some (q + 3, c) else if tx q = 3 then some (q + 1, c) else if tx q = 4 then some (q + 2, c + 1) else if tx q = 5 then (if c = 0 then none else some (q + 1, c - 1)) else if tx q = 6 then some (q + 2, c) else none
def itS (tx : Nat → Int32) : Nat → Nat → Nat → Option (Nat × Nat)
  | 0, q, c => some (q, c)
  | n + 1, q, c => match scS tx q c with
    | none => none
    | some s => itS tx n s.1 s.2
theorem scS_5 {tx : Nat → Int32} {q : Nat} (h : tx q = 5) : scS tx q 0 = none := by
  unfold scS
  rw [h]
  rfl
theorem scS_shift {tx : Nat → Int32} {q c p c' : Nat} (h : scS tx q c = some (p, c')) : scS tx q (c + 1) = some (p, c' + 1) := by
  unfold scS at h ⊢
  by_cases h1 : tx q = 1
  · rw [if_pos h1] at h ⊢; cases h; rfl
  rw [if_neg h1] at h ⊢
  by_cases h2 : tx q = 2
  · rw [if_pos h2] at h ⊢; cases h; rfl
  rw [if_neg h2] at h ⊢
  by_cases h3 : tx q = 3
  · rw [if_pos h3] at h ⊢; cases h; rfl
  rw [if_neg h3] at h ⊢
  by_cases h4 : tx q = 4
  · rw [if_pos h4] at h ⊢; cases h; rfl
  rw [if_neg h4] at h ⊢
  by_cases h5 : tx q = 5
  · rw [if_pos h5] at h ⊢
    by_cases z : c = 0
    · rw [if_pos z] at h; exact absurd h (by simp)
    · rw [if_neg z] at h
      rw [if_neg (by omega)]
      cases h
      rw [show c + 1 - 1 = c - 1 + 1 by omega]
  rw [if_neg h5] at h ⊢
  by_cases h6 : tx q = 6
  · rw [if_pos h6] at h ⊢; cases h; rfl
  · rw [if_neg h6] at h; exact absurd h (by simp)
theorem itS_s {tx : Nat → Int32} {n q c p c' : Nat} (h : scS tx q c = some (p, c')) : itS tx (n + 1) q c = itS tx n p c' := by
  show (match scS tx q c with | none => none | some s => itS tx n s.1 s.2) = _
  rw [h]
theorem itS_n {tx : Nat → Int32} {n q c : Nat} (h : scS tx q c = none) : itS tx (n + 1) q c = none := by
  show (match scS tx q c with | none => none | some s => itS tx n s.1 s.2) = _
  rw [h]
theorem itS_shift {tx : Nat → Int32} : ∀ (n q c p c' : Nat), itS tx n q c = some (p, c') → itS tx n q (c + 1) = some (p, c' + 1) := by
  intro n
  induction n with
  | zero =>
    intro q c p c' h
    have h' : (some (q, c) : Option (Nat × Nat)) = some (p, c') := h
    cases h'; rfl
  | succ n ih =>
    intro q c p c' h
    rcases e : scS tx q c with _ | ⟨p1, c1⟩
    · rw [itS_n e] at h; exact absurd h (by simp)
    · rw [itS_s e] at h
      rw [itS_s (scS_shift e)]
      exact ih p1 c1 p c' h
theorem itS_add {tx : Nat → Int32} : ∀ (n m q c q1 c1 : Nat) (r : Option (Nat × Nat)), itS tx n q c = some (q1, c1) → itS tx m q1 c1 = r → itS tx (n + m) q c = r := by
  intro n
  induction n with
  | zero =>
    intro m q c q1 c1 r h g
    have h' : (some (q, c) : Option (Nat × Nat)) = some (q1, c1) := h
    cases h'
    rw [Nat.zero_add]; exact g
  | succ n ih =>
    intro m q c q1 c1 r h g
    rcases e : scS tx q c with _ | ⟨p2, c2⟩
    · rw [itS_n e] at h; exact absurd h (by simp)
    · rw [itS_s e] at h
      rw [show n + 1 + m = (n + m) + 1 by omega, itS_s e]
      exact ih m p2 c2 q1 c1 r h g
theorem itS_det {tx : Nat → Int32} : ∀ (n n' q c p p' : Nat), tx p = 5 → tx p' = 5 → itS tx n q c = some (p, 0) → itS tx n' q c = some (p', 0) → p = p' := by
  intro n
  induction n with
  | zero =>
    intro n' q c p p' h1 h2 h g
    have h' : (some (q, c) : Option (Nat × Nat)) = some (p, 0) := h
    cases h'
    cases n' with
    | zero =>
      have g' : (some (q, 0) : Option (Nat × Nat)) = some (p', 0) := g
      cases g'; rfl
    | succ n' => rw [itS_n (scS_5 h1)] at g; exact absurd g (by simp)
  | succ n ih =>
    intro n' q c p p' h1 h2 h g
    cases n' with
    | zero =>
      have g' : (some (q, c) : Option (Nat × Nat)) = some (p', 0) := g
      cases g'
      rw [itS_n (scS_5 h2)] at h; exact absurd h (by simp)
    | succ n' =>
      rcases e : scS tx q c with _ | ⟨p2, c2⟩
      · rw [itS_n e] at h; exact absurd h (by simp)
      · rw [itS_s e] at h g
        exact ih n' p2 c2 p p' h1 h2 h g
def RC (tx : Nat → Int32) (a p : Nat) : Prop := ∃ n, itS tx n a 0 = some (p, 0)
def RC2 (tx : Nat → Int32) (a b : Nat) : Prop := ∃ n, itS tx n a 0 = some (b, 1)
theorem RC_r (tx : Nat → Int32) (a : Nat) : RC tx a a := ⟨0, rfl⟩
theorem RC_s {tx : Nat → Int32} {a p p' : Nat} (h : RC tx a p) (e : scS tx p 0 = some (p', 0)) : RC tx a p' := by
  obtain ⟨n, hn⟩ := h
  exact ⟨n + 1, itS_add n 1 a 0 p 0 _ hn (itS_s e)⟩
theorem RC_o {tx : Nat → Int32} {a p : Nat} (h : RC tx a p) (e : tx p = 4) : RC2 tx a (p + 2) := by
  obtain ⟨n, hn⟩ := h
  have e' : scS tx p 0 = some (p + 2, 1) := by unfold scS; rw [e]; rfl
  exact ⟨n + 1, itS_add n 1 a 0 p 0 _ hn (itS_s e')⟩
theorem RC_c {tx : Nat → Int32} {a b p : Nat} (h : RC2 tx a b) (g : RC tx b p) (e : tx p = 5) : RC tx a (p + 1) := by
  obtain ⟨n, hn⟩ := h
  obtain ⟨m, hm⟩ := g
  have h1 := itS_add n m a 0 b 1 _ hn (itS_shift m b 0 p 0 hm)
  have e' : scS tx p 1 = some (p + 1, 0) := by unfold scS; rw [e]; rfl
  exact ⟨n + m + 1, itS_add (n + m) 1 a 0 p 1 _ h1 (itS_s e')⟩
theorem RC_u {tx : Nat → Int32} {a p p' : Nat} (h : RC tx a p) (g : RC tx a p') (e : tx p = 5) (e' : tx p' = 5) : p = p' := by
  obtain ⟨n, hn⟩ := h
  obtain ⟨m, hm⟩ := g
  exact itS_det n m a 0 p p' e e' hn hm
/-! how often each place is still to be done, at most -/
def rmN (d p : Nat) (a l E : Nat → Nat) (q : Nat) : Nat :=
  if q < p then
    (if 3 ≤ d ∧ a 2 ≤ q then l 2 + 9 * l 1 + 81 * l 0 else if 2 ≤ d ∧ a 1 ≤ q then 9 * (l 1 + 9 * l 0) else if 1 ≤ d ∧ a 0 ≤ q then 81 * l 0 else 0)
  else
    (if 3 ≤ d ∧ q < E 2 then 1 + l 2 + 9 * l 1 + 81 * l 0 else if 2 ≤ d ∧ q < E 1 then 9 * (1 + l 1 + 9 * l 0) else if 1 ≤ d ∧ q < E 0 then 81 * (1 + l 0) else 729)
def sumN (f : Nat → Nat) : Nat → Nat
  | 0 => 0
  | n + 1 => f n + sumN f n
theorem sumN_le {f g : Nat → Nat} : ∀ {T : Nat}, (∀ q, q < T → f q ≤ g q) → sumN f T ≤ sumN g T
  | 0, _ => Nat.le_refl _
  | T + 1, h => Nat.add_le_add (h T (by omega)) (sumN_le (fun q hq => h q (by omega)))
theorem sumN_lt {f g : Nat → Nat} {p : Nat} : ∀ {T : Nat}, (∀ q, q < T → f q ≤ g q) → p < T → f p < g p → sumN f T < sumN g T
  | 0, _, hp, _ => absurd hp (Nat.not_lt_zero _)
  | T + 1, h, hp, hl => by
    show f T + sumN f T < g T + sumN g T
    by_cases c : p = T
    · subst c
      have := sumN_le (T := p) (fun q hq => h q (by omega))
      omega
    · have := sumN_lt (T := T) (fun q hq => h q (by omega)) (by omega) hl
      have := h T (by omega)
      omega
theorem sumN_b {f : Nat → Nat} {b : Nat} : ∀ {T : Nat}, (∀ q, q < T → f q ≤ b) → sumN f T ≤ b * T
  | 0, _ => Nat.le_refl _
  | T + 1, h => by
    have := sumN_b (T := T) (fun q hq => h q (by omega))
    have := h T (by omega)
    show f T + sumN f T ≤ b * (T + 1)
    rw [Nat.mul_succ]; omega
/-- the loops that stand open -/
def IVR (tx : Nat → Int32) (T d p : Nat) (a l E : Nat → Nat) : Prop := d ≤ 3 ∧ p ≤ T ∧ (∀ k, l k ≤ 8) ∧ (1 ≤ d → a 0 ≤ p) ∧ (2 ≤ d → a 0 ≤ a 1 ∧ a 1 ≤ p) ∧ (3 ≤ d → a 1 ≤ a 2 ∧ a 2 ≤ p) ∧ (∀ k, k + 1 = d → RC tx (a k) p) ∧ (∀ k, k + 1 < d → RC2 tx (a k) (a (k + 1))) ∧ ∀ k, k < d → E k = 0 ∨ ∃ e, E k = e + 1 ∧ tx e = 5 ∧ RC tx (a k) e
theorem IV_1 {tx : Nat → Int32} {T d p p' : Nat} {a l E : Nat → Nat} (h : IVR tx T d p a l E) (hp : p < p') (hT : p' ≤ T) (e : scS tx p 0 = some (p', 0)) : IVR tx T d p' a l E ∧ sumN (rmN d p' a l E) T < sumN (rmN d p a l E) T := by
  obtain ⟨h1, h2, h3, h4, h5, h6, h7, h8, h9⟩ := h
  refine ⟨⟨h1, hT, h3, fun z => by have := h4 z; omega, fun z => by have := h5 z; omega, fun z => by have := h6 z; omega, fun k hk => RC_s (h7 k hk) e, h8, h9⟩, ?_⟩
  have l0 := h3 0
  have l1 := h3 1
  have l2 := h3 2
  refine sumN_lt (p := p) (fun q hq => ?_) (by omega) ?_
  · unfold rmN
    repeat' split
    all_goals omega
  · unfold rmN
    rw [if_pos hp, if_neg (Nat.lt_irrefl p)]
    repeat' split
    all_goals omega
def st1 (f : Nat → Nat) (k x : Nat) : Nat → Nat := fun j => if j = k then x else f j
theorem st1_e (f : Nat → Nat) (k x : Nat) : st1 f k x k = x := if_pos rfl
theorem st1_n (f : Nat → Nat) {k x j : Nat} (h : j ≠ k) : st1 f k x j = f j := if_neg h
theorem IV_4 {tx : Nat → Int32} {T d p n : Nat} {a l E : Nat → Nat} (h : IVR tx T d p a l E) (hd : d < 3) (hT : p + 2 ≤ T) (hn : n ≤ 8) (e : tx p = 4) : IVR tx T (d + 1) (p + 2) (st1 a d (p + 2)) (st1 l d n) (st1 E d 0) ∧ sumN (rmN (d + 1) (p + 2) (st1 a d (p + 2)) (st1 l d n) (st1 E d 0)) T < sumN (rmN d p a l E) T := by
  obtain ⟨h1, h2, h3, h4, h5, h6, h7, h8, h9⟩ := h
  have l0 := h3 0
  have l1 := h3 1
  have l2 := h3 2
  constructor
  · refine ⟨by omega, hT, fun k => ?_, ?_, ?_, ?_, fun k hk => ?_, fun k hk => ?_, fun k hk => ?_⟩
    · unfold st1; split
      · exact hn
      · exact h3 k
    · intro z; unfold st1; split
      · omega
      · have := h4 (by omega); omega
    · intro z; unfold st1
      rcases (show d = 1 ∨ d = 2 by omega) with rfl | rfl
      · have := h4 (by omega); simp; omega
      · have := h5 (by omega); simp; omega
    · intro z; unfold st1
      obtain rfl : d = 2 := by omega
      have := h5 (by omega); simp; omega
    · obtain rfl : k = d := by omega
      rw [st1_e]; exact RC_r tx _
    · by_cases c : k + 1 = d
      · rw [st1_n a (show k ≠ d by omega), c, st1_e]
        exact RC_o (h7 k c) e
      · rw [st1_n a (show k ≠ d by omega), st1_n a (show k + 1 ≠ d by omega)]
        exact h8 k (by omega)
    · by_cases c : k = d
      · subst c; rw [st1_e]; exact Or.inl rfl
      · rw [st1_n E c, st1_n a c]; exact h9 k (by omega)
  · refine sumN_lt (p := p) (fun q hq => ?_) (by omega) ?_
    · unfold rmN st1
      rcases (show d = 0 ∨ d = 1 ∨ d = 2 by omega) with rfl | rfl | rfl <;> simp only [Nat.reduceEqDiff, if_true, if_false, ↓reduceIte, reduceCtorEq] <;> repeat' split
      all_goals omega
    · unfold rmN st1
      rcases (show d = 0 ∨ d = 1 ∨ d = 2 by omega) with rfl | rfl | rfl <;> simp only [Nat.reduceEqDiff, if_true, if_false, ↓reduceIte, reduceCtorEq] <;> repeat' split
      all_goals omega
theorem E_top {tx : Nat → Int32} {T d p : Nat} {a l E : Nat → Nat} (h : IVR tx T (d + 1) p a l E) (e : tx p = 5) : E d ≤ p + 1 := by
  obtain ⟨h1, h2, h3, h4, h5, h6, h7, h8, h9⟩ := h
  rcases h9 d (by omega) with z | ⟨e', e1, e2, e3⟩
  · omega
  · have := RC_u (h7 d rfl) e3 e e2
    omega
theorem IV_5r {tx : Nat → Int32} {T d p : Nat} {a l E : Nat → Nat} (h : IVR tx T (d + 1) p a l E) (hp : p < T) (hl : 0 < l d) (e : tx p = 5) : IVR tx T (d + 1) (a d) a (st1 l d (l d - 1)) (st1 E d (p + 1)) ∧ sumN (rmN (d + 1) (a d) a (st1 l d (l d - 1)) (st1 E d (p + 1))) T < sumN (rmN (d + 1) p a l E) T := by
  have et := E_top h e
  obtain ⟨h1, h2, h3, h4, h5, h6, h7, h8, h9⟩ := h
  have l0 := h3 0
  have l1 := h3 1
  have l2 := h3 2
  have ap : a d ≤ p := by
    rcases (show d = 0 ∨ d = 1 ∨ d = 2 by omega) with rfl | rfl | rfl
    · exact h4 (by omega)
    · exact (h5 (by omega)).2
    · exact (h6 (by omega)).2
  constructor
  · refine ⟨h1, by omega, fun k => ?_, ?_, ?_, ?_, fun k hk => ?_, h8, fun k hk => ?_⟩
    · unfold st1; split
      · have := h3 d; omega
      · exact h3 k
    · intro z
      rcases (show d = 0 ∨ d = 1 ∨ d = 2 by omega) with rfl | rfl | rfl
      · exact Nat.le_refl _
      · exact (h5 (by omega)).1
      · have := h5 (by omega); have := h6 (by omega); omega
    · intro z
      rcases (show d = 1 ∨ d = 2 by omega) with rfl | rfl
      · have := h5 (by omega); omega
      · have := h5 (by omega); have := h6 (by omega); omega
    · intro z
      obtain rfl : d = 2 := by omega
      have := h6 (by omega); omega
    · obtain rfl : k = d := by omega
      exact RC_r tx _
    · by_cases c : k = d
      · subst c; rw [st1_e]; exact Or.inr ⟨p, rfl, e, h7 k rfl⟩
      · rw [st1_n E c]; exact h9 k hk
  · refine sumN_lt (p := p) (fun q hq => ?_) hp ?_
    · unfold rmN st1
      rcases (show d = 0 ∨ d = 1 ∨ d = 2 by omega) with rfl | rfl | rfl <;> simp only [Nat.reduceEqDiff, if_true, if_false, ↓reduceIte, reduceCtorEq] <;> repeat' split
      all_goals omega
    · unfold rmN st1
      rcases (show d = 0 ∨ d = 1 ∨ d = 2 by omega) with rfl | rfl | rfl <;> simp only [Nat.reduceEqDiff, if_true, if_false, ↓reduceIte, reduceCtorEq] <;> repeat' split
      all_goals omega
theorem IV_5p {tx : Nat → Int32} {T d p : Nat} {a l E : Nat → Nat} (h : IVR tx T (d + 1) p a l E) (hp : p < T) (hl : l d = 0) (e : tx p = 5) : IVR tx T d (p + 1) a l E ∧ sumN (rmN d (p + 1) a l E) T < sumN (rmN (d + 1) p a l E) T := by
  have et := E_top h e
  obtain ⟨h1, h2, h3, h4, h5, h6, h7, h8, h9⟩ := h
  have l0 := h3 0
  have l1 := h3 1
  have l2 := h3 2
  constructor
  · refine ⟨by omega, by omega, h3, fun z => ?_, fun z => ?_, fun z => by omega, fun k hk => ?_, fun k hk => h8 k (by omega), fun k hk => h9 k (by omega)⟩
    · have := h4 (by omega); omega
    · have := h5 (by omega); omega
    · subst hk
      exact RC_c (h8 k (by omega)) (h7 (k + 1) rfl) e
  · refine sumN_lt (p := p) (fun q hq => ?_) hp ?_
    · unfold rmN
      rcases (show d = 0 ∨ d = 1 ∨ d = 2 by omega) with rfl | rfl | rfl <;> repeat' split
      all_goals omega
    · unfold rmN
      rcases (show d = 0 ∨ d = 1 ∨ d = 2 by omega) with rfl | rfl | rfl <;> repeat' split
      all_goals omega
theorem IV_0 (tx : Nat → Int32) {T : Nat} (hT : T ≤ 400) : IVR tx T 0 0 (fun _ => 0) (fun _ => 0) (fun _ => 0) ∧ sumN (rmN 0 0 (fun _ => 0) (fun _ => 0) (fun _ => 0)) T < 300000 := by
  refine ⟨⟨by omega, by omega, fun _ => Nat.zero_le _, fun z => by omega, fun z => by omega, fun z => by omega, fun k hk => by omega, fun k hk => by omega, fun k hk => by omega⟩, ?_⟩
  have := sumN_b (f := rmN 0 0 (fun _ => 0) (fun _ => 0) (fun _ => 0)) (b := 729) (T := T) (fun q hq => by
    unfold rmN
    repeat' split
    all_goals omega)
  omega
