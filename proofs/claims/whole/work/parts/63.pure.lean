/-! ===== 30 names, 31 name, 32 wear: the search (63: by wip/gen/p63.txt and fr.py) ===== -/
theorem mS_mS {w : Mem} {o j : Nat} {x y : Int32} : mS (mS w o j x) o j y = mS w o j y := by
  refine Prod.ext ?_ rfl
  funext a b
  rw [mS_at, mS_at, mS_at]
  split <;> rfl
def Cn (w : Mem) (n : Nat) : Mem := mS w 82 0 (nI n)
def My (v : Mem) (y : Int32) : Mem := mS v 0 57 y
def cntN (P : Nat → Bool) : Nat → Nat → Nat
  | _, 0 => 0
  | a, k + 1 => (if P a = true then 1 else 0) + cntN P (a + 1) k
theorem cntN_le (P : Nat → Bool) : ∀ (k a : Nat), cntN P a k ≤ k
  | 0, _ => Nat.le_refl _
  | k + 1, a => by
    have := cntN_le P k (a + 1)
    show (if P a = true then 1 else 0) + cntN P (a + 1) k ≤ k + 1
    split <;> omega
def sumS (f : Nat → Nat) : Nat → Nat → Nat
  | _, 0 => 0
  | s, k + 1 => f s + sumS f (s + 1) k
theorem sumS_le {f : Nat → Nat} (hf : ∀ s, f s ≤ 96) : ∀ (k s : Nat), sumS f s k ≤ 96 * k
  | 0, _ => Nat.le_refl _
  | k + 1, s => by
    have := sumS_le hf k (s + 1)
    have := hf s
    show f s + sumS f (s + 1) k ≤ 96 * (k + 1)
    omega
/-- what is known of tape and shelves -/
def NMH (w v : Mem) (t T : Nat) (Ns : Nat → Nat) : Prop := t < 6 ∧ T ≤ 48 ∧ w.1 (48+2*t) 3 = nI T ∧ v.1 16 t = nI T ∧ (∀ j, j < 400 → w.2 (49+2*t) j = v.2 17 (400*t+j)) ∧ ∀ s, s < 8 → Ns s ≤ 48 ∧ w.1 (3*s) 2 = nI (Ns s) ∧ v.1 3 s = nI (Ns s) ∧ ∀ j, j < Ns s → w.1 (3*s+1) j = v.1 4 (48*s+j)
def PB (v : Mem) (t T : Nat) (Ns : Nat → Nat) (wear : Int32) (wy : Int) (s a : Nat) : Bool := nmB (v.1 4) (v.2 17) t T s (Ns s) a wy wear
theorem nm_C {w v : Mem} {t T : Nat} {Ns : Nat → Nat} (h : NMH w v t T Ns) {s a : Nat} {wy : Int} (hw : wy = 1 ∨ wy = -1) (hs : s < 8) (ha : a < Ns s) (wear : Int32) (n : Nat) : f_X7_isNamed t s (nI a) (wyI wy) wear (Cn w n) = some (if PB v t T Ns wear wy s a = true then 1 else 0) := by
  obtain ⟨h1, h2, h3, h4, h5, h6⟩ := h
  obtain ⟨b1, b2, b3, b4⟩ := h6 s hs
  refine nmC hw ha b1 h2 ?_ ?_ ?_ ?_
  · unfold Cn; rw [mS_ne (by omega)]; exact h3
  · unfold Cn; intro j hj; rw [mS_at2]; exact h5 j hj
  · unfold Cn; rw [mS_ne (by omega)]; exact b2
  · unfold Cn; intro j hj; rw [mS_ne (by omega)]; exact b4 j hj
theorem nm_M {w v : Mem} {t T : Nat} {Ns : Nat → Nat} (h : NMH w v t T Ns) {s a : Nat} {wy : Int} (hw : wy = 1 ∨ wy = -1) (hs : s < 8) (ha : a < Ns s) (wear : Int32) (y : Int32) : f_X11_isNamed (nI t) wear (nI s) (wyI wy) (nI a) (My v y) = some (if PB v t T Ns wear wy s a = true then 1 else 0) := by
  obtain ⟨h1, h2, h3, h4, h5, h6⟩ := h
  obtain ⟨b1, b2, b3, b4⟩ := h6 s hs
  have e4 : (My v y).1 4 = v.1 4 := mS_o (by decide)
  have e17 : (My v y).2 17 = v.2 17 := rfl
  have g := nmM (v := My v y) (wear := wear) hw ha b1 h2 h1 hs (by unfold My; rw [mS_ne (by decide)]; exact h4) (by unfold My; rw [mS_ne (by decide)]; exact b3)
  rw [e4, e17] at g
  exact g
def wq (wy : Int) : Nat := if wy = 1 then 0 else 1
/-- a search of the class and a count of the reference, from n names on -/
def OUT (w v : Mem) (x4 : Int32) (n k : Nat) (cl : Option (Sum (Int32 × Mem) Mem)) (rf : Option (Int32 × Mem)) : Prop := (cl = some (.inr (Cn w (n + k))) ∧ rf = some (nI (n + k), My v (-1)) ∧ ∀ i : Nat, x4 = nI i → i < 2147483648 → n + k ≤ i) ∨ (∃ (i : Nat) (c : Int32), i < n + k ∧ i < 2147483648 ∧ x4 = nI i ∧ 0 ≤ c.toInt ∧ cl = some (.inl (c, Cn w i)) ∧ rf = some (nI (n + k), My v c))
theorem refD {w v : Mem} {t T : Nat} {Ns : Nat → Nat} (h : NMH w v t T Ns) {s : Nat} {wy : Int} (hw : wy = 1 ∨ wy = -1) (hs : s < 8) (wear x3 y : Int32) {i : Nat} (hi : x3 = nI i) (hi2 : i < 2147483648) : ∀ (k a n m : Nat), a + k = Ns s → k < m → i < n → n + k ≤ 1000 → f_X11_namesOf_L30 (nI t) wear x3 (nI s) (nI (wq wy)) m (nI n) (nI a) (My v y) = some (nI (n + cntN (PB v t T Ns wear wy s) a k), My v y) := by
  have b := h.2.2.2.2.2 s hs
  have e3 : (My v y).1 3 s = nI (Ns s) := by unfold My; rw [mS_ne (by decide)]; exact b.2.2.1
  have b1 := b.1
  have ew : (if nI (wq wy) = 0 then (1 : Int32) else (-1)) = wyI wy := by
    unfold wq wyI; rcases hw with rfl | rfl <;> rfl
  intro k
  induction k with
  | zero =>
    intro a n m ha hm hn hn2
    obtain ⟨m, rfl⟩ : ∃ q, m = q + 1 := ⟨m - 1, by omega⟩
    rw [f_X11_namesOf_L30_s, gd_t (inb_nI (by omega) (by omega)), lt_e, nI_clamp (n := s) (by omega), e3, if_pos (by rw [nI_leI (by omega) (by omega)]; omega)]; rfl
  | succ k ih =>
    intro a n m ha hm hn hn2
    obtain ⟨m, rfl⟩ : ∃ q, m = q + 1 := ⟨m - 1, by omega⟩
    rw [f_X11_namesOf_L30_s, gd_t (inb_nI (by omega) (by omega)), lt_e, nI_clamp (n := s) (by omega), e3, if_neg (by rw [nI_leI (by omega) (by omega)]; omega), lt_e, ew, nm_M h hw hs (by omega), bd_s]
    by_cases c : PB v t T Ns wear wy s a = true
    · rw [if_pos c, if_neg one_ne, lt_e, if_neg (by rw [hi, nI_eq (by omega) (by omega)]; omega), lt_e, lt_e, lt_e, nI_s, nI_s]
      have e57 : mS (My v y) 0 57 ((My v y).1 0 57) = My v y := by
        unfold My; rw [mS_eq, mS_mS]
      rw [e57, ih (a + 1) (n + 1) m (by omega) (by omega) (by omega) (by omega)]
      show some (nI (n + 1 + cntN (PB v t T Ns wear wy s) (a + 1) k), _) = some (nI (n + ((if PB v t T Ns wear wy s a = true then 1 else 0) + cntN (PB v t T Ns wear wy s) (a + 1) k)), _)
      rw [if_pos c, Nat.add_assoc]
    · rw [if_neg c, if_pos rfl, lt_e, nI_s, ih (a + 1) n m (by omega) (by omega) hn (by omega)]
      show some (nI (n + cntN (PB v t T Ns wear wy s) (a + 1) k), _) = some (nI (n + ((if PB v t T Ns wear wy s a = true then 1 else 0) + cntN (PB v t T Ns wear wy s) (a + 1) k)), _)
      rw [if_neg c, Nat.zero_add]
theorem simA {w v : Mem} {t T : Nat} {Ns : Nat → Nat} (h : NMH w v t T Ns) {s : Nat} {wy : Int} (hw : wy = 1 ∨ wy = -1) (hs : s < 8) (wear x4 : Int32) (hx : x4 = -1 ∨ ∃ i : Nat, i < 2147483648 ∧ x4 = nI i) : ∀ (k a n m m' : Nat), a + k = Ns s → k < m → k < m' → n + k ≤ 900 → (∀ i : Nat, x4 = nI i → i < 2147483648 → n ≤ i) → OUT w v x4 n (cntN (PB v t T Ns wear wy s) a k) (f_X7_find_L27 t wear x4 (nI s) (wyI wy) m (nI a) (Cn w n)) (f_X11_namesOf_L30 (nI t) wear x4 (nI s) (nI (wq wy)) m' (nI n) (nI a) (My v (-1))) := by
  have b := h.2.2.2.2.2 s hs
  have e3 : ∀ y, (My v y).1 3 s = nI (Ns s) := fun y => by unfold My; rw [mS_ne (by decide)]; exact b.2.2.1
  have e2 : ∀ n, (Cn w n).1 (3*s) 2 = nI (Ns s) := fun n => by unfold Cn; rw [mS_ne (by omega)]; exact b.2.1
  have b1 := b.1
  have ew : (if nI (wq wy) = 0 then (1 : Int32) else (-1)) = wyI wy := by
    unfold wq wyI; rcases hw with rfl | rfl <;> rfl
  intro k
  induction k with
  | zero =>
    intro a n m m' ha hm hm' hn hi
    obtain ⟨m, rfl⟩ : ∃ q, m = q + 1 := ⟨m - 1, by omega⟩
    obtain ⟨m', rfl⟩ : ∃ q, m' = q + 1 := ⟨m' - 1, by omega⟩
    refine Or.inl ⟨?_, ?_, fun i p q => by have := hi i p q; exact this⟩
    · rw [f_X7_find_L27_s, gd_t (inb_nI (by omega) (by omega)), lt_e, nI_clamp (n := s) (by omega), e2, if_pos (by rw [nI_leI (by omega) (by omega)]; omega)]; rfl
    · rw [f_X11_namesOf_L30_s, gd_t (inb_nI (by omega) (by omega)), lt_e, nI_clamp (n := s) (by omega), e3, if_pos (by rw [nI_leI (by omega) (by omega)]; omega)]; rfl
  | succ k ih =>
    intro a n m m' ha hm hm' hn hi
    obtain ⟨m, rfl⟩ : ∃ q, m = q + 1 := ⟨m - 1, by omega⟩
    obtain ⟨m', rfl⟩ : ∃ q, m' = q + 1 := ⟨m' - 1, by omega⟩
    have C : f_X7_find_L27 t wear x4 (nI s) (wyI wy) (m + 1) (nI a) (Cn w n) = if PB v t T Ns wear wy s a = true then (if nI n = x4 then some (.inl (((1000 * nI s) + (if 0 ≤ wyI wy then 0 else 100)) + nI a, Cn w n)) else f_X7_find_L27 t wear x4 (nI s) (wyI wy) m (nI (a + 1)) (Cn w (n + 1))) else f_X7_find_L27 t wear x4 (nI s) (wyI wy) m (nI (a + 1)) (Cn w n) := by
      have e82 : (Cn w n).1 82 0 = nI n := mS_eq
      have e83 : mS (Cn w n) 82 0 (nI n + 1) = Cn w (n + 1) := by unfold Cn; rw [mS_mS, nI_1]
      rw [f_X7_find_L27_s, gd_t (inb_nI (by omega) (by omega)), lt_e, nI_clamp (n := s) (by omega), e2, if_neg (by rw [nI_leI (by omega) (by omega)]; omega), nm_C h hw hs (by omega), bd_s, e82]
      simp only [lt_e]
      rw [e83, nI_s]
      by_cases c : PB v t T Ns wear wy s a = true
      · rw [if_pos c, if_pos c, if_neg one_ne]
      · rw [if_neg c, if_neg c, if_pos rfl]
    have M : f_X11_namesOf_L30 (nI t) wear x4 (nI s) (nI (wq wy)) (m' + 1) (nI n) (nI a) (My v (-1)) = if PB v t T Ns wear wy s a = true then f_X11_namesOf_L30 (nI t) wear x4 (nI s) (nI (wq wy)) m' (nI (n + 1)) (nI (a + 1)) (My v (if nI n = x4 then ((1000 * nI s) + (100 * nI (wq wy))) + nI a else -1)) else f_X11_namesOf_L30 (nI t) wear x4 (nI s) (nI (wq wy)) m' (nI n) (nI (a + 1)) (My v (-1)) := by
      have e57 : ∀ y, mS (My v (-1)) 0 57 y = My v y := fun y => by unfold My; rw [mS_mS]
      have e58 : (My v (-1)).1 0 57 = -1 := mS_eq
      rw [f_X11_namesOf_L30_s, gd_t (inb_nI (by omega) (by omega)), lt_e, nI_clamp (n := s) (by omega), e3, if_neg (by rw [nI_leI (by omega) (by omega)]; omega), lt_e, ew, nm_M h hw hs (by omega), bd_s]
      simp only [lt_e]
      rw [e58, e57, nI_s, nI_s]
      by_cases c : PB v t T Ns wear wy s a = true
      · rw [if_pos c, if_pos c, if_neg one_ne]
      · rw [if_neg c, if_neg c, if_pos rfl]
    have ec : cntN (PB v t T Ns wear wy s) a (k + 1) = (if PB v t T Ns wear wy s a = true then 1 else 0) + cntN (PB v t T Ns wear wy s) (a + 1) k := rfl
    rw [C, M, ec]
    by_cases c : PB v t T Ns wear wy s a = true
    · rw [if_pos c, if_pos c, if_pos c]
      have cl := cntN_le (PB v t T Ns wear wy s) k (a + 1)
      by_cases d : nI n = x4
      · rw [if_pos d, if_pos d]
        have code : ((1000 * nI s) + (if 0 ≤ wyI wy then 0 else 100)) + nI a = ((1000 * nI s) + (100 * nI (wq wy))) + nI a := by
          congr 2
          unfold wyI wq; rcases hw with rfl | rfl <;> rfl
        have cb : 0 ≤ (((1000 * nI s) + (100 * nI (wq wy))) + nI a).toInt := by
          rw [nI_lit 1000, nI_lit 100, pk_mul, pk_mul, nI_add, nI_add, nI_toInt (by unfold wq; split <;> omega)]; omega
        rw [code, refD h hw hs wear x4 _ d.symm (by omega) k (a + 1) (n + 1) m' (by omega) (by omega) (by omega) (by omega)]
        refine Or.inr ⟨n, _, by omega, by omega, d.symm, cb, rfl, by rw [Nat.add_assoc]⟩
      · rw [if_neg d, if_neg d]
        have g := ih (a + 1) (n + 1) m m' (by omega) (by omega) (by omega) (by omega) (fun i p q => by
          have := hi i p q
          by_cases e : n = i
          · subst e; exact absurd p.symm d
          · omega)
        unfold OUT at g ⊢
        rw [show n + (1 + cntN (PB v t T Ns wear wy s) (a + 1) k) = n + 1 + cntN (PB v t T Ns wear wy s) (a + 1) k by omega]
        exact g
    · rw [if_neg c, if_neg c, if_neg c, Nat.zero_add]
      exact ih (a + 1) n m m' (by omega) (by omega) (by omega) (by omega) hi
