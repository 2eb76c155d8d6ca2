/-! ===== 27 seam, 28 sewn (48: by wip/gen/p48.txt and fr.py) ===== -/
theorem was_L {w : Mem} {c : Nat} (hc : c ≤ 600) (a b : Int32) : ∀ (k i m : Nat), i + k = c → k < m → (f_X8_wasAt_L13 w a b (nI c) m (nI i) = some (.inl 1) ∧ ∃ t, i ≤ t ∧ t < c ∧ w.1 80 t = a ∧ w.1 81 t = b) ∨ (f_X8_wasAt_L13 w a b (nI c) m (nI i) = some (.inr ()) ∧ ∀ t, i ≤ t → t < c → ¬ (w.1 80 t = a ∧ w.1 81 t = b)) := by
  intro k
  induction k with
  | zero =>
    intro i m hi hm
    obtain ⟨m, rfl⟩ : ∃ q, m = q + 1 := ⟨m - 1, by omega⟩
    refine Or.inr ⟨?_, fun t h1 h2 => by omega⟩
    rw [f_X8_wasAt_L13_s, if_pos (by rw [nI_leI (by omega) (by omega)]; omega)]
  | succ k ih =>
    intro i m hi hm
    obtain ⟨m, rfl⟩ : ∃ q, m = q + 1 := ⟨m - 1, by omega⟩
    rw [f_X8_wasAt_L13_s, if_neg (by rw [nI_leI (by omega) (by omega)]; omega), gd_t (inb_nI (by omega) (by omega)), nI_clamp (by omega)]
    simp only [lt_e]
    rw [nI_s]
    have no : ¬ (w.1 80 i = a ∧ w.1 81 i = b) → ((f_X8_wasAt_L13 w a b (nI c) m (nI (i+1)) = some (.inl 1) ∧ ∃ t, i ≤ t ∧ t < c ∧ w.1 80 t = a ∧ w.1 81 t = b) ∨ (f_X8_wasAt_L13 w a b (nI c) m (nI (i+1)) = some (.inr ()) ∧ ∀ t, i ≤ t → t < c → ¬ (w.1 80 t = a ∧ w.1 81 t = b))) := fun nq => by
      rcases ih (i + 1) m (by omega) (by omega) with ⟨q, t, t1, t2, t3⟩ | ⟨q, t1⟩
      · exact Or.inl ⟨q, t, by omega, t2, t3⟩
      · refine Or.inr ⟨q, fun t h1 h2 => ?_⟩
        by_cases e : t = i
        · subst e; exact nq
        · exact t1 t (by omega) h2
    by_cases c1 : w.1 80 i = a
    · rw [if_pos c1]
      by_cases c2 : w.1 81 i = b
      · rw [if_pos c2]; exact Or.inl ⟨rfl, i, by omega, by omega, c1, c2⟩
      · rw [if_neg c2]; exact no (fun z => c2 z.2)
    · rw [if_neg c1]; exact no (fun z => c1 z.1)
theorem was_eq {w : Mem} {c : Nat} (hc : c ≤ 600) : f_X8_wasAt (w.1 80 c) (w.1 81 c) (nI c) w = some (if wasB (w.1 80) (w.1 81) c then 1 else 0) := by
  have fin : (bd (f_X8_wasAt_L13 w (w.1 80 c) (w.1 81 c) (nI c) FU 0) fun ex => sm ex (fun ret => ret) fun _ => some 0) = some (if (List.range c).any (fun k => decide (w.1 80 k = w.1 80 c) && decide (w.1 81 k = w.1 81 c)) then 1 else 0) := by
    rcases was_L hc (w.1 80 c) (w.1 81 c) c 0 FU (by omega) (by unfold FU; omega) with ⟨q, t, t1, t2, t3, t4⟩ | ⟨q, t1⟩
    · rw [show (0 : Int32) = nI 0 from rfl, q, if_pos]
      · rfl
      · rw [List.any_eq_true]
        exact ⟨t, List.mem_range.mpr t2, by simp [t3, t4]⟩
    · rw [show f_X8_wasAt_L13 w (w.1 80 c) (w.1 81 c) (nI c) FU 0 = f_X8_wasAt_L13 w (w.1 80 c) (w.1 81 c) (nI c) FU (nI 0) from rfl, q, if_neg]
      · rfl
      · rw [List.any_eq_true]
        rintro ⟨t, h1, h2⟩
        simp only [Bool.and_eq_true, decide_eq_true_eq] at h2
        exact t1 t (by omega) (List.mem_range.mp h1) h2
  unfold f_X8_wasAt wasB
  simp only [lt_e]
  by_cases c1 : w.1 80 c = 0
  · rw [if_pos c1]
    by_cases c2 : w.1 81 c = 0
    · rw [if_pos c2, if_pos (by simp [c1, c2])]
    · rw [if_neg c2, fin]; simp [c2]
  · rw [if_neg c1, fin]; simp [c1]
theorem ret_L {w : Mem} {n : Nat} (hn : n ≤ 600) (e : w.1 79 3 = nI n) : ∀ (k i m : Nat), i + k = n → k < m → f_X8_returns_L4 w m (nI (metN (w.1 80) (w.1 81) i)) (nI i) = some (nI (metN (w.1 80) (w.1 81) n)) := by
  intro k
  induction k with
  | zero =>
    intro i m hi hm
    obtain ⟨m, rfl⟩ : ∃ q, m = q + 1 := ⟨m - 1, by omega⟩
    obtain rfl : i = n := by omega
    rw [f_X8_returns_L4_s, e, if_pos (by rw [nI_leI (by omega) (by omega)]; omega)]
  | succ k ih =>
    intro i m hi hm
    obtain ⟨m, rfl⟩ : ∃ q, m = q + 1 := ⟨m - 1, by omega⟩
    have g := ih (i + 1) m (by omega) (by omega)
    rw [f_X8_returns_L4_s, e, if_neg (by rw [nI_leI (by omega) (by omega)]; omega), gd_t (inb_nI (by omega) (by omega)), nI_clamp (by omega)]
    simp only [lt_e]
    rw [was_eq (by omega), bd_s, nI_s, nI_s]
    simp only [metN] at g
    by_cases c : wasB (w.1 80) (w.1 81) i = true
    · rw [if_pos c, if_neg one_ne]; rw [if_pos c] at g; exact g
    · rw [if_neg c, if_pos rfl]; rw [if_neg c] at g; exact g
theorem any_c {P Q : Nat → Bool} : ∀ (l : List Nat), (∀ k ∈ l, P k = Q k) → l.any P = l.any Q
  | [], _ => rfl
  | a :: l, h => by rw [List.any_cons, List.any_cons, h a (by simp), any_c l (fun k hk => h k (by simp [hk]))]
theorem wasB_c {x y x' y' : Nat → Int32} {i : Nat} (h : ∀ j, j ≤ i → x j = x' j ∧ y j = y' j) : wasB x y i = wasB x' y' i := by
  unfold wasB
  rw [(h i (Nat.le_refl _)).1, (h i (Nat.le_refl _)).2]
  congr 1
  exact any_c _ (fun k hk => by rw [(h k (Nat.le_of_lt (List.mem_range.mp hk))).1, (h k (Nat.le_of_lt (List.mem_range.mp hk))).2])
theorem metN_c {x y x' y' : Nat → Int32} : ∀ n, (∀ j, j < n → x j = x' j ∧ y j = y' j) → metN x y n = metN x' y' n
  | 0, _ => rfl
  | n + 1, h => by
    rw [metN, metN, metN_c n (fun j hj => h j (by omega)), wasB_c (fun j hj => h j (by omega))]
theorem metN_le (x y : Nat → Int32) : ∀ n, metN x y n ≤ n
  | 0 => Nat.le_refl _
  | n + 1 => by
    have := metN_le x y n
    rw [metN]; split <;> omega
-- 27 seam
theorem step_27 {w v : Mem} (h : Rel w v) (x1 : Int32) : ∃ k w' b v', f_L_seam x1 w = some (k, w') ∧ f_X11_seam x1 v = some (b, v') ∧ f_X11_thrown v' = some k ∧ (k = 0 → w'.2 88 0 = b.toInt64) ∧ Rel w' v' := by
  obtain ⟨s1, s2⟩ := h.2.2.2.2.2.1
  unfold f_L_seam f_X10_seam f_X11_seam
  simp only [lt_e]
  rcases in_c x1 0 9 with ⟨q, k1⟩ | ⟨q, k1⟩
  rotate_left
  · rw [q, bd_s, if_pos rfl, if_neg th1]
    refine ⟨1, w, 0, mS v 0 0 1, ?_, rfl, thr1 h 1 (by decide) _⟩
    by_cases c : x1 < 0
    · rw [if_pos c]; rfl
    · rw [if_neg c, if_neg (by rw [i_lt] at c; rw [i_le]; simp at c k1 ⊢; omega)]; rfl
  simp at k1
  rw [q, bd_s, if_neg one_ne, if_neg (show ¬ x1 < 0 by rw [i_lt]; simp; omega), if_pos (show x1 ≤ 9 by rw [i_le]; simp; omega), s1]
  rcases s2 with ⟨z1, z2⟩ | ⟨z1, n, hn, a0, b0, a1, a2, a3, a4, a4b, a5, a6, a7, a8, a9, aj⟩
  · rw [z1, if_pos rfl, if_pos rfl, if_neg th2]
    exact ⟨2, w, 0, mS v 0 0 2, rfl, rfl, thr1 h 2 (by decide) _⟩
  rw [z1, if_neg one_ne, if_neg one_ne, if_pos th0]
  obtain ⟨j, hj, rfl⟩ := i_nat (x := x1) (N := 10) (by omega) (by omega) (by omega)
  have ret : f_X8_returns w = some (v.1 10 6) := by
    unfold f_X8_returns
    have := ret_L hn a0 n 0 FU (by omega) (by unfold FU; omega)
    rw [show nI (metN (w.1 80) (w.1 81) 0) = 0 from rfl, show nI 0 = 0 from rfl] at this
    rw [this, bd_s, a6, metN_c n (fun t ht => aj t ht)]
  rw [gd_t (inb_nI (by omega) (by omega)), nI_clamp (by omega), mS_ne (a := 10) (o := 0) (by decide)]
  have fin : ∀ b : Int32, b = v.1 10 j → ∃ k w' b' v', (b2 (some (Sum.inl b, w)) fun (o : Sum Int32 Nat) w1 => lwr o w1) = some (k, w') ∧ some (v.1 10 j, mS v 0 0 0) = some (b', v') ∧ f_X11_thrown v' = some k ∧ (k = 0 → w'.2 88 0 = b'.toInt64) ∧ Rel w' v' := fun b hb => by
    subst hb
    exact ⟨0, _, _, _, rfl, rfl, thr0 h _⟩
  rcases (show j = 0 ∨ j = 1 ∨ j = 2 ∨ j = 3 ∨ j = 4 ∨ j = 5 ∨ j = 6 ∨ j = 7 ∨ j = 8 ∨ j = 9 by omega) with rfl | rfl | rfl | rfl | rfl | rfl | rfl | rfl | rfl | rfl
  · rw [if_pos (show nI 0 = 0 from rfl)]; exact fin _ (by rw [a0, b0])
  · rw [if_neg (show ¬ nI 1 = 0 by decide), if_pos (show nI 1 = 1 from rfl)]; exact fin _ a1
  · rw [if_neg (show ¬ nI 2 = 0 by decide), if_neg (show ¬ nI 2 = 1 by decide), if_pos (show nI 2 = 2 from rfl)]; exact fin _ a2
  · rw [if_neg (show ¬ nI 3 = 0 by decide), if_neg (show ¬ nI 3 = 1 by decide), if_neg (show ¬ nI 3 = 2 by decide), if_pos (show nI 3 = 3 from rfl)]; exact fin _ a3
  · rw [if_neg (show ¬ nI 4 = 0 by decide), if_neg (show ¬ nI 4 = 1 by decide), if_neg (show ¬ nI 4 = 2 by decide), if_neg (show ¬ nI 4 = 3 by decide), if_pos (show nI 4 = 4 from rfl), a4]
    rcases a4b with q | q
    · rw [if_pos q]; exact fin _ q.symm
    · rw [if_neg (by rw [q]; decide)]; exact fin _ q.symm
  · rw [if_neg (show ¬ nI 5 = 0 by decide), if_neg (show ¬ nI 5 = 1 by decide), if_neg (show ¬ nI 5 = 2 by decide), if_neg (show ¬ nI 5 = 3 by decide), if_neg (show ¬ nI 5 = 4 by decide), if_pos (show nI 5 = 5 from rfl)]; exact fin _ a5
  · rw [if_neg (show ¬ nI 6 = 0 by decide), if_neg (show ¬ nI 6 = 1 by decide), if_neg (show ¬ nI 6 = 2 by decide), if_neg (show ¬ nI 6 = 3 by decide), if_neg (show ¬ nI 6 = 4 by decide), if_neg (show ¬ nI 6 = 5 by decide), if_pos (show nI 6 = 6 from rfl), ret]; exact fin _ rfl
  · rw [if_neg (show ¬ nI 7 = 0 by decide), if_neg (show ¬ nI 7 = 1 by decide), if_neg (show ¬ nI 7 = 2 by decide), if_neg (show ¬ nI 7 = 3 by decide), if_neg (show ¬ nI 7 = 4 by decide), if_neg (show ¬ nI 7 = 5 by decide), if_neg (show ¬ nI 7 = 6 by decide), if_pos (show nI 7 = 7 from rfl)]; exact fin _ a7
  · rw [if_neg (show ¬ nI 8 = 0 by decide), if_neg (show ¬ nI 8 = 1 by decide), if_neg (show ¬ nI 8 = 2 by decide), if_neg (show ¬ nI 8 = 3 by decide), if_neg (show ¬ nI 8 = 4 by decide), if_neg (show ¬ nI 8 = 5 by decide), if_neg (show ¬ nI 8 = 6 by decide), if_neg (show ¬ nI 8 = 7 by decide), if_pos (show nI 8 = 8 from rfl)]; exact fin _ a8
  · rw [if_neg (show ¬ nI 9 = 0 by decide), if_neg (show ¬ nI 9 = 1 by decide), if_neg (show ¬ nI 9 = 2 by decide), if_neg (show ¬ nI 9 = 3 by decide), if_neg (show ¬ nI 9 = 4 by decide), if_neg (show ¬ nI 9 = 5 by decide), if_neg (show ¬ nI 9 = 6 by decide), if_neg (show ¬ nI 9 = 7 by decide), if_neg (show ¬ nI 9 = 8 by decide)]; exact fin _ a9
-- 28 sewn
theorem step_28 {w v : Mem} (h : Rel w v) (x1 x2 : Int32) : ∃ k w' b v', f_L_sewn x1 x2 w = some (k, w') ∧ f_X11_sewn x1 x2 v = some (b, v') ∧ f_X11_thrown v' = some k ∧ (k = 0 → w'.2 88 0 = b.toInt64) ∧ Rel w' v' := by
  obtain ⟨s1, s2⟩ := h.2.2.2.2.2.1
  unfold f_L_sewn f_X10_sewn f_X11_sewn
  simp only [lt_e]
  rcases in_c x2 0 1 with ⟨q, k1⟩ | ⟨q, k1⟩
  rotate_left
  · rw [q, bd_s, if_pos rfl, if_neg th1]
    refine ⟨1, w, 0, mS v 0 0 1, ?_, rfl, thr1 h 1 (by decide) _⟩
    by_cases c : x2 < 0
    · rw [if_pos c]; rfl
    · rw [if_neg c, if_neg (by rw [i_lt] at c; rw [i_le]; simp at c k1 ⊢; omega)]; rfl
  simp at k1
  rw [q, bd_s, if_neg one_ne, if_neg (show ¬ x2 < 0 by rw [i_lt]; simp; omega), if_pos (show x2 ≤ 1 by rw [i_le]; simp; omega)]
  rcases s2 with ⟨z1, z2⟩ | ⟨z1, n, hn, a0, b0, a1, a2, a3, a4, a4b, a5, a6, a7, a8, a9, aj⟩
  · rw [z1, z2, if_pos (show (0 : Int32) = 0 from rfl), if_neg th2]
    refine ⟨2, w, 0, mS v 0 0 2, ?_, rfl, thr1 h 2 (by decide) _⟩
    by_cases c : x1 < 0
    · rw [if_pos c]; rfl
    · rw [if_neg c, if_neg c]; rfl
  have z0 : (0 : Int32).toNatClampNeg = 0 := rfl
  have e4 := nI_toInt (n := n) (by omega)
  have e5 : (nI n - 1).toInt = n - 1 := by rw [i_sub (by rw [e4]; simp; omega) (by rw [e4]; simp; omega), e4]; rfl
  rw [z1, if_neg (show ¬ (1 : Int32) = 0 by decide), gd_t (show inb 0 10 = true by decide), z0, a0, b0]
  rcases in_c x1 0 (nI n - 1) with ⟨q2, k2⟩ | ⟨q2, k2⟩
  rotate_left
  · rw [q2, bd_s, if_pos rfl, if_neg th2]
    rw [e5] at k2
    refine ⟨2, w, 0, mS v 0 0 2, ?_, rfl, thr1 h 2 (by decide) _⟩
    by_cases c : x1 < 0
    · rw [if_pos c]; rfl
    · rw [if_neg c, if_neg (by rw [i_lt] at c; rw [i_lt, e4]; simp at c k2 ⊢; omega)]; rfl
  rw [e5] at k2
  simp at k2
  rw [q2, bd_s, if_neg one_ne, if_neg (show ¬ x1 < 0 by rw [i_lt]; simp; omega), if_pos (show x1 < nI n by rw [i_lt, e4]; omega), if_pos th0]
  obtain ⟨j, hj, rfl⟩ := i_nat (x := x1) (N := n) (by omega) (by omega) (by omega)
  obtain ⟨f1, f2⟩ := aj j hj
  have g := inb_nI (n := j) (N := 600) (by omega) (by omega)
  simp only [gd_t g, nI_clamp (show j < 2147483648 by omega)]
  by_cases c : x2 = 0
  · rw [if_pos c, if_pos c, b2_s]
    refine ⟨0, _, w.1 80 j, _, rfl, ?_, thr0 h _⟩
    rw [mS_ne (by decide), f1]
  · rw [if_neg c, if_neg c, b2_s]
    refine ⟨0, _, w.1 81 j, _, rfl, ?_, thr0 h _⟩
    rw [mS_ne (by decide), f2]
