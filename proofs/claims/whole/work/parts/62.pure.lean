/-! ===== 30 names, 31 name, 32 wear: a name (62: by wip/gen/p62.txt and fr.py) ===== -/
theorem wrap_e {x : Int32} {N : Nat} (hN : 1 ≤ N ∧ N ≤ 48) (hx : -100000 ≤ x.toInt ∧ x.toInt ≤ 100000) : (if 0 ≤ irm x (nI N) then irm x (nI N) else irm x (nI N) + nI N) = nI (x.toInt % N).toNat := by
  have tN : (nI N).toInt = (N : Int) := nI_toInt (by omega)
  have n1 : nI N ≠ -1 := fun q => by rw [i_eq, tN] at q; simp at q
  have d := Int32.toInt_div_of_ne_right x (nI N) n1
  rw [tN] at d
  have m0 := Int.emod_nonneg x.toInt (b := N) (by omega)
  have m1 := Int.emod_lt_of_pos x.toInt (b := N) (by omega)
  have key : ∃ q : Int, x.toInt.tdiv N = q ∧ -100000 ≤ q * N ∧ q * N ≤ 100000 ∧ (0 ≤ x.toInt - q * N → x.toInt - q * N = x.toInt % N) ∧ (x.toInt - q * N < 0 → x.toInt - q * N + N = x.toInt % N) ∧ -100000 ≤ q ∧ q ≤ 100000 := by
    rcases Int.le_total 0 x.toInt with c | c
    · have e : x.toInt.tdiv N = x.toInt / N := Int.tdiv_eq_ediv_of_nonneg c
      have a1 := Int.emod_add_ediv_mul x.toInt N
      have a2 : 0 ≤ x.toInt / N := Int.ediv_nonneg c (by omega)
      have a3 : x.toInt / N ≤ x.toInt := Int.ediv_le_self _ c
      refine ⟨x.toInt / N, e, by omega, by omega, by omega, by omega, by omega, by omega⟩
    · have u1 : x.toInt.tdiv N = -((-x.toInt).tdiv N) := by rw [Int.neg_tdiv, Int.neg_neg]
      have u2 : (-x.toInt).tdiv N = -x.toInt / N := Int.tdiv_eq_ediv_of_nonneg (by omega)
      have a1 := Int.emod_add_ediv_mul (-x.toInt) N
      have a2 : 0 ≤ -x.toInt / N := Int.ediv_nonneg (by omega) (by omega)
      have a3 : -x.toInt / N ≤ -x.toInt := Int.ediv_le_self _ (by omega)
      have b0 := Int.emod_nonneg (-x.toInt) (b := N) (by omega)
      have b1 := Int.emod_lt_of_pos (-x.toInt) (b := N) (by omega)
      have e : -(-x.toInt / N) * N = -(-x.toInt / N * N) := by rw [Int.neg_mul]
      refine ⟨-(-x.toInt / N), by rw [u1, u2], by omega, by omega, fun z => ?_, fun z => ?_, by omega, by omega⟩
      · have z0 : -x.toInt % N = 0 := by omega
        have := (Int.ediv_emod_unique (a := x.toInt) (b := N) (r := 0) (q := -(-x.toInt / N)) (by omega)).mpr ⟨by rw [Int.mul_comm]; omega, by omega, by omega⟩
        omega
      · have := (Int.ediv_emod_unique (a := x.toInt) (b := N) (r := N - -x.toInt % N) (q := -(-x.toInt / N) - 1) (by omega)).mpr ⟨by rw [Int.mul_comm, Int.sub_mul, Int.one_mul]; omega, by omega, by omega⟩
        omega
  obtain ⟨q, q1, q2, q3, q4, q5, q6, q7⟩ := key
  rw [q1] at d
  have mm : (x / nI N * nI N).toInt = q * N := by rw [i_mul, d, tN] <;> rw [d, tN] <;> omega
  have r : (irm x (nI N)).toInt = x.toInt - q * N := by
    unfold irm
    rw [i_sub (by rw [mm]; omega) (by rw [mm]; omega), mm]
  by_cases c : 0 ≤ irm x (nI N)
  · rw [if_pos c, i_eq, r, nI_toInt (by omega)]
    rw [i_le, r] at c
    have := q4 (by simpa using c)
    omega
  · rw [if_neg c, i_eq, nI_toInt (by omega)]
    rw [i_le, r] at c
    have z : x.toInt - q * N < 0 := by simp at c; omega
    have := q5 z
    rw [i_add (by rw [r, tN]; omega) (by rw [r, tN]; omega), r, tN]
    omega
/-- the place of the i-th reading -/
def jz (N a : Nat) (wy : Int) (i : Nat) : Nat := (((a : Int) + wy * i) % N).toNat
theorem jz_b {N a : Nat} (hN : 1 ≤ N) (wy : Int) (i : Nat) : jz N a wy i < N := by
  unfold jz
  have m0 := Int.emod_nonneg ((a : Int) + wy * i) (b := N) (by omega)
  have m1 := Int.emod_lt_of_pos ((a : Int) + wy * i) (b := N) (by omega)
  omega
theorem jz_0 {N a : Nat} (ha : a < N) (wy : Int) : jz N a wy 0 = a := by
  unfold jz
  rw [show (a : Int) + wy * ((0 : Nat) : Int) = a by simp, Int.emod_eq_of_lt (by omega) (by omega)]; omega
theorem jz_s {N a : Nat} (hN : 1 ≤ N) {wy : Int} (hw : wy = 1 ∨ wy = -1) (i : Nat) : (jz N a wy (i + 1) : Int) = if 0 ≤ (jz N a wy i : Int) + wy then (if (jz N a wy i : Int) + wy < N then (jz N a wy i : Int) + wy else 0) else N - 1 := by
  unfold jz
  have m0 := Int.emod_nonneg ((a : Int) + wy * i) (b := N) (by omega)
  have m1 := Int.emod_lt_of_pos ((a : Int) + wy * i) (b := N) (by omega)
  have e0 := Int.emod_add_mul_ediv ((a : Int) + wy * i) N
  have ex : (a : Int) + wy * ((i + 1 : Nat) : Int) = (a : Int) + wy * i + wy := by
    rw [show ((i + 1 : Nat) : Int) = (i : Int) + 1 by omega, Int.mul_add, Int.mul_one]; omega
  rw [ex]
  have n0 := Int.emod_nonneg ((a : Int) + wy * i + wy) (b := N) (by omega)
  have un := fun (r q : Int) (h : r + N * q = (a : Int) + wy * i + wy) (h1 : 0 ≤ r) (h2 : r < N) => ((Int.ediv_emod_unique (a := (a : Int) + wy * i + wy) (b := N) (r := r) (q := q) (by omega)).mpr ⟨h, h1, h2⟩).2
  rw [show ((((a : Int) + wy * i) % N).toNat : Int) = ((a : Int) + wy * i) % N by omega, show ((((a : Int) + wy * i + wy) % N).toNat : Int) = ((a : Int) + wy * i + wy) % N by omega]
  split
  · split
    · exact un _ (((a : Int) + wy * i) / N) (by omega) (by omega) (by omega)
    · refine un _ (((a : Int) + wy * i) / N + 1) ?_ (by omega) (by omega)
      rw [Int.mul_add, Int.mul_one]; omega
  · refine un _ (((a : Int) + wy * i) / N - 1) ?_ (by omega) (by omega)
    rw [Int.mul_sub, Int.mul_one]; omega
def tst (sw : Nat → Int32) (rd : Nat → Int64) (t s N a : Nat) (wy : Int) (wear : Int32) (i : Nat) : Bool := decide ((rd (400*t+i)).toInt32 = -128) || (decide (sw (48*s+jz N a wy i) - wear ≤ (rd (400*t+i)).toInt32) && decide ((rd (400*t+i)).toInt32 ≤ sw (48*s+jz N a wy i)))
def nmB (sw : Nat → Int32) (rd : Nat → Int64) (t T s N a : Nat) (wy : Int) (wear : Int32) : Bool := (List.range T).all (tst sw rd t s N a wy wear)
def wyI (wy : Int) : Int32 := if wy = 1 then 1 else -1
theorem nmC_L {w : Mem} {sw : Nat → Int32} {rd : Nat → Int64} {t T s N a : Nat} {wy : Int} {wear : Int32} (hw : wy = 1 ∨ wy = -1) (hN : 1 ≤ N ∧ N ≤ 48) (hT : T ≤ 48) (eT : w.1 (48+2*t) 3 = nI T) (eR : ∀ j, j < 400 → w.2 (49+2*t) j = rd (400*t+j)) (eN : w.1 (3*s) 2 = nI N) (eS : ∀ j, j < N → w.1 (3*s+1) j = sw (48*s+j)) : ∀ (k i m : Nat), i + k = T → k < m → ((∀ u, i ≤ u → u < T → tst sw rd t s N a wy wear u = true) ∧ f_X7_isNamed_L6 w t s (wyI wy) wear m (nI (jz N a wy i)) (nI i) = some (.inr ())) ∨ ((∃ u, i ≤ u ∧ u < T ∧ ¬ tst sw rd t s N a wy wear u = true) ∧ f_X7_isNamed_L6 w t s (wyI wy) wear m (nI (jz N a wy i)) (nI i) = some (.inl 0)) := by
  intro k
  induction k with
  | zero =>
    intro i m hi hm
    obtain ⟨m, rfl⟩ : ∃ q, m = q + 1 := ⟨m - 1, by omega⟩
    refine Or.inl ⟨fun u h1 h2 => by omega, ?_⟩
    rw [f_X7_isNamed_L6_s, eT, if_pos (by rw [nI_leI (by omega) (by omega)]; omega)]
  | succ k ih =>
    intro i m hi hm
    obtain ⟨m, rfl⟩ : ∃ q, m = q + 1 := ⟨m - 1, by omega⟩
    have jb := jz_b (a := a) hN.1 wy i
    have jb1 := jz_b (a := a) hN.1 wy (i + 1)
    have js := jz_s (a := a) hN.1 hw i
    have cont : (lt (nI (jz N a wy i) + wyI wy : Int32) fun v_11 =>
        lt (if 0 ≤ v_11 then (if v_11 < nI N then v_11 else 0) else (nI N - 1) : Int32) fun v_12 =>
        lt (nI i + 1 : Int32) fun x6_14 =>
        f_X7_isNamed_L6 w t s (wyI wy) wear m v_12 x6_14) = f_X7_isNamed_L6 w t s (wyI wy) wear m (nI (jz N a wy (i + 1))) (nI (i + 1)) := by
      have tw : (wyI wy).toInt = wy := by
        unfold wyI; rcases hw with rfl | rfl <;> rfl
      have tv : (nI (jz N a wy i) + wyI wy).toInt = (jz N a wy i : Int) + wy := by
        rw [i_add (by rw [nI_toInt (by omega), tw]; omega) (by rw [nI_toInt (by omega), tw]; omega), nI_toInt (by omega), tw]
      rw [lt_e, lt_e, lt_e, nI_s]
      congr 1
      rw [i_eq, nI_toInt (n := jz N a wy (i + 1)) (by omega), js]
      by_cases c1 : 0 ≤ (jz N a wy i : Int) + wy
      · rw [if_pos c1, if_pos (by rw [i_le, tv]; simpa using c1)]
        by_cases c2 : (jz N a wy i : Int) + wy < N
        · rw [if_pos c2, if_pos (by rw [i_lt, tv, nI_toInt (by omega)]; exact c2), tv]
        · rw [if_neg c2, if_neg (by rw [i_lt, tv, nI_toInt (by omega)]; exact c2)]; rfl
      · rw [if_neg c1, if_neg (by rw [i_le, tv]; simpa using c1), nI_pr (by omega), nI_toInt (by omega)]; omega
    have C : f_X7_isNamed_L6 w t s (wyI wy) wear (m + 1) (nI (jz N a wy i)) (nI i) = if tst sw rd t s N a wy wear i = true then f_X7_isNamed_L6 w t s (wyI wy) wear m (nI (jz N a wy (i + 1))) (nI (i + 1)) else some (.inl 0) := by
      rw [f_X7_isNamed_L6_s, eT, if_neg (by rw [nI_leI (by omega) (by omega)]; omega), gd_t (inb_nI (by omega) (by omega)), lt_e, lt_e, gd_t (inb_nI (by omega) (by omega)), lt_e, nI_clamp (n := i) (by omega), nI_clamp (n := jz N a wy i) (by omega), eR i (by omega), eS _ jb, lt_e, eN, cont]
      unfold tst
      by_cases c1 : (rd (400*t+i)).toInt32 = -128
      · rw [if_pos c1, if_pos (by simp [c1])]
      · rw [if_neg c1]
        by_cases c2 : (rd (400*t+i)).toInt32 < sw (48*s+jz N a wy i) - wear
        · have c2' : ¬ sw (48*s+jz N a wy i) - wear ≤ (rd (400*t+i)).toInt32 := by rw [i_le]; rw [i_lt] at c2; omega
          rw [if_pos c2, if_neg (by simp [c1, c2'])]
        · have c2' : sw (48*s+jz N a wy i) - wear ≤ (rd (400*t+i)).toInt32 := by rw [i_le]; rw [i_lt] at c2; omega
          rw [if_neg c2]
          by_cases c3 : (rd (400*t+i)).toInt32 ≤ sw (48*s+jz N a wy i)
          · rw [if_pos c3, if_pos (by simp [c1, c2', c3])]
          · rw [if_neg c3, if_neg (by simp [c1, c3])]
    rw [C]
    by_cases c : tst sw rd t s N a wy wear i = true
    · rw [if_pos c]
      rcases ih (i + 1) m (by omega) (by omega) with ⟨g1, g2⟩ | ⟨⟨u, g1, g3, g4⟩, g2⟩
      · refine Or.inl ⟨fun u h1 h2 => ?_, g2⟩
        by_cases d : u = i
        · subst d; exact c
        · exact g1 u (by omega) h2
      · exact Or.inr ⟨⟨u, by omega, g3, g4⟩, g2⟩
    · rw [if_neg c]
      exact Or.inr ⟨⟨i, by omega, by omega, c⟩, rfl⟩
theorem nmB_t {sw : Nat → Int32} {rd : Nat → Int64} {t T s N a : Nat} {wy : Int} {wear : Int32} : nmB sw rd t T s N a wy wear = true ↔ ∀ u, u < T → tst sw rd t s N a wy wear u = true := by
  unfold nmB
  rw [List.all_eq_true]
  exact ⟨fun h u hu => h u (List.mem_range.mpr hu), fun h u hu => h u (List.mem_range.mp hu)⟩
theorem nmC {w : Mem} {sw : Nat → Int32} {rd : Nat → Int64} {t T s N a : Nat} {wy : Int} {wear : Int32} (hw : wy = 1 ∨ wy = -1) (ha : a < N) (hN : N ≤ 48) (hT : T ≤ 48) (eT : w.1 (48+2*t) 3 = nI T) (eR : ∀ j, j < 400 → w.2 (49+2*t) j = rd (400*t+j)) (eN : w.1 (3*s) 2 = nI N) (eS : ∀ j, j < N → w.1 (3*s+1) j = sw (48*s+j)) : f_X7_isNamed t s (nI a) (wyI wy) wear w = some (if nmB sw rd t T s N a wy wear = true then 1 else 0) := by
  unfold f_X7_isNamed
  have g := nmC_L (a := a) (wear := wear) hw (show 1 ≤ N ∧ N ≤ 48 by omega) hT eT eR eN eS T 0 FU (by omega) (by unfold FU; omega)
  rw [jz_0 ha] at g
  rcases g with ⟨g1, g2⟩ | ⟨⟨u, g1, g3, g4⟩, g2⟩
  · rw [show f_X7_isNamed_L6 w t s (wyI wy) wear FU (nI a) 0 = f_X7_isNamed_L6 w t s (wyI wy) wear FU (nI a) (nI 0) from rfl, g2, if_pos (nmB_t.mpr (fun u hu => g1 u (by omega) hu))]; rfl
  · rw [show f_X7_isNamed_L6 w t s (wyI wy) wear FU (nI a) 0 = f_X7_isNamed_L6 w t s (wyI wy) wear FU (nI a) (nI 0) from rfl, g2, if_neg (fun z => g4 (nmB_t.mp z u g3))]; rfl
theorem nmM_L {v : Mem} {t T s N a : Nat} {wy : Int} {wear : Int32} (hw : wy = 1 ∨ wy = -1) (ha : a < N) (hN : N ≤ 48) (hT : T ≤ 48) (ht : t < 6) (hs : s < 8) (eT : v.1 16 t = nI T) : ∀ (k i m : Nat), i + k = T → k < m → ((∀ u, i ≤ u → u < T → tst (v.1 4) (v.2 17) t s N a wy wear u = true) ∧ f_X11_isNamed_L11 v (nI t) wear (nI s) (wyI wy) (nI a) (nI N) m (nI i) = some (.inr ())) ∨ ((∃ u, i ≤ u ∧ u < T ∧ ¬ tst (v.1 4) (v.2 17) t s N a wy wear u = true) ∧ f_X11_isNamed_L11 v (nI t) wear (nI s) (wyI wy) (nI a) (nI N) m (nI i) = some (.inl 0)) := by
  intro k
  induction k with
  | zero =>
    intro i m hi hm
    obtain ⟨m, rfl⟩ : ∃ q, m = q + 1 := ⟨m - 1, by omega⟩
    refine Or.inl ⟨fun u h1 h2 => by omega, ?_⟩
    rw [f_X11_isNamed_L11_s, gd_t (inb_nI ht (by omega)), nI_clamp (n := t) (by omega), eT, if_pos (by rw [nI_leI (by omega) (by omega)]; omega)]
  | succ k ih =>
    intro i m hi hm
    obtain ⟨m, rfl⟩ : ∃ q, m = q + 1 := ⟨m - 1, by omega⟩
    have jb := jz_b (N := N) (a := a) (by omega) wy i
    have tw : (wyI wy).toInt = wy := by
      unfold wyI; rcases hw with rfl | rfl <;> rfl
    have wb1 : -48 ≤ wy * (i : Int) ∧ wy * (i : Int) ≤ 48 := by rcases hw with rfl | rfl <;> omega
    have tm : (wyI wy * nI i).toInt = wy * (i : Int) := by
      rw [i_mul (by rw [tw, nI_toInt (by omega)]; omega) (by rw [tw, nI_toInt (by omega)]; omega), tw, nI_toInt (by omega)]
    have tx : (nI a + wyI wy * nI i).toInt = (a : Int) + wy * i := by
      rw [i_add (by rw [tm, nI_toInt (by omega)]; omega) (by rw [tm, nI_toInt (by omega)]; omega), tm, nI_toInt (by omega)]
    have we := wrap_e (x := nI a + wyI wy * nI i) (N := N) (by omega) (by rw [tx]; omega)
    rw [tx] at we
    have we' : (if 0 ≤ irm (nI a + wyI wy * nI i) (nI N) then irm (nI a + wyI wy * nI i) (nI N) else irm (nI a + wyI wy * nI i) (nI N) + nI N) = nI (jz N a wy i) := we
    have M : f_X11_isNamed_L11 v (nI t) wear (nI s) (wyI wy) (nI a) (nI N) (m + 1) (nI i) = if tst (v.1 4) (v.2 17) t s N a wy wear i = true then f_X11_isNamed_L11 v (nI t) wear (nI s) (wyI wy) (nI a) (nI N) m (nI (i + 1)) else some (.inl 0) := by
      rw [f_X11_isNamed_L11_s, gd_t (inb_nI ht (by omega)), nI_clamp (n := t) (by omega), eT, if_neg (by rw [nI_leI (by omega) (by omega)]; omega), ix400, gd_t (inb_nI (by omega) (by omega)), lt_e, lt_e, gd_t (nz (n := N) (by omega) (by omega)), lt_e, lt_e, we', ix48, gd_t (inb_nI (by omega) (by omega)), lt_e, nI_clamp (n := 400*t+i) (by omega), nI_clamp (n := 48*s+jz N a wy i) (by omega), lt_e, nI_s, in_eq, bd_s]
      unfold tst
      by_cases c1 : (v.2 17 (400*t+i)).toInt32 = -128
      · rw [if_pos c1, if_pos (by simp [c1])]
      · rw [if_neg c1]
        by_cases c2 : v.1 4 (48*s+jz N a wy i) - wear ≤ (v.2 17 (400*t+i)).toInt32 ∧ (v.2 17 (400*t+i)).toInt32 ≤ v.1 4 (48*s+jz N a wy i)
        · rw [if_pos c2, if_neg one_ne, if_pos (by simp [c1, c2])]
        · rw [if_neg c2, if_pos rfl, if_neg (by simp only [Bool.or_eq_true, Bool.and_eq_true, decide_eq_true_eq]; rintro (z | z); exact c1 z; exact c2 z)]
    rw [M]
    by_cases c : tst (v.1 4) (v.2 17) t s N a wy wear i = true
    · rw [if_pos c]
      rcases ih (i + 1) m (by omega) (by omega) with ⟨g1, g2⟩ | ⟨⟨u, g1, g3, g4⟩, g2⟩
      · refine Or.inl ⟨fun u h1 h2 => ?_, g2⟩
        by_cases d : u = i
        · subst d; exact c
        · exact g1 u (by omega) h2
      · exact Or.inr ⟨⟨u, by omega, g3, g4⟩, g2⟩
    · rw [if_neg c]
      exact Or.inr ⟨⟨i, by omega, by omega, c⟩, rfl⟩
theorem nmM {v : Mem} {t T s N a : Nat} {wy : Int} {wear : Int32} (hw : wy = 1 ∨ wy = -1) (ha : a < N) (hN : N ≤ 48) (hT : T ≤ 48) (ht : t < 6) (hs : s < 8) (eT : v.1 16 t = nI T) (eN : v.1 3 s = nI N) : f_X11_isNamed (nI t) wear (nI s) (wyI wy) (nI a) v = some (if nmB (v.1 4) (v.2 17) t T s N a wy wear = true then 1 else 0) := by
  unfold f_X11_isNamed
  rw [gd_t (inb_nI (by omega) (by omega)), lt_e, nI_clamp (n := s) (by omega), eN]
  rcases nmM_L (a := a) (wear := wear) hw ha hN hT ht hs eT T 0 FU (by omega) (by unfold FU; omega) with ⟨g1, g2⟩ | ⟨⟨u, g1, g3, g4⟩, g2⟩
  · rw [show f_X11_isNamed_L11 v (nI t) wear (nI s) (wyI wy) (nI a) (nI N) FU 0 = f_X11_isNamed_L11 v (nI t) wear (nI s) (wyI wy) (nI a) (nI N) FU (nI 0) from rfl, g2, if_pos (nmB_t.mpr (fun u hu => g1 u (by omega) hu))]; rfl
  · rw [show f_X11_isNamed_L11 v (nI t) wear (nI s) (wyI wy) (nI a) (nI N) FU 0 = f_X11_isNamed_L11 v (nI t) wear (nI s) (wyI wy) (nI a) (nI N) FU (nI 0) from rfl, g2, if_neg (fun z => g4 (nmB_t.mp z u g3))]; rfl
