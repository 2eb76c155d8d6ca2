/-! ===== 14 hem, 15 fed, 16 meets, 17 feeds, 18 judge: what is common (52: by wip/gen/p52.txt and fr.py) ===== -/
theorem rem_e {a n : Nat} (ha : a < 2147483648) (h0 : 0 < n) (hn : n < 2147483648) : irm (nI a) (nI n) = nI (a % n) := by
  unfold irm; exact pk_rem ha h0 hn
def HM (w v : Mem) (i n S L : Nat) : Prop := i < 8 ∧ (1 ≤ n ∧ n ≤ 48) ∧ v.1 3 14 = nI n ∧ w.1 (3*14) 2 = nI n ∧ (1 ≤ S ∧ S ≤ 999) ∧ (1 ≤ L ∧ L ≤ 576) ∧ v.1 6 i = nI S ∧ f_X11_lengthOf 14 v = some (nI L) ∧ w.1 72 3 = nI S - nI (hemR S L) * nI L ∧ w.1 72 4 = nI (hemR S L * n) ∧ ∀ j, j < n → w.1 (3*14+2) j = v.1 5 (672+j) ∧ ir 12 (v.1 5 (672+j))
theorem rest_b {S L : Nat} (hS : 1 ≤ S ∧ S ≤ 999) (hL : 1 ≤ L ∧ L ≤ 576) : ∃ z : Int, (nI S - nI (hemR S L) * nI L).toInt = z ∧ z.natAbs ≤ 575 ∧ 1 ≤ hemR S L ∧ hemR S L ≤ 999 := by
  have h1 := (hemR_ok hS.1 hL.1).1
  have b := mulb (x := hemR S L) (by omega) hL.2
  refine ⟨(S : Int) - (hemR S L * L : Nat), ?_, ?_, by omega, by omega⟩
  · rw [pk_mul, i_sub (by rw [nI_toInt (by omega), nI_toInt (by omega)]; omega) (by rw [nI_toInt (by omega), nI_toInt (by omega)]; omega), nI_toInt (by omega), nI_toInt (by omega)]
  · have q1 : S / L * L ≤ S := Nat.div_mul_le_self S L
    have q2 : S < S / L * L + L := by have := Nat.lt_div_mul_add (a := S) (b := L) (by omega); omega
    have q3 : (S / L + 1) * L = S / L * L + L := Nat.succ_mul _ _
    unfold hemR
    split
    · omega
    · split
      · omega
      · omega
theorem mo {rst : Int32} {z : Int} {A j : Nat} (hr : rst.toInt = z) (hz : z.natAbs ≤ 575) (hA : 1 ≤ A ∧ A ≤ 47952) (hj : j < A) : ∃ a b, f_J9_floorDiv_7cf53 (rst * nI (j+1)) (nI A) = some a ∧ f_J9_floorDiv_7cf53 (rst * nI j) (nI A) = some b ∧ f_X11_more rst (nI j) (nI A) = some (a - b) ∧ (a - b).toInt = dif z A j ∧ ∀ f : Int32, ir 12 f → f + a - b = f + (a - b) ∧ (f + (a - b)).toInt = f.toInt + dif z A j := by
  have pb : ∀ t : Nat, t ≤ 47952 → -27572400 ≤ z * (t : Int) ∧ z * (t : Int) ≤ 27572400 := by
    intro t ht
    have a := Int.mul_le_mul_of_nonneg_right (a := z) (b := 575) (c := (t : Int)) (by omega) (by omega)
    have b := Int.mul_le_mul_of_nonneg_right (a := -575) (b := z) (c := (t : Int)) (by omega) (by omega)
    omega
  have eA : (nI A).toInt = A := nI_toInt (by omega)
  have c1 := pb (j+1) (by omega)
  have c2 := pb j (by omega)
  rw [show ((j+1 : Nat) : Int) = (j : Int) + 1 by omega] at c1
  have t1 : (nI (j+1)).toInt = (j : Int) + 1 := by rw [nI_toInt (by omega)]; omega
  have t2 : (nI j).toInt = (j : Int) := nI_toInt (by omega)
  have p1 : (rst * nI (j+1)).toInt = z * ((j : Int) + 1) := by
    rw [i_mul (by rw [hr, t1]; omega) (by rw [hr, t1]; omega), hr, t1]
  have p2 : (rst * nI j).toInt = z * (j : Int) := by
    rw [i_mul (by rw [hr, t2]; omega) (by rw [hr, t2]; omega), hr, t2]
  obtain ⟨a, a1, a2, a3⟩ := flo (x := rst * nI (j+1)) (y := nI A) (by rw [eA]; omega) (by rw [p1]; omega)
  obtain ⟨b, b1, b2, b3⟩ := flo (x := rst * nI j) (y := nI A) (by rw [eA]; omega) (by rw [p2]; omega)
  rw [p1, eA] at a3
  rw [p2, eA] at b3
  have dl := dif_le z hA.1 j
  have cb := chg_b z hA.1
  have d : a.toInt - b.toInt = dif z A j := by rw [a3, b3]; rfl
  have ab : (a - b).toInt = dif z A j := by rw [i_sub (by omega) (by omega), d]
  refine ⟨a, b, a2, b2, ?_, ab, fun f hf => ⟨?_, ?_⟩⟩
  · unfold f_X11_more; rw [nI_1, a1, bd_s, b1, bd_s]
  · rw [Int32.sub_eq_add_neg, Int32.sub_eq_add_neg, Int32.add_assoc]
  · unfold ir at hf
    rw [i_add (by rw [ab]; omega) (by rw [ab]; omega), ab]
/-- the feed of a side's t-th stitch -/
def fv (v : Mem) (z : Int) (A n t : Nat) : Int := (v.1 5 (672 + t % n)).toInt + dif z A t
theorem spr_e {w : Mem} {rst : Int32} {A : Nat} (hA : 1 ≤ A ∧ A ≤ 47952) (e3 : w.1 72 3 = rst) (e4 : w.1 72 4 = nI A) {x r : Int32} (h : f_J9_floorDiv_7cf53 (rst * x) (nI A) = some r) : f_X3_spread x w = some r := by
  unfold f_X3_spread
  rw [e3, e4, if_pos (by rw [i_le, nI_toInt (by omega)]; simp; omega), h]; rfl
theorem HM_A {S L n : Nat} (hS : 1 ≤ S ∧ S ≤ 999) (hL : 1 ≤ L ∧ L ≤ 576) (hn : 1 ≤ n ∧ n ≤ 48) : 1 ≤ hemR S L * n ∧ hemR S L * n ≤ 47952 := by
  obtain ⟨z', y1, y2, y3, y4⟩ := rest_b hS hL
  exact ⟨Nat.mul_pos (by omega) (by omega), by have := Nat.mul_le_mul y4 hn.2; omega⟩
theorem i672 (k : Nat) : (672 : Int32) + nI k = nI (672 + k) := by rw [nI_lit 672, nI_add]
theorem g14 : inb 14 15 = true := by decide
theorem z14 : (14 : Int32).toNatClampNeg = 14 := rfl
theorem nz {n : Nat} (h : 1 ≤ n) (h2 : n < 2147483648) : ¬ nI n = 0 := nI_ne (a := n) (b := 0) h2 (by omega) (by omega)
theorem restOf_e {w v : Mem} {i n S L : Nat} (h : HM w v i n S L) : f_X11_restOf (nI i) v = some (nI S - nI (hemR S L) * nI L) := by
  obtain ⟨hi, hn, e1, e2, hS, hL, e3, e4, e5, e6, e7⟩ := h
  unfold f_X11_restOf
  rw [gd_t (inb_nI hi (by omega)), rounds_e hi hS hL e3 e4, bd_s, e4, bd_s, lt_e, nI_clamp (by omega), e3]
theorem fe {w v : Mem} {i n S L : Nat} (h : HM w v i n S L) {z : Int} (hz : (nI S - nI (hemR S L) * nI L).toInt = z) (hz2 : z.natAbs ≤ 575) {j : Nat} (hj : j < hemR S L * n) : ∃ r, f_X3_feedOf 14 (nI j) w = some r ∧ f_X11_fedAt (nI i) (nI j) v = some r ∧ r.toInt = fv v z (hemR S L * n) n j := by
  have ro := restOf_e h
  obtain ⟨hi, hn, e1, e2, hS, hL, e3, e4, e5, e6, e7⟩ := h
  have hA := HM_A hS hL hn
  obtain ⟨a, b, m1, m2, m3, m4, m5⟩ := mo hz hz2 hA hj
  have jm : j % n < n := Nat.mod_lt _ (by omega)
  obtain ⟨q1, q2⟩ := e7 (j % n) jm
  have rd := rounds_e hi hS hL e3 e4
  obtain ⟨k1, k2⟩ := m5 _ q2
  refine ⟨_, ?_, ?_, k2⟩
  · unfold f_X3_feedOf
    rw [e2, if_pos (by rw [i_le, nI_toInt (by omega)]; simp; omega), gd_t (nz hn.1 (by omega)), lt_e, rem_e (by omega) (by omega) (by omega), gd_t (inb_nI (by omega) (by omega)), lt_e, nI_clamp (by omega), nI_1, spr_e hA e5 e6 m1, bd_s, spr_e hA e5 e6 m2, bd_s, q1, k1]
  · unfold f_X11_fedAt
    rw [gd_t g14, lt_e, z14, e1, gd_t (nz hn.1 (by omega)), lt_e, rem_e (by omega) (by omega) (by omega), i672, gd_t (inb_nI (by omega) (by omega)), lt_e, nI_clamp (by omega), ro, bd_s, rd, bd_s, lt_e, pk_mul (a := hemR S L) (b := n), m3, bd_s]
theorem gc_e {w v : Mem} {i n S L : Nat} (h : HM w v i n S L) {z : Int} (hz : (nI S - nI (hemR S L) * nI L).toInt = z) (hz2 : z.natAbs ≤ 575) : ∃ C, f_X3_greatestChange w = some C ∧ C.toInt = chg z (hemR S L * n) := by
  obtain ⟨hi, hn, e1, e2, hS, hL, e3, e4, e5, e6, e7⟩ := h
  have hA := HM_A hS hL hn
  have ea : iabs (nI S - nI (hemR S L) * nI L) = nI z.natAbs := by
    rw [i_eq, iabs_t (by rw [hz]; omega), hz, nI_toInt (by omega)]
  have el : (z.natAbs + hemR S L * n - 1) / (hemR S L * n) ≤ z.natAbs + hemR S L * n - 1 := Nat.div_le_self _ _
  refine ⟨nI ((z.natAbs + hemR S L * n - 1) / (hemR S L * n)), ?_, ?_⟩
  · unfold f_X3_greatestChange
    rw [e6, e5, if_pos (by rw [i_le, nI_toInt (by omega)]; simp; omega), lt_e, gd_t (nz hA.1 (by omega)), lt_e, ea, nI_add, nI_pr (by omega), pk_div (by omega) (by omega) (by omega)]
  · rw [nI_toInt (by omega), Int.natCast_ediv]
    unfold chg
    congr 1
    omega
def okf (v : Mem) (z : Int) (A n t : Nat) : Prop := -12 ≤ fv v z A n t ∧ fv v z A n t ≤ 12
theorem fits_L {w v : Mem} {i n S L : Nat} (h : HM w v i n S L) {z : Int} (hz : (nI S - nI (hemR S L) * nI L).toInt = z) (hz2 : z.natAbs ≤ 575) : ∀ (k j m : Nat), j + k = hemR S L * n → k < m → ((∀ t, j ≤ t → t < hemR S L * n → okf v z (hemR S L * n) n t) ∧ f_X3_fits_L2 w 14 m (nI j) = some (.inr ())) ∨ ((∃ t, j ≤ t ∧ t < hemR S L * n ∧ ¬ okf v z (hemR S L * n) n t) ∧ f_X3_fits_L2 w 14 m (nI j) = some (.inl 0)) := by
  have h0 := h
  obtain ⟨hi, hn, e1, e2, hS, hL, e3, e4, e5, e6, e7⟩ := h
  have hA := HM_A hS hL hn
  intro k
  induction k with
  | zero =>
    intro j m hj hm
    obtain ⟨m, rfl⟩ : ∃ q, m = q + 1 := ⟨m - 1, by omega⟩
    refine Or.inl ⟨fun t h1 h2 => by omega, ?_⟩
    rw [f_X3_fits_L2_s, e6, if_pos (by rw [nI_leI (by omega) (by omega)]; omega)]
  | succ k ih =>
    intro j m hj hm
    obtain ⟨m, rfl⟩ : ∃ q, m = q + 1 := ⟨m - 1, by omega⟩
    obtain ⟨r, f1, f2, f3⟩ := fe h0 hz hz2 (j := j) (by omega)
    rw [f_X3_fits_L2_s, e6, if_neg (by rw [nI_leI (by omega) (by omega)]; omega), f1, bd_s, wi_eq _ 12 (by decide)]
    rcases in_c r (-12) 12 with ⟨q, k1⟩ | ⟨q, k1⟩
    · rw [q, bd_s, if_neg one_ne, lt_e, nI_s]
      rw [f3] at k1
      rcases ih (j + 1) m (by omega) (by omega) with ⟨g1, g2⟩ | ⟨⟨t, g1, g3, g4⟩, g2⟩
      · refine Or.inl ⟨fun t h1 h2 => ?_, g2⟩
        by_cases c : t = j
        · subst c; exact k1
        · exact g1 t (by omega) h2
      · exact Or.inr ⟨⟨t, by omega, g3, g4⟩, g2⟩
    · rw [q, bd_s, if_pos rfl]
      rw [f3] at k1
      exact Or.inr ⟨⟨j, by omega, by omega, k1⟩, rfl⟩
theorem look_s {v : Mem} {rst : Int32} {A n j m : Nat} {x5 x6 d : Int32} (hn : 1 ≤ n ∧ n ≤ 48) (e : v.1 3 14 = nI n) (hA : A ≤ 47952) (hj : j < A) (dm : f_X11_more rst (nI j) (nI A) = some d) : f_X11_looksAt_L30 v (nI A) rst (m + 1) x5 x6 (nI j) = f_X11_looksAt_L30 v (nI A) rst m (if x5 = 0 then 0 else if -12 ≤ (v.1 5 (672+j%n) + d).toInt ∧ (v.1 5 (672+j%n) + d).toInt ≤ 12 then 1 else 0) (if iabs d ≤ x6 then x6 else iabs d) (nI (j+1)) := by
  have jm : j % n < n := Nat.mod_lt _ (by omega)
  have tail : ∀ t : Int32, (bd (f_X11_away d) fun r_17 =>
        if r_17 ≤ x6 then
          (lt (nI j + 1 : Int32) fun x7_20 =>
          f_X11_looksAt_L30 v (nI A) rst m t x6 x7_20)
        else
          (bd (f_X11_away d) fun r_21 =>
          lt (nI j + 1 : Int32) fun x7_23 =>
          f_X11_looksAt_L30 v (nI A) rst m t r_21 x7_23)) = f_X11_looksAt_L30 v (nI A) rst m t (if iabs d ≤ x6 then x6 else iabs d) (nI (j+1)) := by
    intro t
    rw [away_e, bd_s, bd_s, lt_e, lt_e, nI_s]
    by_cases c : iabs d ≤ x6
    · rw [if_pos c, if_pos c]
    · rw [if_neg c, if_neg c]
  rw [f_X11_looksAt_L30_s, if_neg (by rw [nI_leI (by omega) (by omega)]; omega), dm, bd_s, lt_e]
  by_cases c : x5 = 0
  · rw [if_pos c, if_pos c]; exact tail 0
  · rw [if_neg c, if_neg c, lt_e, z14, e, gd_t (nz hn.1 (by omega)), lt_e, rem_e (by omega) (by omega) (by omega), i672, gd_t (inb_nI (by omega) (by omega)), lt_e, nI_clamp (by omega)]
    rcases in_c (v.1 5 (672+j%n) + d) (-12) 12 with ⟨q, k1⟩ | ⟨q, k1⟩
    · rw [q, bd_s, if_neg one_ne, if_pos (by simpa using k1)]; exact tail 1
    · rw [q, bd_s, if_pos rfl, if_neg (by simpa using k1)]; exact tail 0
theorem look_L {w v : Mem} {i n S L : Nat} (h : HM w v i n S L) {z : Int} (hz : (nI S - nI (hemR S L) * nI L).toInt = z) (hz2 : z.natAbs ≤ 575) : ∀ (k j m : Nat) (x5 x6 : Int32), j + k = hemR S L * n → k < m → (x5 = 0 ∨ x5 = 1) → x6.toInt ≤ chg z (hemR S L * n) → ∃ y5 y6, f_X11_looksAt_L30 v (nI (hemR S L * n)) (nI S - nI (hemR S L) * nI L) m x5 x6 (nI j) = some (y5, y6) ∧ (y5 = 0 ∨ y5 = 1) ∧ (y5 = 1 ↔ x5 = 1 ∧ ∀ t, j ≤ t → t < hemR S L * n → okf v z (hemR S L * n) n t) ∧ x6.toInt ≤ y6.toInt ∧ y6.toInt ≤ chg z (hemR S L * n) ∧ ∀ t, j ≤ t → t < hemR S L * n → (dif z (hemR S L * n) t).natAbs ≤ y6.toInt := by
  obtain ⟨hi, hn, e1, e2, hS, hL, e3, e4, e5, e6, e7⟩ := h
  have hA := HM_A hS hL hn
  intro k
  induction k with
  | zero =>
    intro j m x5 x6 hj hm h5 h6
    obtain ⟨m, rfl⟩ : ∃ q, m = q + 1 := ⟨m - 1, by omega⟩
    refine ⟨x5, x6, ?_, h5, ⟨fun q => ⟨q, fun t h1 h2 => by omega⟩, fun q => q.1⟩, by omega, h6, fun t h1 h2 => by omega⟩
    rw [f_X11_looksAt_L30_s, if_pos (by rw [nI_leI (by omega) (by omega)]; omega)]
  | succ k ih =>
    intro j m x5 x6 hj hm h5 h6
    obtain ⟨m, rfl⟩ : ∃ q, m = q + 1 := ⟨m - 1, by omega⟩
    obtain ⟨a, b, m1, m2, m3, m4, m5⟩ := mo hz hz2 hA (j := j) (by omega)
    have jm : j % n < n := Nat.mod_lt _ (by omega)
    obtain ⟨q1, q2⟩ := e7 (j % n) jm
    obtain ⟨k1, k2⟩ := m5 _ q2
    have dl := dif_le z hA.1 j
    have cb := chg_b z hA.1
    have ia : (iabs (a - b)).toInt = ((dif z (hemR S L * n) j).natAbs : Int) := by rw [iabs_t (by omega), m4]
    rw [look_s hn e1 hA.2 (by omega) m3, k2]
    obtain ⟨x5', hx, b5, bi⟩ : ∃ x5' : Int32, x5' = (if x5 = 0 then (0 : Int32) else if -12 ≤ (v.1 5 (672+j%n)).toInt + dif z (hemR S L * n) j ∧ (v.1 5 (672+j%n)).toInt + dif z (hemR S L * n) j ≤ 12 then 1 else 0) ∧ (x5' = 0 ∨ x5' = 1) ∧ (x5' = 1 ↔ x5 = 1 ∧ okf v z (hemR S L * n) n j) := by
      refine ⟨_, rfl, ?_, ?_⟩
      · split
        · exact Or.inl rfl
        · split
          · exact Or.inr rfl
          · exact Or.inl rfl
      · rcases h5 with rfl | rfl
        · rw [if_pos rfl]; exact ⟨fun q => absurd q (by decide), fun q => absurd q.1 (by decide)⟩
        · rw [if_neg one_ne]
          split
          · rename_i q; exact ⟨fun _ => ⟨rfl, q⟩, fun _ => rfl⟩
          · rename_i q; exact ⟨fun p => absurd p (by decide), fun p => absurd p.2 q⟩
    rw [← hx]
    have b6 : (if iabs (a - b) ≤ x6 then x6 else iabs (a - b)).toInt ≤ chg z (hemR S L * n) ∧ x6.toInt ≤ (if iabs (a - b) ≤ x6 then x6 else iabs (a - b)).toInt ∧ ((dif z (hemR S L * n) j).natAbs : Int) ≤ (if iabs (a - b) ≤ x6 then x6 else iabs (a - b)).toInt := by
      split
      · rename_i q; rw [i_le, ia] at q; omega
      · rename_i q; rw [i_le, ia] at q; rw [ia]; omega
    obtain ⟨y5, y6, g1, g2, g3, g4, g5, g6⟩ := ih (j + 1) m _ _ (by omega) (by omega) b5 b6.1
    refine ⟨y5, y6, g1, g2, ?_, by omega, g5, fun t h1 h2 => ?_⟩
    · rw [g3]
      constructor
      · rintro ⟨p1, p2⟩
        have c := bi.mp p1
        refine ⟨c.1, fun t h1 h2 => ?_⟩
        by_cases d : t = j
        · subst d; exact c.2
        · exact p2 t (by omega) h2
      · rintro ⟨p1, p2⟩
        exact ⟨bi.mpr ⟨p1, p2 j (by omega) (by omega)⟩, fun t h1 h2 => p2 t (by omega) h2⟩
    · by_cases d : t = j
      · subst d; omega
      · exact g6 t (by omega) h2
/-- what the reference sees of a side, and the class -/
theorem look {w v : Mem} {i n S L : Nat} (h : HM w v i n S L) : ∃ y C : Int32, (y = 0 ∨ y = 1) ∧ f_X3_greatestChange w = some C ∧ 0 ≤ C.toInt ∧ C.toInt ≤ 575 ∧ f_X3_fits 14 w = some y ∧ ∀ x2, f_X11_looksAt (nI i) x2 v = some (if x2 = 4 then C else if y = 0 then 0 else 1) := by
  have h0 := h
  have ro := restOf_e h
  obtain ⟨hi, hn, e1, e2, hS, hL, e3, e4, e5, e6, e7⟩ := h
  have hA := HM_A hS hL hn
  obtain ⟨z, hz, hz2, y3, y4⟩ := rest_b hS hL
  obtain ⟨C, c1, c2⟩ := gc_e h0 hz hz2
  have cb := chg_b z hA.1
  have rd := rounds_e hi hS hL e3 e4
  obtain ⟨y5, y6, g1, g2, g3, g4, g5, g6⟩ := look_L h0 hz hz2 (hemR S L * n) 0 FU 1 0 (by omega) (by unfold FU; omega) (Or.inr rfl) (by simp; omega)
  obtain ⟨j, j1, j2⟩ := dif_at z hA.1
  have ey : y6 = C := by
    rw [i_eq, c2]
    have := g6 j (by omega) j1
    omega
  subst ey
  refine ⟨y5, y6, g2, c1, by omega, by omega, ?_, fun x2 => ?_⟩
  · unfold f_X3_fits
    rcases fits_L h0 hz hz2 (hemR S L * n) 0 FU (by omega) (by unfold FU; omega) with ⟨f1, f2⟩ | ⟨⟨t, f1, f3, f4⟩, f2⟩
    · rw [show f_X3_fits_L2 w 14 FU 0 = f_X3_fits_L2 w 14 FU (nI 0) from rfl, f2, bd_s, g3.mpr ⟨rfl, f1⟩]; rfl
    · rw [show f_X3_fits_L2 w 14 FU 0 = f_X3_fits_L2 w 14 FU (nI 0) from rfl, f2, bd_s]
      rcases g2 with q | q
      · rw [q]; rfl
      · exact absurd ((g3.mp q).2 t f1 f3) f4
  · unfold f_X11_looksAt
    rw [rd, bd_s, gd_t g14, lt_e, z14, e1, lt_e, pk_mul (a := hemR S L) (b := n), ro, bd_s, show f_X11_looksAt_L30 v (nI (hemR S L * n)) (nI S - nI (hemR S L) * nI L) FU 1 0 0 = f_X11_looksAt_L30 v (nI (hemR S L * n)) (nI S - nI (hemR S L) * nI L) FU 1 0 (nI 0) from rfl, g1]
    rfl
