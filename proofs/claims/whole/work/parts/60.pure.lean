/-! ===== 26 sew (60: by wip/gen/p60.txt and fr.py) ===== -/
def OTH (w v : Mem) : Prop := RD w v ∧ RP w v ∧ RH w v ∧ RB w v ∧ RJ w v ∧ RF w v ∧ RR w v ∧ RT w v
theorem OTH_c {w v w' v' : Mem} (h : OTH w v) (a : ∀ o, o ≠ 74 → o ≠ 79 → o ≠ 80 → o ≠ 81 → w'.1 o = w.1 o) (a2 : w'.2 = w.2) (b : ∀ o, o ≠ 0 → o ≠ 10 → o ≠ 11 → o ≠ 12 → v'.1 o = v.1 o) (b2 : v'.2 = v.2) (c1 : v'.1 0 1 = v.1 0 1) (c4 : v'.1 0 4 = v.1 0 4) (c8 : v'.1 0 8 = v.1 0 8) (c15 : v'.1 0 15 = v.1 0 15) (c22 : v'.1 0 22 = v.1 0 22) (c25 : v'.1 0 25 = v.1 0 25) (hB : RB w' v') : OTH w' v' := by
  obtain ⟨hD, hP, hH, _, hJ, hF, hR, hT⟩ := h
  have k : ∀ o, o < 74 ∨ (74 < o ∧ o < 79) ∨ 81 < o → w'.1 o = w.1 o := fun o p => a o (by omega) (by omega) (by omega) (by omega)
  have l : ∀ o, (0 < o ∧ o < 10) ∨ 12 < o → v'.1 o = v.1 o := fun o p => b o (by omega) (by omega) (by omega) (by omega)
  exact ⟨RD_c hD (fun o ho => k o (by omega)) (l _ (by omega)) (l _ (by omega)) (l _ (by omega)), RP_c hP (k _ (by omega)) (k _ (by omega)) (k _ (by omega)) c1 c4 (l _ (by omega)) (l _ (by omega)), RH_c hH (by rw [k 72 (by omega)]) (k _ (by omega)) c8 (l _ (by omega)), hB, RJ_c hJ (by rw [k 76 (by omega)]) (k _ (by omega)) (k _ (by omega)) c15 (l _ (by omega)) (l _ (by omega)), RF_c hF (by rw [k 83 (by omega)]) (k _ (by omega)) (k _ (by omega)) c22 (l _ (by omega)) (l _ (by omega)), RR_c hR (by rw [k 66 (by omega)]) c25, RT_c hT (fun o p q => k o (by omega)) (fun o p q => by rw [a2]) (l _ (by omega)) (l _ (by omega)) (l _ (by omega)) (by rw [b2])⟩
def SWI (w v : Mem) : Prop := ∃ c nx N : Nat, c ≤ 600 ∧ N ≤ 48 ∧ (nx = 0 ∨ nx < N) ∧ v.1 3 14 = nI N ∧ w.1 79 2 = 1 ∧ w.1 79 3 = nI c ∧ v.1 0 46 = nI c ∧ w.1 79 4 = v.1 0 47 ∧ w.1 79 5 = v.1 0 48 ∧ w.1 79 6 = v.1 0 49 ∧ w.1 79 7 = v.1 0 50 ∧ (v.1 0 50 = 0 ∨ v.1 0 50 = 1) ∧ w.1 79 8 = v.1 0 53 ∧ w.1 79 9 = v.1 0 55 ∧ w.1 79 10 = v.1 0 56 ∧ w.1 79 12 = nI nx ∧ v.1 0 52 = nI nx ∧ w.1 79 13 = v.1 0 51 ∧ ir 12 (v.1 0 51) ∧ v.1 0 54 = nI (metN (v.1 11) (v.1 12) c) ∧ ∀ j, j < c → w.1 80 j = v.1 11 j ∧ w.1 81 j = v.1 12 j
/-- both set the reason of the end -/
theorem why_c {w v : Mem} (hO : OTH w v) (hS : SWI w v) (y : Int32) : OTH (mS w 79 8 y) (mS v 0 53 y) ∧ SWI (mS w 79 8 y) (mS v 0 53 y) := by
  constructor
  · refine OTH_c hO (fun o a b c d => mS_o b) rfl (fun o a b c d => mS_o a) rfl (mS_nj (by decide)) (mS_nj (by decide)) (mS_nj (by decide)) (mS_nj (by decide)) (mS_nj (by decide)) (mS_nj (by decide)) ?_
    exact RB_c hO.2.2.2.1 (mS_o (by decide)) (mS_o (by decide)) (mS_o (by decide)) (mS_nj (by decide)) (mS_nj (by decide)) (mS_nj (by decide)) (mS_nj (by decide))
  · obtain ⟨c, nx, N, h1, h2, h3, h4, h5, h6, h7, h8, h9, h10, h11, h12, h13, h14, h15, h16, h17, h18, h19, h20, h21⟩ := hS
    refine ⟨c, nx, N, h1, h2, h3, h4, h5, h6, h7, h8, h9, h10, h11, h12, ?_, h14, h15, h16, h17, h18, h19, ?_, ?_⟩
    · rw [mS_eq, mS_eq]
    · rw [mS_nj (show (54 : Nat) ≠ 53 by decide), mS_o (show (11 : Nat) ≠ 0 by decide), mS_o (show (12 : Nat) ≠ 0 by decide)]; exact h20
    · rw [mS_o (show (80 : Nat) ≠ 79 by decide), mS_o (show (81 : Nat) ≠ 79 by decide), mS_o (show (11 : Nat) ≠ 0 by decide), mS_o (show (12 : Nat) ≠ 0 by decide)]; exact h21
theorem lkb {w v : Mem} (hB : RB w v) : ∃ q t : Nat, q ≤ t ∧ t ≤ 120 ∧ f_X0_depth (w.1 74 1) (w.1 74 2) w = some (nI q) ∧ f_X11_lockOf (v.1 0 11) (v.1 0 12) v = some (nI q) ∧ w.1 75 0 + w.1 75 1 = nI t ∧ v.1 7 0 + v.1 7 1 = nI t := by
  have hB0 := hB
  obtain ⟨⟨a1, a2⟩, ⟨b1, b2⟩, ⟨c1, c2⟩, ⟨d1, d2⟩, _, _⟩ := hB
  unfold ib at a2 b2 c2 d2
  have d := dep_eq hB0 c2 d2
  obtain ⟨a, ha, ea⟩ := i_nat (x := v.1 7 0) (N := 61) a2.1 (by omega) (by omega)
  obtain ⟨b, hb, eb⟩ := i_nat (x := v.1 7 1) (N := 61) b2.1 (by omega) (by omega)
  obtain ⟨u, hu, eu⟩ := i_nat (x := v.1 0 11) (N := 100) (by omega) (by omega) (by omega)
  obtain ⟨l, hl, el⟩ := i_nat (x := v.1 0 12) (N := 100) (by omega) (by omega) (by omega)
  rw [eu, nI_toInt (by omega)] at c2
  rw [el, nI_toInt (by omega)] at d2
  have m1 : (a + b) * l ≤ 120 * 99 := Nat.mul_le_mul (by omega) (by omega)
  have m2 : (a + b) * l ≤ (u + l) * (a + b) := by rw [Nat.mul_comm]; exact Nat.mul_le_mul_right _ (by omega)
  have e : ((v.1 7 0 + v.1 7 1) * v.1 0 12) / (v.1 0 11 + v.1 0 12) = nI ((a + b) * l / (u + l)) := by
    rw [ea, eb, eu, el, nI_add, nI_add, pk_mul, pk_div (by omega) (by omega) (by omega)]
  rw [e] at d
  refine ⟨(a + b) * l / (u + l), a + b, Nat.div_le_of_le_mul m2, by omega, by rw [c1, d1]; exact d.1, d.2, ?_, ?_⟩
  · rw [a1, b1, ea, eb, nI_add]
  · rw [ea, eb, nI_add]
theorem ir_iabs {x : Int32} {n : Int} (hn : n < 1000000) (h : ir n x) : ∃ k : Nat, iabs x = nI k ∧ (k : Int) ≤ n := by
  unfold ir at h
  refine ⟨x.toInt.natAbs, ?_, by omega⟩
  rw [i_eq, iabs_t (by omega), nI_toInt (by omega)]
theorem metN_new {x y : Nat → Int32} {c : Nat} {a b : Int32} {f g : Nat → Int32} (hx : ∀ j, j < c → x j = f j) (hy : ∀ j, j < c → y j = g j) (ex : x c = a) (ey : y c = b) : metN x y (c + 1) = metN f g c + (if (decide (a = 0) && decide (b = 0)) || (List.range c).any (fun k => decide (f k = a) && decide (g k = b)) then 1 else 0) := by
  have e1 : metN x y c = metN f g c := metN_c c (fun j hj => ⟨hx j hj, hy j hj⟩)
  have e2 : wasB x y c = ((decide (a = 0) && decide (b = 0)) || (List.range c).any (fun k => decide (f k = a) && decide (g k = b))) := by
    unfold wasB
    rw [ex, ey]
    congr 1
    refine any_c _ (fun k hk => ?_)
    have := List.mem_range.mp hk
    rw [hx k this, hy k this]
  show metN x y c + (if wasB x y c then 1 else 0) = _
  rw [e1, e2]
theorem sew1 {w v : Mem} (hO : OTH w v) (hS : SWI w v) (hy : v.1 0 53 = 0) (hN0 : ¬ v.1 3 14 = 0) : ∃ r w' v', f_X8_sewsOne 14 w = some (r, w') ∧ f_X11_sews v = some (r, v') ∧ OTH w' v' ∧ SWI w' v' ∧ v'.1 3 = v.1 3 ∧ v'.1 0 15 = v.1 0 15 ∧ ((r = 1 ∧ v'.1 0 53 = 0) ∨ r = 0) := by
  have hS0 := hS
  obtain ⟨c, nx, N, h1, h2, h3, h4, h5, h6, h7, h8, h9, h10, h11, h12, h13, h14, h15, h16, h17, h18, h19, h20, h21⟩ := hS
  have hB := hO.2.2.2.1
  obtain ⟨q, t, hq, ht, l1, l2, l3, l4⟩ := lkb hB
  obtain ⟨⟨a1, a2⟩, ⟨b1, b2⟩, ⟨c1, c2⟩, ⟨d1, d2⟩, ⟨s1, s2⟩, ⟨u1, u2⟩⟩ := id hB
  have N1 : 1 ≤ N := by
    rcases Nat.eq_zero_or_pos N with z | z
    · subst z; exact absurd h4 hN0
    · exact z
  have hnx : nx < N := by omega
  have wh := fun y => why_c hO hS0 y
  have k3 : ∀ y, (mS v 0 53 y).1 3 = v.1 3 := fun y => mS_o (by decide)
  by_cases hc : c < 600
  rotate_left
  · obtain rfl : c = 600 := by omega
    refine ⟨0, mS w 79 8 3, mS v 0 53 3, ?_, sewM6 h7 h17 hnx h2 l2 rfl rfl, (wh 3).1, (wh 3).2, k3 3, rfl, Or.inr rfl⟩
    unfold f_X8_sewsOne
    rw [h6, if_neg (show ¬ nI 600 < 600 by decide)]; rfl
  obtain ⟨n2, hn2, e1, e2, e3⟩ := hO.1 14 (by omega)
  rw [h4, nI_eq (by omega) (by omega)] at e2
  subst e2
  obtain ⟨f1, f2, f3, f4⟩ := e3 nx hnx
  have f1' : w.1 43 nx = v.1 4 (672 + nx) := f1
  have f2' : w.1 44 nx = v.1 5 (672 + nx) := f2
  have C := sewC (sp := v.1 0 13) (bb := v.1 0 14) h6 hc h16 hnx h2 e1 f1' f2' h18 h11 l1 l3 s1 u1 h14 h15 h8 h9 h10
  have M := sewM (sw := v.1 4 (672 + nx)) (fd := v.1 5 (672 + nx)) (nd := v.1 0 51) (bk := v.1 0 50) (sp := v.1 0 13) (bb := v.1 0 14) (xx := v.1 0 47) (yy := v.1 0 48) (qq := v.1 0 49) (uu := v.1 0 55) (ll := v.1 0 56) (mt := v.1 0 54) h7 hc h17 hnx h2 h4 rfl rfl rfl rfl l2 rfl rfl rfl rfl rfl rfl rfl rfl rfl rfl
  rw [l4] at M
  -- the numbers
  have f3' : ir 12 (v.1 4 (672 + nx)) := f3
  have f4' : ir 12 (v.1 5 (672 + nx)) := f4
  obtain ⟨kx, ex, hx⟩ := ir_iabs (x := v.1 4 (672 + nx) - v.1 0 51) (n := 24) (by omega) (by unfold ir at *; rw [i_sub (by omega) (by omega)]; omega)
  obtain ⟨ky, ey, hyk⟩ := ir_iabs (x := dyv (v.1 0 50) (v.1 5 (672 + nx))) (n := 12) (by omega) (by
    unfold dyv
    split
    · exact f4'
    · exact ir_n (by omega) f4')
  have eu : iabs (v.1 4 (672 + nx) - v.1 0 51) + iabs (dyv (v.1 0 50) (v.1 5 (672 + nx))) + 2 * nI q = nI (kx + ky + 2 * q) := by
    rw [ex, ey, nI_add, nI_lit 2, pk_mul, nI_add]
  have ed : iabs (v.1 4 (672 + nx) - v.1 0 51) + iabs (dyv (v.1 0 50) (v.1 5 (672 + nx))) + 2 * (nI t - nI q) = nI (kx + ky + 2 * (t - q)) := by
    rw [ex, ey, nI_add, pk_sub hq, nI_lit 2, pk_mul, nI_add]
  rw [eu, ed] at C M
  by_cases p1 : nI (kx + ky + 2 * q) ≤ v.1 0 13
  rotate_left
  · rw [if_neg p1] at C M
    exact ⟨0, _, _, C, M, (wh 1).1, (wh 1).2, k3 1, rfl, Or.inr rfl⟩
  rw [if_pos p1] at C M
  by_cases p2 : nI (kx + ky + 2 * (t - q)) ≤ v.1 0 14
  rotate_left
  · rw [if_neg p2] at C M
    exact ⟨0, _, _, C, M, (wh 2).1, (wh 2).2, k3 2, rfl, Or.inr rfl⟩
  rw [if_pos p2] at C M
  refine ⟨1, _, _, C, M, ?_, ?_, ?_, rfl, Or.inl ⟨rfl, ?_⟩⟩
  · refine OTH_c hO (fun o p1 p2 p3 p4 => ?_) rfl (fun o p1 p2 p3 p4 => ?_) rfl rfl rfl rfl rfl rfl rfl ?_
    · unfold CW
      rw [mS_o p2, mS_o p4, mS_o p3, mS_o p2, mS_o p2, mS_o p2, mS_o p2, mS_o p2, mS_o p2, mS_o p1, mS_o p1]
    · unfold CV
      rw [mS_o p1, mS_o p1, mS_o p1, mS_o p4, mS_o p3, mS_o p1, mS_o p1, mS_o p1, mS_o p1, mS_o p1, mS_o p1, mS_o p1, mS_o p1]
    · rw [i_le, nI_toInt (by omega)] at p1 p2
      unfold ib at s2 u2
      have w1 : ib 0 1000000 (v.1 0 13 - nI (kx + ky + 2 * q)) := by
        unfold ib
        rw [i_sub (by rw [nI_toInt (by omega)]; omega) (by rw [nI_toInt (by omega)]; omega), nI_toInt (by omega)]; omega
      have w2 : ib 0 1000000 (v.1 0 14 - nI (kx + ky + 2 * (t - q))) := by
        unfold ib
        rw [i_sub (by rw [nI_toInt (by omega)]; omega) (by rw [nI_toInt (by omega)]; omega), nI_toInt (by omega)]; omega
      exact ⟨⟨a1, a2⟩, ⟨b1, b2⟩, ⟨c1, c2⟩, ⟨d1, d2⟩, ⟨rfl, w1⟩, ⟨rfl, w2⟩⟩
  · refine ⟨c + 1, if N ≤ nx + 1 then 0 else nx + 1, N, by omega, h2, ?_, h4, h5, rfl, rfl, ?_, ?_, h10, h11, h12, ?_, ?_, ?_, ?_, ?_, rfl, f3', ?_, fun j hj => ?_⟩
    · split
      · exact Or.inl rfl
      · exact Or.inr (by omega)
    · rfl
    · rfl
    · show w.1 79 8 = 0
      rw [h13, hy]
    · rfl
    · rfl
    · show (if N ≤ nx + 1 then (0 : Int32) else nI (nx + 1)) = _
      split <;> rfl
    · show (if N ≤ nx + 1 then (0 : Int32) else nI (nx + 1)) = _
      split <;> rfl
    · show v.1 0 54 + (if wb v c _ _ then 1 else 0) = _
      rw [h20]
      rw [metN_new (c := c) (f := v.1 11) (g := v.1 12) (a := v.1 0 47 + mvX (v.1 0 49) (v.1 4 (672 + nx) - v.1 0 51) (dyv (v.1 0 50) (v.1 5 (672 + nx)))) (b := v.1 0 48 + mvY (v.1 0 49) (v.1 4 (672 + nx) - v.1 0 51) (dyv (v.1 0 50) (v.1 5 (672 + nx))))]
      · unfold wb
        split
        · rw [nI_1]
        · rw [Int32.add_zero]; rfl
      · intro j hj
        unfold CV
        rw [mS_ne (by decide), mS_ne (by decide), mS_ne (by decide), mS_ne (by decide), mS_nj (by omega), mS_ne (by decide), mS_ne (by decide), mS_ne (by decide), mS_ne (by decide), mS_ne (by decide), mS_ne (by decide), mS_ne (by decide), mS_ne (by decide)]
      · intro j hj
        unfold CV
        rw [mS_ne (by decide), mS_ne (by decide), mS_ne (by decide), mS_nj (by omega), mS_ne (by decide), mS_ne (by decide), mS_ne (by decide), mS_ne (by decide), mS_ne (by decide), mS_ne (by decide), mS_ne (by decide), mS_ne (by decide), mS_ne (by decide)]
      · unfold CV
        rw [mS_ne (by decide), mS_ne (by decide), mS_ne (by decide), mS_ne (by decide), mS_eq]
      · unfold CV
        rw [mS_ne (by decide), mS_ne (by decide), mS_ne (by decide), mS_eq]
    · unfold CW CV
      have e80 : ∀ (x : Int32) (u : Mem), (mS u 81 c x).1 80 = u.1 80 := fun x u => mS_o (by decide)
      rw [mS_ne (show (80 : Nat) ≠ 79 by decide), mS_ne (show (80 : Nat) ≠ 81 by decide), mS_ne (show (81 : Nat) ≠ 79 by decide), mS_ne (show (11 : Nat) ≠ 0 by decide), mS_ne (show (11 : Nat) ≠ 0 by decide), mS_ne (show (11 : Nat) ≠ 0 by decide), mS_ne (show (11 : Nat) ≠ 12 by decide), mS_ne (show (12 : Nat) ≠ 0 by decide), mS_ne (show (12 : Nat) ≠ 0 by decide), mS_ne (show (12 : Nat) ≠ 0 by decide)]
      by_cases z : j = c
      · subst z; rw [mS_eq, mS_eq, mS_eq, mS_eq]; exact ⟨rfl, rfl⟩
      · simp (disch := first | decide | assumption) only [mS_ne, mS_nj]
        exact h21 j (by omega)
  · unfold CV
    simp (disch := decide) only [mS_o]
  · rfl
