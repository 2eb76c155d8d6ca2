/-! ===== 1 read: the other orders (98c: by wip/gen/p98c.txt and fr.py) ===== -/
theorem wi12 (x : Int32) : (f_X10_isWithin x 12 = some 1 ∧ f_X11_in x (-12) 12 = some 1 ∧ ir 12 x) ∨ (f_X10_isWithin x 12 = some 0 ∧ f_X11_in x (-12) 12 = some 0 ∧ ¬ ir 12 x) := by
  rw [wi_eq x 12 (by decide), show (-(12 : Int32)) = -12 from rfl]
  rcases in_c x (-12) 12 with ⟨q, k⟩ | ⟨q, k⟩
  · exact Or.inl ⟨q, q, k⟩
  · exact Or.inr ⟨q, q, k⟩
theorem wi100 (x : Int32) : (f_X10_isWithin x 100 = some 1 ∧ f_X11_in x (-100) 100 = some 1 ∧ ir 100 x) ∨ (f_X10_isWithin x 100 = some 0 ∧ f_X11_in x (-100) 100 = some 0 ∧ ¬ ir 100 x) := by
  rw [wi_eq x 100 (by decide), show (-(100 : Int32)) = -100 from rfl]
  rcases in_c x (-100) 100 with ⟨q, k⟩ | ⟨q, k⟩
  · exact Or.inl ⟨q, q, k⟩
  · exact Or.inr ⟨q, q, k⟩
theorem gets_e {w : Mem} {c : Nat} (e : w.1 63 2 = nI c) (hc : c ≤ 24) (x y : Int32) : (c < 24 ∧ ir 12 x ∧ ir 100 y ∧ f_X5_gets 1 x y w = some (1, mS (mS (mS w 64 c x) 65 c y) 63 2 (nI (c + 1)))) ∨ (¬ (c < 24 ∧ ir 12 x ∧ ir 100 y) ∧ f_X5_gets 1 x y w = some (0, w)) := by
  have e' : w.1 (60+3*1) 2 = nI c := e
  unfold f_X5_gets
  rw [e']
  by_cases z : c < 24
  rotate_left
  · rw [if_pos (show 24 ≤ nI c by rw [nI_lit 24, nI_leI (by omega) (by omega)]; omega)]
    exact Or.inr ⟨fun q => z q.1, rfl⟩
  rw [if_neg (show ¬ 24 ≤ nI c by rw [nI_lit 24, nI_leI (by omega) (by omega)]; omega)]
  rcases wi12 x with ⟨a1, _, a3⟩ | ⟨a1, _, a3⟩
  rotate_left
  · rw [a1, bd_s, if_pos rfl]; exact Or.inr ⟨fun q => a3 q.2.1, rfl⟩
  rw [a1, bd_s, if_neg one_ne]
  rcases wi100 y with ⟨b1, _, b3⟩ | ⟨b1, _, b3⟩
  rotate_left
  · rw [b1, bd_s, if_pos rfl]; exact Or.inr ⟨fun q => b3 q.2.2, rfl⟩
  rw [b1, bd_s, if_neg one_ne, gd_t (inb_nI z (by omega)), lt_e, nI_clamp (by omega), mS_ne (show 60+3*1 ≠ 61+3*1 by decide), e', gd_t (inb_nI z (by omega)), lt_e, lt_e, nI_clamp (by omega), mS_ne (show 60+3*1 ≠ 62+3*1 by decide), mS_ne (show 60+3*1 ≠ 61+3*1 by decide), e', nI_1]
  exact Or.inl ⟨z, a3, b3, rfl⟩
/-- across, or less across while mirrored -/
def acr (mi n : Int32) : Int32 := if mi = 0 then n else -n
theorem stands_e {w v : Mem} {t T d p c : Nat} {a l : Nat → Nat} (h : STR w v t T d p a l) (hp : p + 2 < T) (e : v.1 0 32 = nI c) (hc : c ≤ 24) : (c < 24 ∧ ir 12 (v.1 0 33 + acr (v.1 0 35) (txt v t (p+1))) ∧ ir 100 (v.1 0 34 + txt v t (p+2)) ∧ f_X11_standsAt v = some (1, mS (mS (mS (mS v 18 c (v.1 0 33 + acr (v.1 0 35) (txt v t (p+1)))) 19 c (v.1 0 34 + txt v t (p+2))) 0 32 (nI (c + 1))) 0 29 (nI (p + 3)))) ∨ (¬ (c < 24 ∧ ir 12 (v.1 0 33 + acr (v.1 0 35) (txt v t (p+1))) ∧ ir 100 (v.1 0 34 + txt v t (p+2))) ∧ f_X11_standsAt v = some (0, v)) := by
  have h5 := h.2.1.1
  have q1 : f_X11_number 1 v = some (txt v t (p + 1)) := num_e h (k := 1) (by omega)
  have q2 : f_X11_number 2 v = some (txt v t (p + 2)) := num_e h (k := 2) (by omega)
  unfold f_X11_standsAt
  rw [lt_e]
  dsimp only
  rw [q1, q2]
  simp only [bd_s]
  have K : ∀ x y : Int32, (c < 24 ∧ ir 12 x ∧ ir 100 y ∧ (lt x fun v_3 => lt y fun v_6 => bd (f_X11_in v_3 (-12) 12) fun r_7 =>
    if r_7 = 0 then
      (some (0, v))
    else
      (bd (f_X11_in v_6 (-100) 100) fun r_10 =>
      if r_10 = 0 then
        (some (0, v))
      else
        (if (v.1 0 32) = 24 then
          (some (0, v))
        else
          (gd (inb (v.1 0 32) 24 = true) <|
          lt (mS v 18 ((v.1 0 32).toNatClampNeg) v_3) fun w_15 =>
          gd (inb (w_15.1 0 32) 24 = true) <|
          lt (mS w_15 19 ((w_15.1 0 32).toNatClampNeg) v_6) fun w_17 =>
          lt (mS w_17 0 32 ((w_17.1 0 32) + 1)) fun w_18 =>
          lt (mS w_18 0 29 ((w_18.1 0 29) + 3)) fun w_19 =>
          some (1, w_19)))) : Option (Int32 × Mem)) = some (1, mS (mS (mS (mS v 18 c x) 19 c y) 0 32 (nI (c + 1))) 0 29 (nI (p + 3)))) ∨ (¬ (c < 24 ∧ ir 12 x ∧ ir 100 y) ∧ (lt x fun v_3 => lt y fun v_6 => bd (f_X11_in v_3 (-12) 12) fun r_7 =>
    if r_7 = 0 then
      (some (0, v))
    else
      (bd (f_X11_in v_6 (-100) 100) fun r_10 =>
      if r_10 = 0 then
        (some (0, v))
      else
        (if (v.1 0 32) = 24 then
          (some (0, v))
        else
          (gd (inb (v.1 0 32) 24 = true) <|
          lt (mS v 18 ((v.1 0 32).toNatClampNeg) v_3) fun w_15 =>
          gd (inb (w_15.1 0 32) 24 = true) <|
          lt (mS w_15 19 ((w_15.1 0 32).toNatClampNeg) v_6) fun w_17 =>
          lt (mS w_17 0 32 ((w_17.1 0 32) + 1)) fun w_18 =>
          lt (mS w_18 0 29 ((w_18.1 0 29) + 3)) fun w_19 =>
          some (1, w_19)))) : Option (Int32 × Mem)) = some (0, v)) := by
    intro x y
    rw [lt_e, lt_e, e]
    rcases wi12 x with ⟨_, a1, a3⟩ | ⟨_, a1, a3⟩
    rotate_left
    · rw [a1, bd_s, if_pos rfl]; exact Or.inr ⟨fun q => a3 q.2.1, rfl⟩
    rw [a1, bd_s, if_neg one_ne]
    rcases wi100 y with ⟨_, b1, b3⟩ | ⟨_, b1, b3⟩
    rotate_left
    · rw [b1, bd_s, if_pos rfl]; exact Or.inr ⟨fun q => b3 q.2.2, rfl⟩
    rw [b1, bd_s, if_neg one_ne]
    by_cases z : c < 24
    rotate_left
    · obtain rfl : c = 24 := by omega
      rw [if_pos (show nI 24 = 24 from rfl)]; exact Or.inr ⟨fun q => z q.1, rfl⟩
    rw [if_neg (show ¬ nI c = 24 from nI_ne (a := c) (b := 24) (by omega) (by omega) (by omega)), gd_t (inb_nI z (by omega)), lt_e, nI_clamp (by omega), mS_ne (show (0 : Nat) ≠ 18 by decide), e, gd_t (inb_nI z (by omega)), lt_e, lt_e, lt_e, nI_clamp (by omega), mS_ne (show (0 : Nat) ≠ 19 by decide), mS_ne (show (0 : Nat) ≠ 18 by decide), e, nI_1, mS_nj (show (29 : Nat) ≠ 32 by decide), mS_ne (show (0 : Nat) ≠ 19 by decide), mS_ne (show (0 : Nat) ≠ 18 by decide), h5, show nI p + 3 = nI (p + 3) from by rw [nI_lit 3, nI_add]]
    exact Or.inl ⟨z, a3, b3, rfl⟩
  have E : ∀ (A : Option (Int32 × Mem)) (B : Int32 → Option (Int32 × Mem)), A = (if v.1 0 35 = 0 then B (txt v t (p + 1)) else B (-txt v t (p + 1))) → A = B (acr (v.1 0 35) (txt v t (p + 1))) := by
    intro A B hh
    rw [hh]
    unfold acr
    split <;> rfl
  have F := K (v.1 0 33 + acr (v.1 0 35) (txt v t (p+1))) (v.1 0 34 + txt v t (p+2))
  rw [E _ (fun tt => (lt (v.1 0 33 + tt) fun v_3 => lt (v.1 0 34 + txt v t (p+2)) fun v_6 => bd (f_X11_in v_3 (-12) 12) fun r_7 =>
    if r_7 = 0 then
      (some (0, v))
    else
      (bd (f_X11_in v_6 (-100) 100) fun r_10 =>
      if r_10 = 0 then
        (some (0, v))
      else
        (if (v.1 0 32) = 24 then
          (some (0, v))
        else
          (gd (inb (v.1 0 32) 24 = true) <|
          lt (mS v 18 ((v.1 0 32).toNatClampNeg) v_3) fun w_15 =>
          gd (inb (w_15.1 0 32) 24 = true) <|
          lt (mS w_15 19 ((w_15.1 0 32).toNatClampNeg) v_6) fun w_17 =>
          lt (mS w_17 0 32 ((w_17.1 0 32) + 1)) fun w_18 =>
          lt (mS w_18 0 29 ((w_18.1 0 29) + 3)) fun w_19 =>
          some (1, w_19)))) : Option (Int32 × Mem))) rfl]
  exact F
theorem moves_e {w v : Mem} {t T d p : Nat} {a l : Nat → Nat} (h : STR w v t T d p a l) (hp : p + 2 < T) : (ir 100 (v.1 0 33 + acr (v.1 0 35) (txt v t (p+1))) ∧ ir 100 (v.1 0 34 + txt v t (p+2)) ∧ f_X11_movesTo v = some (1, mS (mS (mS v 0 33 (v.1 0 33 + acr (v.1 0 35) (txt v t (p+1)))) 0 34 (v.1 0 34 + txt v t (p+2))) 0 29 (nI (p + 3)))) ∨ (¬ (ir 100 (v.1 0 33 + acr (v.1 0 35) (txt v t (p+1))) ∧ ir 100 (v.1 0 34 + txt v t (p+2))) ∧ f_X11_movesTo v = some (0, v)) := by
  have h5 := h.2.1.1
  have q1 : f_X11_number 1 v = some (txt v t (p + 1)) := num_e h (k := 1) (by omega)
  have q2 : f_X11_number 2 v = some (txt v t (p + 2)) := num_e h (k := 2) (by omega)
  unfold f_X11_movesTo
  rw [lt_e]
  dsimp only
  rw [q1, q2]
  simp only [bd_s]
  have E : ∀ (A : Option (Int32 × Mem)) (B : Int32 → Option (Int32 × Mem)), A = (if v.1 0 35 = 0 then B (txt v t (p + 1)) else B (-txt v t (p + 1))) → A = B (acr (v.1 0 35) (txt v t (p + 1))) := by
    intro A B hh
    rw [hh]
    unfold acr
    split <;> rfl
  rw [E _ (fun tt => (lt (v.1 0 33 + tt) fun v_3 => lt (v.1 0 34 + txt v t (p+2)) fun v_6 => bd (f_X11_in v_3 (-100) 100) fun r_7 =>
    if r_7 = 0 then
      (some (0, v))
    else
      (bd (f_X11_in v_6 (-100) 100) fun r_10 =>
      if r_10 = 0 then
        (some (0, v))
      else
        (lt (mS v 0 33 v_3) fun w_13 =>
        lt (mS w_13 0 34 v_6) fun w_14 =>
        lt (mS w_14 0 29 ((w_14.1 0 29) + 3)) fun w_15 =>
        some (1, w_15))) : Option (Int32 × Mem))) rfl]
  rw [lt_e, lt_e]
  rcases wi100 (v.1 0 33 + acr (v.1 0 35) (txt v t (p+1))) with ⟨_, a1, a3⟩ | ⟨_, a1, a3⟩
  rotate_left
  · rw [a1, bd_s, if_pos rfl]; exact Or.inr ⟨fun q => a3 q.1, rfl⟩
  rw [a1, bd_s, if_neg one_ne]
  rcases wi100 (v.1 0 34 + txt v t (p+2)) with ⟨_, b1, b3⟩ | ⟨_, b1, b3⟩
  rotate_left
  · rw [b1, bd_s, if_pos rfl]; exact Or.inr ⟨fun q => b3 q.2, rfl⟩
  rw [b1, bd_s, if_neg one_ne, lt_e, lt_e, lt_e, mS_nj (show (29 : Nat) ≠ 34 by decide), mS_nj (show (29 : Nat) ≠ 33 by decide), h5, show nI p + 3 = nI (p + 3) from by rw [nI_lit 3, nI_add]]
  exact Or.inl ⟨a3, b3, rfl⟩
theorem lf_e {w v : Mem} {t T d p : Nat} {a l : Nat → Nat} (h : STR w v t T d p a l) (hp : p ≤ T) {k : Nat} (hk : k ≤ 400) (c : p + k < T) : f_X11_isLong (nI k) v = some 1 := by rw [long_e h hp hk, if_pos c]
theorem lf_n {w v : Mem} {t T d p : Nat} {a l : Nat → Nat} (h : STR w v t T d p a l) (hp : p ≤ T) {k : Nat} (hk : k ≤ 400) (c : ¬ p + k < T) : f_X11_isLong (nI k) v = some 0 := by rw [long_e h hp hk, if_neg c]
/-- order 1 -/
theorem ord_1 {w v : Mem} {t T d p cnt : Nat} {a l E : Nat → Nat} (h : STR w v t T d p a l) (hi : IVR (txt v t) T d p a l E) (hp : p < T) (hc : cnt < 1000000) (eo : txt v t p = 1) : ORD w v t T d p cnt a l E := by
  have h0 := h
  obtain ⟨⟨h1, h2, h3, h4⟩, ⟨h5, h6, h7, h8⟩, ⟨h9, h10⟩, ⟨h11, h12⟩, ⟨h13, h14⟩, ⟨h15, h16⟩, h17, ⟨c, hc24, h18, h19, h20⟩, h21⟩ := h
  have D : f_X11_does v = bd (f_X11_isLong 2 v) fun r_13 => if r_13 = 0 then (some (0, v)) else (b2 (f_X11_standsAt v) fun r_16 w_18 => lt (if r_16 = 0 then 0 else 1 : Int32) fun v_19 => gd (bz v_19 = true) <| some (v_19, w_18)) := by
    unfold f_X11_does
    rw [n0_e h0 hp, bd_s, eo, if_neg (show ¬ (1 : Int32) = 0 by decide), if_pos rfl]
  have CC := fun m => ordC h0 hp hc eo (by decide) (r := 2) (by decide) (by omega) m
  by_cases z : p + 2 < T
  rotate_left
  · refine Or.inl ⟨w, v, FC_r w, FV_r v, fun m => by rw [CC m, if_neg z], fun m => ?_⟩
    rw [l97_s h0 hp m, D, show f_X11_isLong 2 v = some 0 from lf_n h0 (by omega) (k := 2) (by omega) z, bd_s, if_pos rfl, b2_s, if_pos rfl, h5]
  have CD : ∀ m, f_X6_firstFault_L8 t (m + 1) (nI p) (nI cnt) w = (b2 (b2 (f_X5_gets 1 (v.1 0 33 + acr (v.1 0 35) (txt v t (p+1))) (v.1 0 34 + txt v t (p+2)) (mS w 67 4 (nI (p + 1 + 2)))) fun r_4 w_6 => gd (bz r_4 = true) <| some (r_4, w_6)) fun r_23 w_25 => if r_23 = 0 then some (.inl (nI p, w_25)) else f_X6_firstFault_L8 t m (w_25.1 67 4) (nI (cnt + 1)) w_25) := fun m => by
    rw [CC m, if_pos z, if_neg (show ¬ (2 : Nat) = 0 by omega), if_neg (show ¬ (2 : Nat) ≤ 1 by omega)]
    unfold f_X6_isDone
    rw [lt_e, if_pos rfl, mS_nj (show (7 : Nat) ≠ 4 by decide), mS_nj (show (5 : Nat) ≠ 4 by decide), mS_nj (show (6 : Nat) ≠ 4 by decide), h13, h11, h12]
    rfl
  have g18 : (mS w 67 4 (nI (p + 1 + 2))).1 63 2 = nI c := by rw [mS_ne (by decide)]; exact h18
  have G := gets_e g18 hc24 (v.1 0 33 + acr (v.1 0 35) (txt v t (p+1))) (v.1 0 34 + txt v t (p+2))
  have S := stands_e h0 z h19 hc24
  have L2 : f_X11_isLong 2 v = some 1 := lf_e h0 (by omega) (k := 2) (by omega) z
  rcases G with ⟨g1, g2, g3, g4⟩ | ⟨g1, g4⟩ <;> rcases S with ⟨s1, s2, s3, s4⟩ | ⟨s1, s4⟩
  · obtain ⟨i1, i2⟩ := IV_1 (p' := p + 3) hi (by omega) (by omega) (by unfold scS; rw [eo]; rfl)
    refine Or.inr (Or.inr ⟨mS (mS (mS (mS w 67 4 (nI (p + 1 + 2))) 64 c (v.1 0 33 + acr (v.1 0 35) (txt v t (p+1)))) 65 c (v.1 0 34 + txt v t (p+2))) 63 2 (nI (c + 1)), mS (mS (mS (mS v 18 c (v.1 0 33 + acr (v.1 0 35) (txt v t (p+1)))) 19 c (v.1 0 34 + txt v t (p+2))) 0 32 (nI (c + 1))) 0 29 (nI (p + 3)), d, p + 3, a, l, E, FC_s (FC_s (FC_s (FC_s (FC_r w) (o := 67) (by omega)) (o := 64) (by omega)) (o := 65) (by omega)) (o := 63) (by omega), FV_s (FV_s (FV_s (FV_s (FV_r v) (o := 18) (by omega)) (o := 19) (by omega)) (o := 0) (j := 32) (by omega)) (o := 0) (j := 29) (by omega), ?_, i1, i2, fun m => ?_, fun m => ?_⟩)
    rotate_left
    · rw [CD m, g4, b2_s, gd_t bz1, b2_s, if_neg one_ne, mS_ne (show (67 : Nat) ≠ 63 by decide), mS_ne (show (67 : Nat) ≠ 65 by decide), mS_ne (show (67 : Nat) ≠ 64 by decide), mS_eq]
    · rw [l97_s h0 hp m, D, L2, bd_s, if_neg one_ne, s4, b2_s, lt_e, if_neg one_ne, gd_t bz1, b2_s, if_neg one_ne]
    · refine ⟨⟨h1, h2, ?_, h4⟩, ⟨mS_eq, h6, h7, h8⟩, ⟨h9, h10⟩, ⟨h11, h12⟩, ⟨h13, h14⟩, ⟨h15, h16⟩, fun k hk => ?_, ⟨c + 1, by omega, mS_eq, ?_, fun j hj => ?_⟩, h21⟩
      · rw [mS_ne (by omega), mS_ne (by omega), mS_ne (by omega), mS_ne (by omega)]; exact h3
      · simp (disch := decide) only [mS_ne]
        exact h17 k hk
      · rw [mS_nj (by decide), mS_eq]
      · simp (disch := decide) only [mS_ne]
        by_cases y : j = c
        · subst y
          simp (disch := decide) only [mS_eq, mS_ne]
          exact ⟨trivial, trivial, g2, g3⟩
        · simp (disch := first | decide | assumption) only [mS_ne, mS_nj]
          exact h20 j (by omega)
  · exact absurd ⟨g1, g2, g3⟩ s1
  · exact absurd ⟨s1, s2, s3⟩ g1
  · refine Or.inl ⟨mS w 67 4 (nI (p + 1 + 2)), v, FC_s (FC_r w) (by omega), FV_r v, fun m => ?_, fun m => ?_⟩
    · rw [CD m, g4, b2_s, gd_t bz0, b2_s, if_pos rfl]
    · rw [l97_s h0 hp m, D, L2, bd_s, if_neg one_ne, s4, b2_s, lt_e, if_pos rfl, gd_t bz0, b2_s, if_pos rfl, h5]
/-- order 2 -/
theorem ord_2 {w v : Mem} {t T d p cnt : Nat} {a l E : Nat → Nat} (h : STR w v t T d p a l) (hi : IVR (txt v t) T d p a l E) (hp : p < T) (hc : cnt < 1000000) (eo : txt v t p = 2) : ORD w v t T d p cnt a l E := by
  have h0 := h
  obtain ⟨⟨h1, h2, h3, h4⟩, ⟨h5, h6, h7, h8⟩, ⟨h9, h10⟩, ⟨h11, h12⟩, ⟨h13, h14⟩, ⟨h15, h16⟩, h17, ⟨c, hc24, h18, h19, h20⟩, h21⟩ := h
  have D : f_X11_does v = bd (f_X11_isLong 2 v) fun r_13 => if r_13 = 0 then (some (0, v)) else (b2 (f_X11_movesTo v) fun r_16 w_18 => lt (if r_16 = 0 then 0 else 1 : Int32) fun v_19 => gd (bz v_19 = true) <| some (v_19, w_18)) := by
    unfold f_X11_does
    rw [n0_e h0 hp, bd_s, eo, if_neg (show ¬ (2 : Int32) = 0 by decide), if_neg (show ¬ (2 : Int32) = 1 by decide), if_pos rfl]
  have CC := fun m => ordC h0 hp hc eo (by decide) (r := 2) (by decide) (by omega) m
  by_cases z : p + 2 < T
  rotate_left
  · refine Or.inl ⟨w, v, FC_r w, FV_r v, fun m => by rw [CC m, if_neg z], fun m => ?_⟩
    rw [l97_s h0 hp m, D, show f_X11_isLong 2 v = some 0 from lf_n h0 (by omega) (k := 2) (by omega) z, bd_s, if_pos rfl, b2_s, if_pos rfl, h5]
  have S := moves_e h0 z
  have L2 : f_X11_isLong 2 v = some 1 := lf_e h0 (by omega) (k := 2) (by omega) z
  have CD : ∀ m, f_X6_firstFault_L8 t (m + 1) (nI p) (nI cnt) w = (b2 (bd (f_X10_isWithin (v.1 0 33 + acr (v.1 0 35) (txt v t (p+1))) 100) fun r_11 => if r_11 = 0 then (some (0, mS (mS (mS w 67 4 (nI (p + 1 + 2))) 67 5 (v.1 0 33 + acr (v.1 0 35) (txt v t (p+1)))) 67 6 (v.1 0 34 + txt v t (p+2)))) else (bd (f_X10_isWithin (v.1 0 34 + txt v t (p+2)) 100) fun r_14 => lt (if r_14 = 0 then 0 else 1 : Int32) fun v_16 => gd (bz v_16 = true) <| some (v_16, mS (mS (mS w 67 4 (nI (p + 1 + 2))) 67 5 (v.1 0 33 + acr (v.1 0 35) (txt v t (p+1)))) 67 6 (v.1 0 34 + txt v t (p+2))))) fun r_23 w_25 => if r_23 = 0 then some (.inl (nI p, w_25)) else f_X6_firstFault_L8 t m (w_25.1 67 4) (nI (cnt + 1)) w_25) := fun m => by
    rw [CC m, if_pos z, if_neg (show ¬ (2 : Nat) = 0 by omega), if_neg (show ¬ (2 : Nat) ≤ 1 by omega)]
    unfold f_X6_isDone
    rw [lt_e, if_neg (show ¬ (2 : Int32) = 1 by decide), if_pos rfl, mS_nj (show (7 : Nat) ≠ 4 by decide), mS_nj (show (5 : Nat) ≠ 4 by decide), h13, h11, lt_e, lt_e, mS_nj (show (6 : Nat) ≠ 5 by decide), mS_nj (show (6 : Nat) ≠ 4 by decide), h12, mS_nj (show (5 : Nat) ≠ 6 by decide), mS_eq, mS_eq]
    rfl
  have fc : FC w (mS (mS (mS w 67 4 (nI (p + 1 + 2))) 67 5 (v.1 0 33 + acr (v.1 0 35) (txt v t (p+1)))) 67 6 (v.1 0 34 + txt v t (p+2))) := FC_s (FC_s (FC_s (FC_r w) (by omega)) (by omega)) (by omega)
  have bad : f_X11_movesTo v = some (0, v) → (∀ m, f_X6_firstFault_L8 t (m + 1) (nI p) (nI cnt) w = some (.inl (nI p, mS (mS (mS w 67 4 (nI (p + 1 + 2))) 67 5 (v.1 0 33 + acr (v.1 0 35) (txt v t (p+1)))) 67 6 (v.1 0 34 + txt v t (p+2))))) → ORD w v t T d p cnt a l E := by
    intro s4 g4
    refine Or.inl ⟨_, v, fc, FV_r v, g4, fun m => ?_⟩
    rw [l97_s h0 hp m, D, L2, bd_s, if_neg one_ne, s4, b2_s, lt_e, if_pos rfl, gd_t bz0, b2_s, if_pos rfl, h5]
  rcases wi100 (v.1 0 33 + acr (v.1 0 35) (txt v t (p+1))) with ⟨a1, _, a3⟩ | ⟨a1, _, a3⟩
  rotate_left
  · rcases S with ⟨s1, _, _⟩ | ⟨_, s4⟩
    · exact absurd s1 a3
    · exact bad s4 (fun m => by rw [CD m, a1, bd_s, if_pos rfl, b2_s, if_pos rfl])
  rcases wi100 (v.1 0 34 + txt v t (p+2)) with ⟨b1, _, b3⟩ | ⟨b1, _, b3⟩
  rotate_left
  · rcases S with ⟨_, s1, _⟩ | ⟨_, s4⟩
    · exact absurd s1 b3
    · exact bad s4 (fun m => by rw [CD m, a1, bd_s, if_neg one_ne, b1, bd_s, lt_e, if_pos rfl, gd_t bz0, b2_s, if_pos rfl])
  rcases S with ⟨_, _, s4⟩ | ⟨s1, _⟩
  rotate_left
  · exact absurd ⟨a3, b3⟩ s1
  obtain ⟨i1, i2⟩ := IV_1 (p' := p + 3) hi (by omega) (by omega) (by unfold scS; rw [eo]; rfl)
  refine Or.inr (Or.inr ⟨_, mS (mS (mS v 0 33 (v.1 0 33 + acr (v.1 0 35) (txt v t (p+1)))) 0 34 (v.1 0 34 + txt v t (p+2))) 0 29 (nI (p + 3)), d, p + 3, a, l, E, fc, FV_s (FV_s (FV_s (FV_r v) (o := 0) (j := 33) (by omega)) (o := 0) (j := 34) (by omega)) (o := 0) (j := 29) (by omega), ?_, i1, i2, fun m => ?_, fun m => ?_⟩)
  rotate_left
  · rw [CD m, a1, bd_s, if_neg one_ne, b1, bd_s, lt_e, if_neg one_ne, gd_t bz1, b2_s, if_neg one_ne, mS_nj (show (4 : Nat) ≠ 6 by decide), mS_nj (show (4 : Nat) ≠ 5 by decide), mS_eq]
  · rw [l97_s h0 hp m, D, L2, bd_s, if_neg one_ne, s4, b2_s, lt_e, if_neg one_ne, gd_t bz1, b2_s, if_neg one_ne]
  · refine ⟨⟨h1, h2, ?_, h4⟩, ⟨mS_eq, h6, h7, h8⟩, ⟨h9, h10⟩, ⟨rfl, rfl⟩, ⟨h13, h14⟩, ⟨h15, h16⟩, fun k hk => ?_, ⟨c, hc24, h18, h19, fun j hj => ?_⟩, h21⟩
    · rw [mS_ne (by omega), mS_ne (by omega), mS_ne (by omega)]; exact h3
    · simp (disch := decide) only [mS_ne]
      exact h17 k hk
    · simp (disch := decide) only [mS_ne]
      exact h20 j hj
