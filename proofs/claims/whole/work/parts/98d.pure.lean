/-! ===== 1 read: loops, the advance, and the whole (98d: by wip/gen/p98d.txt and fr.py) ===== -/
/-- order 6 -/
theorem ord_6 {w v : Mem} {t T d p cnt : Nat} {a l E : Nat → Nat} (h : STR w v t T d p a l) (hi : IVR (txt v t) T d p a l E) (hp : p < T) (hc : cnt < 1000000) (eo : txt v t p = 6) : ORD w v t T d p cnt a l E := by
  have h0 := h
  obtain ⟨⟨h1, h2, h3, h4⟩, ⟨h5, h6, h7, h8⟩, ⟨h9, h10⟩, ⟨h11, h12⟩, ⟨h13, h14⟩, ⟨h15, h16⟩, h17, ⟨c, hc24, h18, h19, h20⟩, h21⟩ := h
  have D : f_X11_does v = bd (f_X11_isLong 1 v) fun r_58 => if r_58 = 0 then (some (0, v)) else (bd (f_X11_number 1 v) fun r_61 => bd (f_X11_in r_61 (-100) 100) fun r_63 => if r_63 = 0 then (some (0, v)) else (bd (f_X11_number 1 v) fun r_66 => lt (mS v 0 37 r_66) fun w_68 => lt (mS w_68 0 36 1) fun w_69 => lt (mS w_69 0 29 ((w_69.1 0 29) + 2)) fun w_70 => some (1, w_70))) := by
    unfold f_X11_does
    rw [n0_e h0 hp, bd_s, eo, if_neg (show ¬ (6 : Int32) = 0 by decide), if_neg (show ¬ (6 : Int32) = 1 by decide), if_neg (show ¬ (6 : Int32) = 2 by decide), if_neg (show ¬ (6 : Int32) = 3 by decide), if_neg (show ¬ (6 : Int32) = 4 by decide), if_neg (show ¬ (6 : Int32) = 5 by decide), if_pos rfl]
  have CC := fun m => ordC h0 hp hc eo (by decide) (r := 1) (by decide) (by omega) m
  by_cases z : p + 1 < T
  rotate_left
  · refine Or.inl ⟨w, v, FC_r w, FV_r v, fun m => by rw [CC m, if_neg z], fun m => ?_⟩
    rw [l97_s h0 hp m, D, show f_X11_isLong 1 v = some 0 from lf_n h0 (by omega) (k := 1) (by omega) z, bd_s, if_pos rfl, b2_s, if_pos rfl, h5]
  have L1 : f_X11_isLong 1 v = some 1 := lf_e h0 (by omega) (k := 1) (by omega) z
  have q1 : f_X11_number 1 v = some (txt v t (p + 1)) := num_e h0 (k := 1) z
  have fc : FC w (mS (mS (mS w 67 4 (nI (p + 1 + 1))) 63 3 (txt v t (p+1))) 67 8 1) := FC_s (FC_s (FC_s (FC_r w) (by omega)) (by omega)) (by omega)
  have CD : ∀ m, f_X6_firstFault_L8 t (m + 1) (nI p) (nI cnt) w = (b2 (bd (f_X10_isWithin (txt v t (p+1)) 100) fun r_38 => gd (bz r_38 = true) <| some (r_38, mS (mS (mS w 67 4 (nI (p + 1 + 1))) 63 3 (txt v t (p+1))) 67 8 1)) fun r_23 w_25 => if r_23 = 0 then some (.inl (nI p, w_25)) else f_X6_firstFault_L8 t m (w_25.1 67 4) (nI (cnt + 1)) w_25) := fun m => by
    rw [CC m, if_pos z, if_neg (show ¬ (1 : Nat) = 0 by omega), if_pos (show (1 : Nat) ≤ 1 by omega)]
    unfold f_X6_isDone
    rw [lt_e, if_neg (show ¬ (6 : Int32) = 1 by decide), if_neg (show ¬ (6 : Int32) = 2 by decide), if_neg (show ¬ (6 : Int32) = 3 by decide), if_neg (show ¬ (6 : Int32) = 4 by decide), if_neg (show ¬ (6 : Int32) = 5 by decide), lt_e, lt_e]
  rcases wi100 (txt v t (p+1)) with ⟨a1, a2, a3⟩ | ⟨a1, a2, a3⟩
  rotate_left
  · refine Or.inl ⟨_, v, fc, FV_r v, fun m => by rw [CD m, a1, bd_s, gd_t bz0, b2_s, if_pos rfl], fun m => ?_⟩
    rw [l97_s h0 hp m, D, L1, bd_s, if_neg one_ne, q1, bd_s, a2, bd_s, if_pos rfl, b2_s, if_pos rfl, h5]
  obtain ⟨i1, i2⟩ := IV_1 (p' := p + 2) hi (by omega) (by omega) (by unfold scS; rw [eo]; rfl)
  refine Or.inr (Or.inr ⟨_, mS (mS (mS v 0 37 (txt v t (p+1))) 0 36 1) 0 29 (nI (p + 2)), d, p + 2, a, l, E, fc, FV_s (FV_s (FV_s (FV_r v) (o := 0) (j := 37) (by omega)) (o := 0) (j := 36) (by omega)) (o := 0) (j := 29) (by omega), ?_, i1, i2, fun m => ?_, fun m => ?_⟩)
  rotate_left
  · rw [CD m, a1, bd_s, gd_t bz1, b2_s, if_neg one_ne, mS_nj (show (4 : Nat) ≠ 8 by decide), mS_ne (show (67 : Nat) ≠ 63 by decide), mS_eq]
  · rw [l97_s h0 hp m, D, L1, bd_s, if_neg one_ne, q1, bd_s, a2, bd_s, if_neg one_ne, bd_s, lt_e, lt_e, lt_e, b2_s, if_neg one_ne, mS_nj (show (29 : Nat) ≠ 36 by decide), mS_nj (show (29 : Nat) ≠ 37 by decide), h5, show nI p + 2 = nI (p + 2) from by rw [nI_lit 2, nI_add]]
  · refine ⟨⟨h1, h2, ?_, h4⟩, ⟨mS_eq, h6, h7, h8⟩, ⟨h9, h10⟩, ⟨h11, h12⟩, ⟨h13, h14⟩, ⟨rfl, Or.inr rfl⟩, fun k hk => ?_, ⟨c, hc24, h18, h19, fun j hj => ?_⟩, fun _ => ⟨rfl, a3⟩⟩
    · rw [mS_ne (by omega), mS_ne (by omega), mS_ne (by omega)]; exact h3
    · simp (disch := decide) only [mS_ne]
      exact h17 k hk
    · simp (disch := decide) only [mS_ne]
      exact h20 j hj
/-- order 4 -/
theorem ord_4 {w v : Mem} {t T d p cnt : Nat} {a l E : Nat → Nat} (h : STR w v t T d p a l) (hi : IVR (txt v t) T d p a l E) (hp : p < T) (hc : cnt < 1000000) (eo : txt v t p = 4) : ORD w v t T d p cnt a l E := by
  have h0 := h
  have hd3 := hi.1
  obtain ⟨⟨h1, h2, h3, h4⟩, ⟨h5, h6, h7, h8⟩, ⟨h9, h10⟩, ⟨h11, h12⟩, ⟨h13, h14⟩, ⟨h15, h16⟩, h17, ⟨c, hc24, h18, h19, h20⟩, h21⟩ := h
  have D : f_X11_does v = bd (f_X11_isLong 1 v) fun r_42 => if r_42 = 0 then (some (0, v)) else (b2 (f_X11_loops v) fun r_45 w_47 => lt (if r_45 = 0 then 0 else 1 : Int32) fun v_48 => gd (bz v_48 = true) <| some (v_48, w_47)) := by
    unfold f_X11_does
    rw [n0_e h0 hp, bd_s, eo, if_neg (show ¬ (4 : Int32) = 0 by decide), if_neg (show ¬ (4 : Int32) = 1 by decide), if_neg (show ¬ (4 : Int32) = 2 by decide), if_neg (show ¬ (4 : Int32) = 3 by decide), if_pos rfl]
  have CC := fun m => ordC h0 hp hc eo (by decide) (r := 1) (by decide) (by omega) m
  by_cases z : p + 1 < T
  rotate_left
  · refine Or.inl ⟨w, v, FC_r w, FV_r v, fun m => by rw [CC m, if_neg z], fun m => ?_⟩
    rw [l97_s h0 hp m, D, show f_X11_isLong 1 v = some 0 from lf_n h0 (by omega) (k := 1) (by omega) z, bd_s, if_pos rfl, b2_s, if_pos rfl, h5]
  have L1 : f_X11_isLong 1 v = some 1 := lf_e h0 (by omega) (k := 1) (by omega) z
  have q1 : f_X11_number 1 v = some (txt v t (p + 1)) := num_e h0 (k := 1) z
  have q1' : ∀ x, f_X11_number 1 (mS v 20 d x) = some (txt v t (p + 1)) := fun x => by
    have := q1
    unfold f_X11_number at this ⊢
    rw [mS_ne (show (0 : Nat) ≠ 20 by decide), mS_ne (show (0 : Nat) ≠ 20 by decide)]
    exact this
  have CD : ∀ m, f_X6_firstFault_L8 t (m + 1) (nI p) (nI cnt) w = (b2 (b2 (f_X6_opens (txt v t (p+1)) (mS w 67 4 (nI (p + 1 + 1)))) fun r_27 w_29 => gd (bz r_27 = true) <| some (r_27, w_29)) fun r_23 w_25 => if r_23 = 0 then some (.inl (nI p, w_25)) else f_X6_firstFault_L8 t m (w_25.1 67 4) (nI (cnt + 1)) w_25) := fun m => by
    rw [CC m, if_pos z, if_neg (show ¬ (1 : Nat) = 0 by omega), if_pos (show (1 : Nat) ≤ 1 by omega)]
    unfold f_X6_isDone
    rw [lt_e, if_neg (show ¬ (4 : Int32) = 1 by decide), if_neg (show ¬ (4 : Int32) = 2 by decide), if_neg (show ¬ (4 : Int32) = 3 by decide), if_pos rfl]
  have fc : FC w (mS w 67 4 (nI (p + 1 + 1))) := FC_s (FC_r w) (by omega)
  have bad : f_X11_loops v = some (0, v) → f_X6_opens (txt v t (p+1)) (mS w 67 4 (nI (p + 1 + 1))) = some (0, mS w 67 4 (nI (p + 1 + 1))) → ORD w v t T d p cnt a l E := by
    intro s4 g4
    refine Or.inl ⟨_, v, fc, FV_r v, fun m => by rw [CD m, g4, b2_s, gd_t bz0, b2_s, if_pos rfl], fun m => ?_⟩
    rw [l97_s h0 hp m, D, L1, bd_s, if_neg one_ne, s4, b2_s, lt_e, if_pos rfl, gd_t bz0, b2_s, if_pos rfl, h5]
  rcases in_c (txt v t (p+1)) 1 9 with ⟨k1, k2⟩ | ⟨k1, k2⟩
  rotate_left
  · refine bad ?_ ?_
    · unfold f_X11_loops
      rw [q1, bd_s, k1, bd_s, if_pos rfl]
    · unfold f_X6_opens
      by_cases y : txt v t (p+1) < 1
      · rw [if_pos y]
      · rw [if_neg y, if_pos (by rw [i_lt] at y ⊢; simp at y k2 ⊢; omega)]
  simp at k2
  have y1 : ¬ txt v t (p+1) < 1 := by rw [i_lt]; simp; omega
  have y2 : ¬ 9 < txt v t (p+1) := by rw [i_lt]; simp; omega
  by_cases d3 : d < 3
  rotate_left
  · obtain rfl : d = 3 := by omega
    refine bad ?_ ?_
    · unfold f_X11_loops
      rw [q1, bd_s, k1, bd_s, if_neg one_ne, h10, if_pos (show nI 3 = 3 from rfl)]
    · unfold f_X6_opens
      rw [if_neg y1, if_neg y2, mS_nj (show (3 : Nat) ≠ 4 by decide), h9, if_neg (show ¬ nI 3 < 3 by decide)]
  obtain ⟨n, hn, en⟩ := i_nat (x := txt v t (p+1)) (N := 10) (by omega) (by omega) (by omega)
  rw [en, nI_toInt (by omega)] at k2
  obtain ⟨i1, i2⟩ := IV_4 (n := n - 1) hi d3 (by omega) (by omega) eo
  have O : f_X6_opens (txt v t (p+1)) (mS w 67 4 (nI (p + 1 + 1))) = some (1, mS (mS (mS (mS w 67 4 (nI (p + 1 + 1))) 68 d (nI (p + 1 + 1))) 69 d (nI n)) 67 3 (nI (d + 1))) := by
    unfold f_X6_opens
    rw [if_neg y1, if_neg y2, mS_nj (show (3 : Nat) ≠ 4 by decide), h9, if_pos (show nI d < 3 by rw [nI_lit 3, nI_ltI (by omega) (by omega)]; exact d3), gd_t (inb_nI d3 (by omega)), lt_e, nI_clamp (by omega), mS_eq, mS_ne (show (67 : Nat) ≠ 68 by decide), mS_nj (show (3 : Nat) ≠ 4 by decide), h9, gd_t (inb_nI d3 (by omega)), lt_e, lt_e, nI_clamp (by omega), mS_ne (show (67 : Nat) ≠ 69 by decide), mS_ne (show (67 : Nat) ≠ 68 by decide), mS_nj (show (3 : Nat) ≠ 4 by decide), h9, nI_1, en]
  have M : f_X11_loops v = some (1, mS (mS (mS (mS v 20 d (nI (p + 2))) 21 d (nI (n - 1))) 0 38 (nI (d + 1))) 0 29 (nI (p + 2))) := by
    unfold f_X11_loops
    rw [q1, bd_s, k1, bd_s, if_neg one_ne, h10, if_neg (show ¬ nI d = 3 from nI_ne (a := d) (b := 3) (by omega) (by omega) (by omega)), gd_t (inb_nI d3 (by omega)), lt_e, nI_clamp (by omega), h5, show nI p + 2 = nI (p + 2) from by rw [nI_lit 2, nI_add], q1', bd_s, mS_ne (show (0 : Nat) ≠ 20 by decide), h10, gd_t (inb_nI d3 (by omega)), lt_e, lt_e, lt_e, nI_clamp (by omega), en, nI_pr (by omega), mS_ne (show (0 : Nat) ≠ 21 by decide), mS_ne (show (0 : Nat) ≠ 20 by decide), h10, nI_1, mS_nj (show (29 : Nat) ≠ 38 by decide), mS_ne (show (0 : Nat) ≠ 21 by decide), mS_ne (show (0 : Nat) ≠ 20 by decide), h5, show nI p + 2 = nI (p + 2) from by rw [nI_lit 2, nI_add]]
  refine Or.inr (Or.inr ⟨mS (mS (mS (mS w 67 4 (nI (p + 1 + 1))) 68 d (nI (p + 1 + 1))) 69 d (nI n)) 67 3 (nI (d + 1)), mS (mS (mS (mS v 20 d (nI (p + 2))) 21 d (nI (n - 1))) 0 38 (nI (d + 1))) 0 29 (nI (p + 2)), d + 1, p + 2, st1 a d (p + 2), st1 l d (n - 1), st1 E d 0, FC_s (FC_s (FC_s fc (o := 68) (by omega)) (o := 69) (by omega)) (o := 67) (by omega), FV_s (FV_s (FV_s (FV_s (FV_r v) (o := 20) (by omega)) (o := 21) (by omega)) (o := 0) (j := 38) (by omega)) (o := 0) (j := 29) (by omega), ?_, i1, i2, fun m => ?_, fun m => ?_⟩)
  rotate_left
  · rw [CD m, O, b2_s, gd_t bz1, b2_s, if_neg one_ne, mS_nj (show (4 : Nat) ≠ 3 by decide), mS_ne (show (67 : Nat) ≠ 69 by decide), mS_ne (show (67 : Nat) ≠ 68 by decide), mS_eq]
  · rw [l97_s h0 hp m, D, L1, bd_s, if_neg one_ne, M, b2_s, lt_e, if_neg one_ne, gd_t bz1, b2_s, if_neg one_ne]
  · refine ⟨⟨h1, h2, ?_, h4⟩, ⟨mS_eq, h6, h7, h8⟩, ⟨rfl, rfl⟩, ⟨h11, h12⟩, ⟨h13, h14⟩, ⟨h15, h16⟩, fun k hk => ?_, ⟨c, hc24, h18, h19, fun j hj => ?_⟩, h21⟩
    · rw [mS_ne (by omega), mS_ne (by omega), mS_ne (by omega), mS_ne (by omega)]; exact h3
    · by_cases y : k = d
      · subst y
        rw [st1_e, st1_e]
        simp (disch := decide) only [mS_ne, mS_eq]
        refine ⟨trivial, trivial, ?_, trivial⟩
        rw [show n - 1 + 1 = n by omega]
      · rw [st1_n a y, st1_n l y]
        simp (disch := first | decide | assumption) only [mS_ne, mS_nj]
        exact h17 k (by omega)
    · simp (disch := decide) only [mS_ne]
      exact h20 j hj
/-- order 5 -/
theorem ord_5 {w v : Mem} {t T d p cnt : Nat} {a l E : Nat → Nat} (h : STR w v t T d p a l) (hi : IVR (txt v t) T d p a l E) (hp : p < T) (hc : cnt < 1000000) (eo : txt v t p = 5) : ORD w v t T d p cnt a l E := by
  have h0 := h
  have hd3 := hi.1
  have l8 := hi.2.2.1
  obtain ⟨⟨h1, h2, h3, h4⟩, ⟨h5, h6, h7, h8⟩, ⟨h9, h10⟩, ⟨h11, h12⟩, ⟨h13, h14⟩, ⟨h15, h16⟩, h17, ⟨c, hc24, h18, h19, h20⟩, h21⟩ := h
  have D : f_X11_does v = b2 (f_X11_goesRound v) fun r_53 w_55 => gd (bz r_53 = true) <| some (r_53, w_55) := by
    unfold f_X11_does
    rw [n0_e h0 hp, bd_s, eo, if_neg (show ¬ (5 : Int32) = 0 by decide), if_neg (show ¬ (5 : Int32) = 1 by decide), if_neg (show ¬ (5 : Int32) = 2 by decide), if_neg (show ¬ (5 : Int32) = 3 by decide), if_neg (show ¬ (5 : Int32) = 4 by decide), if_pos rfl]
  have CD : ∀ m, f_X6_firstFault_L8 t (m + 1) (nI p) (nI cnt) w = (b2 (b2 (f_X6_closes (mS w 67 4 (nI (p + 1 + 0)))) fun r_32 w_34 => gd (bz r_32 = true) <| some (r_32, w_34)) fun r_23 w_25 => if r_23 = 0 then some (.inl (nI p, w_25)) else f_X6_firstFault_L8 t m (w_25.1 67 4) (nI (cnt + 1)) w_25) := fun m => by
    rw [ordC h0 hp hc eo (by decide) (r := 0) (by decide) (by omega) m, if_pos (show p + 0 < T from hp), if_pos (show (0 : Nat) = 0 from rfl), if_pos (show (0 : Nat) ≤ 1 by omega)]
    unfold f_X6_isDone
    rw [lt_e, if_neg (show ¬ (5 : Int32) = 1 by decide), if_neg (show ¬ (5 : Int32) = 2 by decide), if_neg (show ¬ (5 : Int32) = 3 by decide), if_neg (show ¬ (5 : Int32) = 4 by decide), if_pos rfl]
  have fc : FC w (mS w 67 4 (nI (p + 1 + 0))) := FC_s (FC_r w) (by omega)
  by_cases d0 : d = 0
  · subst d0
    refine Or.inl ⟨_, v, fc, FV_r v, fun m => ?_, fun m => ?_⟩
    · rw [CD m]
      unfold f_X6_closes
      rw [mS_nj (show (3 : Nat) ≠ 4 by decide), h9, if_neg (show ¬ 1 ≤ nI 0 by decide), b2_s, gd_t bz0, b2_s, if_pos rfl]
    · rw [l97_s h0 hp m, D]
      unfold f_X11_goesRound
      rw [h10, if_pos (show nI 0 = 0 by decide), b2_s, gd_t bz0, b2_s, if_pos rfl, h5]
  obtain ⟨e, rfl⟩ : ∃ e, d = e + 1 := ⟨d - 1, by omega⟩
  obtain ⟨f1, f2, f3, f4⟩ := h17 e (by omega)
  have le := l8 e
  have pr : nI (e + 1) - 1 = nI e := by rw [nI_pr (by omega)]; rfl
  have C0 : f_X6_closes (mS w 67 4 (nI (p + 1 + 0))) = if l e = 0 then some (1, mS (mS (mS w 67 4 (nI (p + 1 + 0))) 69 e (nI (l e))) 67 3 (nI e)) else some (1, mS (mS (mS w 67 4 (nI (p + 1 + 0))) 69 e (nI (l e))) 67 4 (nI (a e))) := by
    unfold f_X6_closes
    rw [mS_nj (show (3 : Nat) ≠ 4 by decide), h9, if_pos (show 1 ≤ nI (e + 1) by rw [nI_lit 1, nI_leI (by omega) (by omega)]; omega), pr, gd_t (inb_nI (by omega) (by omega)), lt_e, nI_clamp (n := e) (by omega), mS_ne (show (69 : Nat) ≠ 67 by decide), f3, show nI (l e + 1) - 1 = nI (l e) from by rw [nI_pr (by omega)]; rfl, lt_e, mS_ne (show (67 : Nat) ≠ 69 by decide), mS_nj (show (3 : Nat) ≠ 4 by decide), h9, pr, gd_t (inb_nI (by omega) (by omega)), lt_e, nI_clamp (n := e) (by omega), mS_eq]
    by_cases y : l e = 0
    · rw [if_pos y, if_pos (show nI (l e) ≤ 0 by rw [y]; decide), lt_e]
    · rw [if_neg y, if_neg (show ¬ nI (l e) ≤ 0 by rw [show (0 : Int32) = nI 0 from rfl, nI_leI (by omega) (by omega)]; omega), lt_e, lt_e, mS_ne (show (68 : Nat) ≠ 69 by decide), mS_ne (show (68 : Nat) ≠ 67 by decide), f1]
  have M0 : f_X11_goesRound v = if l e = 0 then some (1, mS (mS v 0 38 (nI e)) 0 29 (nI (p + 1))) else some (1, mS (mS v 21 e (nI (l e - 1))) 0 29 (nI (a e))) := by
    unfold f_X11_goesRound
    rw [h10, if_neg (nz (n := e + 1) (by omega) (by omega)), pr, gd_t (inb_nI (by omega) (by omega)), lt_e, nI_clamp (n := e) (by omega), f4]
    by_cases y : l e = 0
    · rw [if_pos y, if_pos (show nI (l e) ≤ 0 by rw [y]; decide), lt_e, lt_e, mS_nj (show (29 : Nat) ≠ 38 by decide), h5, nI_1]
    · rw [if_neg y, if_neg (show ¬ nI (l e) ≤ 0 by rw [show (0 : Int32) = nI 0 from rfl, nI_leI (by omega) (by omega)]; omega), lt_e, lt_e, mS_ne (show (0 : Nat) ≠ 21 by decide), h10, pr, gd_t (inb_nI (by omega) (by omega)), lt_e, lt_e, nI_clamp (n := e) (by omega), mS_ne (show (20 : Nat) ≠ 21 by decide), f2, nI_pr (by omega)]
  by_cases y : l e = 0
  · rw [if_pos y] at C0 M0
    obtain ⟨i1, i2⟩ := IV_5p hi hp y eo
    refine Or.inr (Or.inr ⟨mS (mS (mS w 67 4 (nI (p + 1 + 0))) 69 e (nI (l e))) 67 3 (nI e), mS (mS v 0 38 (nI e)) 0 29 (nI (p + 1)), e, p + 1, a, l, E, FC_s (FC_s fc (o := 69) (by omega)) (o := 67) (by omega), FV_s (FV_s (FV_r v) (o := 0) (j := 38) (by omega)) (o := 0) (j := 29) (by omega), ?_, i1, i2, fun m => ?_, fun m => ?_⟩)
    rotate_left
    · rw [CD m, C0, b2_s, gd_t bz1, b2_s, if_neg one_ne, mS_nj (show (4 : Nat) ≠ 3 by decide), mS_ne (show (67 : Nat) ≠ 69 by decide), mS_eq]
    · rw [l97_s h0 hp m, D, M0, b2_s, gd_t bz1, b2_s, if_neg one_ne]
    · refine ⟨⟨h1, h2, ?_, h4⟩, ⟨mS_eq, h6, h7, h8⟩, ⟨rfl, rfl⟩, ⟨h11, h12⟩, ⟨h13, h14⟩, ⟨h15, h16⟩, fun k hk => ?_, ⟨c, hc24, h18, h19, fun j hj => ?_⟩, h21⟩
      · rw [mS_ne (by omega), mS_ne (by omega), mS_ne (by omega)]; exact h3
      · have ke : k ≠ e := by omega
        simp (disch := first | decide | assumption) only [mS_ne, mS_nj]
        exact h17 k (by omega)
      · simp (disch := decide) only [mS_ne]
        exact h20 j hj
  · rw [if_neg y] at C0 M0
    obtain ⟨i1, i2⟩ := IV_5r hi hp (by omega) eo
    refine Or.inr (Or.inr ⟨mS (mS (mS w 67 4 (nI (p + 1 + 0))) 69 e (nI (l e))) 67 4 (nI (a e)), mS (mS v 21 e (nI (l e - 1))) 0 29 (nI (a e)), e + 1, a e, a, st1 l e (l e - 1), st1 E e (p + 1), FC_s (FC_s fc (o := 69) (by omega)) (o := 67) (by omega), FV_s (FV_s (FV_r v) (o := 21) (by omega)) (o := 0) (j := 29) (by omega), ?_, i1, i2, fun m => ?_, fun m => ?_⟩)
    rotate_left
    · rw [CD m, C0, b2_s, gd_t bz1, b2_s, if_neg one_ne, mS_eq]
    · rw [l97_s h0 hp m, D, M0, b2_s, gd_t bz1, b2_s, if_neg one_ne]
    · refine ⟨⟨h1, h2, ?_, h4⟩, ⟨mS_eq, h6, h7, h8⟩, ⟨h9, h10⟩, ⟨h11, h12⟩, ⟨h13, h14⟩, ⟨h15, h16⟩, fun k hk => ?_, ⟨c, hc24, h18, h19, fun j hj => ?_⟩, h21⟩
      · rw [mS_ne (by omega), mS_ne (by omega), mS_ne (by omega)]; exact h3
      · by_cases x : k = e
        · subst x
          rw [st1_e]
          simp (disch := decide) only [mS_ne, mS_eq]
          exact ⟨f1, f2, by rw [show l k - 1 + 1 = l k by omega], trivial⟩
        · rw [st1_n l x]
          simp (disch := first | decide | assumption) only [mS_ne, mS_nj]
          exact h17 k (by omega)
      · simp (disch := decide) only [mS_ne]
        exact h20 j hj
theorem ord_e {w v : Mem} {t T d p cnt : Nat} {a l E : Nat → Nat} (h : STR w v t T d p a l) (hi : IVR (txt v t) T d p a l E) (hp : p < T) (hc : cnt < 1000000) : ORD w v t T d p cnt a l E := by
  by_cases n0 : txt v t p = 0
  · exact ord_0 h hp hc hi.1 n0
  by_cases n1 : txt v t p = 1
  · exact ord_1 h hi hp hc n1
  by_cases n2 : txt v t p = 2
  · exact ord_2 h hi hp hc n2
  by_cases n3 : txt v t p = 3
  · exact ord_3 h hi hp hc n3
  by_cases n4 : txt v t p = 4
  · exact ord_4 h hi hp hc n4
  by_cases n5 : txt v t p = 5
  · exact ord_5 h hi hp hc n5
  by_cases n6 : txt v t p = 6
  · exact ord_6 h hi hp hc n6
  exact ord_n h hp hc n0 n1 n2 n3 n4 n5 n6
