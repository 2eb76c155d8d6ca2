/-! ===== 1 read: an order at a time (98b: by wip/gen/p98b.txt and fr.py) ===== -/
def FC (w w' : Mem) : Prop := (∀ o, o ≠ 63 → o ≠ 64 → o ≠ 65 → o ≠ 67 → o ≠ 68 → o ≠ 69 → w'.1 o = w.1 o) ∧ w'.2 = w.2
def FV (v v' : Mem) : Prop := (∀ o, o ≠ 0 → o ≠ 18 → o ≠ 19 → o ≠ 20 → o ≠ 21 → v'.1 o = v.1 o) ∧ (∀ j, j < 29 ∨ 39 < j → v'.1 0 j = v.1 0 j) ∧ v'.2 = v.2
theorem FC_r (w : Mem) : FC w w := ⟨fun _ _ _ _ _ _ _ => rfl, rfl⟩
theorem FV_r (v : Mem) : FV v v := ⟨fun _ _ _ _ _ _ => rfl, fun _ _ => rfl, rfl⟩
theorem FC_t {a b c : Mem} (h : FC a b) (g : FC b c) : FC a c := ⟨fun o p1 p2 p3 p4 p5 p6 => by rw [g.1 o p1 p2 p3 p4 p5 p6, h.1 o p1 p2 p3 p4 p5 p6], by rw [g.2, h.2]⟩
theorem FV_t {a b c : Mem} (h : FV a b) (g : FV b c) : FV a c := ⟨fun o p1 p2 p3 p4 p5 => by rw [g.1 o p1 p2 p3 p4 p5, h.1 o p1 p2 p3 p4 p5], fun j p => by rw [g.2.1 j p, h.2.1 j p], by rw [g.2.2, h.2.2]⟩
theorem FC_s {w w' : Mem} (h : FC w w') {o j : Nat} {x : Int32} (ho : o = 63 ∨ o = 64 ∨ o = 65 ∨ o = 67 ∨ o = 68 ∨ o = 69) : FC w (mS w' o j x) := by
  refine ⟨fun q p1 p2 p3 p4 p5 p6 => ?_, h.2⟩
  rw [mS_o (by omega)]; exact h.1 q p1 p2 p3 p4 p5 p6
theorem FV_s {v v' : Mem} (h : FV v v') {o j : Nat} {x : Int32} (ho : o = 18 ∨ o = 19 ∨ o = 20 ∨ o = 21 ∨ (o = 0 ∧ 29 ≤ j ∧ j ≤ 39)) : FV v (mS v' o j x) := by
  refine ⟨fun q p1 p2 p3 p4 p5 => ?_, fun i p => ?_, h.2.2⟩
  · rw [mS_o (by omega)]; exact h.1 q p1 p2 p3 p4 p5
  · by_cases c : o = 0
    · subst c
      rw [mS_nj (by omega)]; exact h.2.1 i p
    · rw [mS_ne (by omega)]; exact h.2.1 i p
theorem Rel_FCV {w v w' v' : Mem} (h : Rel w v) (a : FC w w') (b : FV v v') : Rel w' v' := by
  obtain ⟨hD, hP, hH, hB, hJ, hS, hF, hR, hT⟩ := h
  obtain ⟨a1, a3⟩ := a
  obtain ⟨b1, b2, b3⟩ := b
  have k : ∀ o, o < 63 ∨ o = 66 ∨ 69 < o → w'.1 o = w.1 o := fun o p => a1 o (by omega) (by omega) (by omega) (by omega) (by omega) (by omega)
  have l : ∀ o, (0 < o ∧ o < 18) ∨ 21 < o → v'.1 o = v.1 o := fun o p => b1 o (by omega) (by omega) (by omega) (by omega) (by omega)
  refine ⟨?_, ?_, ?_, ?_, ?_, ?_, ?_, ?_, ?_⟩
  · exact RD_c hD (fun o ho => k o (by omega)) (l _ (by omega)) (l _ (by omega)) (l _ (by omega))
  · exact RP_c hP (k _ (by omega)) (k _ (by omega)) (k _ (by omega)) (b2 _ (by omega)) (b2 _ (by omega)) (l _ (by omega)) (l _ (by omega))
  · exact RH_c hH (by rw [k 72 (by omega)]) (k _ (by omega)) (b2 _ (by omega)) (l _ (by omega))
  · exact RB_c hB (k _ (by omega)) (k _ (by omega)) (l _ (by omega)) (b2 _ (by omega)) (b2 _ (by omega)) (b2 _ (by omega)) (b2 _ (by omega))
  · exact RJ_c hJ (by rw [k 76 (by omega)]) (k _ (by omega)) (k _ (by omega)) (b2 _ (by omega)) (l _ (by omega)) (l _ (by omega))
  · exact RS_c hS (k _ (by omega)) (k _ (by omega)) (k _ (by omega)) (b2 _ (by omega)) (l _ (by omega)) (l _ (by omega)) (l _ (by omega))
  · exact RF_c hF (by rw [k 83 (by omega)]) (k _ (by omega)) (k _ (by omega)) (b2 _ (by omega)) (l _ (by omega)) (l _ (by omega))
  · exact RR_c hR (by rw [k 66 (by omega)]) (b2 _ (by omega))
  · exact RT_c hT (fun o p q => k o (by omega)) (fun o p q => by rw [a3]) (l _ (by omega)) (l _ (by omega)) (l _ (by omega)) (by rw [b3])
/-- the text on tape t -/
def txt (v : Mem) (t : Nat) (q : Nat) : Int32 := (v.2 17 (400 * t + q)).toInt32
/-- both in the middle of the text -/
def STR (w v : Mem) (t T d p : Nat) (a l : Nat → Nat) : Prop := (t < 6 ∧ T ≤ 400 ∧ w.1 (48+2*t) 3 = nI T ∧ (∀ j, j < 400 → (w.2 (49+2*t) j).toInt32 = txt v t j)) ∧ (v.1 0 29 = nI p ∧ v.1 0 30 = nI T ∧ v.1 0 31 = nI t ∧ v.1 0 39 = 0) ∧ (w.1 67 3 = nI d ∧ v.1 0 38 = nI d) ∧ (w.1 67 5 = v.1 0 33 ∧ w.1 67 6 = v.1 0 34) ∧ (w.1 67 7 = v.1 0 35 ∧ (v.1 0 35 = 0 ∨ v.1 0 35 = 1)) ∧ (w.1 67 8 = v.1 0 36 ∧ (v.1 0 36 = 0 ∨ v.1 0 36 = 1)) ∧ (∀ k, k < d → w.1 68 k = nI (a k) ∧ v.1 20 k = nI (a k) ∧ w.1 69 k = nI (l k + 1) ∧ v.1 21 k = nI (l k)) ∧ (∃ c, c ≤ 24 ∧ w.1 63 2 = nI c ∧ v.1 0 32 = nI c ∧ ∀ j, j < c → w.1 64 j = v.1 18 j ∧ w.1 65 j = v.1 19 j ∧ ir 12 (v.1 18 j) ∧ ir 100 (v.1 19 j)) ∧ (v.1 0 36 = 1 → w.1 63 3 = v.1 0 37 ∧ ir 100 (v.1 0 37))
theorem num_e {w v : Mem} {t T d p : Nat} {a l : Nat → Nat} (h : STR w v t T d p a l) {k : Nat} (hk : p + k < T) : f_X11_number (nI k) v = some (txt v t (p + k)) := by
  obtain ⟨⟨h1, h2, h3, h4⟩, ⟨h5, h6, h7, h8⟩, _⟩ := h
  unfold f_X11_number txt
  rw [h7, h5, ix400, lt_e, nI_add, gd_t (inb_nI (by omega) (by omega)), lt_e, nI_clamp (by omega), Nat.add_assoc]
theorem long_e {w v : Mem} {t T d p : Nat} {a l : Nat → Nat} (h : STR w v t T d p a l) (hp : p ≤ T) {k : Nat} (hk : k ≤ 400) : f_X11_isLong (nI k) v = some (if p + k < T then 1 else 0) := by
  obtain ⟨⟨h1, h2, h3, h4⟩, ⟨h5, h6, h7, h8⟩, _⟩ := h
  unfold f_X11_isLong
  rw [h6, h5, nI_add, lt_e]
  by_cases c : p + k < T
  · rw [if_neg (by rw [nI_leI (by omega) (by omega)]; omega), if_pos c, gd_t bz1]
  · rw [if_pos (by rw [nI_leI (by omega) (by omega)]; omega), if_neg c, gd_t bz0]
/-- an order of the class -/
theorem ordC {w v : Mem} {t T d p : Nat} {a l : Nat → Nat} (h : STR w v t T d p a l) (hp : p < T) {cnt : Nat} (hc : cnt < 1000000) {o : Int32} (eo : txt v t p = o) (o0 : ¬ o = 0) {r : Nat} (hr : f_X6_numbersOf o = some (nI r)) (hr2 : r ≤ 2) (m : Nat) : f_X6_firstFault_L8 t (m + 1) (nI p) (nI cnt) w = if p + r < T then (b2 (f_X6_isDone o (if r = 0 then 0 else txt v t (p + 1)) (if r ≤ 1 then 0 else txt v t (p + 2)) (mS w 67 4 (nI (p + 1 + r)))) fun r_23 w_25 => if r_23 = 0 then some (.inl (nI p, w_25)) else f_X6_firstFault_L8 t m (w_25.1 67 4) (nI (cnt + 1)) w_25) else some (.inl (nI p, w)) := by
  obtain ⟨⟨h1, h2, h3, h4⟩, _⟩ := h
  rw [f_X6_firstFault_L8_s, if_neg (show ¬ 1000000 ≤ nI cnt by rw [nI_lit 1000000, nI_leI (by omega) (by omega)]; omega), h3, if_neg (show ¬ nI T ≤ nI p by rw [nI_leI (by omega) (by omega)]; omega), gd_t (inb_nI (by omega) (by omega)), lt_e, nI_clamp (n := p) (by omega), lt_e, h4 p (by omega), eo, if_neg o0, hr, bd_s, if_neg (show ¬ nI r < 0 by rw [i_lt, nI_toInt (by omega)]; simp), nI_add]
  by_cases c : p + r < T
  rotate_left
  · rw [if_neg (by rw [nI_ltI (by omega) (by omega)]; exact c), if_neg c]
  rw [if_pos (by rw [nI_ltI (by omega) (by omega)]; exact c), if_pos c, lt_e]
  have K : ∀ t19 : Int32, (lt (fun (t_21 : Int32) => (lt (mS w 67 4 ((nI p + 1) + nI r)) fun w_22 =>
                  b2 (f_X6_isDone o t19 t_21 w_22) fun r_23 w_25 =>
                  if r_23 = 0 then
                    (some (.inl (nI p, w_25)))
                  else
                    (lt (w_25.1 67 4 : Int32) fun v_27 =>
                    lt (nI cnt + 1 : Int32) fun x3_28 =>
                    f_X6_firstFault_L8 t m v_27 x3_28 w_25)
                  : Option (Sum (Int32 × Mem) (Mem)))) fun k_20 =>
                if nI r ≤ 1 then
                  (k_20 0)
                else
                  (gd (inb (nI p + 2) 400 = true) <|
                  lt (w.2 (49+2*t) (nI p + 2).toNatClampNeg : Int64) fun v_31 =>
                  k_20 v_31.toInt32)) = (b2 (f_X6_isDone o t19 (if r ≤ 1 then 0 else txt v t (p + 2)) (mS w 67 4 (nI (p + 1 + r)))) fun r_23 w_25 => if r_23 = 0 then some (.inl (nI p, w_25)) else f_X6_firstFault_L8 t m (w_25.1 67 4) (nI (cnt + 1)) w_25) := by
    intro t19
    rw [lt_e]
    dsimp only
    simp only [lt_e]
    rw [nI_1, nI_add, nI_s]
    by_cases e : r ≤ 1
    · rw [if_pos (show nI r ≤ 1 by rw [nI_lit 1, nI_leI (by omega) (by omega)]; exact e), if_pos e]
    · rw [if_neg (show ¬ nI r ≤ 1 by rw [nI_lit 1, nI_leI (by omega) (by omega)]; exact e), if_neg e, show nI p + 2 = nI (p + 2) from by rw [nI_lit 2, nI_add], gd_t (inb_nI (by omega) (by omega)), nI_clamp (n := p + 2) (by omega), h4 (p + 2) (by omega)]
  dsimp only
  have hcl : (nI p + 1).toNatClampNeg = p + 1 := by rw [nI_1]; exact nI_clamp (n := p + 1) (by omega)
  by_cases e : r = 0
  · subst e
    rw [if_pos (show nI 0 ≤ 0 by decide), if_pos rfl]
    exact K 0
  · have hin : inb (nI p + 1) 400 = true := by rw [nI_1]; exact inb_nI (n := p + 1) (by omega) (by omega)
    rw [if_neg (show ¬ nI r ≤ 0 by rw [show (0 : Int32) = nI 0 from rfl, nI_leI (by omega) (by omega)]; omega), if_neg e, gd_t hin, lt_e, hcl, h4 (p + 1) (by omega)]
    exact K _
/-- what an order does to both: a fault, or on with what stands open then -/
def ORD (w v : Mem) (t T d p cnt : Nat) (a l E : Nat → Nat) : Prop := (∃ w' v', FC w w' ∧ FV v v' ∧ (∀ m, f_X6_firstFault_L8 t (m + 1) (nI p) (nI cnt) w = some (.inl (nI p, w'))) ∧ ∀ m, f_X11_read_L97 (m + 1) v = some (.inl (-100 - nI p, v'))) ∨ (∃ v', FV v v' ∧ (∃ c, 0 < c ∧ c ≤ 24 ∧ w.1 63 2 = nI c ∧ v'.1 0 32 = nI c ∧ w.1 63 3 = v'.1 0 37 ∧ ir 100 (v'.1 0 37) ∧ ∀ j, j < c → w.1 64 j = v'.1 18 j ∧ w.1 65 j = v'.1 19 j ∧ ir 12 (v'.1 18 j) ∧ ir 100 (v'.1 19 j)) ∧ (∀ m, f_X6_firstFault_L8 t (m + 1) (nI p) (nI cnt) w = some (.inl (-1, w))) ∧ ∀ m, f_X11_read_L97 (m + 2) v = some (.inr v')) ∨ (∃ w' v' d' p' a' l' E', FC w w' ∧ FV v v' ∧ STR w' v' t T d' p' a' l' ∧ IVR (txt v t) T d' p' a' l' E' ∧ sumN (rmN d' p' a' l' E') T < sumN (rmN d p a l E) T ∧ (∀ m, f_X6_firstFault_L8 t (m + 1) (nI p) (nI cnt) w = f_X6_firstFault_L8 t m (nI p') (nI (cnt + 1)) w') ∧ ∀ m, f_X11_read_L97 (m + 1) v = f_X11_read_L97 m v')
theorem l97_s {w v : Mem} {t T d p : Nat} {a l : Nat → Nat} (h : STR w v t T d p a l) (hp : p < T) (m : Nat) : f_X11_read_L97 (m + 1) v = b2 (f_X11_does v) fun r_22 w_24 => if r_22 = 0 then some (.inl (-100 - w_24.1 0 29, w_24)) else f_X11_read_L97 m w_24 := by
  obtain ⟨⟨h1, h2, h3, h4⟩, ⟨h5, h6, h7, h8⟩, _⟩ := h
  rw [f_X11_read_L97_s, h8, if_pos rfl, h5, h6, if_neg (show ¬ nI p = nI T from nI_ne (by omega) (by omega) (by omega))]
theorem n0_e {w v : Mem} {t T d p : Nat} {a l : Nat → Nat} (h : STR w v t T d p a l) (hp : p < T) : f_X11_number 0 v = some (txt v t p) := num_e h (k := 0) hp
/-- order 0 -/
theorem ord_0 {w v : Mem} {t T d p cnt : Nat} {a l E : Nat → Nat} (h : STR w v t T d p a l) (hp : p < T) (hc : cnt < 1000000) (hd : d ≤ 3) (eo : txt v t p = 0) : ORD w v t T d p cnt a l E := by
  have h0 := h
  obtain ⟨⟨h1, h2, h3, h4⟩, ⟨h5, h6, h7, h8⟩, ⟨h9, h10⟩, ⟨h11, h12⟩, ⟨h13, h14⟩, ⟨h15, h16⟩, h17, ⟨c, hc24, h18, h19, h20⟩, h21⟩ := h
  have ev : (if nI d = 0 then (if nI c ≤ 0 then (0 : Int32) else (if v.1 0 36 = 0 then 0 else 1)) else 0) = if d = 0 ∧ 0 < c ∧ v.1 0 36 = 1 then 1 else 0 := by
    by_cases d0 : d = 0
    · subst d0
      rw [if_pos (show nI 0 = 0 by decide)]
      by_cases c0 : c = 0
      · subst c0
        rw [if_pos (show nI 0 ≤ 0 by decide), if_neg (by omega)]
      · rw [if_neg (show ¬ nI c ≤ 0 by rw [show (0 : Int32) = nI 0 from rfl, nI_leI (by omega) (by omega)]; omega)]
        rcases h16 with e | e
        · rw [e, if_pos rfl, if_neg (fun z => absurd z.2.2 (by decide))]
        · rw [e, if_neg one_ne, if_pos ⟨rfl, by omega, rfl⟩]
    · rw [if_neg (nz (n := d) (by omega) (by omega)), if_neg (fun z => d0 z.1)]
  have h18' : w.1 (60+3*1) 2 = nI c := h18
  have C : ∀ m, f_X6_firstFault_L8 t (m + 1) (nI p) (nI cnt) w = some (.inl (if d = 0 ∧ 0 < c ∧ v.1 0 36 = 1 then -1 else nI p, w)) := fun m => by
    rw [f_X6_firstFault_L8_s, if_neg (show ¬ 1000000 ≤ nI cnt by rw [nI_lit 1000000, nI_leI (by omega) (by omega)]; omega), h3, if_neg (show ¬ nI T ≤ nI p by rw [nI_leI (by omega) (by omega)]; omega), gd_t (inb_nI (by omega) (by omega)), lt_e, nI_clamp (n := p) (by omega), lt_e, h4 p (by omega), eo, if_pos rfl]
    unfold f_X6_canEnd
    rw [h9, h18', h15, ev, lt_e]
    by_cases z : d = 0 ∧ 0 < c ∧ v.1 0 36 = 1
    · rw [if_pos z, gd_t bz1, bd_s, if_neg one_ne, lt_e, if_pos z]
    · rw [if_neg z, gd_t bz0, bd_s, if_pos rfl, lt_e, if_neg z]
  have M : f_X11_does v = some (if d = 0 ∧ 0 < c ∧ v.1 0 36 = 1 then 1 else 0, mS v 0 39 (if d = 0 ∧ 0 < c ∧ v.1 0 36 = 1 then 1 else 0)) := by
    unfold f_X11_does
    rw [n0_e h0 hp, bd_s, eo, if_pos rfl, h10, h19, ev, lt_e]
    by_cases z : d = 0 ∧ 0 < c ∧ v.1 0 36 = 1
    · rw [if_pos z, gd_t bz1, lt_e, mS_eq, gd_t bz1]
    · rw [if_neg z, gd_t bz0, lt_e, mS_eq, gd_t bz0]
  have fv : ∀ x, FV v (mS v 0 39 x) := fun x => FV_s (FV_r v) (by omega)
  by_cases z : d = 0 ∧ 0 < c ∧ v.1 0 36 = 1
  · rw [if_pos z] at M
    refine Or.inr (Or.inl ⟨mS v 0 39 1, fv 1, ⟨c, z.2.1, hc24, h18, ?_, ?_, ?_, fun j hj => ?_⟩, fun m => by rw [C m, if_pos z], fun m => ?_⟩)
    · rw [mS_nj (by decide)]; exact h19
    · rw [mS_nj (by decide)]; exact (h21 z.2.2).1
    · rw [mS_nj (by decide)]; exact (h21 z.2.2).2
    · rw [mS_ne (show (18 : Nat) ≠ 0 by decide), mS_ne (show (19 : Nat) ≠ 0 by decide)]; exact h20 j hj
    · rw [l97_s h0 hp (m + 1), M, b2_s, if_neg one_ne, f_X11_read_L97_s, mS_eq, if_neg one_ne]
  · rw [if_neg z] at M
    refine Or.inl ⟨w, mS v 0 39 0, FC_r w, fv 0, fun m => by rw [C m, if_neg z], fun m => ?_⟩
    rw [l97_s h0 hp m, M, b2_s, if_pos rfl, mS_nj (show (29 : Nat) ≠ 39 by decide), h5]
/-- no such order -/
theorem ord_n {w v : Mem} {t T d p cnt : Nat} {a l E : Nat → Nat} (h : STR w v t T d p a l) (hp : p < T) (hc : cnt < 1000000) (n0 : ¬ txt v t p = 0) (n1 : ¬ txt v t p = 1) (n2 : ¬ txt v t p = 2) (n3 : ¬ txt v t p = 3) (n4 : ¬ txt v t p = 4) (n5 : ¬ txt v t p = 5) (n6 : ¬ txt v t p = 6) : ORD w v t T d p cnt a l E := by
  have h0 := h
  obtain ⟨⟨h1, h2, h3, h4⟩, ⟨h5, h6, h7, h8⟩, _⟩ := h
  refine Or.inl ⟨w, v, FC_r w, FV_r v, fun m => ?_, fun m => ?_⟩
  · have nn : f_X6_numbersOf (txt v t p) = some (-1) := by
      unfold f_X6_numbersOf
      rw [if_neg n1, if_neg n2, if_neg n3, if_neg n4, if_neg n5, if_neg n6]
    rw [f_X6_firstFault_L8_s, if_neg (show ¬ 1000000 ≤ nI cnt by rw [nI_lit 1000000, nI_leI (by omega) (by omega)]; omega), h3, if_neg (show ¬ nI T ≤ nI p by rw [nI_leI (by omega) (by omega)]; omega), gd_t (inb_nI (by omega) (by omega)), lt_e, nI_clamp (n := p) (by omega), lt_e, h4 p (by omega), if_neg n0, nn, bd_s, if_pos (by decide)]
  · rw [l97_s h0 hp m]
    unfold f_X11_does
    rw [n0_e h0 hp, bd_s, if_neg n0, if_neg n1, if_neg n2, if_neg n3, if_neg n4, if_neg n5, if_neg n6, b2_s, if_pos rfl, h5]
/-- order 3 -/
theorem ord_3 {w v : Mem} {t T d p cnt : Nat} {a l E : Nat → Nat} (h : STR w v t T d p a l) (hi : IVR (txt v t) T d p a l E) (hp : p < T) (hc : cnt < 1000000) (eo : txt v t p = 3) : ORD w v t T d p cnt a l E := by
  have h0 := h
  obtain ⟨⟨h1, h2, h3, h4⟩, ⟨h5, h6, h7, h8⟩, ⟨h9, h10⟩, ⟨h11, h12⟩, ⟨h13, h14⟩, ⟨h15, h16⟩, h17, ⟨c, hc24, h18, h19, h20⟩, h21⟩ := h
  obtain ⟨i1, i2⟩ := IV_1 (p' := p + 1) hi (by omega) (by omega) (by unfold scS; rw [eo]; rfl)
  have hz : bz (if v.1 0 35 = 0 then 1 else 0) = true := by split <;> decide
  have e01 : (if v.1 0 35 = 0 then (1 : Int32) else 0) = 0 ∨ (if v.1 0 35 = 0 then (1 : Int32) else 0) = 1 := by
    split
    · exact Or.inr rfl
    · exact Or.inl rfl
  refine Or.inr (Or.inr ⟨mS (mS w 67 4 (nI (p + 1 + 0))) 67 7 (if v.1 0 35 = 0 then 1 else 0), mS (mS v 0 35 (if v.1 0 35 = 0 then 1 else 0)) 0 29 (nI (p + 1)), d, p + 1, a, l, E, FC_s (FC_s (FC_r w) (by omega)) (by omega), FV_s (FV_s (FV_r v) (by omega)) (by omega), ?_, i1, i2, fun m => ?_, fun m => ?_⟩)
  · refine ⟨⟨h1, h2, ?_, h4⟩, ⟨mS_eq, h6, h7, h8⟩, ⟨h9, h10⟩, ⟨h11, h12⟩, ⟨rfl, e01⟩, ⟨h15, h16⟩, fun k hk => ?_, ⟨c, hc24, h18, h19, fun j hj => ?_⟩, fun z => ?_⟩
    · rw [mS_ne (by omega), mS_ne (by omega)]; exact h3
    · rw [mS_ne (show (68 : Nat) ≠ 67 by decide), mS_ne (show (68 : Nat) ≠ 67 by decide), mS_ne (show (69 : Nat) ≠ 67 by decide), mS_ne (show (69 : Nat) ≠ 67 by decide), mS_ne (show (20 : Nat) ≠ 0 by decide), mS_ne (show (20 : Nat) ≠ 0 by decide), mS_ne (show (21 : Nat) ≠ 0 by decide), mS_ne (show (21 : Nat) ≠ 0 by decide)]
      exact h17 k hk
    · rw [mS_ne (show (64 : Nat) ≠ 67 by decide), mS_ne (show (64 : Nat) ≠ 67 by decide), mS_ne (show (65 : Nat) ≠ 67 by decide), mS_ne (show (65 : Nat) ≠ 67 by decide), mS_ne (show (18 : Nat) ≠ 0 by decide), mS_ne (show (18 : Nat) ≠ 0 by decide), mS_ne (show (19 : Nat) ≠ 0 by decide), mS_ne (show (19 : Nat) ≠ 0 by decide)]
      exact h20 j hj
    · exact h21 z
  · rw [ordC h0 hp hc eo (by decide) (r := 0) (by decide) (by omega) m, if_pos (show p + 0 < T from hp)]
    unfold f_X6_isDone
    rw [lt_e, if_neg (show ¬ (3 : Int32) = 1 by decide), if_neg (show ¬ (3 : Int32) = 2 by decide), if_pos rfl, mS_nj (show (7 : Nat) ≠ 4 by decide), h13, lt_e, gd_t hz, lt_e, b2_s, if_neg one_ne, mS_nj (show (4 : Nat) ≠ 7 by decide), mS_eq]
  · rw [l97_s h0 hp m]
    unfold f_X11_does
    rw [n0_e h0 hp, bd_s, eo, if_neg (show ¬ (3 : Int32) = 0 by decide), if_neg (show ¬ (3 : Int32) = 1 by decide), if_neg (show ¬ (3 : Int32) = 2 by decide), if_pos rfl, lt_e, gd_t hz, lt_e, lt_e, b2_s, if_neg one_ne, mS_nj (show (29 : Nat) ≠ 35 by decide), h5, nI_1]
