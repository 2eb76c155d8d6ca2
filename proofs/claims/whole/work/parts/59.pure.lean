/-! ===== 26 sew: one stitch (59: by wip/gen/p59.txt and fr.py) ===== -/
def dyv (bk fd : Int32) : Int32 := if bk = 0 then fd else -fd
def mvX (qq dx dy : Int32) : Int32 := if qq = 0 then dx else if qq = 1 then -dy else if qq = 2 then -dx else dy
def mvY (qq dx dy : Int32) : Int32 := if qq = 0 then dy else if qq = 1 then dx else if qq = 2 then -dy else -dx
theorem mv_e (dx dy : Int32) (w : Mem) : f_X8_moves dx dy w = some (mS (mS w 79 4 (w.1 79 4 + mvX (w.1 79 6) dx dy)) 79 5 (w.1 79 5 + mvY (w.1 79 6) dx dy)) := by
  unfold f_X8_moves mvX mvY
  simp only [lt_e]
  by_cases q0 : w.1 79 6 = 0
  · rw [if_pos q0, if_pos q0, if_pos q0]; rfl
  rw [if_neg q0, if_neg q0, if_neg q0]
  by_cases q1 : w.1 79 6 = 1
  · rw [if_pos q1, if_pos q1, if_pos q1, Int32.sub_eq_add_neg]; rfl
  rw [if_neg q1, if_neg q1, if_neg q1]
  by_cases q2 : w.1 79 6 = 2
  · rw [if_pos q2, if_pos q2, if_pos q2, Int32.sub_eq_add_neg, Int32.sub_eq_add_neg]; rfl
  rw [if_neg q2, if_neg q2, if_neg q2, Int32.sub_eq_add_neg]; rfl
theorem tk_e {w : Mem} {way lk both sp bb uu ll : Int32} (hl : f_X0_depth (w.1 74 1) (w.1 74 2) w = some lk) (hb : w.1 75 0 + w.1 75 1 = both) (s1 : w.1 74 3 = sp) (s2 : w.1 74 4 = bb) (s3 : w.1 79 9 = uu) (s4 : w.1 79 10 = ll) : f_X8_takesThread way w = if way + 2 * lk ≤ sp then (if way + 2 * (both - lk) ≤ bb then some (1, mS (mS (mS (mS w 74 3 (sp - (way + 2 * lk))) 74 4 (bb - (way + 2 * (both - lk)))) 79 9 (uu + (way + 2 * lk))) 79 10 (ll + (way + 2 * (both - lk)))) else some (0, mS w 79 8 2)) else some (0, mS w 79 8 1) := by
  unfold f_X8_takesThread
  rw [hl, bd_s, both_eq, hb]
  simp (disch := decide) only [lt_e, bd_s, mS_eq, mS_ne, mS_nj, s1, s2, s3, s4]
  by_cases c : way + 2 * lk ≤ sp
  · have c' : ¬ sp < way + 2 * lk := by rw [i_lt]; rw [i_le] at c; omega
    rw [if_neg c', if_pos c]
    by_cases d : way + 2 * (both - lk) ≤ bb
    · rw [if_pos d, if_pos c]
    · rw [if_neg d, if_pos c]
  · have c' : sp < way + 2 * lk := by rw [i_lt]; rw [i_le] at c; omega
    rw [if_pos c', if_neg c, if_neg c]
def CW (w : Mem) (c : Nat) (sp bb uu ll up dn sw nx x y : Int32) : Mem := mS (mS (mS (mS (mS (mS (mS (mS (mS (mS (mS w 74 3 (sp - up)) 74 4 (bb - dn)) 79 9 (uu + up)) 79 10 (ll + dn)) 79 13 sw) 79 12 nx) 79 4 x) 79 5 y) 80 c x) 81 c y) 79 3 (nI (c + 1))
theorem sewC {w : Mem} {c nx N : Nat} {sw fd nd bk lk both sp bb xx yy qq uu ll : Int32} (e3 : w.1 79 3 = nI c) (hc : c < 600) (e12 : w.1 79 12 = nI nx) (hnx : nx < N) (hN : N ≤ 48) (eN : w.1 42 2 = nI N) (h43 : w.1 43 nx = sw) (h44 : w.1 44 nx = fd) (h13 : w.1 79 13 = nd) (h7 : w.1 79 7 = bk) (hl : f_X0_depth (w.1 74 1) (w.1 74 2) w = some lk) (hb : w.1 75 0 + w.1 75 1 = both) (s1 : w.1 74 3 = sp) (s2 : w.1 74 4 = bb) (s3 : w.1 79 9 = uu) (s4 : w.1 79 10 = ll) (s5 : w.1 79 4 = xx) (s6 : w.1 79 5 = yy) (s7 : w.1 79 6 = qq) : f_X8_sewsOne 14 w = if (iabs (sw - nd) + iabs (dyv bk fd)) + 2 * lk ≤ sp then (if (iabs (sw - nd) + iabs (dyv bk fd)) + 2 * (both - lk) ≤ bb then some (1, CW w c sp bb uu ll ((iabs (sw - nd) + iabs (dyv bk fd)) + 2 * lk) ((iabs (sw - nd) + iabs (dyv bk fd)) + 2 * (both - lk)) sw (if N ≤ nx + 1 then 0 else nI (nx + 1)) (xx + mvX qq (sw - nd) (dyv bk fd)) (yy + mvY qq (sw - nd) (dyv bk fd))) else some (0, mS w 79 8 2)) else some (0, mS w 79 8 1) := by
  have h43' : w.1 (3*14+1) nx = sw := h43
  have h44' : w.1 (3*14+2) nx = fd := h44
  have eN' : w.1 (3*14) 2 = nI N := eN
  unfold f_X8_sewsOne
  rw [e3, if_pos (show nI c < 600 by rw [nI_lit 600, nI_ltI (by omega) (by omega)]; exact hc), e12, gd_t (inb_nI (by omega) (by omega)), nI_clamp (n := nx) (by omega), h43', h44', h7, h13]
  simp only [lt_e]
  rw [show (if bk = 0 then fd else -fd) = dyv bk fd from rfl, tk_e hl hb s1 s2 s3 s4]
  by_cases p1 : (iabs (sw - nd) + iabs (dyv bk fd)) + 2 * lk ≤ sp
  rotate_left
  · rw [if_neg p1, if_neg p1]; rfl
  rw [if_pos p1, if_pos p1]
  by_cases p2 : (iabs (sw - nd) + iabs (dyv bk fd)) + 2 * (both - lk) ≤ bb
  rotate_left
  · rw [if_neg p2, if_neg p2]; rfl
  rw [if_pos p2, if_pos p2, b2_s, if_neg one_ne]
  have nxe : (if nI N ≤ nI (nx + 1) then (0 : Int32) else nI (nx + 1)) = if N ≤ nx + 1 then 0 else nI (nx + 1) := by
    by_cases z : N ≤ nx + 1
    · rw [if_pos z, if_pos (by rw [nI_leI (by omega) (by omega)]; exact z)]
    · rw [if_neg z, if_neg (by rw [nI_leI (by omega) (by omega)]; exact z)]
  simp (disch := decide) only [mS_eq, mS_ne, mS_nj, e12, h43', eN', nI_clamp (show nx < 2147483648 by omega), gd_t (inb_nI (show nx < 48 by omega) (show 48 ≤ 2147483648 by omega)), nxe, mv_e, bd_s, s5, s6, s7, e3, nI_clamp (show c < 2147483648 by omega), gd_t (inb_nI (show c < 600 by omega) (show 600 ≤ 2147483648 by omega)), nI_1]
  rfl
/-- was the place there already -/
def wb (v : Mem) (c : Nat) (x y : Int32) : Bool := (decide (x = 0) && decide (y = 0)) || (List.range c).any (fun k => decide (v.1 11 k = x) && decide (v.1 12 k = y))
theorem wbM_L {u : Mem} {c : Nat} {x y : Int32} (hc : c ≤ 600) (e : u.1 0 46 = nI c) (ex : u.1 0 47 = x) (ey : u.1 0 48 = y) : ∀ (k i m : Nat) (f : Int32), i + k = c → k < m → (f = 0 ∨ f = 1) → (f_X11_sews_L321 u m f (nI i) = some 1 ∧ (f = 1 ∨ ∃ t, i ≤ t ∧ t < c ∧ u.1 11 t = x ∧ u.1 12 t = y)) ∨ (f_X11_sews_L321 u m f (nI i) = some 0 ∧ f = 0 ∧ ∀ t, i ≤ t → t < c → ¬ (u.1 11 t = x ∧ u.1 12 t = y)) := by
  intro k
  induction k with
  | zero =>
    intro i m f hi hm hf
    obtain ⟨m, rfl⟩ : ∃ q, m = q + 1 := ⟨m - 1, by omega⟩
    rw [f_X11_sews_L321_s, e, if_pos (by rw [nI_leI (by omega) (by omega)]; omega)]
    rcases hf with rfl | rfl
    · exact Or.inr ⟨rfl, rfl, fun t h1 h2 => by omega⟩
    · exact Or.inl ⟨rfl, Or.inl rfl⟩
  | succ k ih =>
    intro i m f hi hm hf
    obtain ⟨m, rfl⟩ : ∃ q, m = q + 1 := ⟨m - 1, by omega⟩
    rw [f_X11_sews_L321_s, e, if_neg (by rw [nI_leI (by omega) (by omega)]; omega)]
    simp only [lt_e]
    rw [ex, ey, nI_s]
    rcases hf with rfl | rfl
    · rw [if_pos rfl, gd_t (inb_nI (by omega) (by omega)), nI_clamp (by omega)]
      by_cases c1 : u.1 11 i = x ∧ u.1 12 i = y
      · rw [if_pos c1.1, if_pos c1.2]
        rcases ih (i + 1) m 1 (by omega) (by omega) (Or.inr rfl) with ⟨q, _⟩ | ⟨_, q, _⟩
        · exact Or.inl ⟨q, Or.inr ⟨i, by omega, by omega, c1⟩⟩
        · exact absurd q (by decide)
      · have z : (if u.1 11 i = x then (if u.1 12 i = y then (1 : Int32) else 0) else 0) = 0 := by
          by_cases d : u.1 11 i = x
          · rw [if_pos d, if_neg (fun p => c1 ⟨d, p⟩)]
          · rw [if_neg d]
        rw [z]
        rcases ih (i + 1) m 0 (by omega) (by omega) (Or.inl rfl) with ⟨q, r⟩ | ⟨q, _, r⟩
        · rcases r with r | ⟨t, t1, t2, t3⟩
          · exact absurd r (by decide)
          · exact Or.inl ⟨q, Or.inr ⟨t, by omega, t2, t3⟩⟩
        · refine Or.inr ⟨q, rfl, fun t h1 h2 => ?_⟩
          by_cases d : t = i
          · subst d; exact c1
          · exact r t (by omega) h2
    · rw [if_neg one_ne]
      rcases ih (i + 1) m 1 (by omega) (by omega) (Or.inr rfl) with ⟨q, _⟩ | ⟨_, q, _⟩
      · exact Or.inl ⟨q, Or.inl rfl⟩
      · exact absurd q (by decide)
theorem wbM {u : Mem} {c : Nat} {x y : Int32} (hc : c ≤ 600) (e : u.1 0 46 = nI c) (ex : u.1 0 47 = x) (ey : u.1 0 48 = y) : f_X11_sews_L321 u FU (if x = 0 then (if y = 0 then 1 else 0) else 0) 0 = some (if wb u c x y then 1 else 0) := by
  have f01 : (if x = 0 then (if y = 0 then (1 : Int32) else 0) else 0) = 0 ∨ (if x = 0 then (if y = 0 then (1 : Int32) else 0) else 0) = 1 := by
    repeat' split
    all_goals first | exact Or.inl rfl | exact Or.inr rfl
  have fe : (if x = 0 then (if y = 0 then (1 : Int32) else 0) else 0) = 1 ↔ x = 0 ∧ y = 0 := by
    by_cases a : x = 0
    · rw [if_pos a]
      by_cases b : y = 0
      · rw [if_pos b]; exact ⟨fun _ => ⟨a, b⟩, fun _ => rfl⟩
      · rw [if_neg b]; exact ⟨fun q => absurd q (by decide), fun q => absurd q.2 b⟩
    · rw [if_neg a]; exact ⟨fun q => absurd q (by decide), fun q => absurd q.1 a⟩
  have we : wb u c x y = true ↔ (x = 0 ∧ y = 0) ∨ ∃ t, t < c ∧ u.1 11 t = x ∧ u.1 12 t = y := by
    unfold wb
    rw [Bool.or_eq_true, List.any_eq_true, Bool.and_eq_true, decide_eq_true_eq, decide_eq_true_eq]
    constructor
    · rintro (q | ⟨t, t1, t2⟩)
      · exact Or.inl q
      · simp only [Bool.and_eq_true, decide_eq_true_eq] at t2
        exact Or.inr ⟨t, List.mem_range.mp t1, t2⟩
    · rintro (q | ⟨t, t1, t2⟩)
      · exact Or.inl q
      · exact Or.inr ⟨t, List.mem_range.mpr t1, by simp only [Bool.and_eq_true, decide_eq_true_eq]; exact t2⟩
  rcases wbM_L hc e ex ey c 0 FU _ (by omega) (by unfold FU; omega) f01 with ⟨q, r⟩ | ⟨q, r1, r2⟩
  · rw [show (0 : Int32) = nI 0 from rfl] at *
    rw [q, if_pos]
    rw [we]
    rcases r with r | ⟨t, _, t2, t3⟩
    · exact Or.inl (fe.mp r)
    · exact Or.inr ⟨t, t2, t3⟩
  · rw [show f_X11_sews_L321 u FU (if x = 0 then (if y = 0 then 1 else 0) else 0) 0 = f_X11_sews_L321 u FU (if x = 0 then (if y = 0 then 1 else 0) else 0) (nI 0) from rfl, q, if_neg]
    rw [we]
    rintro (z | ⟨t, t2, t3⟩)
    · rw [fe.mpr z] at r1; exact absurd r1 (by decide)
    · exact r2 t (by omega) t2 t3
def CV (v : Mem) (c : Nat) (sp bb uu ll up dn sw nx x y mt : Int32) : Mem := mS (mS (mS (mS (mS (mS (mS (mS (mS (mS (mS (mS (mS v 0 53 0) 0 13 (sp - up)) 0 14 (bb - dn)) 0 55 (uu + up)) 0 56 (ll + dn)) 0 47 x) 0 48 y) 0 54 mt) 11 c x) 12 c y) 0 46 (nI (c + 1))) 0 51 sw) 0 52 nx
theorem sewM {v : Mem} {c nx N : Nat} {sw fd nd bk lk t0 t1 sp bb xx yy qq uu ll mt : Int32} (e3 : v.1 0 46 = nI c) (hc : c < 600) (e12 : v.1 0 52 = nI nx) (hnx : nx < N) (hN : N ≤ 48) (eN : v.1 3 14 = nI N) (h43 : v.1 4 (672 + nx) = sw) (h44 : v.1 5 (672 + nx) = fd) (h13 : v.1 0 51 = nd) (h7 : v.1 0 50 = bk) (hl : f_X11_lockOf (v.1 0 11) (v.1 0 12) v = some lk) (b0 : v.1 7 0 = t0) (b1 : v.1 7 1 = t1) (s1 : v.1 0 13 = sp) (s2 : v.1 0 14 = bb) (s3 : v.1 0 55 = uu) (s4 : v.1 0 56 = ll) (s5 : v.1 0 47 = xx) (s6 : v.1 0 48 = yy) (s7 : v.1 0 49 = qq) (s8 : v.1 0 54 = mt) : f_X11_sews v = if (iabs (sw - nd) + iabs (dyv bk fd)) + 2 * lk ≤ sp then (if (iabs (sw - nd) + iabs (dyv bk fd)) + 2 * ((t0 + t1) - lk) ≤ bb then some (1, CV v c sp bb uu ll ((iabs (sw - nd) + iabs (dyv bk fd)) + 2 * lk) ((iabs (sw - nd) + iabs (dyv bk fd)) + 2 * ((t0 + t1) - lk)) sw (if N ≤ nx + 1 then 0 else nI (nx + 1)) (xx + mvX qq (sw - nd) (dyv bk fd)) (yy + mvY qq (sw - nd) (dyv bk fd)) (mt + if wb v c (xx + mvX qq (sw - nd) (dyv bk fd)) (yy + mvY qq (sw - nd) (dyv bk fd)) then 1 else 0)) else some (0, mS v 0 53 2)) else some (0, mS v 0 53 1) := by
  have z1 : (1 : Int32).toNatClampNeg = 1 := rfl
  unfold f_X11_sews
  rw [e12, i672, lt_e, gd_t (inb_nI (by omega) (by omega)), nI_clamp (n := 672 + nx) (by omega), h43, h44, h13, h7, lt_e, lt_e, hl, bd_s, away_e, bd_s, away_e, bd_s, lt_e, bd_s, bd_s, gd_t (show inb 0 2 = true by decide), lt_e, gd_t (show inb 1 2 = true by decide), lt_e, lt_e, lt_e, lt_e, lt_e, z0, z1, b0, b1, e3, if_neg (show ¬ nI c = 600 from nI_ne (a := c) (b := 600) (by omega) (by omega) (by omega)), s1, s2, mS_eq, show (if bk = 0 then fd else -fd) = dyv bk fd from rfl]
  by_cases p1 : (iabs (sw - nd) + iabs (dyv bk fd)) + 2 * lk ≤ sp
  rotate_left
  · rw [if_neg p1, if_neg p1, if_neg one_ne]
  rw [if_pos p1, if_pos p1]
  by_cases p2 : (iabs (sw - nd) + iabs (dyv bk fd)) + 2 * ((t0 + t1) - lk) ≤ bb
  rotate_left
  · rw [if_neg p2, if_neg p2, if_neg (show ¬ (2 : Int32) = 0 by decide)]
  rw [if_pos p2, if_pos p2, if_pos rfl]
  have nxe : irm (nI (nx + 1)) (nI N) = if N ≤ nx + 1 then 0 else nI (nx + 1) := by
    rw [rem_e (by omega) (by omega) (by omega)]
    by_cases z : N ≤ nx + 1
    · rw [if_pos z, show nx + 1 = N by omega, Nat.mod_self]; rfl
    · rw [if_neg z, Nat.mod_eq_of_lt (by omega)]
  have vx : (if qq = 0 then sw - nd else (if qq = 1 then -(dyv bk fd) else (if qq = 2 then -(sw - nd) else dyv bk fd))) = mvX qq (sw - nd) (dyv bk fd) := rfl
  have vy : (if qq = 0 then dyv bk fd else (if qq = 1 then sw - nd else (if qq = 2 then -(dyv bk fd) else -(sw - nd)))) = mvY qq (sw - nd) (dyv bk fd) := rfl
  simp (disch := decide) only [lt_e, mS_eq, mS_ne, mS_nj, s1, s2, s3, s4, s5, s6, s7, s8, vx, vy]
  rw [wbM (c := c) (x := xx + mvX qq (sw - nd) (dyv bk fd)) (y := yy + mvY qq (sw - nd) (dyv bk fd)) (by omega) (by simp (disch := decide) only [mS_eq, mS_ne, mS_nj]; exact e3) (by simp (disch := decide) only [mS_eq, mS_ne, mS_nj]) (by simp (disch := decide) only [mS_eq, mS_ne, mS_nj]), bd_s]
  have wbe : ∀ u : Mem, u.1 11 = v.1 11 → u.1 12 = v.1 12 → wb u c (xx + mvX qq (sw - nd) (dyv bk fd)) (yy + mvY qq (sw - nd) (dyv bk fd)) = wb v c (xx + mvX qq (sw - nd) (dyv bk fd)) (yy + mvY qq (sw - nd) (dyv bk fd)) := fun u a b => by unfold wb; rw [a, b]
  rw [wbe _ (by simp (disch := decide) only [mS_o]) (by simp (disch := decide) only [mS_o])]
  have bz : (if (if wb v c (xx + mvX qq (sw - nd) (dyv bk fd)) (yy + mvY qq (sw - nd) (dyv bk fd)) = true then (1 : Int32) else 0) = 0 then (0 : Int32) else 1) = if wb v c (xx + mvX qq (sw - nd) (dyv bk fd)) (yy + mvY qq (sw - nd) (dyv bk fd)) = true then 1 else 0 := by
    split <;> rfl
  rw [bz]
  simp (disch := decide) only [e3, mS_eq, mS_ne, mS_nj, nI_clamp (show c < 2147483648 by omega), gd_t (inb_nI (show c < 600 by omega) (show 600 ≤ 2147483648 by omega)), nI_1, h43, e12, eN, gd_t g14, z14, gd_t (nz (n := N) (by omega) (by omega)), nxe]
  rfl
theorem sewM6 {v : Mem} {nx N : Nat} {lk t0 t1 : Int32} (e3 : v.1 0 46 = nI 600) (e12 : v.1 0 52 = nI nx) (hnx : nx < N) (hN : N ≤ 48) (hl : f_X11_lockOf (v.1 0 11) (v.1 0 12) v = some lk) (b0 : v.1 7 0 = t0) (b1 : v.1 7 1 = t1) : f_X11_sews v = some (0, mS v 0 53 3) := by
  unfold f_X11_sews
  rw [e12, i672, lt_e, gd_t (inb_nI (by omega) (by omega)), nI_clamp (n := 672 + nx) (by omega), lt_e, lt_e, hl, bd_s, away_e, bd_s, away_e, bd_s, lt_e, bd_s, bd_s, gd_t (show inb 0 2 = true by decide), lt_e, gd_t (show inb 1 2 = true by decide), lt_e, lt_e, lt_e, lt_e, lt_e, e3, if_pos (show nI 600 = 600 from rfl), mS_eq, if_neg (show ¬ (3 : Int32) = 0 by decide)]
