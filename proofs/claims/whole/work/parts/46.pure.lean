/-! ===== 5 disc, 6 stitch, 10 take, 44 toss, 20 tensions, 21 lock, 22 tune (46: by wip/gen/p46.txt and fr.py) ===== -/
-- 10 take
theorem step_10 {w v : Mem} (h : Rel w v) (x1 : Int32) : ∃ r w' v', f_X10_take x1 w = some (r, w') ∧ f_X11_take x1 v = some (r, v') ∧ Rel w' v' := by
  unfold f_X10_take f_X11_take f_X10_comesFrom
  rw [sh_eq]
  rcases in_c x1 0 7 with ⟨q, k1⟩ | ⟨q, k1⟩
  rotate_left
  · rw [q, bd_s, bd_s, if_pos rfl, if_pos rfl]; exact ⟨-1, w, v, rfl, rfl, h⟩
  rw [q, bd_s, bd_s, if_neg one_ne, if_neg one_ne]
  simp at k1
  obtain ⟨t, ht, rfl⟩ := i_nat (x := x1) (N := 8) (by omega) (by omega) (by omega)
  obtain ⟨n, hn, e1, e2, e3⟩ := h.1 t (by omega)
  simp only [lt_e]
  rw [gd_t (inb_nI ht (by omega)), gd_t (inb_nI (by omega) (by omega)), nI_clamp (by omega), e1, e2]
  by_cases n0 : n = 0
  · subst n0
    rw [if_pos (show nI 0 = 0 by decide), if_pos (show nI 0 = 0 by decide), b2_s, if_pos rfl]
    exact ⟨-3, w, v, rfl, rfl, h⟩
  have nn0 : ¬ nI n = 0 := nI_ne (a := n) (b := 0) (by omega) (by omega) n0
  obtain ⟨w', v', g1, g2, g3, g4, g5, g6, g7, g8, g9, g10⟩ := bec h.1 14 t (by omega) (by omega) (by omega)
  rw [if_neg nn0, if_neg nn0, g1, bd_s, b2_s, if_neg one_ne, show (14 : Int32) = nI 14 from rfl, g2, bd_s, gd_t (by decide), nI_clamp (by omega), g4, g5, e1, e2]
  exact ⟨nI n, w', v', rfl, rfl, Rel_bec h (Or.inr rfl) g3 g6 g7 g8 g9 g10⟩
theorem nI_pr {n : Nat} (h : 0 < n) : nI n - 1 = nI (n - 1) := by
  obtain ⟨m, rfl⟩ : ∃ m, n = m + 1 := ⟨n - 1, by omega⟩
  rw [nI_pred]; rfl
-- how steep
theorem i_abs {x : Int32} : iabs x = (if 0 ≤ x then x else -x) := by unfold iabs; rw [Int32.zero_sub]
theorem imax_e (a b : Int32) : imax a b = if b ≤ a then a else b := by
  unfold imax
  repeat' split
  all_goals first | rfl | (exfalso; simp only [i_lt, i_le] at *; omega)
theorem imin_e (a b : Int32) : imin a b = if a ≤ b then a else b := by
  unfold imin
  repeat' split
  all_goals first | rfl | (exfalso; simp only [i_lt, i_le] at *; omega)
theorem iabs_b {x : Int32} {n : Int} (hn : n < 1000000) (h : ir n x) : 0 ≤ (iabs x).toInt ∧ (iabs x).toInt ≤ n := by
  unfold ir at h
  rw [i_abs]
  by_cases c : 0 ≤ x
  · rw [if_pos c]; rw [i_le] at c; simp at c; omega
  · rw [if_neg c, i_neg (by omega)]; rw [i_le] at c; simp at c; omega
theorem steep_L {w v : Mem} {d n : Nat} (hd : d < 15) (hn : n ≤ 48) (e1 : w.1 (3*d) 2 = nI n) (e2 : v.1 3 d = nI n) (e3 : ∀ j, j < n → w.1 (3*d+1) j = v.1 4 (48*d+j) ∧ w.1 (3*d+2) j = v.1 5 (48*d+j) ∧ ir 12 (v.1 4 (48*d+j)) ∧ ir 12 (v.1 5 (48*d+j))) : ∀ (k i m m' : Nat) (x p : Int32), i + k = n → k < m → k < m' → ir 12 p → 0 ≤ x.toInt → ∃ r, f_X1_steepness_L9 w d m x p (nI i) = some r ∧ f_X11_steepOf_L27 v (nI d) m' x p (nI (48*d+i)) = some r ∧ 0 ≤ r.toInt := by
  intro k
  induction k with
  | zero =>
    intro i m m' x p hi hm hm' hp hx
    obtain ⟨m, rfl⟩ : ∃ q, m = q + 1 := ⟨m - 1, by omega⟩
    obtain ⟨m', rfl⟩ : ∃ q, m' = q + 1 := ⟨m' - 1, by omega⟩
    refine ⟨x, ?_, ?_, hx⟩
    · rw [f_X1_steepness_L9_s, e1, if_pos (by rw [nI_leI (by omega) (by omega)]; omega)]
    · rw [f_X11_steepOf_L27_s, nI_clamp (by omega), e2]
      simp only [lt_e]
      rw [ix48, if_pos (by rw [nI_leI (by omega) (by omega)]; omega)]
  | succ k ih =>
    intro i m m' x p hi hm hm' hp hx
    obtain ⟨m, rfl⟩ : ∃ q, m = q + 1 := ⟨m - 1, by omega⟩
    obtain ⟨m', rfl⟩ : ∃ q, m' = q + 1 := ⟨m' - 1, by omega⟩
    obtain ⟨f1, f2, f3, f4⟩ := e3 i (by omega)
    have hs : ir 24 (v.1 4 (48*d+i) - p) := by
      unfold ir at *
      rw [i_sub (by omega) (by omega)]; omega
    obtain ⟨ab1, ab2⟩ := iabs_b (by omega) hs
    obtain ⟨r, g1, g2, g3⟩ := ih (i + 1) m m' (imax x (iabs (v.1 4 (48*d+i) - p))) (v.1 4 (48*d+i)) (by omega) (by omega) (by omega) f3 (by rw [imax_e]; split <;> omega)
    refine ⟨r, ?_, ?_, g3⟩
    · rw [f_X1_steepness_L9_s, e1, if_neg (by rw [nI_leI (by omega) (by omega)]; omega), gd_t (inb_nI (by omega) (by omega)), nI_clamp (by omega), f1]
      simp only [lt_e]
      rw [nI_s]; exact g1
    · rw [f_X11_steepOf_L27_s, nI_clamp (by omega), e2]
      unfold f_X11_away
      simp only [lt_e]
      rw [ix48, if_neg (by rw [nI_leI (by omega) (by omega)]; omega), gd_t (inb_nI (by omega) (by omega)), nI_clamp (by omega), bd_s, bd_s, ← i_abs, nI_s]
      rw [imax_e] at g2
      by_cases c : iabs (v.1 4 (48*d+i) - p) ≤ x
      · rw [if_pos c]; rw [if_pos c] at g2; exact g2
      · rw [if_neg c]; rw [if_neg c] at g2; exact g2
theorem steep {w v : Mem} (hD : RD w v) {d : Nat} (hd : d < 15) (n0 : ¬ v.1 3 d = 0) : ∃ r, f_X1_steepness d w = some r ∧ f_X11_steepOf (nI d) v = some r ∧ 0 ≤ r.toInt := by
  obtain ⟨n, hn, e1, e2, e3⟩ := hD d hd
  have n1 : 0 < n := by
    rcases Nat.eq_zero_or_pos n with q | q
    · subst q; exact absurd e2 n0
    · exact q
  obtain ⟨f1, f2, f3, f4⟩ := e3 (n - 1) (by omega)
  obtain ⟨r, g1, g2, g3⟩ := steep_L hd hn e1 e2 e3 n 0 FU FU 0 (v.1 4 (48*d+(n-1))) (by omega) (by unfold FU; omega) (by unfold FU; omega) f3 (by decide)
  refine ⟨r, ?_, ?_, g3⟩
  · unfold f_X1_steepness f_X1_needle
    simp only [lt_e]
    rw [e1, if_neg (nI_nle n1 (by omega)), nI_pr n1, gd_t (inb_nI (by omega) (by omega)), nI_clamp (by omega), bd_s, f1, show (0 : Int32) = nI 0 from rfl]
    rw [show (nI 0 : Int32) = 0 from rfl] at g1 ⊢
    rw [g1]; rfl
  · unfold f_X11_steepOf
    simp only [lt_e]
    rw [gd_t (inb_nI hd (by omega)), nI_clamp (by omega), e2, ix48, nI_pr (show 0 < 48*d+n by omega), show 48*d+n-1 = 48*d+(n-1) by omega, gd_t (inb_nI (by omega) (by omega)), nI_clamp (by omega), show (48 : Int32) * nI d = nI (48*d+0) from by rw [nI_lit 48, pk_mul]; rfl, g2, bd_s]
-- 44 toss
theorem step_44 {w v : Mem} (h : Rel w v) (x1 : Int32) : ∃ r w' v', f_X10_toss x1 w = some (r, w') ∧ f_X11_toss x1 v = some (r, v') ∧ Rel w' v' := by
  unfold f_X10_toss f_X11_toss
  rcases lacks h x1 with ⟨t, ht, rfl, a, b, n0⟩ | ⟨r, w', v', r0, a, b, c, d⟩
  · obtain ⟨r, g1, g2, g3⟩ := steep h.1 (d := 8+t) (by omega) n0
    rw [a, b, bd_s, b2_s, if_pos rfl, if_pos rfl, gd_t (inb_nI ht (by omega)), nI_clamp (by omega), show (8 : Int32) + nI t = nI (8 + t) from by rw [nI_lit 8, nI_add], g1, g2, bd_s, bd_s]
    simp only [lt_e]
    by_cases r0 : r = 0
    · subst r0
      rw [if_pos rfl, if_pos rfl, ref_C w (by decide), ref_M]
      exact ⟨-15, _, _, rfl, rfl, Rel_ref h⟩
    · rw [if_neg r0, if_neg r0, ref_N w (by omega)]
      exact ⟨r, _, _, rfl, rfl, h⟩
  · rw [a, c, bd_s, b2_s, if_neg r0, if_neg r0, b]
    exact ⟨r, w', v', rfl, rfl, d⟩
-- 6 stitch
theorem step_6 {w v : Mem} (h : Rel w v) (x1 x2 : Int32) : ∃ k w' b v', f_L_stitch x1 x2 w = some (k, w') ∧ f_X11_stitch x1 x2 v = some (b, v') ∧ f_X11_thrown v' = some k ∧ (k = 0 → w'.2 88 0 = b.toInt64) ∧ Rel w' v' := by
  obtain ⟨n, hn, e1, e2, e6⟩ := h.1 14 (by omega)
  have z14 : (14 : Int32).toNatClampNeg = 14 := rfl
  have g14 : inb 14 15 = true := by decide
  unfold f_L_stitch f_X10_stitch f_X11_stitch
  simp only [lt_e]
  rw [gd_t g14, z14, e1, e2]
  have e4 := nI_toInt (n := n) (by omega)
  have e5 : (nI n - 1).toInt = n - 1 := by rw [i_sub (by rw [e4]; simp; omega) (by rw [e4]; simp; omega), e4]; rfl
  rcases in_c x2 0 1 with ⟨q, k1⟩ | ⟨q, k1⟩
  rotate_left
  · rw [q, bd_s, if_pos rfl, if_neg th1]
    refine ⟨1, w, 0, mS v 0 0 1, ?_, rfl, thr1 h 1 (by decide) _⟩
    by_cases c : x2 < 0
    · rw [if_pos c]; rfl
    · rw [if_neg c, if_neg (by rw [i_lt] at c; rw [i_le]; simp at c k1 ⊢; omega)]; rfl
  simp at k1
  rw [q, bd_s, if_neg one_ne, if_neg (show ¬ x2 < 0 by rw [i_lt]; simp; omega), if_pos (show x2 ≤ 1 by rw [i_le]; simp; omega)]
  rcases in_c x1 0 (nI n - 1) with ⟨q2, k2⟩ | ⟨q2, k2⟩
  rotate_left
  · rw [q2, bd_s, if_pos rfl, if_neg th2]
    rw [e5] at k2
    refine ⟨2, w, 0, mS v 0 0 2, ?_, rfl, thr1 h 2 (by decide) _⟩
    by_cases c : x1 < 0
    · rw [if_pos c]; rfl
    · rw [if_neg c, if_neg (by rw [i_lt] at c; rw [i_lt, e4]; simp at c k2 ⊢; omega)]; rfl
  rw [e5] at k2
  simp at k2
  rw [q2, bd_s, if_neg one_ne, if_neg (show ¬ x1 < 0 by rw [i_lt]; simp; omega), if_pos (show x1 < nI n by rw [i_lt, e4]; omega)]
  obtain ⟨j, hj, rfl⟩ := i_nat (x := x1) (N := n) (by omega) (by omega) (by omega)
  obtain ⟨f1, f2, _⟩ := e6 j hj
  rw [show (672 : Int32) + nI j = nI (48*14 + j) from by rw [nI_lit 672, nI_add]]
  have g := inb_nI (n := j) (N := 48) (by omega) (by omega)
  have g2 := inb_nI (n := 48*14+j) (N := 720) (by omega) (by omega)
  simp only [gd_t g, gd_t g2, nI_clamp (show j < 2147483648 by omega), nI_clamp (show 48*14+j < 2147483648 by omega)]
  rw [if_pos th0]
  by_cases c : x2 = 0
  · rw [if_pos c, if_pos c, b2_s]
    refine ⟨0, _, w.1 (3*14+1) j, _, rfl, ?_, thr0 h _⟩
    rw [mS_ne (by decide), f1]
  · rw [if_neg c, if_neg c, b2_s]
    refine ⟨0, _, w.1 (3*14+2) j, _, rfl, ?_, thr0 h _⟩
    rw [mS_ne (by decide), f2]
-- 5 disc
theorem sumF_L {w v : Mem} {d n : Nat} (hd : d < 15) (hn : n ≤ 48) (e1 : w.1 (3*d) 2 = nI n) (e2 : v.1 3 d = nI n) (e3 : ∀ j, j < n → w.1 (3*d+2) j = v.1 5 (48*d+j)) : ∀ (k i m m' : Nat) (x : Int32), i + k = n → k < m → k < m' → ∃ r, f_X1_sumOfFeeds_L4 w d m x (nI i) = some r ∧ f_X11_lengthOf_L7 v (nI d) m' x (nI (48*d+i)) = some r := by
  intro k
  induction k with
  | zero =>
    intro i m m' x hi hm hm'
    obtain ⟨m, rfl⟩ : ∃ q, m = q + 1 := ⟨m - 1, by omega⟩
    obtain ⟨m', rfl⟩ : ∃ q, m' = q + 1 := ⟨m' - 1, by omega⟩
    refine ⟨x, ?_, ?_⟩
    · rw [f_X1_sumOfFeeds_L4_s, e1, if_pos (by rw [nI_leI (by omega) (by omega)]; omega)]
    · rw [f_X11_lengthOf_L7_s, gd_t (inb_nI hd (by omega)), nI_clamp (by omega), e2]
      simp only [lt_e]
      rw [ix48, if_pos (by rw [nI_leI (by omega) (by omega)]; omega)]
  | succ k ih =>
    intro i m m' x hi hm hm'
    obtain ⟨m, rfl⟩ : ∃ q, m = q + 1 := ⟨m - 1, by omega⟩
    obtain ⟨m', rfl⟩ : ∃ q, m' = q + 1 := ⟨m' - 1, by omega⟩
    have f1 := e3 i (by omega)
    obtain ⟨r, g1, g2⟩ := ih (i + 1) m m' (x + v.1 5 (48*d+i)) (by omega) (by omega) (by omega)
    refine ⟨r, ?_, ?_⟩
    · rw [f_X1_sumOfFeeds_L4_s, e1, if_neg (by rw [nI_leI (by omega) (by omega)]; omega), gd_t (inb_nI (by omega) (by omega)), nI_clamp (by omega), f1]
      simp only [lt_e]
      rw [nI_s]; exact g1
    · rw [f_X11_lengthOf_L7_s, gd_t (inb_nI hd (by omega)), nI_clamp (by omega), e2]
      simp only [lt_e]
      rw [ix48, if_neg (by rw [nI_leI (by omega) (by omega)]; omega), gd_t (inb_nI (by omega) (by omega)), nI_clamp (by omega), nI_s]
      exact g2
theorem sumF {w v : Mem} (hD : RD w v) {d : Nat} (hd : d < 15) : ∃ r, f_X1_sumOfFeeds d w = some r ∧ f_X11_lengthOf (nI d) v = some r := by
  obtain ⟨n, hn, e1, e2, e3⟩ := hD d hd
  obtain ⟨r, g1, g2⟩ := sumF_L hd hn e1 e2 (fun j hj => (e3 j hj).2.1) n 0 FU FU 0 (by omega) (by unfold FU; omega) (by unfold FU; omega)
  refine ⟨r, ?_, ?_⟩
  · unfold f_X1_sumOfFeeds
    rw [show (nI 0 : Int32) = 0 from rfl] at g1
    rw [g1]; rfl
  · unfold f_X11_lengthOf
    simp only [lt_e]
    rw [show (48 : Int32) * nI d = nI (48*d+0) from by rw [nI_lit 48, pk_mul]; rfl, g2]; rfl
theorem edge_s {v : Mem} {e n : Nat} (he : e < 2) (hn : n ≤ 48) (e2 : v.1 3 14 = nI n) {i m : Nat} (hi : i < n) (y x : Int32) : f_X11_edge_L5 v (nI e) y (m + 1) x (nI i) = f_X11_edge_L5 v (nI e) y m (if nI i = 0 then v.1 (4+e) (48*14+i) else (if y = 0 then (if x ≤ v.1 (4+e) (48*14+i) then x else v.1 (4+e) (48*14+i)) else (if v.1 (4+e) (48*14+i) ≤ x then x else v.1 (4+e) (48*14+i)))) (nI (i + 1)) := by
  have z14 : (14 : Int32).toNatClampNeg = 14 := rfl
  have g14 : inb 14 15 = true := by decide
  rw [f_X11_edge_L5_s, gd_t g14]
  simp only [lt_e]
  rw [z14, e2, if_neg (by rw [nI_leI (by omega) (by omega)]; omega), show (672 : Int32) + nI i = nI (48*14 + i) from by rw [nI_lit 672, nI_add], gd_t (inb_nI (by omega) (by omega)), gd_t (inb_nI (by omega) (by omega)), nI_clamp (by omega), nI_s]
  rcases (show e = 0 ∨ e = 1 by omega) with rfl | rfl
  · rw [if_pos (show nI 0 = 0 by decide)]
  · rw [if_neg (show ¬ nI 1 = 0 by decide)]
theorem edge_z {v : Mem} {n : Nat} (hn : n ≤ 48) (e2 : v.1 3 14 = nI n) {i m : Nat} (hi : i = n) (e y x : Int32) : f_X11_edge_L5 v e y (m + 1) x (nI i) = some x := by
  have z14 : (14 : Int32).toNatClampNeg = 14 := rfl
  have g14 : inb 14 15 = true := by decide
  rw [f_X11_edge_L5_s, gd_t g14]
  simp only [lt_e]
  rw [z14, e2, if_pos (by rw [nI_leI (by omega) (by omega)]; omega)]
theorem great_L {w v : Mem} {e n : Nat} (he : e < 2) (hn : n ≤ 48) (e1 : w.1 (3*14) 2 = nI n) (e2 : v.1 3 14 = nI n) (e3 : ∀ j, j < n → w.1 (3*14+1+e) j = v.1 (4+e) (48*14+j)) : ∀ (k i m m' : Nat) (x : Int32), 0 < i → i + k = n → k < m → k < m' → ∃ r, f_X1_greatestOf_L6 w 14 (3*14+1+e) m x (nI i) = some r ∧ f_X11_edge_L5 v (nI e) 1 m' x (nI i) = some r := by
  intro k
  induction k with
  | zero =>
    intro i m m' x i0 hi hm hm'
    obtain ⟨m, rfl⟩ : ∃ q, m = q + 1 := ⟨m - 1, by omega⟩
    obtain ⟨m', rfl⟩ : ∃ q, m' = q + 1 := ⟨m' - 1, by omega⟩
    refine ⟨x, ?_, edge_z hn e2 (by omega) _ _ _⟩
    rw [f_X1_greatestOf_L6_s, e1, if_pos (by rw [nI_leI (by omega) (by omega)]; omega)]
  | succ k ih =>
    intro i m m' x i0 hi hm hm'
    obtain ⟨m, rfl⟩ : ∃ q, m = q + 1 := ⟨m - 1, by omega⟩
    obtain ⟨m', rfl⟩ : ∃ q, m' = q + 1 := ⟨m' - 1, by omega⟩
    obtain ⟨r, g1, g2⟩ := ih (i + 1) m m' (imax x (v.1 (4+e) (48*14+i))) (by omega) (by omega) (by omega) (by omega)
    refine ⟨r, ?_, ?_⟩
    · rw [f_X1_greatestOf_L6_s, e1, if_neg (by rw [nI_leI (by omega) (by omega)]; omega), gd_t (inb_nI (by omega) (by omega)), nI_clamp (by omega), e3 i (by omega)]
      simp only [lt_e]
      rw [nI_s]; exact g1
    · rw [edge_s he hn e2 (by omega), if_neg (show ¬ nI i = 0 from nI_ne (a := i) (b := 0) (by omega) (by omega) (by omega)), if_neg one_ne, ← imax_e]
      exact g2
theorem least_L {w v : Mem} {e n : Nat} (he : e < 2) (hn : n ≤ 48) (e1 : w.1 (3*14) 2 = nI n) (e2 : v.1 3 14 = nI n) (e3 : ∀ j, j < n → w.1 (3*14+1+e) j = v.1 (4+e) (48*14+j)) : ∀ (k i m m' : Nat) (x : Int32), 0 < i → i + k = n → k < m → k < m' → ∃ r, f_X1_leastOf_L6 w 14 (3*14+1+e) m x (nI i) = some r ∧ f_X11_edge_L5 v (nI e) 0 m' x (nI i) = some r := by
  intro k
  induction k with
  | zero =>
    intro i m m' x i0 hi hm hm'
    obtain ⟨m, rfl⟩ : ∃ q, m = q + 1 := ⟨m - 1, by omega⟩
    obtain ⟨m', rfl⟩ : ∃ q, m' = q + 1 := ⟨m' - 1, by omega⟩
    refine ⟨x, ?_, edge_z hn e2 (by omega) _ _ _⟩
    rw [f_X1_leastOf_L6_s, e1, if_pos (by rw [nI_leI (by omega) (by omega)]; omega)]
  | succ k ih =>
    intro i m m' x i0 hi hm hm'
    obtain ⟨m, rfl⟩ : ∃ q, m = q + 1 := ⟨m - 1, by omega⟩
    obtain ⟨m', rfl⟩ : ∃ q, m' = q + 1 := ⟨m' - 1, by omega⟩
    obtain ⟨r, g1, g2⟩ := ih (i + 1) m m' (imin x (v.1 (4+e) (48*14+i))) (by omega) (by omega) (by omega) (by omega)
    refine ⟨r, ?_, ?_⟩
    · rw [f_X1_leastOf_L6_s, e1, if_neg (by rw [nI_leI (by omega) (by omega)]; omega), gd_t (inb_nI (by omega) (by omega)), nI_clamp (by omega), e3 i (by omega)]
      simp only [lt_e]
      rw [nI_s]; exact g1
    · rw [edge_s he hn e2 (by omega), if_neg (show ¬ nI i = 0 from nI_ne (a := i) (b := 0) (by omega) (by omega) (by omega)), if_pos rfl, ← imin_e]
      exact g2
theorem edges {w v : Mem} (hD : RD w v) {e : Nat} (he : e < 2) (n0 : ¬ v.1 3 14 = 0) : (∃ r, f_X1_greatestOf 14 (3*14+1+e) w = some r ∧ f_X11_edge (nI e) 1 v = some r) ∧ ∃ r, f_X1_leastOf 14 (3*14+1+e) w = some r ∧ f_X11_edge (nI e) 0 v = some r := by
  obtain ⟨n, hn, e1, e2, e3⟩ := hD 14 (by omega)
  have n1 : 0 < n := by
    rcases Nat.eq_zero_or_pos n with q | q
    · subst q; exact absurd e2 n0
    · exact q
  have e4 : ∀ j, j < n → w.1 (3*14+1+e) j = v.1 (4+e) (48*14+j) := fun j hj => by
    rcases (show e = 0 ∨ e = 1 by omega) with rfl | rfl
    · exact (e3 j hj).1
    · exact (e3 j hj).2.1
  obtain ⟨r, g1, g2⟩ := great_L he hn e1 e2 e4 (n-1) 1 FU (FU-1) (v.1 (4+e) (48*14+0)) (by omega) (by omega) (by unfold FU; omega) (by unfold FU; omega)
  obtain ⟨r2, g3, g4⟩ := least_L he hn e1 e2 e4 (n-1) 1 FU (FU-1) (v.1 (4+e) (48*14+0)) (by omega) (by omega) (by unfold FU; omega) (by unfold FU; omega)
  have z0 : (0 : Int32).toNatClampNeg = 0 := rfl
  have g0 : inb 0 48 = true := by decide
  refine ⟨⟨r, ?_, ?_⟩, r2, ?_, ?_⟩
  · unfold f_X1_greatestOf
    simp only [lt_e]
    rw [gd_t g0, z0, e4 0 n1]
    rw [show (nI 1 : Int32) = 1 from rfl] at g1
    rw [g1]; rfl
  · unfold f_X11_edge
    rw [show FU = (FU - 1) + 1 from rfl, show f_X11_edge_L5 v (nI e) 1 (FU - 1 + 1) 0 0 = f_X11_edge_L5 v (nI e) 1 (FU - 1 + 1) 0 (nI 0) from rfl, edge_s he hn e2 n1, if_pos (show nI 0 = 0 from rfl)]
    rw [g2]; rfl
  · unfold f_X1_leastOf
    simp only [lt_e]
    rw [gd_t g0, z0, e4 0 n1]
    rw [show (nI 1 : Int32) = 1 from rfl] at g3
    rw [g3]; rfl
  · unfold f_X11_edge
    rw [show FU = (FU - 1) + 1 from rfl, show f_X11_edge_L5 v (nI e) 0 (FU - 1 + 1) 0 0 = f_X11_edge_L5 v (nI e) 0 (FU - 1 + 1) 0 (nI 0) from rfl, edge_s he hn e2 n1, if_pos (show nI 0 = 0 from rfl)]
    rw [g4]; rfl
theorem step_5 {w v : Mem} (h : Rel w v) (x1 : Int32) : ∃ k w' b v', f_L_disc x1 w = some (k, w') ∧ f_X11_disc x1 v = some (b, v') ∧ f_X11_thrown v' = some k ∧ (k = 0 → w'.2 88 0 = b.toInt64) ∧ Rel w' v' := by
  obtain ⟨n, hn, e1, e2, e6⟩ := h.1 14 (by omega)
  have z14 : (14 : Int32).toNatClampNeg = 14 := rfl
  have g14 : inb 14 15 = true := by decide
  have h2 := Rel_t h 0
  unfold f_L_disc f_X10_disc f_X11_disc
  simp only [lt_e]
  simp only [gd_t g14]
  rw [z14, e1, e2]
  rcases in_c x1 0 6 with ⟨q, k1⟩ | ⟨q, k1⟩
  rotate_left
  · rw [q, bd_s, if_pos rfl, if_neg th1]
    refine ⟨1, w, 0, mS v 0 0 1, ?_, rfl, thr1 h 1 (by decide) _⟩
    by_cases c : x1 < 0
    · rw [if_pos c]; rfl
    · rw [if_neg c, if_neg (by rw [i_lt] at c; rw [i_le]; simp at c k1 ⊢; omega)]; rfl
  simp at k1
  rw [q, bd_s, if_neg one_ne, if_neg (show ¬ x1 < 0 by rw [i_lt]; simp; omega), if_pos (show x1 ≤ 6 by rw [i_le]; simp; omega)]
  by_cases n0 : n = 0
  · subst n0
    rw [if_pos (show nI 0 = 0 by decide), if_pos (show nI 0 = 0 by decide), if_neg th2]
    exact ⟨2, w, 0, mS v 0 0 2, rfl, rfl, thr1 h 2 (by decide) _⟩
  have nn0 : ¬ nI n = 0 := nI_ne (a := n) (b := 0) (by omega) (by omega) n0
  have en : (mS v 0 0 0).1 3 14 = nI n := by rw [mS_ne (by decide), e2]
  have nz : ¬ (mS v 0 0 0).1 3 14 = 0 := by rw [en]; exact nn0
  rw [if_neg nn0, if_neg nn0, if_pos th0, en]
  by_cases c0 : x1 = 0
  · rw [if_pos c0, if_pos c0]; exact ⟨0, _, _, _, rfl, rfl, thr0 h _⟩
  rw [if_neg c0, if_neg c0]
  by_cases c1 : x1 = 1
  · obtain ⟨r, p1, p2⟩ := sumF h2.1 (d := 14) (by omega)
    rw [if_pos c1, if_pos c1, p1, show (14 : Int32) = nI 14 from rfl, p2]; exact ⟨0, _, _, _, rfl, rfl, thr0 h _⟩
  rw [if_neg c1, if_neg c1]
  by_cases c2 : x1 = 2
  · obtain ⟨r, p1, p2, _⟩ := steep h2.1 (d := 14) (by omega) nz
    rw [if_pos c2, if_pos c2, p1, show (14 : Int32) = nI 14 from rfl, p2]; exact ⟨0, _, _, _, rfl, rfl, thr0 h _⟩
  rw [if_neg c2, if_neg c2]
  obtain ⟨⟨r3, p3, p4⟩, r4, p5, p6⟩ := edges h2.1 (e := 0) (by omega) nz
  obtain ⟨⟨r5, p7, p8⟩, r6, p9, p10⟩ := edges h2.1 (e := 1) (by omega) nz
  by_cases c3 : x1 = 3
  · subst c3
    rw [if_pos rfl, if_pos (show (3 : Int32) ≤ 4 by decide), if_pos rfl, p3]
    rw [show f_X11_edge 0 1 (mS v 0 0 0) = f_X11_edge (nI 0) 1 (mS v 0 0 0) from rfl, p4]; exact ⟨0, _, _, _, rfl, rfl, thr0 h _⟩
  rw [if_neg c3]
  by_cases c4 : x1 = 4
  · subst c4
    rw [if_pos rfl, if_pos (show (4 : Int32) ≤ 4 by decide), if_neg (show ¬ (4 : Int32) = 3 by decide), if_neg (show ¬ (4 : Int32) = 5 by decide), p5]
    rw [show f_X11_edge 0 0 (mS v 0 0 0) = f_X11_edge (nI 0) 0 (mS v 0 0 0) from rfl, p6]; exact ⟨0, _, _, _, rfl, rfl, thr0 h _⟩
  rw [if_neg c4]
  by_cases c5 : x1 = 5
  · subst c5
    rw [if_pos rfl, if_neg (show ¬ (5 : Int32) ≤ 4 by decide), if_neg (show ¬ (5 : Int32) = 3 by decide), if_pos (show (5 : Int32) = 5 from rfl), p7]
    rw [show f_X11_edge 1 1 (mS v 0 0 0) = f_X11_edge (nI 1) 1 (mS v 0 0 0) from rfl, p8]; exact ⟨0, _, _, _, rfl, rfl, thr0 h _⟩
  have c6 : x1 = 6 := by
    rw [i_eq] at *; simp at c0 c1 c2 c3 c4 c5 ⊢; omega
  subst c6
  rw [if_neg (show ¬ (6 : Int32) = 5 by decide), if_neg (show ¬ (6 : Int32) ≤ 4 by decide), if_neg (show ¬ (6 : Int32) = 3 by decide), if_neg (show ¬ (6 : Int32) = 5 by decide), p9]
  rw [show f_X11_edge 1 0 (mS v 0 0 0) = f_X11_edge (nI 1) 0 (mS v 0 0 0) from rfl, p10]; exact ⟨0, _, _, _, rfl, rfl, thr0 h _⟩
