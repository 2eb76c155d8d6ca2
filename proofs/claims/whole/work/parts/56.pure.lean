/-! ===== 4 make: the parts (56: by wip/gen/p56.txt and fr.py) ===== -/
def PT (w v : Mem) (n : Nat) (px py : Nat → Int32) (ad : Int32) : Prop := w.1 60 2 = nI n ∧ v.1 0 1 = nI n ∧ w.1 60 3 = ad ∧ v.1 0 4 = ad ∧ (1 ≤ n ∧ n ≤ 24) ∧ ir 100 ad ∧ ∀ j, j < n → w.1 61 j = px j ∧ v.1 1 j = px j ∧ w.1 62 j = py j ∧ v.1 2 j = py j ∧ ir 12 (px j) ∧ ir 100 (py j)
theorem PT_of {w v : Mem} (h : RP w v) (n0 : ¬ v.1 0 1 = 0) : ∃ n, PT w v n (v.1 1) (v.1 2) (v.1 0 4) := by
  obtain ⟨n, hn, e1, e2, e3, e4⟩ := h
  have n1 : 1 ≤ n := by
    rcases Nat.eq_zero_or_pos n with z | z
    · subst z; exact absurd e2 n0
    · exact z
  exact ⟨n, e1, e2, (e3 n1).1, rfl, ⟨n1, hn⟩, (e3 n1).2, fun j hj => ⟨(e4 j hj).1, rfl, (e4 j hj).2.1, rfl, (e4 j hj).2.2⟩⟩
def nxX (n : Nat) (px : Nat → Int32) (k : Nat) : Int32 := if n ≤ k + 1 then px 0 else px (k + 1)
def nxY (n : Nat) (py : Nat → Int32) (ad : Int32) (k : Nat) : Int32 := if n ≤ k + 1 then py 0 + ad else py (k + 1)
theorem nx_b {w v : Mem} {n : Nat} {px py : Nat → Int32} {ad : Int32} (h : PT w v n px py ad) {k : Nat} (hk : k < n) : ir 12 (nxX n px k) ∧ ir 200 (nxY n py ad k) := by
  obtain ⟨e1, e2, e3, e4, hn, h1, h2⟩ := h
  unfold nxX nxY
  by_cases c : n ≤ k + 1
  · rw [if_pos c, if_pos c]
    obtain ⟨_, _, _, _, p, q⟩ := h2 0 (by omega)
    refine ⟨p, ?_⟩
    unfold ir at *
    rw [i_add (by omega) (by omega)]; omega
  · rw [if_neg c, if_neg c]
    obtain ⟨_, _, _, _, p, q⟩ := h2 (k + 1) (by omega)
    refine ⟨p, ?_⟩
    unfold ir at *
    omega
theorem z0 : (0 : Int32).toNatClampNeg = 0 := rfl
theorem g24 : inb 0 24 = true := by decide
theorem nextX_e {w v : Mem} {n : Nat} {px py : Nat → Int32} {ad : Int32} (h : PT w v n px py ad) {k : Nat} (hk : k < n) : f_X5_nextX 0 (nI k) w = some (nxX n px k) ∧ f_X11_toX (nI k) v = some (nxX n px k) := by
  obtain ⟨e1, e2, e3, e4, hn, h1, h2⟩ := h
  have e1' : w.1 (60+3*0) 2 = nI n := e1
  unfold f_X5_nextX f_X11_toX nxX
  simp only [lt_e]
  rw [e1', e2, gd_t (nz hn.1 (by omega)), nI_1, rem_e (by omega) (by omega) (by omega), gd_t g24, z0]
  by_cases c : n ≤ k + 1
  · have m : (k + 1) % n = 0 := by rw [show k + 1 = n by omega, Nat.mod_self]
    rw [if_pos (by rw [nI_leI (by omega) (by omega)]; exact c), if_pos c, m]
    exact ⟨by rw [(h2 0 (by omega)).1], by rw [gd_t (inb_nI (by omega) (by omega)), nI_clamp (by omega), (h2 0 (by omega)).2.1]⟩
  · have m : (k + 1) % n = k + 1 := Nat.mod_eq_of_lt (by omega)
    rw [if_neg (by rw [nI_leI (by omega) (by omega)]; exact c), if_neg c, m, gd_t (inb_nI (by omega) (by omega)), gd_t (inb_nI (by omega) (by omega)), nI_clamp (by omega)]
    exact ⟨by rw [(h2 (k+1) (by omega)).1], by rw [(h2 (k+1) (by omega)).2.1]⟩
theorem nextY_e {w v : Mem} {n : Nat} {px py : Nat → Int32} {ad : Int32} (h : PT w v n px py ad) {k : Nat} (hk : k < n) : f_X5_nextY 0 (nI k) w = some (nxY n py ad k) ∧ f_X11_toY (nI k) v = some (nxY n py ad k) := by
  obtain ⟨e1, e2, e3, e4, hn, h1, h2⟩ := h
  have e1' : w.1 (60+3*0) 2 = nI n := e1
  have e3' : w.1 (60+3*0) 3 = ad := e3
  unfold f_X5_nextY f_X11_toY nxY
  simp only [lt_e]
  rw [e1', e2, e3', e4, nI_1, gd_t g24, z0, gd_t g24]
  by_cases c : n ≤ k + 1
  · have c' : nI n ≤ nI (k + 1) := by rw [nI_leI (by omega) (by omega)]; exact c
    rw [if_pos c', if_pos c', if_pos c]
    exact ⟨by rw [(h2 0 (by omega)).2.2.1], by rw [(h2 0 (by omega)).2.2.2.1]⟩
  · have c' : ¬ nI n ≤ nI (k + 1) := by rw [nI_leI (by omega) (by omega)]; exact c
    rw [if_neg c', if_neg c', if_neg c, gd_t (inb_nI (by omega) (by omega)), gd_t (inb_nI (by omega) (by omega)), nI_clamp (by omega)]
    exact ⟨by rw [(h2 (k+1) (by omega)).2.2.1], by rw [(h2 (k+1) (by omega)).2.2.2.1]⟩
/-- how many stitches a way of a across and b along is parted into -/
def up (a s : Nat) : Nat := (a + s - 1) / s
def pN (a b s f : Nat) : Nat := if up a s ≤ up b f then (if up b f ≤ 1 then 1 else up b f) else (if up a s ≤ 1 then 1 else up a s)
theorem up_le {a s i : Nat} (hs : 1 ≤ s) : up a s ≤ i ↔ a ≤ i * s := by
  unfold up
  rw [← Nat.lt_succ_iff, Nat.div_lt_iff_lt_mul (by omega), Nat.succ_mul]
  omega
theorem pN_le {a b s f i : Nat} (hs : 1 ≤ s) (hf : 1 ≤ f) (hi : 1 ≤ i) : pN a b s f ≤ i ↔ a ≤ i * s ∧ b ≤ i * f := by
  rw [← up_le hs, ← up_le hf]
  unfold pN
  split <;> split <;> omega
theorem pN_1 (a b s f : Nat) : 1 ≤ pN a b s f := by
  unfold pN
  split <;> split <;> omega
theorem pN_b {a b s f : Nat} (hs : 1 ≤ s) (hf : 1 ≤ f) (ha : a ≤ 24) (hb : b ≤ 300) : pN a b s f ≤ 300 := by
  rw [pN_le hs hf (by omega)]
  exact ⟨by have := Nat.mul_le_mul_left 300 hs; omega, by have := Nat.mul_le_mul_left 300 hf; omega⟩
theorem rup_e {a s : Nat} (ha : a ≤ 1000) (hs : 1 ≤ s ∧ s ≤ 12) : f_X1_roundedUp (nI a) (nI s) = some (nI (up a s)) := by
  unfold f_X1_roundedUp up
  rw [if_pos (by rw [nI_lit 1, nI_leI (by omega) (by omega)]; omega), gd_t (nz hs.1 (by omega)), nI_add, nI_pr (by omega), pk_div (by omega) (by omega) (by omega)]
theorem up_b {a s : Nat} (hs : 1 ≤ s) : up a s ≤ a := by
  rw [up_le hs]
  have := Nat.mul_le_mul_left a hs; omega
theorem imax_n {a b : Nat} (ha : a < 2147483648) (hb : b < 2147483648) : imax (nI a) (nI b) = nI (if b ≤ a then a else b) := by
  rw [imax_e]
  by_cases c : b ≤ a
  · rw [if_pos c, if_pos (by rw [nI_leI hb ha]; exact c)]
  · rw [if_neg c, if_neg (by rw [nI_leI hb ha]; exact c)]
theorem parts_L {v : Mem} {n k s f : Nat} {X Y : Int32} (e1 : f_X11_toX (nI k) v = some X) (e2 : f_X11_toY (nI k) v = some Y) (hk : k < 24) {a b : Nat} (ea : iabs (X - v.1 1 k) = nI a) (eb : iabs (Y - v.1 2 k) = nI b) (ha : a ≤ 24) (hb : b ≤ 300) (hs : 1 ≤ s ∧ s ≤ 12) (hf : 1 ≤ f ∧ f ≤ 12) : ∀ (c i m : Nat), i + c = pN a b s f → c < m → 1 ≤ i → f_X11_parts_L3 v (nI k) (nI s) (nI f) m (nI i) = some (nI (pN a b s f)) := by
  have pb := pN_b hs.1 hf.1 ha hb
  have st : ∀ (i m : Nat), i ≤ 300 → f_X11_parts_L3 v (nI k) (nI s) (nI f) (m + 1) (nI i) = if i * s < a then f_X11_parts_L3 v (nI k) (nI s) (nI f) m (nI (i + 1)) else if b ≤ i * f then some (nI i) else f_X11_parts_L3 v (nI k) (nI s) (nI f) m (nI (i + 1)) := by
    intro i m hi
    have s1 := Nat.mul_le_mul hi hs.2
    have s2 := Nat.mul_le_mul hi hf.2
    rw [f_X11_parts_L3_s]
    simp only [lt_e, e1, e2, bd_s, away_e, pk_mul, nI_1]
    rw [gd_t (inb_nI hk (by omega)), nI_clamp (by omega), ea, eb]
    by_cases c1 : i * s < a
    · rw [if_pos c1, if_pos (by rw [nI_ltI (by omega) (by omega)]; exact c1)]
    · rw [if_neg c1, if_neg (by rw [nI_ltI (by omega) (by omega)]; exact c1)]
      by_cases c2 : b ≤ i * f
      · rw [if_pos c2, if_pos (by rw [nI_leI (by omega) (by omega)]; exact c2)]
      · rw [if_neg c2, if_neg (by rw [nI_leI (by omega) (by omega)]; exact c2)]
  intro c
  induction c with
  | zero =>
    intro i m hi hm h1
    obtain ⟨m, rfl⟩ : ∃ q, m = q + 1 := ⟨m - 1, by omega⟩
    obtain ⟨p1, p2⟩ := (pN_le (a := a) (b := b) (i := i) hs.1 hf.1 h1).mp (by omega)
    rw [st i m (by omega), if_neg (by omega), if_pos p2, show i = pN a b s f by omega]
  | succ c ih =>
    intro i m hi hm h1
    obtain ⟨m, rfl⟩ : ∃ q, m = q + 1 := ⟨m - 1, by omega⟩
    have np : ¬ (a ≤ i * s ∧ b ≤ i * f) := fun q => by have := (pN_le (a := a) (b := b) (i := i) hs.1 hf.1 h1).mpr q; omega
    rw [st i m (by omega)]
    have g := ih (i + 1) m (by omega) (by omega) (by omega)
    by_cases c1 : i * s < a
    · rw [if_pos c1]; exact g
    · rw [if_neg c1, if_neg (by omega)]; exact g
/-- the parts of the way from point k: the same for both -/
theorem parts_e {w v : Mem} {n : Nat} {px py : Nat → Int32} {ad : Int32} (h : PT w v n px py ad) {k s f : Nat} (hk : k < n) (hs : 1 ≤ s ∧ s ≤ 12) (hf : 1 ≤ f ∧ f ≤ 12) : ∃ P, 1 ≤ P ∧ P ≤ 300 ∧ f_X1_parts 0 (nI k) (nI s) (nI f) w = some (nI P) ∧ f_X11_parts (nI k) (nI s) (nI f) v = some (nI P) ∧ P = pN ((nxX n px k - px k).toInt.natAbs) ((nxY n py ad k - py k).toInt.natAbs) s f ∧ ((nxY n py ad k - py k).toInt.natAbs) ≤ P * f := by
  obtain ⟨x1, x2⟩ := nextX_e h hk
  obtain ⟨y1, y2⟩ := nextY_e h hk
  obtain ⟨bx, bY⟩ := nx_b h hk
  obtain ⟨e1, e2, e3, e4, hn, h1, h2⟩ := h
  obtain ⟨f1, f2, f3, f4, f5, f6⟩ := h2 k hk
  unfold ir at bx bY f5 f6
  have dx : (nxX n px k - px k).toInt = (nxX n px k).toInt - (px k).toInt := i_sub (by omega) (by omega)
  have dy : (nxY n py ad k - py k).toInt = (nxY n py ad k).toInt - (py k).toInt := i_sub (by omega) (by omega)
  have ea : iabs (nxX n px k - px k) = nI (nxX n px k - px k).toInt.natAbs := by
    rw [i_eq, iabs_t (by omega), nI_toInt (by omega)]
  have eb : iabs (nxY n py ad k - py k) = nI (nxY n py ad k - py k).toInt.natAbs := by
    rw [i_eq, iabs_t (by omega), nI_toInt (by omega)]
  have ha : (nxX n px k - px k).toInt.natAbs ≤ 24 := by omega
  have hb : (nxY n py ad k - py k).toInt.natAbs ≤ 300 := by omega
  have pb := pN_b (a := (nxX n px k - px k).toInt.natAbs) (b := (nxY n py ad k - py k).toInt.natAbs) hs.1 hf.1 ha hb
  have p1 := pN_1 (nxX n px k - px k).toInt.natAbs (nxY n py ad k - py k).toInt.natAbs s f
  refine ⟨_, p1, pb, ?_, ?_, rfl, ((pN_le hs.1 hf.1 p1).mp (Nat.le_refl _)).2⟩
  · have u1 := up_b (a := (nxX n px k - px k).toInt.natAbs) hs.1
    have u2 := up_b (a := (nxY n py ad k - py k).toInt.natAbs) hf.1
    have f1' : w.1 (61+3*0) k = px k := f1
    have f3' : w.1 (62+3*0) k = py k := f3
    unfold f_X1_parts
    simp only [lt_e]
    rw [x1, bd_s, gd_t (inb_nI (by omega) (by omega)), nI_clamp (by omega), f1', ea, y1, bd_s, f3', eb, rup_e (by omega) hs, bd_s, rup_e (by omega) hf, bd_s, imax_n (by omega) (by omega), nI_lit 1, imax_n (by omega) (by split <;> omega)]
    have : (if (if up (nxY n py ad k - py k).toInt.natAbs f ≤ up (nxX n px k - px k).toInt.natAbs s then up (nxX n px k - px k).toInt.natAbs s else up (nxY n py ad k - py k).toInt.natAbs f) ≤ 1 then 1 else (if up (nxY n py ad k - py k).toInt.natAbs f ≤ up (nxX n px k - px k).toInt.natAbs s then up (nxX n px k - px k).toInt.natAbs s else up (nxY n py ad k - py k).toInt.natAbs f)) = pN (nxX n px k - px k).toInt.natAbs (nxY n py ad k - py k).toInt.natAbs s f := by
      unfold pN
      repeat' split
      all_goals omega
    rw [this]
  · unfold f_X11_parts
    have g := parts_L (n := n) x2 y2 (show k < 24 by omega) (by rw [f2]; exact ea) (by rw [f4]; exact eb) ha hb hs hf (pN (nxX n px k - px k).toInt.natAbs (nxY n py ad k - py k).toInt.natAbs s f - 1) 1 FU (by omega) (by unfold FU; omega) (by omega)
    rw [show f_X11_parts_L3 v (nI k) (nI s) (nI f) FU 1 = f_X11_parts_L3 v (nI k) (nI s) (nI f) FU (nI 1) from rfl, g]; rfl
