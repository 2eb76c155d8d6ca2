/-! ===== the hem: how many rounds (49: by wip/gen/p49.txt and fr.py) ===== -/
def hemD (S L x : Nat) : Int := (((S : Int) - (x * L : Nat)).natAbs : Int)
theorem iabs_t {x : Int32} (h : x.toInt ≠ -2147483648) : (iabs x).toInt = (x.toInt.natAbs : Int) := by
  rw [i_abs]
  by_cases c : 0 ≤ x
  · rw [if_pos c]; rw [i_le] at c; simp at c; omega
  · rw [if_neg c, i_neg h]; rw [i_le] at c; simp at c; omega
theorem away_e (x : Int32) : f_X11_away x = some (iabs x) := by
  unfold f_X11_away; simp only [lt_e]; rw [← i_abs]
theorem mulb {x L : Nat} (hx : x ≤ 1001) (hL : L ≤ 576) : x * L ≤ 576576 := Nat.le_trans (Nat.mul_le_mul hx hL) (by decide)
theorem hemD_t {S L x : Nat} (hS : S ≤ 999) (hx : x ≤ 1001) (hL : L ≤ 576) : (iabs (nI S - nI x * nI L)).toInt = hemD S L x := by
  have b := mulb hx hL
  have e : (nI S - nI (x * L)).toInt = (S : Int) - (x * L : Nat) := by
    rw [i_sub (by rw [nI_toInt (by omega), nI_toInt (by omega)]; omega) (by rw [nI_toInt (by omega), nI_toInt (by omega)]; omega), nI_toInt (by omega), nI_toInt (by omega)]
  rw [pk_mul, iabs_t (by rw [e]; omega), e]; rfl
theorem rounds_s {v : Mem} {j m : Nat} {s r x3 x4 : Int32} (hj : j < 8) (e : v.1 6 j = s) (h : ¬ s < x4) : f_X11_rounds_L12 v (nI j) r (m + 1) x3 x4 = f_X11_rounds_L12 v (nI j) r m (if iabs (s - x3 * r) ≤ iabs (s - x4 * r) then x3 else x4) (x4 + 1) := by
  rw [f_X11_rounds_L12_s, gd_t (inb_nI hj (by omega)), nI_clamp (by omega), e, if_neg h]
  rw [lt_e, away_e, bd_s, lt_e, away_e, bd_s, lt_e, lt_e]
theorem rounds_z {v : Mem} {j m : Nat} {s r x3 x4 : Int32} (hj : j < 8) (e : v.1 6 j = s) (h : s < x4) : f_X11_rounds_L12 v (nI j) r (m + 1) x3 x4 = some x3 := by
  rw [f_X11_rounds_L12_s, gd_t (inb_nI hj (by omega)), nI_clamp (by omega), e, if_pos h]
theorem rkey {S L R i : Nat} (hS : S ≤ 999) (hL : L ≤ 576) (h1 : 1 ≤ R ∧ R ≤ S) (h2 : ∀ x, 1 ≤ x → x < R → hemD S L (x + 1) < hemD S L x) (h3 : ∀ x, R < x → x ≤ S → hemD S L R ≤ hemD S L x) (hi : i ≤ S) (h2i : 2 ≤ i) : (if iabs (nI S - nI (if i ≤ R then i - 1 else R) * nI L) ≤ iabs (nI S - nI i * nI L) then nI (if i ≤ R then i - 1 else R) else nI i) = nI (if i + 1 ≤ R then i + 1 - 1 else R) := by
  by_cases c : i ≤ R
  · have a := h2 (i - 1) (by omega) (by omega)
    rw [show i - 1 + 1 = i by omega] at a
    have n : ¬ iabs (nI S - nI (i - 1) * nI L) ≤ iabs (nI S - nI i * nI L) := by
      rw [i_le, hemD_t hS (by omega) hL, hemD_t hS (by omega) hL]; omega
    rw [if_pos c, if_neg n]
    by_cases c2 : i + 1 ≤ R
    · rw [if_pos c2, show i + 1 - 1 = i by omega]
    · rw [if_neg c2, show i = R by omega]
  · have a := h3 i (by omega) (by omega)
    have n : iabs (nI S - nI R * nI L) ≤ iabs (nI S - nI i * nI L) := by
      rw [i_le, hemD_t hS (by omega) hL, hemD_t hS (by omega) hL]; exact a
    rw [if_neg c, if_pos n, if_neg (show ¬ i + 1 ≤ R by omega)]
theorem rounds_L {v : Mem} {j S L R : Nat} (hj : j < 8) (hS : 1 ≤ S ∧ S ≤ 999) (hL : 1 ≤ L ∧ L ≤ 576) (e : v.1 6 j = nI S) (h1 : 1 ≤ R ∧ R ≤ S) (h2 : ∀ x, 1 ≤ x → x < R → hemD S L (x + 1) < hemD S L x) (h3 : ∀ x, R < x → x ≤ S → hemD S L R ≤ hemD S L x) : ∀ (k i m : Nat), i + k = S + 1 → k < m → 2 ≤ i → f_X11_rounds_L12 v (nI j) (nI L) m (nI (if i ≤ R then i - 1 else R)) (nI i) = some (nI R) := by
  intro k
  induction k with
  | zero =>
    intro i m hi hm h2i
    obtain ⟨m, rfl⟩ : ∃ q, m = q + 1 := ⟨m - 1, by omega⟩
    rw [rounds_z hj e (show nI S < nI i by rw [nI_ltI (by omega) (by omega)]; omega), if_neg (show ¬ i ≤ R by omega)]
  | succ k ih =>
    intro i m hi hm h2i
    obtain ⟨m, rfl⟩ : ∃ q, m = q + 1 := ⟨m - 1, by omega⟩
    have g := ih (i + 1) m (by omega) (by omega) (by omega)
    rw [rounds_s hj e (show ¬ nI S < nI i by rw [nI_ltI (by omega) (by omega)]; omega), nI_s]
    rw [rkey hS.2 hL.2 h1 h2 h3 (by omega) (by omega)]; exact g
/-- the rounds that the class finds -/
def hemR (S L : Nat) : Nat := if S < L then 1 else if S - S / L * L ≤ (S / L + 1) * L - S then S / L else S / L + 1
theorem hemR_ok {S L : Nat} (hS : 1 ≤ S) (hL : 1 ≤ L) : (1 ≤ hemR S L ∧ hemR S L ≤ S) ∧ (∀ x, 1 ≤ x → x < hemR S L → hemD S L (x + 1) < hemD S L x) ∧ (∀ x, hemR S L < x → x ≤ S → hemD S L (hemR S L) ≤ hemD S L x) := by
  have q1 : S / L * L ≤ S := Nat.div_mul_le_self S L
  have q2 : S < S / L * L + L := by have := Nat.lt_div_mul_add (a := S) (b := L) (by omega); omega
  have q3 : (S / L + 1) * L = S / L * L + L := Nat.succ_mul _ _
  have q4 : L ≤ S → 1 ≤ S / L := fun q => (Nat.one_le_div_iff (by omega)).mpr q
  have q5 : S / L ≤ S := Nat.div_le_self S L
  have q6 : 2 ≤ L → S / L < S := fun q => Nat.div_lt_self (by omega) (by omega)
  have lo : ∀ x, x ≤ S / L → x * L ≤ S / L * L := fun x hx => Nat.mul_le_mul_right L hx
  have up : ∀ x, S / L + 1 ≤ x → S / L * L + L ≤ x * L := fun x hx => by rw [← q3]; exact Nat.mul_le_mul_right L hx
  unfold hemR hemD
  by_cases c : S < L
  · rw [if_pos c]
    refine ⟨⟨by omega, by omega⟩, fun x h1 h2 => by omega, fun x h1 h2 => ?_⟩
    have a : 1 * L ≤ x * L := Nat.mul_le_mul_right L (by omega)
    omega
  rw [if_neg c]
  by_cases d : S - S / L * L ≤ (S / L + 1) * L - S
  · rw [if_pos d]
    refine ⟨⟨q4 (by omega), q5⟩, fun x h1 h2 => ?_, fun x h1 h2 => ?_⟩
    · have a := lo (x + 1) (by omega)
      have b : (x + 1) * L = x * L + L := Nat.succ_mul _ _
      omega
    · have a := up x (by omega)
      omega
  · rw [if_neg d]
    refine ⟨⟨by omega, ?_⟩, fun x h1 h2 => ?_, fun x h1 h2 => ?_⟩
    · have := q6 (by
        rcases Nat.lt_or_ge L 2 with z | z
        · obtain rfl : L = 1 := by omega
          rw [Nat.div_one] at d; omega
        · exact z)
      omega
    · have b : (x + 1) * L = x * L + L := Nat.succ_mul _ _
      by_cases z : x + 1 ≤ S / L
      · have a := lo (x + 1) z; omega
      · obtain rfl : x = S / L := by omega
        omega
    · have a := up x (by omega)
      omega
theorem rounds_e {v : Mem} {j S L : Nat} (hj : j < 8) (hS : 1 ≤ S ∧ S ≤ 999) (hL : 1 ≤ L ∧ L ≤ 576) (e : v.1 6 j = nI S) (eL : f_X11_lengthOf 14 v = some (nI L)) : f_X11_rounds (nI j) v = some (nI (hemR S L)) := by
  obtain ⟨h1, h2, h3⟩ := hemR_ok hS.1 hL.1
  unfold f_X11_rounds
  have g := rounds_L hj hS hL e h1 h2 h3 (S - 1) 2 FU (by omega) (by unfold FU; omega) (by omega)
  have z : (if 2 ≤ hemR S L then 2 - 1 else hemR S L) = 1 := by split <;> omega
  rw [z] at g
  rw [eL, bd_s, show f_X11_rounds_L12 v (nI j) (nI L) FU 1 2 = f_X11_rounds_L12 v (nI j) (nI L) FU (nI 1) (nI 2) from rfl, g]; rfl
/-- the feeds' sum, bounded -/
theorem sumB_L {v : Mem} {d n : Nat} (hd : d < 15) (hn : n ≤ 48) (e2 : v.1 3 d = nI n) (e3 : ∀ j, j < n → ir 12 (v.1 5 (48*d+j))) : ∀ (k i m : Nat) (x : Int32), i + k = n → k < m → ir (12*i) x → ∃ r, f_X11_lengthOf_L7 v (nI d) m x (nI (48*d+i)) = some r ∧ ir (12*n) r := by
  intro k
  induction k with
  | zero =>
    intro i m x hi hm hx
    obtain ⟨m, rfl⟩ : ∃ q, m = q + 1 := ⟨m - 1, by omega⟩
    refine ⟨x, ?_, by rw [show n = i by omega]; exact hx⟩
    rw [f_X11_lengthOf_L7_s, gd_t (inb_nI hd (by omega)), nI_clamp (by omega), e2]
    simp only [lt_e]
    rw [ix48, if_pos (by rw [nI_leI (by omega) (by omega)]; omega)]
  | succ k ih =>
    intro i m x hi hm hx
    obtain ⟨m, rfl⟩ : ∃ q, m = q + 1 := ⟨m - 1, by omega⟩
    have f1 := e3 i (by omega)
    obtain ⟨r, g1, g2⟩ := ih (i + 1) m (x + v.1 5 (48*d+i)) (by omega) (by omega) (by unfold ir at *; rw [i_add (by omega) (by omega)]; omega)
    refine ⟨r, ?_, g2⟩
    rw [f_X11_lengthOf_L7_s, gd_t (inb_nI hd (by omega)), nI_clamp (by omega), e2]
    simp only [lt_e]
    rw [ix48, if_neg (by rw [nI_leI (by omega) (by omega)]; omega), gd_t (inb_nI (by omega) (by omega)), nI_clamp (by omega), nI_s]
    exact g1
theorem sumB {w v : Mem} (hD : RD w v) {d : Nat} (hd : d < 15) : ∃ r, f_X1_sumOfFeeds d w = some r ∧ f_X11_lengthOf (nI d) v = some r ∧ ir 576 r ∧ (v.1 3 d = 0 → r = 0) := by
  obtain ⟨r, p1, p2⟩ := sumF hD hd
  obtain ⟨n, hn, e1, e2, e3⟩ := hD d hd
  obtain ⟨r2, g1, g2⟩ := sumB_L hd hn e2 (fun j hj => (e3 j hj).2.2.2) n 0 FU 0 (by omega) (by unfold FU; omega) ⟨by decide, by decide⟩
  have p3 : f_X11_lengthOf (nI d) v = some r2 := by
    unfold f_X11_lengthOf
    simp only [lt_e]
    rw [show (48 : Int32) * nI d = nI (48*d+0) from by rw [nI_lit 48, pk_mul]; rfl, g1]; rfl
  obtain rfl : r2 = r := by rw [p2] at p3; exact (Option.some.inj p3).symm
  refine ⟨r2, p1, p2, by unfold ir at *; omega, fun q => ?_⟩
  have n0 : n = 0 := by
    rw [e2] at q
    exact (nI_eq (a := n) (b := 0) (by omega) (by omega)).mp q
  subst n0
  unfold ir at g2
  rw [i_eq]; simp; omega
