/-! ===== the hem's feeds (51: by wip/gen/p51.txt and fr.py) ===== -/
theorem xor_s {x y : Int32} (hy : 0 ≤ y.toInt) : (0 ≤ x ^^^ y) ↔ 0 ≤ x.toInt := by
  rw [i_le]
  have q : (x ^^^ y).toBitVec.msb = (x.toBitVec.msb ^^ y.toBitVec.msb) := by rw [Int32.toBitVec_xor, BitVec.msb_xor]
  rw [BitVec.msb_eq_toInt, BitVec.msb_eq_toInt, BitVec.msb_eq_toInt, Int32.toInt_toBitVec, Int32.toInt_toBitVec, Int32.toInt_toBitVec] at q
  have c : decide (y.toInt < 0) = false := decide_eq_false (by omega)
  rw [c, Bool.xor_false] at q
  have := decide_eq_decide.mp q
  simp
  omega
/-- both floors are the floor -/
theorem flo {x y : Int32} (hy : 0 < y.toInt) (hx : -1000000000 ≤ x.toInt ∧ x.toInt ≤ 1000000000) : ∃ r, f_X11_floor x y = some r ∧ f_J9_floorDiv_7cf53 x y = some r ∧ r.toInt = x.toInt / y.toInt := by
  have y0 : ¬ y = 0 := fun q => by rw [q] at hy; simp at hy
  have y1 : y ≠ -1 := fun q => by rw [q] at hy; simp at hy
  have d := Int32.toInt_div_of_ne_right x y y1
  have a1 := Int.mul_ediv_self_le (x := x.toInt) (k := y.toInt) (by omega)
  have a2 := Int.lt_mul_ediv_self_add (x := x.toInt) (k := y.toInt) hy
  have a3 := i_rng y
  have hz : x.toInt / y.toInt ≤ 1000000000 ∧ -1000000001 ≤ x.toInt / y.toInt := by
    constructor
    · have := Int.ediv_le_self (a := x.toInt) y.toInt
      rcases Int.lt_or_le x.toInt 0 with c | c
      · have := Int.ediv_neg_of_neg_of_pos c hy; omega
      · have := this c; omega
    · rw [Int.le_ediv_iff_mul_le hy]
      have := Int.mul_le_mul_of_nonneg_left (a := (1 : Int)) (b := y.toInt) (c := 1000000001) (by omega) (by omega)
      omega
  by_cases c : 0 ≤ x.toInt
  · have e : (x / y).toInt = x.toInt / y.toInt := by rw [d, Int.tdiv_eq_ediv_of_nonneg c]
    have m : (x / y * y).toInt = y.toInt * (x.toInt / y.toInt) := by
      rw [i_mul, e, Int.mul_comm]
      · rw [e, Int.mul_comm]; omega
      · rw [e, Int.mul_comm]; omega
    refine ⟨x / y, ?_, ?_, e⟩
    · unfold f_X11_floor
      rw [gd_t y0, lt_e, if_pos (by rw [i_le, m]; omega)]; rfl
    · unfold f_J9_floorDiv_7cf53
      rw [gd_t y0, lt_e, if_pos ((xor_s (by omega)).mpr c)]
  · have t : x.toInt.tdiv y.toInt = if x.toInt / y.toInt * y.toInt = x.toInt then x.toInt / y.toInt else x.toInt / y.toInt + 1 := by
      have u1 : x.toInt.tdiv y.toInt = -((-x.toInt).tdiv y.toInt) := by rw [Int.neg_tdiv, Int.neg_neg]
      have u2 : (-x.toInt).tdiv y.toInt = -x.toInt / y.toInt := Int.tdiv_eq_ediv_of_nonneg (by omega)
      have b1 := Int.mul_ediv_self_le (x := -x.toInt) (k := y.toInt) (by omega)
      have b2 := Int.lt_mul_ediv_self_add (x := -x.toInt) (k := y.toInt) hy
      rw [u1, u2]
      rw [Int.mul_comm] at a1 a2 b1 b2
      split
      · rename_i q
        have : -x.toInt / y.toInt = - (x.toInt / y.toInt) := by
          apply Int.le_antisymm
          · refine Int.le_of_lt_add_one (Int.lt_of_mul_lt_mul_right (a := y.toInt) ?_ (by omega))
            rw [Int.add_mul, Int.neg_mul]; omega
          · refine Int.le_of_lt_add_one (Int.lt_of_mul_lt_mul_right (a := y.toInt) ?_ (by omega))
            rw [Int.add_mul, Int.neg_mul]; omega
        omega
      · rename_i q
        have : -x.toInt / y.toInt = - (x.toInt / y.toInt) - 1 := by
          apply Int.le_antisymm
          · refine Int.le_of_lt_add_one (Int.lt_of_mul_lt_mul_right (a := y.toInt) ?_ (by omega))
            rw [Int.sub_add_cancel, Int.neg_mul]; omega
          · refine Int.le_of_lt_add_one (Int.lt_of_mul_lt_mul_right (a := y.toInt) ?_ (by omega))
            rw [Int.add_mul, Int.sub_mul, Int.neg_mul] at *; omega
        omega
    rw [t] at d
    rw [Int.mul_comm] at a1 a2
    by_cases q : x.toInt / y.toInt * y.toInt = x.toInt
    · rw [if_pos q] at d
      have m : (x / y * y).toInt = x.toInt := by
        rw [i_mul, d, q]
        · rw [d, q]; omega
        · rw [d, q]; omega
      refine ⟨x / y, ?_, ?_, d⟩
      · unfold f_X11_floor
        rw [gd_t y0, lt_e, if_pos (by rw [i_le, m]; omega)]; rfl
      · unfold f_J9_floorDiv_7cf53
        rw [gd_t y0, lt_e, if_neg (fun z => c ((xor_s (by omega)).mp z)), if_pos (by rw [i_eq, m])]
    · rw [if_neg q] at d
      have u : (x.toInt / y.toInt + 1) * y.toInt = x.toInt / y.toInt * y.toInt + y.toInt := by rw [Int.add_mul, Int.one_mul]
      have m : (x / y * y).toInt = x.toInt / y.toInt * y.toInt + y.toInt := by
        rw [i_mul, d, u]
        · rw [d, u]; omega
        · rw [d, u]; omega
      have n : (x / y - 1).toInt = x.toInt / y.toInt := by
        rw [i_sub (by rw [d]; simp; omega) (by rw [d]; simp; omega), d]; simp
      refine ⟨x / y - 1, ?_, ?_, n⟩
      · unfold f_X11_floor
        rw [gd_t y0, lt_e, if_neg (by rw [i_le, m]; omega)]; rfl
      · unfold f_J9_floorDiv_7cf53
        rw [gd_t y0, lt_e, if_neg (fun z => c ((xor_s (by omega)).mp z)), if_neg (by rw [i_eq, m]; omega)]
/-- what a side's j-th stitch gets besides -/
def dif (z : Int) (A : Nat) (j : Nat) : Int := z * ((j : Int) + 1) / A - z * j / A
/-- the greatest change -/
def chg (z : Int) (A : Nat) : Int := ((z.natAbs : Int) + A - 1) / A
theorem chg_b (z : Int) {A : Nat} (hA : 1 ≤ A) : (A : Int) * chg z A ≤ z.natAbs + A - 1 ∧ (z.natAbs : Int) ≤ A * chg z A ∧ 0 ≤ chg z A ∧ chg z A ≤ z.natAbs := by
  have a1 := Int.mul_ediv_self_le (x := (z.natAbs : Int) + A - 1) (k := A) (by omega)
  have a2 := Int.lt_mul_ediv_self_add (x := (z.natAbs : Int) + A - 1) (k := A) (by omega)
  have a3 : 0 ≤ chg z A := Int.ediv_nonneg (by omega) (by omega)
  refine ⟨a1, by unfold chg; omega, a3, ?_⟩
  unfold chg
  refine Int.le_of_lt_add_one (Int.ediv_lt_of_lt_mul (by omega) ?_)
  have := Int.mul_le_mul_of_nonneg_left (a := (1 : Int)) (b := A) (c := (z.natAbs : Int)) (by omega) (by omega)
  rw [Int.add_mul]; omega
theorem dif_le (z : Int) {A : Nat} (hA : 1 ≤ A) (j : Nat) : (dif z A j).natAbs ≤ chg z A := by
  obtain ⟨c1, c2, c3, c4⟩ := chg_b z hA
  have a1 := Int.mul_ediv_self_le (x := z * ((j : Int) + 1)) (k := A) (by omega)
  have a2 := Int.lt_mul_ediv_self_add (x := z * ((j : Int) + 1)) (k := A) (by omega)
  have b1 := Int.mul_ediv_self_le (x := z * (j : Int)) (k := A) (by omega)
  have b2 := Int.lt_mul_ediv_self_add (x := z * (j : Int)) (k := A) (by omega)
  have e : z * ((j : Int) + 1) = z * j + z := by rw [Int.mul_add, Int.mul_one]
  have f : (A : Int) * dif z A j = A * (z * ((j : Int) + 1) / A) - A * (z * j / A) := by unfold dif; rw [Int.mul_sub]
  rw [e] at a1 a2 f
  have k1 : dif z A j < chg z A + 1 := by
    refine Int.lt_of_mul_lt_mul_left (a := (A : Int)) ?_ (by omega)
    rw [f, Int.mul_add, Int.mul_one]; omega
  have k2 : - chg z A - 1 < dif z A j := by
    refine Int.lt_of_mul_lt_mul_left (a := (A : Int)) ?_ (by omega)
    rw [f, Int.mul_sub, Int.mul_neg, Int.mul_one]; omega
  omega
theorem dif_at (z : Int) {A : Nat} (hA : 1 ≤ A) : ∃ j, j < A ∧ ((dif z A j).natAbs : Int) = chg z A := by
  obtain ⟨c1, c2, c3, c4⟩ := chg_b z hA
  rcases Int.lt_or_le z 0 with h | h
  · refine ⟨0, by omega, ?_⟩
    have a1 := Int.mul_ediv_self_le (x := z * ((0 : Nat) + 1 : Int)) (k := A) (by omega)
    have a2 := Int.lt_mul_ediv_self_add (x := z * ((0 : Nat) + 1 : Int)) (k := A) (by omega)
    have e : z * (((0 : Nat) : Int) + 1) = z := by simp
    have g : z * ((0 : Nat) : Int) / A = 0 := by simp
    have f : dif z A 0 = z / A := by unfold dif; rw [e, g]; omega
    rw [e] at a1 a2
    have k : dif z A 0 = - chg z A := by
      apply Int.le_antisymm
      · refine Int.le_of_lt_add_one (Int.lt_of_mul_lt_mul_left (a := (A : Int)) ?_ (by omega))
        rw [f, Int.mul_add, Int.mul_one, Int.mul_neg]; omega
      · refine Int.le_of_lt_add_one (Int.lt_of_mul_lt_mul_left (a := (A : Int)) ?_ (by omega))
        rw [f, Int.mul_add, Int.mul_one, Int.mul_neg]; omega
    omega
  · refine ⟨A - 1, by omega, ?_⟩
    have b1 := Int.mul_ediv_self_le (x := z * ((A - 1 : Nat) : Int)) (k := A) (by omega)
    have b2 := Int.lt_mul_ediv_self_add (x := z * ((A - 1 : Nat) : Int)) (k := A) (by omega)
    have e : z * (((A - 1 : Nat) : Int) + 1) / A = z := by
      rw [show ((A - 1 : Nat) : Int) + 1 = A by omega]; exact Int.mul_ediv_cancel _ (by omega)
    have f : dif z A (A - 1) = z - z * ((A - 1 : Nat) : Int) / A := by unfold dif; rw [e]
    have g : z * ((A - 1 : Nat) : Int) = A * z - z := by rw [show ((A - 1 : Nat) : Int) = A - 1 by omega, Int.mul_sub, Int.mul_one, Int.mul_comm]
    have f2 : (A : Int) * dif z A (A - 1) = A * z - A * (z * ((A - 1 : Nat) : Int) / A) := by rw [f, Int.mul_sub]
    have k : dif z A (A - 1) = chg z A := by
      apply Int.le_antisymm
      · refine Int.le_of_lt_add_one (Int.lt_of_mul_lt_mul_left (a := (A : Int)) ?_ (by omega))
        rw [f2, Int.mul_add, Int.mul_one]; omega
      · refine Int.le_of_lt_add_one (Int.lt_of_mul_lt_mul_left (a := (A : Int)) ?_ (by omega))
        rw [Int.mul_add, f2, Int.mul_one]; omega
    omega
