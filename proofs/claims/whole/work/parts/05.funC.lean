/-! ===== the methods as functional programs (by program: wip/gen/gen.py) ===== -/
def f_X0_reset (w : Mem) : Option (Mem) :=
  gd (inb 0 2 = true) <|
  lt (mS w 75 ((0 : Int32).toNatClampNeg) 4) fun w_2 =>
  gd (inb 1 2 = true) <|
  lt (mS w_2 75 ((1 : Int32).toNatClampNeg) 0) fun w_4 =>
  lt (mS w_4 74 1 20) fun w_5 =>
  lt (mS w_5 74 2 20) fun w_6 =>
  lt (mS w_6 74 3 100000) fun w_7 =>
  lt (mS w_7 74 4 5000) fun w_8 =>
  some w_8
def f_X0_bothThicks (w : Mem) : Option (Int32) :=
  gd (inb 0 2 = true) <|
  lt (w.1 75 (0 : Int32).toNatClampNeg : Int32) fun v_2 =>
  gd (inb 1 2 = true) <|
  lt (w.1 75 (1 : Int32).toNatClampNeg : Int32) fun v_4 =>
  some (v_2 + v_4)
def f_X0_depth (x1 : Int32) (x2 : Int32) (w : Mem) : Option (Int32) :=
  if 1 ≤ (x1 + x2) then
    (bd (f_X0_bothThicks w) fun r_2 =>
    gd (¬ (x1 + x2) = 0) <|
    some ((r_2 * x2) / (x1 + x2)))
  else
    (some 0)
def f_X0_whereLies (x1 : Int32) (w : Mem) : Option (Int32) :=
  lt (fun (_ : Unit) => (gd (inb 0 2 = true) <|
    lt (w.1 75 (0 : Int32).toNatClampNeg : Int32) fun v_3 =>
    if x1 ≤ v_3 then
      (if x1 = 0 then
        (some 2)
      else
        (bd (f_X0_bothThicks w) fun r_6 =>
        lt (if x1 = r_6 then 3 else 4 : Int32) fun v_8 =>
        some v_8))
    else
      (bd (f_X0_bothThicks w) fun r_11 =>
      if r_11 ≤ x1 then
        (if x1 = 0 then
          (some 2)
        else
          (bd (f_X0_bothThicks w) fun r_15 =>
          lt (if x1 = r_15 then 3 else 4 : Int32) fun v_17 =>
          some v_17))
      else
        (some 1))
    : Option (Int32))) fun k_1 =>
  if x1 ≤ 0 then
    (k_1 ())
  else
    (gd (inb 0 2 = true) <|
    lt (w.1 75 (0 : Int32).toNatClampNeg : Int32) fun v_22 =>
    if v_22 ≤ x1 then
      (k_1 ())
    else
      (some 0))
def f_X0_leastTensions_L18 (w : Mem) (x1 : Int32) (x2_1 : Int32) : Nat → Int32 → Option (Sum (Int32) (Unit))
  | 0, _ => none
  | n + 1, x3_5 =>
    if 99 < x3_5 then
      (some (.inr ()))
    else
      (if x2_1 ≤ x3_5 then
        (some (.inr ()))
      else
        (bd (f_X0_depth x3_5 (x2_1 - x3_5) w) fun r_9 =>
        bd (f_X0_whereLies r_9 w) fun r_11 =>
        if r_11 = x1 then
          (lt (((100 * x3_5) + x2_1) - x3_5 : Int32) fun v_15 =>
          some (.inl v_15))
        else
          (lt (x3_5 + 1 : Int32) fun x3_14 =>
          f_X0_leastTensions_L18 w x1 x2_1 n x3_14)))
theorem f_X0_leastTensions_L18_s (w : Mem) (x1 : Int32) (x2_1 : Int32) (n : Nat) (x3_5 : Int32) : f_X0_leastTensions_L18 w x1 x2_1 (n + 1) x3_5 =
    (if 99 < x3_5 then
      (some (.inr ()))
    else
      (if x2_1 ≤ x3_5 then
        (some (.inr ()))
      else
        (bd (f_X0_depth x3_5 (x2_1 - x3_5) w) fun r_9 =>
        bd (f_X0_whereLies r_9 w) fun r_11 =>
        if r_11 = x1 then
          (lt (((100 * x3_5) + x2_1) - x3_5 : Int32) fun v_15 =>
          some (.inl v_15))
        else
          (lt (x3_5 + 1 : Int32) fun x3_14 =>
          f_X0_leastTensions_L18 w x1 x2_1 n x3_14)))) := rfl
def f_X0_leastTensions_L2 (w : Mem) (x1 : Int32) : Nat → Int32 → Option (Sum (Int32) (Unit))
  | 0, _ => none
  | n + 1, x2_1 =>
    if 198 < x2_1 then
      (some (.inr ()))
    else
      (lt (imax 1 (x2_1 - 99)) fun v_4 =>
      bd (f_X0_leastTensions_L18 w x1 x2_1 FU v_4) fun ex => sm ex (fun ret => .inl ret) fun _ =>
      lt (x2_1 + 1 : Int32) fun x2_18 =>
      f_X0_leastTensions_L2 w x1 n x2_18)
theorem f_X0_leastTensions_L2_s (w : Mem) (x1 : Int32) (n : Nat) (x2_1 : Int32) : f_X0_leastTensions_L2 w x1 (n + 1) x2_1 =
    (if 198 < x2_1 then
      (some (.inr ()))
    else
      (lt (imax 1 (x2_1 - 99)) fun v_4 =>
      bd (f_X0_leastTensions_L18 w x1 x2_1 FU v_4) fun ex => sm ex (fun ret => .inl ret) fun _ =>
      lt (x2_1 + 1 : Int32) fun x2_18 =>
      f_X0_leastTensions_L2 w x1 n x2_18)) := rfl
def f_X0_leastTensions (x1 : Int32) (w : Mem) : Option (Int32) :=
  bd (f_X0_leastTensions_L2 w x1 FU 2) fun ex => sm ex (fun ret => ret) fun _ =>
  some (-4)
def f_X1_forget (d0 : Nat) (w : Mem) : Option (Mem) :=
  lt (mS w (3*d0) 2 0) fun w_1 =>
  some w_1
def f_X1_become (d0 : Nat) (d1 : Nat) (w : Mem) : Option (Mem) :=
  gd (cpk 0 0 48 48 = true) <|
  lt (mC w (3*d1+1) (3*d0+1) ((0 : Int32).toNatClampNeg) ((0 : Int32).toNatClampNeg) ((48 : Int32).toNatClampNeg)) fun w_2 =>
  lt (mC w_2 (3*d1+2) (3*d0+2) ((0 : Int32).toNatClampNeg) ((0 : Int32).toNatClampNeg) ((48 : Int32).toNatClampNeg)) fun w_3 =>
  lt (mS w_3 (3*d0) 2 (w_3.1 (3*d1) 2)) fun w_4 =>
  some w_4
def f_X5_nextX (d0 : Nat) (x1 : Int32) (w : Mem) : Option (Int32) :=
  if (w.1 (60+3*d0) 2) ≤ (x1 + 1) then
    (gd (inb 0 24 = true) <|
    lt (w.1 (61+3*d0) (0 : Int32).toNatClampNeg : Int32) fun v_3 =>
    some v_3)
  else
    (gd (inb (x1 + 1) 24 = true) <|
    lt (w.1 (61+3*d0) (x1 + 1).toNatClampNeg : Int32) fun v_5 =>
    some v_5)
def f_X5_nextY (d0 : Nat) (x1 : Int32) (w : Mem) : Option (Int32) :=
  if (w.1 (60+3*d0) 2) ≤ (x1 + 1) then
    (gd (inb 0 24 = true) <|
    lt (w.1 (62+3*d0) (0 : Int32).toNatClampNeg : Int32) fun v_3 =>
    some (v_3 + (w.1 (60+3*d0) 3)))
  else
    (gd (inb (x1 + 1) 24 = true) <|
    lt (w.1 (62+3*d0) (x1 + 1).toNatClampNeg : Int32) fun v_5 =>
    some v_5)
def f_X1_roundedUp (x0 : Int32) (x1 : Int32) : Option (Int32) :=
  if 1 ≤ x1 then
    (gd (¬ x1 = 0) <|
    some (((x0 + x1) - 1) / x1))
  else
    (some 0)
def f_X1_parts (d0 : Nat) (x1 : Int32) (x2 : Int32) (x3 : Int32) (w : Mem) : Option (Int32) :=
  bd (f_X5_nextX d0 x1 w) fun r_1 =>
  gd (inb x1 24 = true) <|
  lt (w.1 (61+3*d0) x1.toNatClampNeg : Int32) fun v_4 =>
  lt (iabs (r_1 - v_4)) fun v_5 =>
  bd (f_X5_nextY d0 x1 w) fun r_6 =>
  lt (w.1 (62+3*d0) x1.toNatClampNeg : Int32) fun v_8 =>
  lt (iabs (r_6 - v_8)) fun v_9 =>
  bd (f_X1_roundedUp v_5 x2) fun r_10 =>
  bd (f_X1_roundedUp v_9 x3) fun r_12 =>
  lt (imax r_10 r_12) fun v_14 =>
  lt (imax 1 v_14) fun v_15 =>
  some v_15
def f_J9_floorDiv_7cf53 (x0 : Int32) (x1 : Int32) : Option (Int32) :=
  gd (¬ x1 = 0) <|
  lt (x0 / x1 : Int32) fun v_2 =>
  if 0 ≤ (x0 ^^^ x1) then
    (some v_2)
  else
    (if (v_2 * x1) = x0 then
      (some v_2)
    else
      (some (v_2 - 1)))
def f_X1_addWay_L34 (d0 : Nat) (d1 : Nat) (x2 : Int32) (x3 : Int32) (v_5 : Int32) (v_9 : Int32) : Nat → Int32 → Int32 → Mem → Option (Mem)
  | 0, _, _, _ => none
  | n + 1, x6_10, x7_11, w_12 =>
    if x3 < x7_11 then
      (some w_12)
    else
      (if 48 ≤ (w_12.1 (3*d0) 2) then
        (some w_12)
      else
        (bd (f_J9_floorDiv_7cf53 (v_9 * x7_11) x3) fun r_16 =>
        lt (w_12.1 (61+3*d1) x2.toNatClampNeg : Int32) fun v_18 =>
        bd (f_J9_floorDiv_7cf53 (v_5 * x7_11) x3) fun r_19 =>
        gd (inb (w_12.1 (3*d0) 2) 48 = true) <|
        lt (mS w_12 (3*d0+1) ((w_12.1 (3*d0) 2).toNatClampNeg) (v_18 + r_19)) fun w_22 =>
        gd (inb (w_22.1 (3*d0) 2) 48 = true) <|
        lt (mS w_22 (3*d0+2) ((w_22.1 (3*d0) 2).toNatClampNeg) (r_16 - x6_10)) fun w_24 =>
        lt (mS w_24 (3*d0) 2 ((w_24.1 (3*d0) 2) + 1)) fun w_25 =>
        lt (x7_11 + 1 : Int32) fun x7_26 =>
        f_X1_addWay_L34 d0 d1 x2 x3 v_5 v_9 n r_16 x7_26 w_25))
theorem f_X1_addWay_L34_s (d0 : Nat) (d1 : Nat) (x2 : Int32) (x3 : Int32) (v_5 : Int32) (v_9 : Int32) (n : Nat) (x6_10 : Int32) (x7_11 : Int32) (w_12 : Mem) : f_X1_addWay_L34 d0 d1 x2 x3 v_5 v_9 (n + 1) x6_10 x7_11 w_12 =
    (if x3 < x7_11 then
      (some w_12)
    else
      (if 48 ≤ (w_12.1 (3*d0) 2) then
        (some w_12)
      else
        (bd (f_J9_floorDiv_7cf53 (v_9 * x7_11) x3) fun r_16 =>
        lt (w_12.1 (61+3*d1) x2.toNatClampNeg : Int32) fun v_18 =>
        bd (f_J9_floorDiv_7cf53 (v_5 * x7_11) x3) fun r_19 =>
        gd (inb (w_12.1 (3*d0) 2) 48 = true) <|
        lt (mS w_12 (3*d0+1) ((w_12.1 (3*d0) 2).toNatClampNeg) (v_18 + r_19)) fun w_22 =>
        gd (inb (w_22.1 (3*d0) 2) 48 = true) <|
        lt (mS w_22 (3*d0+2) ((w_22.1 (3*d0) 2).toNatClampNeg) (r_16 - x6_10)) fun w_24 =>
        lt (mS w_24 (3*d0) 2 ((w_24.1 (3*d0) 2) + 1)) fun w_25 =>
        lt (x7_11 + 1 : Int32) fun x7_26 =>
        f_X1_addWay_L34 d0 d1 x2 x3 v_5 v_9 n r_16 x7_26 w_25))) := rfl
def f_X1_addWay (d0 : Nat) (d1 : Nat) (x2 : Int32) (x3 : Int32) (w : Mem) : Option (Mem) :=
  bd (f_X5_nextX d1 x2 w) fun r_1 =>
  gd (inb x2 24 = true) <|
  lt (w.1 (61+3*d1) x2.toNatClampNeg : Int32) fun v_4 =>
  lt (r_1 - v_4 : Int32) fun v_5 =>
  bd (f_X5_nextY d1 x2 w) fun r_6 =>
  lt (w.1 (62+3*d1) x2.toNatClampNeg : Int32) fun v_8 =>
  lt (r_6 - v_8 : Int32) fun v_9 =>
  bd (f_X1_addWay_L34 d0 d1 x2 x3 v_5 v_9 FU 0 1 w) fun w_29 =>
  some w_29
def f_X1_becomesMadeFrom_L6 (w : Mem) (d1 : Nat) (x2 : Int32) (x3 : Int32) : Nat → Int32 → Int32 → Option (Int32)
  | 0, _, _ => none
  | n + 1, x4_1, x5_2 =>
    if (w.1 (60+3*d1) 2) ≤ x5_2 then
      (some x4_1)
    else
      (bd (f_X1_parts d1 x5_2 x2 x3 w) fun r_5 =>
      lt (x4_1 + r_5 : Int32) fun v_7 =>
      lt (x5_2 + 1 : Int32) fun x5_8 =>
      f_X1_becomesMadeFrom_L6 w d1 x2 x3 n v_7 x5_8)
theorem f_X1_becomesMadeFrom_L6_s (w : Mem) (d1 : Nat) (x2 : Int32) (x3 : Int32) (n : Nat) (x4_1 : Int32) (x5_2 : Int32) : f_X1_becomesMadeFrom_L6 w d1 x2 x3 (n + 1) x4_1 x5_2 =
    (if (w.1 (60+3*d1) 2) ≤ x5_2 then
      (some x4_1)
    else
      (bd (f_X1_parts d1 x5_2 x2 x3 w) fun r_5 =>
      lt (x4_1 + r_5 : Int32) fun v_7 =>
      lt (x5_2 + 1 : Int32) fun x5_8 =>
      f_X1_becomesMadeFrom_L6 w d1 x2 x3 n v_7 x5_8)) := rfl
def f_X1_becomesMadeFrom_L51 (d0 : Nat) (d1 : Nat) (x2 : Int32) (x3 : Int32) : Nat → Int32 → Mem → Option (Mem)
  | 0, _, _ => none
  | n + 1, x5_14, w_15 =>
    if (w_15.1 (60+3*d1) 2) ≤ x5_14 then
      (some w_15)
    else
      (bd (f_X1_parts d1 x5_14 x2 x3 w_15) fun r_18 =>
      bd (f_X1_addWay d0 d1 x5_14 r_18 w_15) fun w_22 =>
      lt (x5_14 + 1 : Int32) fun x5_23 =>
      f_X1_becomesMadeFrom_L51 d0 d1 x2 x3 n x5_23 w_22)
theorem f_X1_becomesMadeFrom_L51_s (d0 : Nat) (d1 : Nat) (x2 : Int32) (x3 : Int32) (n : Nat) (x5_14 : Int32) (w_15 : Mem) : f_X1_becomesMadeFrom_L51 d0 d1 x2 x3 (n + 1) x5_14 w_15 =
    (if (w_15.1 (60+3*d1) 2) ≤ x5_14 then
      (some w_15)
    else
      (bd (f_X1_parts d1 x5_14 x2 x3 w_15) fun r_18 =>
      bd (f_X1_addWay d0 d1 x5_14 r_18 w_15) fun w_22 =>
      lt (x5_14 + 1 : Int32) fun x5_23 =>
      f_X1_becomesMadeFrom_L51 d0 d1 x2 x3 n x5_23 w_22)) := rfl
def f_X1_becomesMadeFrom (d0 : Nat) (d1 : Nat) (x2 : Int32) (x3 : Int32) (w : Mem) : Option (Int32 × Mem) :=
  bd (f_X1_becomesMadeFrom_L6 w d1 x2 x3 FU 0 0) fun x4_11 =>
  if x4_11 ≤ 48 then
    (lt (mS w (3*d0) 2 0) fun w_13 =>
    bd (f_X1_becomesMadeFrom_L51 d0 d1 x2 x3 FU 0 w_13) fun w_26 =>
    some (1, w_26))
  else
    (some (0, w))
def f_X1_becomeTurned_L3 (d0 : Nat) (d1 : Nat) (x2 : Int32) (x3 : Int32) : Nat → Int32 → Mem → Option (Mem)
  | 0, _, _ => none
  | n + 1, x4_1, w_2 =>
    if (w_2.1 (3*d1) 2) ≤ x4_1 then
      (some w_2)
    else
      (gd (¬ (w_2.1 (3*d1) 2) = 0) <|
      lt (irm (x2 + x4_1) (w_2.1 (3*d1) 2)) fun v_6 =>
      gd (inb v_6 48 = true) <|
      lt (w_2.1 (3*d1+1) v_6.toNatClampNeg : Int32) fun v_8 =>
      gd (inb x4_1 48 = true) <|
      lt (mS w_2 (3*d0+1) x4_1.toNatClampNeg (x3 * v_8)) fun w_10 =>
      lt (w_10.1 (3*d1+2) v_6.toNatClampNeg : Int32) fun v_11 =>
      lt (mS w_10 (3*d0+2) x4_1.toNatClampNeg v_11) fun w_12 =>
      lt (x4_1 + 1 : Int32) fun x4_13 =>
      f_X1_becomeTurned_L3 d0 d1 x2 x3 n x4_13 w_12)
theorem f_X1_becomeTurned_L3_s (d0 : Nat) (d1 : Nat) (x2 : Int32) (x3 : Int32) (n : Nat) (x4_1 : Int32) (w_2 : Mem) : f_X1_becomeTurned_L3 d0 d1 x2 x3 (n + 1) x4_1 w_2 =
    (if (w_2.1 (3*d1) 2) ≤ x4_1 then
      (some w_2)
    else
      (gd (¬ (w_2.1 (3*d1) 2) = 0) <|
      lt (irm (x2 + x4_1) (w_2.1 (3*d1) 2)) fun v_6 =>
      gd (inb v_6 48 = true) <|
      lt (w_2.1 (3*d1+1) v_6.toNatClampNeg : Int32) fun v_8 =>
      gd (inb x4_1 48 = true) <|
      lt (mS w_2 (3*d0+1) x4_1.toNatClampNeg (x3 * v_8)) fun w_10 =>
      lt (w_10.1 (3*d1+2) v_6.toNatClampNeg : Int32) fun v_11 =>
      lt (mS w_10 (3*d0+2) x4_1.toNatClampNeg v_11) fun w_12 =>
      lt (x4_1 + 1 : Int32) fun x4_13 =>
      f_X1_becomeTurned_L3 d0 d1 x2 x3 n x4_13 w_12)) := rfl
def f_X1_becomeTurned (d0 : Nat) (d1 : Nat) (x2 : Int32) (x3 : Int32) (w : Mem) : Option (Mem) :=
  bd (f_X1_becomeTurned_L3 d0 d1 x2 x3 FU 0 w) fun w_16 =>
  some w_16
def f_X1_needle (d0 : Nat) (w : Mem) : Option (Int32) :=
  if (w.1 (3*d0) 2) ≤ 0 then
    (some 0)
  else
    (gd (inb ((w.1 (3*d0) 2) - 1) 48 = true) <|
    lt (w.1 (3*d0+1) ((w.1 (3*d0) 2) - 1).toNatClampNeg : Int32) fun v_3 =>
    some v_3)
def f_X1_sumOfFeeds_L4 (w : Mem) (d0 : Nat) : Nat → Int32 → Int32 → Option (Int32)
  | 0, _, _ => none
  | n + 1, x1_1, x2_2 =>
    if (w.1 (3*d0) 2) ≤ x2_2 then
      (some x1_1)
    else
      (gd (inb x2_2 48 = true) <|
      lt (w.1 (3*d0+2) x2_2.toNatClampNeg : Int32) fun v_6 =>
      lt (x1_1 + v_6 : Int32) fun v_7 =>
      lt (x2_2 + 1 : Int32) fun x2_8 =>
      f_X1_sumOfFeeds_L4 w d0 n v_7 x2_8)
theorem f_X1_sumOfFeeds_L4_s (w : Mem) (d0 : Nat) (n : Nat) (x1_1 : Int32) (x2_2 : Int32) : f_X1_sumOfFeeds_L4 w d0 (n + 1) x1_1 x2_2 =
    (if (w.1 (3*d0) 2) ≤ x2_2 then
      (some x1_1)
    else
      (gd (inb x2_2 48 = true) <|
      lt (w.1 (3*d0+2) x2_2.toNatClampNeg : Int32) fun v_6 =>
      lt (x1_1 + v_6 : Int32) fun v_7 =>
      lt (x2_2 + 1 : Int32) fun x2_8 =>
      f_X1_sumOfFeeds_L4 w d0 n v_7 x2_8)) := rfl
def f_X1_sumOfFeeds (d0 : Nat) (w : Mem) : Option (Int32) :=
  bd (f_X1_sumOfFeeds_L4 w d0 FU 0 0) fun x1_11 =>
  some x1_11
def f_X1_steepness_L9 (w : Mem) (d0 : Nat) : Nat → Int32 → Int32 → Int32 → Option (Int32)
  | 0, _, _, _ => none
  | n + 1, x1_3, x2_4, x3_5 =>
    if (w.1 (3*d0) 2) ≤ x3_5 then
      (some x1_3)
    else
      (gd (inb x3_5 48 = true) <|
      lt (w.1 (3*d0+1) x3_5.toNatClampNeg : Int32) fun v_9 =>
      lt (iabs (v_9 - x2_4)) fun v_10 =>
      lt (imax x1_3 v_10) fun v_11 =>
      lt (w.1 (3*d0+1) x3_5.toNatClampNeg : Int32) fun v_12 =>
      lt (x3_5 + 1 : Int32) fun x3_13 =>
      f_X1_steepness_L9 w d0 n v_11 v_12 x3_13)
theorem f_X1_steepness_L9_s (w : Mem) (d0 : Nat) (n : Nat) (x1_3 : Int32) (x2_4 : Int32) (x3_5 : Int32) : f_X1_steepness_L9 w d0 (n + 1) x1_3 x2_4 x3_5 =
    (if (w.1 (3*d0) 2) ≤ x3_5 then
      (some x1_3)
    else
      (gd (inb x3_5 48 = true) <|
      lt (w.1 (3*d0+1) x3_5.toNatClampNeg : Int32) fun v_9 =>
      lt (iabs (v_9 - x2_4)) fun v_10 =>
      lt (imax x1_3 v_10) fun v_11 =>
      lt (w.1 (3*d0+1) x3_5.toNatClampNeg : Int32) fun v_12 =>
      lt (x3_5 + 1 : Int32) fun x3_13 =>
      f_X1_steepness_L9 w d0 n v_11 v_12 x3_13)) := rfl
def f_X1_steepness (d0 : Nat) (w : Mem) : Option (Int32) :=
  bd (f_X1_needle d0 w) fun r_1 =>
  bd (f_X1_steepness_L9 w d0 FU 0 r_1 0) fun x1_16 =>
  some x1_16
def f_X1_greatestOf_L6 (w : Mem) (d0 : Nat) (d1 : Nat) : Nat → Int32 → Int32 → Option (Int32)
  | 0, _, _ => none
  | n + 1, x2_3, x3_4 =>
    if (w.1 (3*d0) 2) ≤ x3_4 then
      (some x2_3)
    else
      (gd (inb x3_4 48 = true) <|
      lt (w.1 d1 x3_4.toNatClampNeg : Int32) fun v_8 =>
      lt (imax x2_3 v_8) fun v_9 =>
      lt (x3_4 + 1 : Int32) fun x3_10 =>
      f_X1_greatestOf_L6 w d0 d1 n v_9 x3_10)
theorem f_X1_greatestOf_L6_s (w : Mem) (d0 : Nat) (d1 : Nat) (n : Nat) (x2_3 : Int32) (x3_4 : Int32) : f_X1_greatestOf_L6 w d0 d1 (n + 1) x2_3 x3_4 =
    (if (w.1 (3*d0) 2) ≤ x3_4 then
      (some x2_3)
    else
      (gd (inb x3_4 48 = true) <|
      lt (w.1 d1 x3_4.toNatClampNeg : Int32) fun v_8 =>
      lt (imax x2_3 v_8) fun v_9 =>
      lt (x3_4 + 1 : Int32) fun x3_10 =>
      f_X1_greatestOf_L6 w d0 d1 n v_9 x3_10)) := rfl
def f_X1_greatestOf (d0 : Nat) (d1 : Nat) (w : Mem) : Option (Int32) :=
  gd (inb 0 48 = true) <|
  lt (w.1 d1 (0 : Int32).toNatClampNeg : Int32) fun v_2 =>
  bd (f_X1_greatestOf_L6 w d0 d1 FU v_2 1) fun x2_13 =>
  some x2_13
def f_X1_leastOf_L6 (w : Mem) (d0 : Nat) (d1 : Nat) : Nat → Int32 → Int32 → Option (Int32)
  | 0, _, _ => none
  | n + 1, x2_3, x3_4 =>
    if (w.1 (3*d0) 2) ≤ x3_4 then
      (some x2_3)
    else
      (gd (inb x3_4 48 = true) <|
      lt (w.1 d1 x3_4.toNatClampNeg : Int32) fun v_8 =>
      lt (imin x2_3 v_8) fun v_9 =>
      lt (x3_4 + 1 : Int32) fun x3_10 =>
      f_X1_leastOf_L6 w d0 d1 n v_9 x3_10)
theorem f_X1_leastOf_L6_s (w : Mem) (d0 : Nat) (d1 : Nat) (n : Nat) (x2_3 : Int32) (x3_4 : Int32) : f_X1_leastOf_L6 w d0 d1 (n + 1) x2_3 x3_4 =
    (if (w.1 (3*d0) 2) ≤ x3_4 then
      (some x2_3)
    else
      (gd (inb x3_4 48 = true) <|
      lt (w.1 d1 x3_4.toNatClampNeg : Int32) fun v_8 =>
      lt (imin x2_3 v_8) fun v_9 =>
      lt (x3_4 + 1 : Int32) fun x3_10 =>
      f_X1_leastOf_L6 w d0 d1 n v_9 x3_10)) := rfl
def f_X1_leastOf (d0 : Nat) (d1 : Nat) (w : Mem) : Option (Int32) :=
  gd (inb 0 48 = true) <|
  lt (w.1 d1 (0 : Int32).toNatClampNeg : Int32) fun v_2 =>
  bd (f_X1_leastOf_L6 w d0 d1 FU v_2 1) fun x2_13 =>
  some x2_13
def f_X1_firstMissed_L15 (w : Mem) (d0 : Nat) (d1 : Nat) : Nat → Int32 → Int32 → Int32 → Int32 → Option (Int32 × Int32 × Int32)
  | 0, _, _, _, _ => none
  | n + 1, x2_3, x3_4, x4_5, x5_6 =>
    if (w.1 (3*d0) 2) ≤ x5_6 then
      (some (x2_3, x3_4, x4_5))
    else
      (gd (inb x5_6 48 = true) <|
      lt (w.1 (3*d0+2) x5_6.toNatClampNeg : Int32) fun v_10 =>
      lt (x3_4 + v_10 : Int32) fun v_11 =>
      if (w.1 (60+3*d1) 2) ≤ x2_3 then
        (if (0 : Int32) = 0 then
          (lt (x5_6 + 1 : Int32) fun x5_14 =>
          f_X1_firstMissed_L15 w d0 d1 n x2_3 v_11 0 x5_14)
        else
          (lt (x2_3 + 1 : Int32) fun x2_15 =>
          lt (x5_6 + 1 : Int32) fun x5_16 =>
          f_X1_firstMissed_L15 w d0 d1 n x2_15 v_11 0 x5_16))
      else
        (lt (w.1 (3*d0+1) x5_6.toNatClampNeg : Int32) fun v_17 =>
        gd (inb x2_3 24 = true) <|
        lt (w.1 (61+3*d1) x2_3.toNatClampNeg : Int32) fun v_19 =>
        lt (if v_17 = v_19 then (if v_11 = (w.1 (62+3*d1) x2_3.toNatClampNeg) then 1 else 0) else 0 : Int32) fun v_20 =>
        if v_20 = 0 then
          (lt (x5_6 + 1 : Int32) fun x5_23 =>
          f_X1_firstMissed_L15 w d0 d1 n x2_3 v_11 v_20 x5_23)
        else
          (lt (x2_3 + 1 : Int32) fun x2_24 =>
          lt (x5_6 + 1 : Int32) fun x5_25 =>
          f_X1_firstMissed_L15 w d0 d1 n x2_24 v_11 v_20 x5_25)))
theorem f_X1_firstMissed_L15_s (w : Mem) (d0 : Nat) (d1 : Nat) (n : Nat) (x2_3 : Int32) (x3_4 : Int32) (x4_5 : Int32) (x5_6 : Int32) : f_X1_firstMissed_L15 w d0 d1 (n + 1) x2_3 x3_4 x4_5 x5_6 =
    (if (w.1 (3*d0) 2) ≤ x5_6 then
      (some (x2_3, x3_4, x4_5))
    else
      (gd (inb x5_6 48 = true) <|
      lt (w.1 (3*d0+2) x5_6.toNatClampNeg : Int32) fun v_10 =>
      lt (x3_4 + v_10 : Int32) fun v_11 =>
      if (w.1 (60+3*d1) 2) ≤ x2_3 then
        (if (0 : Int32) = 0 then
          (lt (x5_6 + 1 : Int32) fun x5_14 =>
          f_X1_firstMissed_L15 w d0 d1 n x2_3 v_11 0 x5_14)
        else
          (lt (x2_3 + 1 : Int32) fun x2_15 =>
          lt (x5_6 + 1 : Int32) fun x5_16 =>
          f_X1_firstMissed_L15 w d0 d1 n x2_15 v_11 0 x5_16))
      else
        (lt (w.1 (3*d0+1) x5_6.toNatClampNeg : Int32) fun v_17 =>
        gd (inb x2_3 24 = true) <|
        lt (w.1 (61+3*d1) x2_3.toNatClampNeg : Int32) fun v_19 =>
        lt (if v_17 = v_19 then (if v_11 = (w.1 (62+3*d1) x2_3.toNatClampNeg) then 1 else 0) else 0 : Int32) fun v_20 =>
        if v_20 = 0 then
          (lt (x5_6 + 1 : Int32) fun x5_23 =>
          f_X1_firstMissed_L15 w d0 d1 n x2_3 v_11 v_20 x5_23)
        else
          (lt (x2_3 + 1 : Int32) fun x2_24 =>
          lt (x5_6 + 1 : Int32) fun x5_25 =>
          f_X1_firstMissed_L15 w d0 d1 n x2_24 v_11 v_20 x5_25)))) := rfl
def f_X1_firstMissed (d0 : Nat) (d1 : Nat) (w : Mem) : Option (Int32) :=
  gd (inb 0 24 = true) <|
  lt (w.1 (62+3*d1) (0 : Int32).toNatClampNeg : Int32) fun v_2 =>
  bd (f_X1_firstMissed_L15 w d0 d1 FU 1 v_2 0 0) fun ex => tp3 ex fun x2_30 x3_31 x4_32 =>
  if x2_30 < (w.1 (60+3*d1) 2) then
    (some x2_30)
  else
    (if x4_32 = 0 then
      (bd (f_X1_needle d0 w) fun r_35 =>
      lt (w.1 (61+3*d1) (0 : Int32).toNatClampNeg : Int32) fun v_37 =>
      lt (if r_35 = v_37 then (if x3_31 = ((w.1 (62+3*d1) (0 : Int32).toNatClampNeg) + (w.1 (60+3*d1) 3)) then 1 else 0) else 0 : Int32) fun v_38 =>
      lt (if v_38 = 0 then x2_30 else (x2_30 + 1) : Int32) fun v_40 =>
      some v_40)
    else
      (some x2_30))
def f_X2_speedOf (x0 : Int32) : Option (Int32) :=
  some ((x0 / 65) + 1)
def f_X2_swingOf (x0 : Int32) : Option (Int32) :=
  lt (irm x0 13) fun v_1 =>
  some (v_1 - 6)
def f_X2_timingOf (x0 : Int32) : Option (Int32) :=
  some ((x0 / 28) - 4)
def f_X2_bentOf (x0 : Int32) : Option (Int32) :=
  lt (irm (x0 / 4) 7) fun v_1 =>
  some (v_1 - 3)
def f_X2_wornOf (x0 : Int32) : Option (Int32) :=
  lt (irm x0 4) fun v_1 =>
  some v_1
def f_X2_skips (x0 : Int32) (x1 : Int32) (x2 : Int32) : Option (Int32) :=
  bd (f_X2_timingOf x0) fun r_1 =>
  bd (f_X2_bentOf x0) fun r_3 =>
  lt (iabs ((2 * r_1) + (r_3 * x2))) fun v_5 =>
  bd (f_X2_wornOf x0) fun r_6 =>
  lt (if v_5 ≤ ((9 - r_6) - x1) then 0 else 1 : Int32) fun v_8 =>
  gd (bz v_8 = true) <|
  some v_8
def f_X2_clothOf (x0 : Int32) : Option (Int32) :=
  lt (irm (x0 / 13) 5) fun v_1 =>
  some (v_1 + 1)
def f_X2_pullsAbove_L4 (x0 : Int32) : Nat → Int32 → Int32 → Option (Int32)
  | 0, _, _ => none
  | n + 1, x1_1, x2_2 =>
    if 11 ≤ x2_2 then
      (some x1_1)
    else
      (if (10 * (x2_2 - 5)) ≤ (6 * x0) then
        (lt (x2_2 + 1 : Int32) fun x2_6 =>
        f_X2_pullsAbove_L4 x0 n x1_1 x2_6)
      else
        (lt (1 <<< (x2_2 &&& 31) : Int32) fun v_7 =>
        lt (x1_1 ||| v_7 : Int32) fun v_8 =>
        lt (x2_2 + 1 : Int32) fun x2_9 =>
        f_X2_pullsAbove_L4 x0 n v_8 x2_9))
theorem f_X2_pullsAbove_L4_s (x0 : Int32) (n : Nat) (x1_1 : Int32) (x2_2 : Int32) : f_X2_pullsAbove_L4 x0 (n + 1) x1_1 x2_2 =
    (if 11 ≤ x2_2 then
      (some x1_1)
    else
      (if (10 * (x2_2 - 5)) ≤ (6 * x0) then
        (lt (x2_2 + 1 : Int32) fun x2_6 =>
        f_X2_pullsAbove_L4 x0 n x1_1 x2_6)
      else
        (lt (1 <<< (x2_2 &&& 31) : Int32) fun v_7 =>
        lt (x1_1 ||| v_7 : Int32) fun v_8 =>
        lt (x2_2 + 1 : Int32) fun x2_9 =>
        f_X2_pullsAbove_L4 x0 n v_8 x2_9))) := rfl
def f_X2_pullsAbove (x0 : Int32) : Option (Int32) :=
  bd (f_X2_pullsAbove_L4 x0 FU 0 0) fun x1_12 =>
  some x1_12
def f_X2_pullsBelow_L4 (x0 : Int32) : Nat → Int32 → Int32 → Option (Int32)
  | 0, _, _ => none
  | n + 1, x1_1, x2_2 =>
    if 11 ≤ x2_2 then
      (some x1_1)
    else
      (if ((-6) * x0) ≤ (10 * (x2_2 - 5)) then
        (lt (x2_2 + 1 : Int32) fun x2_6 =>
        f_X2_pullsBelow_L4 x0 n x1_1 x2_6)
      else
        (lt (1 <<< (x2_2 &&& 31) : Int32) fun v_7 =>
        lt (x1_1 ||| v_7 : Int32) fun v_8 =>
        lt (x2_2 + 1 : Int32) fun x2_9 =>
        f_X2_pullsBelow_L4 x0 n v_8 x2_9))
theorem f_X2_pullsBelow_L4_s (x0 : Int32) (n : Nat) (x1_1 : Int32) (x2_2 : Int32) : f_X2_pullsBelow_L4 x0 (n + 1) x1_1 x2_2 =
    (if 11 ≤ x2_2 then
      (some x1_1)
    else
      (if ((-6) * x0) ≤ (10 * (x2_2 - 5)) then
        (lt (x2_2 + 1 : Int32) fun x2_6 =>
        f_X2_pullsBelow_L4 x0 n x1_1 x2_6)
      else
        (lt (1 <<< (x2_2 &&& 31) : Int32) fun v_7 =>
        lt (x1_1 ||| v_7 : Int32) fun v_8 =>
        lt (x2_2 + 1 : Int32) fun x2_9 =>
        f_X2_pullsBelow_L4 x0 n v_8 x2_9))) := rfl
def f_X2_pullsBelow (x0 : Int32) : Option (Int32) :=
  bd (f_X2_pullsBelow_L4 x0 FU 0 0) fun x1_12 =>
  some x1_12
def f_X2_breaks (x0 : Int32) (x1 : Int32) (x2 : Int32) : Option (Int32) :=
  bd (f_X2_bentOf x0) fun r_1 =>
  lt (iabs r_1) fun v_3 =>
  if v_3 = 3 then
    (if x1 < 4 then
      (some 0)
    else
      (lt (iabs x2) fun v_6 =>
      lt (if v_6 < 4 then 0 else 1 : Int32) fun v_7 =>
      gd (bz v_7 = true) <|
      some v_7))
  else
    (some 0)
def f_X2_pullsWith (x0 : Int32) (x1 : Int32) (x2 : Int32) : Option (Int32) :=
  bd (f_X2_speedOf x1) fun r_1 =>
  bd (f_X2_swingOf x1) fun r_3 =>
  bd (f_X2_skips x0 r_1 r_3) fun r_5 =>
  if r_5 = 0 then
    (bd (f_X2_clothOf x1) fun r_8 =>
    bd (f_X2_pullsAbove r_8) fun r_10 =>
    bd (f_X2_clothOf x1) fun r_12 =>
    bd (f_X2_pullsBelow r_12) fun r_14 =>
    if x2 = 0 then
      (bd (f_X2_breaks x0 r_1 r_3) fun r_17 =>
      if r_17 = 0 then
        (lt ((2047 &&& (r_10 ^^^ (-1))) &&& (r_14 ^^^ (-1)) : Int32) fun v_20 =>
        some v_20)
      else
        (some 0))
    else
    if x2 = 1 then
      (some 0)
    else
    if x2 = 2 then
      (some r_14)
    else
    if x2 = 3 then
      (some r_10)
    else
    if x2 = 4 then
      (bd (f_X2_breaks x0 r_1 r_3) fun r_25 =>
      if r_25 = 0 then
        (some 0)
      else
        (lt ((2047 &&& (r_10 ^^^ (-1))) &&& (r_14 ^^^ (-1)) : Int32) fun v_28 =>
        some v_28))
    else
      (some 0))
  else
    (lt (if x2 = 1 then 2047 else 0 : Int32) fun v_29 =>
    some v_29)
def f_X2_outcomeOf_L15 (x1 : Int32) (v_1 : Int32) (v_3 : Int32) : Nat → Int32 → Option (Sum (Int32) (Unit))
  | 0, _ => none
  | n + 1, x4_4 =>
    if 4 ≤ x4_4 then
      (some (.inr ()))
    else
      (bd (f_X2_pullsWith v_1 x1 x4_4) fun r_7 =>
      if (r_7 &&& v_3) = 0 then
        (lt (x4_4 + 1 : Int32) fun x4_10 =>
        f_X2_outcomeOf_L15 x1 v_1 v_3 n x4_10)
      else
        (some (.inl x4_4)))
theorem f_X2_outcomeOf_L15_s (x1 : Int32) (v_1 : Int32) (v_3 : Int32) (n : Nat) (x4_4 : Int32) : f_X2_outcomeOf_L15 x1 v_1 v_3 (n + 1) x4_4 =
    (if 4 ≤ x4_4 then
      (some (.inr ()))
    else
      (bd (f_X2_pullsWith v_1 x1 x4_4) fun r_7 =>
      if (r_7 &&& v_3) = 0 then
        (lt (x4_4 + 1 : Int32) fun x4_10 =>
        f_X2_outcomeOf_L15 x1 v_1 v_3 n x4_10)
      else
        (some (.inl x4_4)))) := rfl
def f_X2_outcomeOf (x0 : Int32) (x1 : Int32) : Option (Int32) :=
  lt (x0 / 11 : Int32) fun v_1 =>
  lt (irm x0 11) fun v_2 =>
  lt (1 <<< (v_2 &&& 31) : Int32) fun v_3 =>
  bd (f_X2_outcomeOf_L15 x1 v_1 v_3 FU 0) fun ex => sm ex (fun ret => ret) fun _ =>
  some 4
def f_X2_causesOf (x0 : Int32) : Option (Int32) :=
  bd (f_X2_timingOf x0) fun r_1 =>
  lt (if r_1 = 0 then 0 else 1 : Int32) fun v_3 =>
  bd (f_X2_bentOf x0) fun r_5 =>
  lt (if r_5 = 0 then 0 else 1 : Int32) fun v_7 =>
  lt (v_3 + v_7 : Int32) fun v_9 =>
  bd (f_X2_wornOf x0) fun r_10 =>
  lt (if r_10 = 0 then 0 else 1 : Int32) fun v_12 =>
  some (v_9 + v_12)
def f_J6_bitCount_0f7a4 (x0 : Int32) : Option (Int32) :=
  lt ((x0.toUInt32 >>> ((1 : Int32).toUInt32 &&& Int32.toUInt32 31)).toInt32 : Int32) fun v_1 =>
  lt (x0 - (v_1 &&& 1431655765) : Int32) fun v_2 =>
  lt ((v_2.toUInt32 >>> ((2 : Int32).toUInt32 &&& Int32.toUInt32 31)).toInt32 : Int32) fun v_3 =>
  lt ((v_2 &&& 858993459) + (v_3 &&& 858993459) : Int32) fun v_4 =>
  lt ((v_4.toUInt32 >>> ((4 : Int32).toUInt32 &&& Int32.toUInt32 31)).toInt32 : Int32) fun v_5 =>
  lt ((v_4 + v_5) &&& 252645135 : Int32) fun v_6 =>
  lt ((v_6.toUInt32 >>> ((8 : Int32).toUInt32 &&& Int32.toUInt32 31)).toInt32 : Int32) fun v_7 =>
  lt (v_6 + v_7 : Int32) fun v_8 =>
  lt ((v_8.toUInt32 >>> ((16 : Int32).toUInt32 &&& Int32.toUInt32 31)).toInt32 : Int32) fun v_9 =>
  lt (v_8 + v_9 : Int32) fun v_10 =>
  some (v_10 &&& 63)
def f_X2_keepKind (x1 : Int32) (x2 : Int32) (w : Mem) : Option (Mem) :=
  if x2 = 0 then
    (some w)
  else
    (if 252 ≤ (w.1 83 7) then
      (some w)
    else
      (gd (inb (w.1 83 7) 252 = true) <|
      lt (mS w 86 ((w.1 83 7).toNatClampNeg) x1) fun w_4 =>
      gd (inb (w_4.1 83 7) 252 = true) <|
      lt (mS w_4 87 ((w_4.1 83 7).toNatClampNeg) x2) fun w_6 =>
      lt (mS w_6 83 7 ((w_6.1 83 7) + 1)) fun w_7 =>
      bd (f_J6_bitCount_0f7a4 x2) fun r_8 =>
      lt (mS w_7 83 3 ((w_7.1 83 3) + r_8)) fun w_10 =>
      some w_10))
def f_X2_gather_L12 (x1 : Int32) : Nat → Int32 → Mem → Option (Mem)
  | 0, _, _ => none
  | n + 1, x2_3, w_4 =>
    if 252 ≤ x2_3 then
      (some w_4)
    else
      (bd (f_X2_causesOf x2_3) fun r_7 =>
      if x1 < r_7 then
        (lt (x2_3 + 1 : Int32) fun x2_10 =>
        f_X2_gather_L12 x1 n x2_10 w_4)
      else
        (lt (if x1 ≤ r_7 then 32 else 2047 : Int32) fun v_11 =>
        bd (f_X2_keepKind x2_3 v_11 w_4) fun w_15 =>
        lt (x2_3 + 1 : Int32) fun x2_16 =>
        f_X2_gather_L12 x1 n x2_16 w_15))
theorem f_X2_gather_L12_s (x1 : Int32) (n : Nat) (x2_3 : Int32) (w_4 : Mem) : f_X2_gather_L12 x1 (n + 1) x2_3 w_4 =
    (if 252 ≤ x2_3 then
      (some w_4)
    else
      (bd (f_X2_causesOf x2_3) fun r_7 =>
      if x1 < r_7 then
        (lt (x2_3 + 1 : Int32) fun x2_10 =>
        f_X2_gather_L12 x1 n x2_10 w_4)
      else
        (lt (if x1 ≤ r_7 then 32 else 2047 : Int32) fun v_11 =>
        bd (f_X2_keepKind x2_3 v_11 w_4) fun w_15 =>
        lt (x2_3 + 1 : Int32) fun x2_16 =>
        f_X2_gather_L12 x1 n x2_16 w_15))) := rfl
def f_X2_gather (x1 : Int32) (w : Mem) : Option (Mem) :=
  lt (mS w 83 7 0) fun w_1 =>
  lt (mS w_1 83 3 0) fun w_2 =>
  bd (f_X2_gather_L12 x1 FU 0 w_2) fun w_20 =>
  some w_20
def f_X2_narrow_L18 (x1 : Int32) (x2 : Int32) (v_1 : Int32) : Nat → Int32 → Mem → Option (Mem)
  | 0, _, _ => none
  | n + 1, x4_4, w_5 =>
    if v_1 ≤ x4_4 then
      (some w_5)
    else
      (gd (inb x4_4 252 = true) <|
      lt (w_5.1 86 x4_4.toNatClampNeg : Int32) fun v_9 =>
      lt (w_5.1 87 x4_4.toNatClampNeg : Int32) fun v_10 =>
      lt (w_5.1 86 x4_4.toNatClampNeg : Int32) fun v_11 =>
      bd (f_X2_pullsWith v_11 x1 x2) fun r_12 =>
      bd (f_X2_keepKind v_9 (v_10 &&& r_12) w_5) fun w_16 =>
      lt (x4_4 + 1 : Int32) fun x4_17 =>
      f_X2_narrow_L18 x1 x2 v_1 n x4_17 w_16)
theorem f_X2_narrow_L18_s (x1 : Int32) (x2 : Int32) (v_1 : Int32) (n : Nat) (x4_4 : Int32) (w_5 : Mem) : f_X2_narrow_L18 x1 x2 v_1 (n + 1) x4_4 w_5 =
    (if v_1 ≤ x4_4 then
      (some w_5)
    else
      (gd (inb x4_4 252 = true) <|
      lt (w_5.1 86 x4_4.toNatClampNeg : Int32) fun v_9 =>
      lt (w_5.1 87 x4_4.toNatClampNeg : Int32) fun v_10 =>
      lt (w_5.1 86 x4_4.toNatClampNeg : Int32) fun v_11 =>
      bd (f_X2_pullsWith v_11 x1 x2) fun r_12 =>
      bd (f_X2_keepKind v_9 (v_10 &&& r_12) w_5) fun w_16 =>
      lt (x4_4 + 1 : Int32) fun x4_17 =>
      f_X2_narrow_L18 x1 x2 v_1 n x4_17 w_16)) := rfl
def f_X2_narrow (x1 : Int32) (x2 : Int32) (w : Mem) : Option (Mem) :=
  lt (w.1 83 7 : Int32) fun v_1 =>
  lt (mS w 83 7 0) fun w_2 =>
  lt (mS w_2 83 3 0) fun w_3 =>
  bd (f_X2_narrow_L18 x1 x2 v_1 FU 0 w_3) fun w_20 =>
  some w_20
def f_X2_gatherNoted_L7 : Nat → Int32 → Mem → Option (Mem)
  | 0, _, _ => none
  | n + 1, x2_4, w_5 =>
    if (w_5.1 83 2) ≤ x2_4 then
      (some w_5)
    else
      (gd (inb x2_4 24 = true) <|
      lt (w_5.1 84 x2_4.toNatClampNeg : Int32) fun v_9 =>
      lt (w_5.1 85 x2_4.toNatClampNeg : Int32) fun v_10 =>
      bd (f_X2_narrow v_9 v_10 w_5) fun w_13 =>
      lt (x2_4 + 1 : Int32) fun x2_14 =>
      f_X2_gatherNoted_L7 n x2_14 w_13)
theorem f_X2_gatherNoted_L7_s (n : Nat) (x2_4 : Int32) (w_5 : Mem) : f_X2_gatherNoted_L7 (n + 1) x2_4 w_5 =
    (if (w_5.1 83 2) ≤ x2_4 then
      (some w_5)
    else
      (gd (inb x2_4 24 = true) <|
      lt (w_5.1 84 x2_4.toNatClampNeg : Int32) fun v_9 =>
      lt (w_5.1 85 x2_4.toNatClampNeg : Int32) fun v_10 =>
      bd (f_X2_narrow v_9 v_10 w_5) fun w_13 =>
      lt (x2_4 + 1 : Int32) fun x2_14 =>
      f_X2_gatherNoted_L7 n x2_14 w_13)) := rfl
def f_X2_gatherNoted (x1 : Int32) (w : Mem) : Option (Mem) :=
  bd (f_X2_gather x1 w) fun w_3 =>
  bd (f_X2_gatherNoted_L7 FU 0 w_3) fun w_17 =>
  some w_17
def f_X2_numberOf_L15 (w : Mem) (x1 : Int32) (x3_2 : Int32) : Nat → Int32 → Int32 → Option (Sum (Int32) (Int32))
  | 0, _, _ => none
  | n + 1, x2_5, x4_6 =>
    if 11 ≤ x4_6 then
      (some (.inr x2_5))
    else
      (gd (inb x3_2 252 = true) <|
      lt (w.1 87 x3_2.toNatClampNeg : Int32) fun v_10 =>
      lt (1 <<< (x4_6 &&& 31) : Int32) fun v_11 =>
      if (v_10 &&& v_11) = 0 then
        (lt (x4_6 + 1 : Int32) fun x4_13 =>
        f_X2_numberOf_L15 w x1 x3_2 n x2_5 x4_13)
      else
        (if x2_5 = x1 then
          (lt (w.1 86 x3_2.toNatClampNeg : Int32) fun v_17 =>
          some (.inl ((v_17 * 11) + x4_6)))
        else
          (lt (x2_5 + 1 : Int32) fun x2_15 =>
          lt (x4_6 + 1 : Int32) fun x4_16 =>
          f_X2_numberOf_L15 w x1 x3_2 n x2_15 x4_16)))
theorem f_X2_numberOf_L15_s (w : Mem) (x1 : Int32) (x3_2 : Int32) (n : Nat) (x2_5 : Int32) (x4_6 : Int32) : f_X2_numberOf_L15 w x1 x3_2 (n + 1) x2_5 x4_6 =
    (if 11 ≤ x4_6 then
      (some (.inr x2_5))
    else
      (gd (inb x3_2 252 = true) <|
      lt (w.1 87 x3_2.toNatClampNeg : Int32) fun v_10 =>
      lt (1 <<< (x4_6 &&& 31) : Int32) fun v_11 =>
      if (v_10 &&& v_11) = 0 then
        (lt (x4_6 + 1 : Int32) fun x4_13 =>
        f_X2_numberOf_L15 w x1 x3_2 n x2_5 x4_13)
      else
        (if x2_5 = x1 then
          (lt (w.1 86 x3_2.toNatClampNeg : Int32) fun v_17 =>
          some (.inl ((v_17 * 11) + x4_6)))
        else
          (lt (x2_5 + 1 : Int32) fun x2_15 =>
          lt (x4_6 + 1 : Int32) fun x4_16 =>
          f_X2_numberOf_L15 w x1 x3_2 n x2_15 x4_16)))) := rfl
def f_X2_numberOf_L4 (w : Mem) (x1 : Int32) : Nat → Int32 → Int32 → Option (Sum (Int32) (Unit))
  | 0, _, _ => none
  | n + 1, x2_1, x3_2 =>
    if (w.1 83 7) ≤ x3_2 then
      (some (.inr ()))
    else
      (bd (f_X2_numberOf_L15 w x1 x3_2 FU x2_1 0) fun ex => sm ex (fun ret => .inl ret) fun x2_20 =>
      lt (x3_2 + 1 : Int32) fun x3_21 =>
      f_X2_numberOf_L4 w x1 n x2_20 x3_21)
theorem f_X2_numberOf_L4_s (w : Mem) (x1 : Int32) (n : Nat) (x2_1 : Int32) (x3_2 : Int32) : f_X2_numberOf_L4 w x1 (n + 1) x2_1 x3_2 =
    (if (w.1 83 7) ≤ x3_2 then
      (some (.inr ()))
    else
      (bd (f_X2_numberOf_L15 w x1 x3_2 FU x2_1 0) fun ex => sm ex (fun ret => .inl ret) fun x2_20 =>
      lt (x3_2 + 1 : Int32) fun x3_21 =>
      f_X2_numberOf_L4 w x1 n x2_20 x3_21)) := rfl
def f_X2_numberOf (x1 : Int32) (w : Mem) : Option (Int32) :=
  bd (f_X2_numberOf_L4 w x1 FU 0 0) fun ex => sm ex (fun ret => ret) fun _ =>
  some (-1)
def f_X2_holds_L2 (w : Mem) (x1 : Int32) : Nat → Int32 → Option (Sum (Int32) (Unit))
  | 0, _ => none
  | n + 1, x2_1 =>
    if (w.1 83 7) ≤ x2_1 then
      (some (.inr ()))
    else
      (gd (inb x2_1 252 = true) <|
      lt (w.1 86 x2_1.toNatClampNeg : Int32) fun v_5 =>
      if v_5 = (x1 / 11) then
        (lt (w.1 87 x2_1.toNatClampNeg : Int32) fun v_8 =>
        lt (irm x1 11) fun v_9 =>
        lt (1 <<< (v_9 &&& 31) : Int32) fun v_10 =>
        lt (if (v_8 &&& v_10) = 0 then 0 else 1 : Int32) fun v_11 =>
        gd (bz v_11 = true) <|
        some (.inl v_11))
      else
        (lt (x2_1 + 1 : Int32) fun x2_7 =>
        f_X2_holds_L2 w x1 n x2_7))
theorem f_X2_holds_L2_s (w : Mem) (x1 : Int32) (n : Nat) (x2_1 : Int32) : f_X2_holds_L2 w x1 (n + 1) x2_1 =
    (if (w.1 83 7) ≤ x2_1 then
      (some (.inr ()))
    else
      (gd (inb x2_1 252 = true) <|
      lt (w.1 86 x2_1.toNatClampNeg : Int32) fun v_5 =>
      if v_5 = (x1 / 11) then
        (lt (w.1 87 x2_1.toNatClampNeg : Int32) fun v_8 =>
        lt (irm x1 11) fun v_9 =>
        lt (1 <<< (v_9 &&& 31) : Int32) fun v_10 =>
        lt (if (v_8 &&& v_10) = 0 then 0 else 1 : Int32) fun v_11 =>
        gd (bz v_11 = true) <|
        some (.inl v_11))
      else
        (lt (x2_1 + 1 : Int32) fun x2_7 =>
        f_X2_holds_L2 w x1 n x2_7))) := rfl
def f_X2_holds (x1 : Int32) (w : Mem) : Option (Int32) :=
  bd (f_X2_holds_L2 w x1 FU 0) fun ex => sm ex (fun ret => ret) fun _ =>
  some 0
def f_X2_greatestShare_L61 (w : Mem) (r_1 : Int32) (r_3 : Int32) (r_7 : Int32) (r_11 : Int32) (v_13 : Int32) : Nat → Int32 → Int32 → Int32 → Int32 → Int32 → Int32 → Option (Int32 × Int32 × Int32 × Int32 × Int32)
  | 0, _, _, _, _, _, _ => none
  | n + 1, x7_14, x8_15, x9_16, x10_17, x11_18, x12_19 =>
    if (w.1 83 7) ≤ x12_19 then
      (some (x7_14, x8_15, x9_16, x10_17, x11_18))
    else
      (gd (inb x12_19 252 = true) <|
      lt (w.1 86 x12_19.toNatClampNeg : Int32) fun v_23 =>
      bd (f_X2_skips v_23 r_1 r_3) fun r_24 =>
      if r_24 = 0 then
        (lt (w.1 87 x12_19.toNatClampNeg : Int32) fun v_27 =>
        bd (f_J6_bitCount_0f7a4 (v_27 &&& r_7)) fun r_28 =>
        lt (x8_15 + r_28 : Int32) fun v_30 =>
        lt (w.1 87 x12_19.toNatClampNeg : Int32) fun v_31 =>
        bd (f_J6_bitCount_0f7a4 (v_31 &&& r_11)) fun r_32 =>
        lt (x9_16 + r_32 : Int32) fun v_34 =>
        lt (w.1 87 x12_19.toNatClampNeg : Int32) fun v_35 =>
        bd (f_J6_bitCount_0f7a4 (v_35 &&& v_13)) fun r_36 =>
        lt (w.1 86 x12_19.toNatClampNeg : Int32) fun v_38 =>
        bd (f_X2_breaks v_38 r_1 r_3) fun r_39 =>
        if r_39 = 0 then
          (lt (x11_18 + r_36 : Int32) fun v_42 =>
          lt (x12_19 + 1 : Int32) fun x12_43 =>
          f_X2_greatestShare_L61 w r_1 r_3 r_7 r_11 v_13 n x7_14 v_30 v_34 x10_17 v_42 x12_43)
        else
          (lt (x10_17 + r_36 : Int32) fun v_44 =>
          lt (x12_19 + 1 : Int32) fun x12_45 =>
          f_X2_greatestShare_L61 w r_1 r_3 r_7 r_11 v_13 n x7_14 v_30 v_34 v_44 x11_18 x12_45))
      else
        (lt (w.1 87 x12_19.toNatClampNeg : Int32) fun v_46 =>
        bd (f_J6_bitCount_0f7a4 v_46) fun r_47 =>
        lt (x7_14 + r_47 : Int32) fun v_49 =>
        lt (x12_19 + 1 : Int32) fun x12_50 =>
        f_X2_greatestShare_L61 w r_1 r_3 r_7 r_11 v_13 n v_49 x8_15 x9_16 x10_17 x11_18 x12_50))
theorem f_X2_greatestShare_L61_s (w : Mem) (r_1 : Int32) (r_3 : Int32) (r_7 : Int32) (r_11 : Int32) (v_13 : Int32) (n : Nat) (x7_14 : Int32) (x8_15 : Int32) (x9_16 : Int32) (x10_17 : Int32) (x11_18 : Int32) (x12_19 : Int32) : f_X2_greatestShare_L61 w r_1 r_3 r_7 r_11 v_13 (n + 1) x7_14 x8_15 x9_16 x10_17 x11_18 x12_19 =
    (if (w.1 83 7) ≤ x12_19 then
      (some (x7_14, x8_15, x9_16, x10_17, x11_18))
    else
      (gd (inb x12_19 252 = true) <|
      lt (w.1 86 x12_19.toNatClampNeg : Int32) fun v_23 =>
      bd (f_X2_skips v_23 r_1 r_3) fun r_24 =>
      if r_24 = 0 then
        (lt (w.1 87 x12_19.toNatClampNeg : Int32) fun v_27 =>
        bd (f_J6_bitCount_0f7a4 (v_27 &&& r_7)) fun r_28 =>
        lt (x8_15 + r_28 : Int32) fun v_30 =>
        lt (w.1 87 x12_19.toNatClampNeg : Int32) fun v_31 =>
        bd (f_J6_bitCount_0f7a4 (v_31 &&& r_11)) fun r_32 =>
        lt (x9_16 + r_32 : Int32) fun v_34 =>
        lt (w.1 87 x12_19.toNatClampNeg : Int32) fun v_35 =>
        bd (f_J6_bitCount_0f7a4 (v_35 &&& v_13)) fun r_36 =>
        lt (w.1 86 x12_19.toNatClampNeg : Int32) fun v_38 =>
        bd (f_X2_breaks v_38 r_1 r_3) fun r_39 =>
        if r_39 = 0 then
          (lt (x11_18 + r_36 : Int32) fun v_42 =>
          lt (x12_19 + 1 : Int32) fun x12_43 =>
          f_X2_greatestShare_L61 w r_1 r_3 r_7 r_11 v_13 n x7_14 v_30 v_34 x10_17 v_42 x12_43)
        else
          (lt (x10_17 + r_36 : Int32) fun v_44 =>
          lt (x12_19 + 1 : Int32) fun x12_45 =>
          f_X2_greatestShare_L61 w r_1 r_3 r_7 r_11 v_13 n x7_14 v_30 v_34 v_44 x11_18 x12_45))
      else
        (lt (w.1 87 x12_19.toNatClampNeg : Int32) fun v_46 =>
        bd (f_J6_bitCount_0f7a4 v_46) fun r_47 =>
        lt (x7_14 + r_47 : Int32) fun v_49 =>
        lt (x12_19 + 1 : Int32) fun x12_50 =>
        f_X2_greatestShare_L61 w r_1 r_3 r_7 r_11 v_13 n v_49 x8_15 x9_16 x10_17 x11_18 x12_50))) := rfl
def f_X2_greatestShare (x1 : Int32) (w : Mem) : Option (Int32) :=
  bd (f_X2_speedOf x1) fun r_1 =>
  bd (f_X2_swingOf x1) fun r_3 =>
  bd (f_X2_clothOf x1) fun r_5 =>
  bd (f_X2_pullsAbove r_5) fun r_7 =>
  bd (f_X2_clothOf x1) fun r_9 =>
  bd (f_X2_pullsBelow r_9) fun r_11 =>
  lt ((2047 &&& (r_7 ^^^ (-1))) &&& (r_11 ^^^ (-1)) : Int32) fun v_13 =>
  bd (f_X2_greatestShare_L61 w r_1 r_3 r_7 r_11 v_13 FU 0 0 0 0 0 0) fun ex => tp5 ex fun x7_53 x8_54 x9_55 x10_56 x11_57 =>
  lt (imax x8_54 x9_55) fun v_58 =>
  lt (imax x7_53 v_58) fun v_59 =>
  lt (imax x10_56 x11_57) fun v_60 =>
  lt (imax v_59 v_60) fun v_61 =>
  some v_61
def f_X2_partingTrial_L10 (w : Mem) : Nat → Int32 → Int32 → Int32 → Option (Int32)
  | 0, _, _, _ => none
  | n + 1, x1_2, x2_3, x3_4 =>
    if 325 ≤ x3_4 then
      (some x1_2)
    else
      (bd (f_X2_greatestShare x3_4 w) fun r_7 =>
      if x2_3 ≤ r_7 then
        (lt (x3_4 + 1 : Int32) fun x3_10 =>
        f_X2_partingTrial_L10 w n x1_2 x2_3 x3_10)
      else
        (lt (x3_4 + 1 : Int32) fun x3_11 =>
        f_X2_partingTrial_L10 w n x3_4 r_7 x3_11))
theorem f_X2_partingTrial_L10_s (w : Mem) (n : Nat) (x1_2 : Int32) (x2_3 : Int32) (x3_4 : Int32) : f_X2_partingTrial_L10 w (n + 1) x1_2 x2_3 x3_4 =
    (if 325 ≤ x3_4 then
      (some x1_2)
    else
      (bd (f_X2_greatestShare x3_4 w) fun r_7 =>
      if x2_3 ≤ r_7 then
        (lt (x3_4 + 1 : Int32) fun x3_10 =>
        f_X2_partingTrial_L10 w n x1_2 x2_3 x3_10)
      else
        (lt (x3_4 + 1 : Int32) fun x3_11 =>
        f_X2_partingTrial_L10 w n x3_4 r_7 x3_11))) := rfl
def f_X2_partingTrial (w : Mem) : Option (Int32) :=
  lt (w.1 83 3 : Int32) fun v_1 =>
  bd (f_X2_partingTrial_L10 w FU (-4) v_1 0) fun x1_14 =>
  some x1_14
def f_X2_hunted_L13 (x1 : Int32) : Nat → Int32 → Mem → Option (Sum (Int32 × Mem) (Mem))
  | 0, _, _ => none
  | n + 1, x3_5, w_6 =>
    if 20 ≤ x3_5 then
      (some (.inr w_6))
    else
      (bd (f_X2_partingTrial w_6) fun r_9 =>
      if r_9 = (-4) then
        (some (.inl (x3_5, w_6)))
      else
        (bd (f_X2_outcomeOf x1 r_9) fun r_12 =>
        bd (f_X2_narrow r_9 r_12 w_6) fun w_16 =>
        lt (mS w_16 83 4 r_9) fun w_17 =>
        lt (x3_5 + 1 : Int32) fun x3_18 =>
        f_X2_hunted_L13 x1 n x3_18 w_17))
theorem f_X2_hunted_L13_s (x1 : Int32) (n : Nat) (x3_5 : Int32) (w_6 : Mem) : f_X2_hunted_L13 x1 (n + 1) x3_5 w_6 =
    (if 20 ≤ x3_5 then
      (some (.inr w_6))
    else
      (bd (f_X2_partingTrial w_6) fun r_9 =>
      if r_9 = (-4) then
        (some (.inl (x3_5, w_6)))
      else
        (bd (f_X2_outcomeOf x1 r_9) fun r_12 =>
        bd (f_X2_narrow r_9 r_12 w_6) fun w_16 =>
        lt (mS w_16 83 4 r_9) fun w_17 =>
        lt (x3_5 + 1 : Int32) fun x3_18 =>
        f_X2_hunted_L13 x1 n x3_18 w_17))) := rfl
def f_X2_hunted (x1 : Int32) (x2 : Int32) (w : Mem) : Option (Int32 × Mem) :=
  bd (f_X2_gather x2 w) fun w_3 =>
  lt (mS w_3 83 4 (-2)) fun w_4 =>
  bd (f_X2_hunted_L13 x1 FU 0 w_4) fun ex => sm ex (fun ret => ret) fun w_21 =>
  some (20, w_21)
def f_X3_measures (x1 : Int32) (d2 : Nat) (w : Mem) : Option (Int32 × Mem) :=
  bd (f_X1_sumOfFeeds d2 w) fun r_1 =>
  if x1 < 0 then
    (some (0, w))
  else
    (if (w.1 72 1) ≤ x1 then
      (some (0, w))
    else
      (if 1 ≤ r_1 then
        (gd (inb x1 8 = true) <|
        lt (w.1 73 x1.toNatClampNeg : Int32) fun v_7 =>
        gd (¬ r_1 = 0) <|
        lt (imax 1 (v_7 / r_1)) fun v_9 =>
        lt (mS w 72 2 v_9) fun w_10 =>
        lt (v_7 - ((w_10.1 72 2) * r_1) : Int32) fun v_11 =>
        lt (((w_10.1 72 2) + 1) * r_1 : Int32) fun v_12 =>
        lt (fun  (w_14 : Mem) => (lt (v_7 - ((w_14.1 72 2) * r_1) : Int32) fun v_15 =>
          lt (mS w_14 72 3 v_15) fun w_16 =>
          lt ((w_16.1 72 2) * (w_16.1 (3*d2) 2) : Int32) fun v_17 =>
          lt (mS w_16 72 4 v_17) fun w_18 =>
          some (1, w_18)
          : Option (Int32 × Mem))) fun k_13 =>
        if v_11 ≤ (v_12 - v_7) then
          (k_13 w_10)
        else
          (lt (mS w_10 72 2 ((w_10.1 72 2) + 1)) fun w_20 =>
          k_13 w_20))
      else
        (some (0, w))))
def f_X3_spread (x1 : Int32) (w : Mem) : Option (Int32) :=
  if 1 ≤ (w.1 72 4) then
    (bd (f_J9_floorDiv_7cf53 ((w.1 72 3) * x1) (w.1 72 4)) fun r_2 =>
    some r_2)
  else
    (some 0)
def f_X3_feedOf (d1 : Nat) (x2 : Int32) (w : Mem) : Option (Int32) :=
  if 1 ≤ (w.1 (3*d1) 2) then
    (gd (¬ (w.1 (3*d1) 2) = 0) <|
    lt (irm x2 (w.1 (3*d1) 2)) fun v_3 =>
    gd (inb v_3 48 = true) <|
    lt (w.1 (3*d1+2) v_3.toNatClampNeg : Int32) fun v_5 =>
    bd (f_X3_spread (x2 + 1) w) fun r_6 =>
    bd (f_X3_spread x2 w) fun r_8 =>
    some ((v_5 + r_6) - r_8))
  else
    (some 0)
def f_X3_greatestChange (w : Mem) : Option (Int32) :=
  if 1 ≤ (w.1 72 4) then
    (lt (iabs (w.1 72 3)) fun v_2 =>
    gd (¬ (w.1 72 4) = 0) <|
    lt (((v_2 + (w.1 72 4)) - 1) / (w.1 72 4) : Int32) fun v_4 =>
    some v_4)
  else
    (some 0)
def f_X10_isWithin (x0 : Int32) (x1 : Int32) : Option (Int32) :=
  lt (if x0 < (-x1) then 0 else (if x1 < x0 then 0 else 1) : Int32) fun v_1 =>
  gd (bz v_1 = true) <|
  some v_1
def f_X3_fits_L2 (w : Mem) (d1 : Nat) : Nat → Int32 → Option (Sum (Int32) (Unit))
  | 0, _ => none
  | n + 1, x2_1 =>
    if (w.1 72 4) ≤ x2_1 then
      (some (.inr ()))
    else
      (bd (f_X3_feedOf d1 x2_1 w) fun r_4 =>
      bd (f_X10_isWithin r_4 12) fun r_6 =>
      if r_6 = 0 then
        (some (.inl 0))
      else
        (lt (x2_1 + 1 : Int32) fun x2_9 =>
        f_X3_fits_L2 w d1 n x2_9))
theorem f_X3_fits_L2_s (w : Mem) (d1 : Nat) (n : Nat) (x2_1 : Int32) : f_X3_fits_L2 w d1 (n + 1) x2_1 =
    (if (w.1 72 4) ≤ x2_1 then
      (some (.inr ()))
    else
      (bd (f_X3_feedOf d1 x2_1 w) fun r_4 =>
      bd (f_X10_isWithin r_4 12) fun r_6 =>
      if r_6 = 0 then
        (some (.inl 0))
      else
        (lt (x2_1 + 1 : Int32) fun x2_9 =>
        f_X3_fits_L2 w d1 n x2_9))) := rfl
def f_X3_fits (d1 : Nat) (w : Mem) : Option (Int32) :=
  bd (f_X3_fits_L2 w d1 FU 0) fun ex => sm ex (fun ret => ret) fun _ =>
  some 1
def f_X3_judged_L23 (w : Mem) (d1 : Nat) (d3 : Nat) (r_2 : Int32) : Nat → Int32 → Int32 → Option (Sum (Int32) (Int32))
  | 0, _, _ => none
  | n + 1, x5_4, x6_5 =>
    if (w.1 72 4) ≤ x6_5 then
      (some (.inr x5_4))
    else
      (if x6_5 < (w.1 (48+2*d1) 3) then
        (gd (inb x6_5 400 = true) <|
        lt (w.2 (49+2*d1) x6_5.toNatClampNeg : Int64) fun v_10 =>
        lt (v_10.toInt32 : Int32) fun v_11 =>
        bd (f_X10_isWithin v_11 12) fun r_12 =>
        if r_12 = 0 then
          (some (.inl x6_5))
        else
          (gd (¬ (w.1 (3*d3) 2) = 0) <|
          lt (irm x6_5 (w.1 (3*d3) 2)) fun v_16 =>
          gd (inb v_16 48 = true) <|
          lt (w.1 (3*d3+2) v_16.toNatClampNeg : Int32) fun v_18 =>
          bd (f_X10_isWithin (v_11 - v_18) r_2) fun r_19 =>
          if r_19 = 0 then
            (some (.inl x6_5))
          else
            (lt (x5_4 + v_11 : Int32) fun v_22 =>
            lt (x6_5 + 1 : Int32) fun x6_23 =>
            f_X3_judged_L23 w d1 d3 r_2 n v_22 x6_23)))
      else
        (some (.inl (-13))))
theorem f_X3_judged_L23_s (w : Mem) (d1 : Nat) (d3 : Nat) (r_2 : Int32) (n : Nat) (x5_4 : Int32) (x6_5 : Int32) : f_X3_judged_L23 w d1 d3 r_2 (n + 1) x5_4 x6_5 =
    (if (w.1 72 4) ≤ x6_5 then
      (some (.inr x5_4))
    else
      (if x6_5 < (w.1 (48+2*d1) 3) then
        (gd (inb x6_5 400 = true) <|
        lt (w.2 (49+2*d1) x6_5.toNatClampNeg : Int64) fun v_10 =>
        lt (v_10.toInt32 : Int32) fun v_11 =>
        bd (f_X10_isWithin v_11 12) fun r_12 =>
        if r_12 = 0 then
          (some (.inl x6_5))
        else
          (gd (¬ (w.1 (3*d3) 2) = 0) <|
          lt (irm x6_5 (w.1 (3*d3) 2)) fun v_16 =>
          gd (inb v_16 48 = true) <|
          lt (w.1 (3*d3+2) v_16.toNatClampNeg : Int32) fun v_18 =>
          bd (f_X10_isWithin (v_11 - v_18) r_2) fun r_19 =>
          if r_19 = 0 then
            (some (.inl x6_5))
          else
            (lt (x5_4 + v_11 : Int32) fun v_22 =>
            lt (x6_5 + 1 : Int32) fun x6_23 =>
            f_X3_judged_L23 w d1 d3 r_2 n v_22 x6_23)))
      else
        (some (.inl (-13))))) := rfl
def f_X3_judged (d1 : Nat) (x2 : Int32) (d3 : Nat) (w : Mem) : Option (Int32) :=
  if 1 ≤ (w.1 (3*d3) 2) then
    (bd (f_X3_greatestChange w) fun r_2 =>
    bd (f_X3_judged_L23 w d1 d3 r_2 FU 0 0) fun ex => sm ex (fun ret => ret) fun x5_26 =>
    gd (inb x2 8 = true) <|
    lt (if x5_26 = (w.1 73 x2.toNatClampNeg) then 9999 else (w.1 72 4) : Int32) fun v_28 =>
    some v_28)
  else
    (some (-3))
def f_X10_isShelf (x0 : Int32) : Option (Int32) :=
  lt (if x0 < 0 then 0 else (if 8 ≤ x0 then 0 else 1) : Int32) fun v_1 =>
  gd (bz v_1 = true) <|
  some v_1
def f_X4_isStep (x0 : Int32) (x1 : Int32) : Option (Int32) :=
  if x0 = 0 then
    (bd (f_X10_isShelf x1) fun r_2 =>
    gd (bz r_2 = true) <|
    some r_2)
  else
  if x0 = 1 then
    (lt (if x1 < 1 then 0 else (if 200 < x1 then 0 else 1) : Int32) fun v_6 =>
    gd (bz v_6 = true) <|
    some v_6)
  else
  if x0 = 2 then
    (lt (if x1 < 1 then 0 else (if 3 < x1 then 0 else 1) : Int32) fun v_12 =>
    gd (bz v_12 = true) <|
    some v_12)
  else
  if x0 = 3 then
    (lt (if x1 = 0 then 1 else 0 : Int32) fun v_18 =>
    gd (bz v_18 = true) <|
    some v_18)
  else
    (some 0)
def f_X5_forget (d0 : Nat) (w : Mem) : Option (Mem) :=
  lt (mS w (60+3*d0) 2 0) fun w_1 =>
  lt (mS w_1 (60+3*d0) 3 0) fun w_2 =>
  some w_2
def f_X5_become (d0 : Nat) (d1 : Nat) (w : Mem) : Option (Mem) :=
  gd (cpk 0 0 24 24 = true) <|
  lt (mC w (61+3*d1) (61+3*d0) ((0 : Int32).toNatClampNeg) ((0 : Int32).toNatClampNeg) ((24 : Int32).toNatClampNeg)) fun w_2 =>
  lt (mC w_2 (62+3*d1) (62+3*d0) ((0 : Int32).toNatClampNeg) ((0 : Int32).toNatClampNeg) ((24 : Int32).toNatClampNeg)) fun w_3 =>
  lt (mS w_3 (60+3*d0) 2 (w_3.1 (60+3*d1) 2)) fun w_4 =>
  lt (mS w_4 (60+3*d0) 3 (w_4.1 (60+3*d1) 3)) fun w_5 =>
  some w_5
def f_X5_gets (d0 : Nat) (x1 : Int32) (x2 : Int32) (w : Mem) : Option (Int32 × Mem) :=
  if 24 ≤ (w.1 (60+3*d0) 2) then
    (some (0, w))
  else
    (bd (f_X10_isWithin x1 12) fun r_2 =>
    if r_2 = 0 then
      (some (0, w))
    else
      (bd (f_X10_isWithin x2 100) fun r_5 =>
      if r_5 = 0 then
        (some (0, w))
      else
        (gd (inb (w.1 (60+3*d0) 2) 24 = true) <|
        lt (mS w (61+3*d0) ((w.1 (60+3*d0) 2).toNatClampNeg) x1) fun w_9 =>
        gd (inb (w_9.1 (60+3*d0) 2) 24 = true) <|
        lt (mS w_9 (62+3*d0) ((w_9.1 (60+3*d0) 2).toNatClampNeg) x2) fun w_11 =>
        lt (mS w_11 (60+3*d0) 2 ((w_11.1 (60+3*d0) 2) + 1)) fun w_12 =>
        some (1, w_12))))
def f_X6_start (w : Mem) : Option (Mem) :=
  bd (f_X5_forget 1 w) fun w_3 =>
  lt (mS w_3 67 3 0) fun w_4 =>
  lt (mS w_4 67 5 0) fun w_5 =>
  lt (mS w_5 67 6 0) fun w_6 =>
  lt (mS w_6 67 7 0) fun w_7 =>
  lt (mS w_7 67 8 0) fun w_8 =>
  some w_8
def f_X6_canEnd (w : Mem) : Option (Int32) :=
  lt (if (w.1 67 3) = 0 then (if (w.1 (60+3*1) 2) ≤ 0 then 0 else (if (w.1 67 8) = 0 then 0 else 1)) else 0 : Int32) fun v_1 =>
  gd (bz v_1 = true) <|
  some v_1
def f_X6_numbersOf (x0 : Int32) : Option (Int32) :=
  if x0 = 1 then
    (some 2)
  else
  if x0 = 2 then
    (some 2)
  else
  if x0 = 3 then
    (some 0)
  else
  if x0 = 4 then
    (some 1)
  else
  if x0 = 5 then
    (some 0)
  else
  if x0 = 6 then
    (some 1)
  else
    (some (-1))
def f_X6_opens (x1 : Int32) (w : Mem) : Option (Int32 × Mem) :=
  if x1 < 1 then
    (some (0, w))
  else
    (if 9 < x1 then
      (some (0, w))
    else
      (if (w.1 67 3) < 3 then
        (gd (inb (w.1 67 3) 3 = true) <|
        lt (mS w 68 ((w.1 67 3).toNatClampNeg) (w.1 67 4)) fun w_5 =>
        gd (inb (w_5.1 67 3) 3 = true) <|
        lt (mS w_5 69 ((w_5.1 67 3).toNatClampNeg) x1) fun w_7 =>
        lt (mS w_7 67 3 ((w_7.1 67 3) + 1)) fun w_8 =>
        some (1, w_8))
      else
        (some (0, w))))
def f_X6_closes (w : Mem) : Option (Int32 × Mem) :=
  if 1 ≤ (w.1 67 3) then
    (gd (inb ((w.1 67 3) - 1) 3 = true) <|
    lt (w.1 69 ((w.1 67 3) - 1).toNatClampNeg : Int32) fun v_3 =>
    lt (mS w 69 (((w.1 67 3) - 1).toNatClampNeg) (v_3 - 1)) fun w_4 =>
    gd (inb ((w_4.1 67 3) - 1) 3 = true) <|
    lt (w_4.1 69 ((w_4.1 67 3) - 1).toNatClampNeg : Int32) fun v_6 =>
    if v_6 ≤ 0 then
      (lt (mS w_4 67 3 ((w_4.1 67 3) - 1)) fun w_8 =>
      some (1, w_8))
    else
      (lt (w_4.1 68 ((w_4.1 67 3) - 1).toNatClampNeg : Int32) fun v_9 =>
      lt (mS w_4 67 4 v_9) fun w_10 =>
      some (1, w_10)))
  else
    (some (0, w))
def f_X6_isDone (x1 : Int32) (x2 : Int32) (x3 : Int32) (w : Mem) : Option (Int32 × Mem) :=
  lt (if (w.1 67 7) = 0 then x2 else (-x2) : Int32) fun v_1 =>
  if x1 = 1 then
    (b2 (f_X5_gets 1 ((w.1 67 5) + v_1) ((w.1 67 6) + x3) w) fun r_4 w_6 =>
    gd (bz r_4 = true) <|
    some (r_4, w_6))
  else
  if x1 = 2 then
    (lt (mS w 67 5 ((w.1 67 5) + v_1)) fun w_9 =>
    lt (mS w_9 67 6 ((w_9.1 67 6) + x3)) fun w_10 =>
    bd (f_X10_isWithin (w_10.1 67 5) 100) fun r_11 =>
    if r_11 = 0 then
      (some (0, w_10))
    else
      (bd (f_X10_isWithin (w_10.1 67 6) 100) fun r_14 =>
      lt (if r_14 = 0 then 0 else 1 : Int32) fun v_16 =>
      gd (bz v_16 = true) <|
      some (v_16, w_10)))
  else
  if x1 = 3 then
    (lt (if (w.1 67 7) = 0 then 1 else 0 : Int32) fun v_21 =>
    gd (bz v_21 = true) <|
    lt (mS w 67 7 v_21) fun w_24 =>
    some (1, w_24))
  else
  if x1 = 4 then
    (b2 (f_X6_opens x2 w) fun r_27 w_29 =>
    gd (bz r_27 = true) <|
    some (r_27, w_29))
  else
  if x1 = 5 then
    (b2 (f_X6_closes w) fun r_32 w_34 =>
    gd (bz r_32 = true) <|
    some (r_32, w_34))
  else
    (lt (mS w (60+3*1) 3 x2) fun w_36 =>
    lt (mS w_36 67 8 1) fun w_37 =>
    bd (f_X10_isWithin x2 100) fun r_38 =>
    gd (bz r_38 = true) <|
    some (r_38, w_37))
def f_X6_firstFault_L8 (d1 : Nat) : Nat → Int32 → Int32 → Mem → Option (Sum (Int32 × Mem) (Mem))
  | 0, _, _, _ => none
  | n + 1, x2_4, x3_5, w_6 =>
    if 1000000 ≤ x3_5 then
      (some (.inr w_6))
    else
      (if (w_6.1 (48+2*d1) 3) ≤ x2_4 then
        (some (.inr w_6))
      else
        (gd (inb x2_4 400 = true) <|
        lt (w_6.2 (49+2*d1) x2_4.toNatClampNeg : Int64) fun v_11 =>
        lt (v_11.toInt32 : Int32) fun v_12 =>
        if v_12 = 0 then
          (bd (f_X6_canEnd w_6) fun r_35 =>
          lt (if r_35 = 0 then x2_4 else (-1) : Int32) fun v_37 =>
          some (.inl (v_37, w_6)))
        else
          (bd (f_X6_numbersOf v_12) fun r_14 =>
          if r_14 < 0 then
            (some (.inl (x2_4, w_6)))
          else
            (if (x2_4 + r_14) < (w_6.1 (48+2*d1) 3) then
              (lt (fun (t_19 : Int32) => (lt (fun (t_21 : Int32) => (lt (mS w_6 67 4 ((x2_4 + 1) + r_14)) fun w_22 =>
                  b2 (f_X6_isDone v_12 t_19 t_21 w_22) fun r_23 w_25 =>
                  if r_23 = 0 then
                    (some (.inl (x2_4, w_25)))
                  else
                    (lt (w_25.1 67 4 : Int32) fun v_27 =>
                    lt (x3_5 + 1 : Int32) fun x3_28 =>
                    f_X6_firstFault_L8 d1 n v_27 x3_28 w_25)
                  : Option (Sum (Int32 × Mem) (Mem)))) fun k_20 =>
                if r_14 ≤ 1 then
                  (k_20 0)
                else
                  (gd (inb (x2_4 + 2) 400 = true) <|
                  lt (w_6.2 (49+2*d1) (x2_4 + 2).toNatClampNeg : Int64) fun v_31 =>
                  k_20 v_31.toInt32)
                : Option (Sum (Int32 × Mem) (Mem)))) fun k_18 =>
              if r_14 ≤ 0 then
                (k_18 0)
              else
                (gd (inb (x2_4 + 1) 400 = true) <|
                lt (w_6.2 (49+2*d1) (x2_4 + 1).toNatClampNeg : Int64) fun v_34 =>
                k_18 v_34.toInt32))
            else
              (some (.inl (x2_4, w_6)))))))
theorem f_X6_firstFault_L8_s (d1 : Nat) (n : Nat) (x2_4 : Int32) (x3_5 : Int32) (w_6 : Mem) : f_X6_firstFault_L8 d1 (n + 1) x2_4 x3_5 w_6 =
    (if 1000000 ≤ x3_5 then
      (some (.inr w_6))
    else
      (if (w_6.1 (48+2*d1) 3) ≤ x2_4 then
        (some (.inr w_6))
      else
        (gd (inb x2_4 400 = true) <|
        lt (w_6.2 (49+2*d1) x2_4.toNatClampNeg : Int64) fun v_11 =>
        lt (v_11.toInt32 : Int32) fun v_12 =>
        if v_12 = 0 then
          (bd (f_X6_canEnd w_6) fun r_35 =>
          lt (if r_35 = 0 then x2_4 else (-1) : Int32) fun v_37 =>
          some (.inl (v_37, w_6)))
        else
          (bd (f_X6_numbersOf v_12) fun r_14 =>
          if r_14 < 0 then
            (some (.inl (x2_4, w_6)))
          else
            (if (x2_4 + r_14) < (w_6.1 (48+2*d1) 3) then
              (lt (fun (t_19 : Int32) => (lt (fun (t_21 : Int32) => (lt (mS w_6 67 4 ((x2_4 + 1) + r_14)) fun w_22 =>
                  b2 (f_X6_isDone v_12 t_19 t_21 w_22) fun r_23 w_25 =>
                  if r_23 = 0 then
                    (some (.inl (x2_4, w_25)))
                  else
                    (lt (w_25.1 67 4 : Int32) fun v_27 =>
                    lt (x3_5 + 1 : Int32) fun x3_28 =>
                    f_X6_firstFault_L8 d1 n v_27 x3_28 w_25)
                  : Option (Sum (Int32 × Mem) (Mem)))) fun k_20 =>
                if r_14 ≤ 1 then
                  (k_20 0)
                else
                  (gd (inb (x2_4 + 2) 400 = true) <|
                  lt (w_6.2 (49+2*d1) (x2_4 + 2).toNatClampNeg : Int64) fun v_31 =>
                  k_20 v_31.toInt32)
                : Option (Sum (Int32 × Mem) (Mem)))) fun k_18 =>
              if r_14 ≤ 0 then
                (k_18 0)
              else
                (gd (inb (x2_4 + 1) 400 = true) <|
                lt (w_6.2 (49+2*d1) (x2_4 + 1).toNatClampNeg : Int64) fun v_34 =>
                k_18 v_34.toInt32))
            else
              (some (.inl (x2_4, w_6)))))))) := rfl
def f_X6_firstFault (d1 : Nat) (w : Mem) : Option (Int32 × Mem) :=
  bd (f_X6_start w) fun w_3 =>
  bd (f_X6_firstFault_L8 d1 FU 0 0 w_3) fun ex => sm ex (fun ret => ret) fun w_42 =>
  some (w_42.1 (48+2*d1) 3, w_42)
def f_X7_isNamed_L6 (w : Mem) (d0 : Nat) (d1 : Nat) (x3 : Int32) (x4 : Int32) : Nat → Int32 → Int32 → Option (Sum (Int32) (Unit))
  | 0, _, _ => none
  | n + 1, x5_1, x6_2 =>
    if (w.1 (48+2*d0) 3) ≤ x6_2 then
      (some (.inr ()))
    else
      (gd (inb x6_2 400 = true) <|
      lt (w.2 (49+2*d0) x6_2.toNatClampNeg : Int64) fun v_6 =>
      lt (v_6.toInt32 : Int32) fun v_7 =>
      gd (inb x5_1 48 = true) <|
      lt (w.1 (3*d1+1) x5_1.toNatClampNeg : Int32) fun v_9 =>
      lt (fun (_ : Unit) => (lt (x5_1 + x3 : Int32) fun v_11 =>
        lt (if 0 ≤ v_11 then (if v_11 < (w.1 (3*d1) 2) then v_11 else 0) else ((w.1 (3*d1) 2) - 1) : Int32) fun v_12 =>
        lt (x6_2 + 1 : Int32) fun x6_14 =>
        f_X7_isNamed_L6 w d0 d1 x3 x4 n v_12 x6_14
        : Option (Sum (Int32) (Unit)))) fun k_10 =>
      if v_7 = (-128) then
        (k_10 ())
      else
        (if v_7 < (v_9 - x4) then
          (some (.inl 0))
        else
          (if v_7 ≤ v_9 then
            (k_10 ())
          else
            (some (.inl 0)))))
theorem f_X7_isNamed_L6_s (w : Mem) (d0 : Nat) (d1 : Nat) (x3 : Int32) (x4 : Int32) (n : Nat) (x5_1 : Int32) (x6_2 : Int32) : f_X7_isNamed_L6 w d0 d1 x3 x4 (n + 1) x5_1 x6_2 =
    (if (w.1 (48+2*d0) 3) ≤ x6_2 then
      (some (.inr ()))
    else
      (gd (inb x6_2 400 = true) <|
      lt (w.2 (49+2*d0) x6_2.toNatClampNeg : Int64) fun v_6 =>
      lt (v_6.toInt32 : Int32) fun v_7 =>
      gd (inb x5_1 48 = true) <|
      lt (w.1 (3*d1+1) x5_1.toNatClampNeg : Int32) fun v_9 =>
      lt (fun (_ : Unit) => (lt (x5_1 + x3 : Int32) fun v_11 =>
        lt (if 0 ≤ v_11 then (if v_11 < (w.1 (3*d1) 2) then v_11 else 0) else ((w.1 (3*d1) 2) - 1) : Int32) fun v_12 =>
        lt (x6_2 + 1 : Int32) fun x6_14 =>
        f_X7_isNamed_L6 w d0 d1 x3 x4 n v_12 x6_14
        : Option (Sum (Int32) (Unit)))) fun k_10 =>
      if v_7 = (-128) then
        (k_10 ())
      else
        (if v_7 < (v_9 - x4) then
          (some (.inl 0))
        else
          (if v_7 ≤ v_9 then
            (k_10 ())
          else
            (some (.inl 0)))))) := rfl
def f_X7_isNamed (d0 : Nat) (d1 : Nat) (x2 : Int32) (x3 : Int32) (x4 : Int32) (w : Mem) : Option (Int32) :=
  bd (f_X7_isNamed_L6 w d0 d1 x3 x4 FU x2 0) fun ex => sm ex (fun ret => ret) fun _ =>
  some 1
def f_X7_find_L27 (d1 : Nat) (x3 : Int32) (x4 : Int32) (x5_2 : Int32) (x6_6 : Int32) : Nat → Int32 → Mem → Option (Sum (Int32 × Mem) (Mem))
  | 0, _, _ => none
  | n + 1, x7_10, w_11 =>
    gd (inb x5_2 8 = true) <|
    lt (w_11.1 (3*x5_2.toNatClampNeg) 2 : Int32) fun v_14 =>
    if v_14 ≤ x7_10 then
      (some (.inr w_11))
    else
      (bd (f_X7_isNamed d1 x5_2.toNatClampNeg x7_10 x6_6 x3 w_11) fun r_16 =>
      if r_16 = 0 then
        (lt (x7_10 + 1 : Int32) fun x7_19 =>
        f_X7_find_L27 d1 x3 x4 x5_2 x6_6 n x7_19 w_11)
      else
        (if (w_11.1 82 0) = x4 then
          (lt (if 0 ≤ x6_6 then 0 else 100 : Int32) fun v_23 =>
          lt (((1000 * x5_2) + v_23) + x7_10 : Int32) fun v_25 =>
          some (.inl (v_25, w_11)))
        else
          (lt (mS w_11 82 0 ((w_11.1 82 0) + 1)) fun w_21 =>
          lt (x7_10 + 1 : Int32) fun x7_22 =>
          f_X7_find_L27 d1 x3 x4 x5_2 x6_6 n x7_22 w_21)))
theorem f_X7_find_L27_s (d1 : Nat) (x3 : Int32) (x4 : Int32) (x5_2 : Int32) (x6_6 : Int32) (n : Nat) (x7_10 : Int32) (w_11 : Mem) : f_X7_find_L27 d1 x3 x4 x5_2 x6_6 (n + 1) x7_10 w_11 =
    (gd (inb x5_2 8 = true) <|
    lt (w_11.1 (3*x5_2.toNatClampNeg) 2 : Int32) fun v_14 =>
    if v_14 ≤ x7_10 then
      (some (.inr w_11))
    else
      (bd (f_X7_isNamed d1 x5_2.toNatClampNeg x7_10 x6_6 x3 w_11) fun r_16 =>
      if r_16 = 0 then
        (lt (x7_10 + 1 : Int32) fun x7_19 =>
        f_X7_find_L27 d1 x3 x4 x5_2 x6_6 n x7_19 w_11)
      else
        (if (w_11.1 82 0) = x4 then
          (lt (if 0 ≤ x6_6 then 0 else 100 : Int32) fun v_23 =>
          lt (((1000 * x5_2) + v_23) + x7_10 : Int32) fun v_25 =>
          some (.inl (v_25, w_11)))
        else
          (lt (mS w_11 82 0 ((w_11.1 82 0) + 1)) fun w_21 =>
          lt (x7_10 + 1 : Int32) fun x7_22 =>
          f_X7_find_L27 d1 x3 x4 x5_2 x6_6 n x7_22 w_21)))) := rfl
def f_X7_find_L18 (d1 : Nat) (x3 : Int32) (x4 : Int32) (x5_2 : Int32) : Nat → Int32 → Mem → Option (Sum (Int32 × Mem) (Mem))
  | 0, _, _ => none
  | n + 1, x6_6, w_7 =>
    if x6_6 < (-1) then
      (some (.inr w_7))
    else
      (bd (f_X7_find_L27 d1 x3 x4 x5_2 x6_6 FU 0 w_7) fun ex => sm ex (fun ret => .inl ret) fun w_29 =>
      lt (x6_6 + (-2) : Int32) fun x6_30 =>
      f_X7_find_L18 d1 x3 x4 x5_2 n x6_30 w_29)
theorem f_X7_find_L18_s (d1 : Nat) (x3 : Int32) (x4 : Int32) (x5_2 : Int32) (n : Nat) (x6_6 : Int32) (w_7 : Mem) : f_X7_find_L18 d1 x3 x4 x5_2 (n + 1) x6_6 w_7 =
    (if x6_6 < (-1) then
      (some (.inr w_7))
    else
      (bd (f_X7_find_L27 d1 x3 x4 x5_2 x6_6 FU 0 w_7) fun ex => sm ex (fun ret => .inl ret) fun w_29 =>
      lt (x6_6 + (-2) : Int32) fun x6_30 =>
      f_X7_find_L18 d1 x3 x4 x5_2 n x6_30 w_29)) := rfl
def f_X7_find_L8 (d1 : Nat) (x3 : Int32) (x4 : Int32) : Nat → Int32 → Mem → Option (Sum (Int32 × Mem) (Mem))
  | 0, _, _ => none
  | n + 1, x5_2, w_3 =>
    if 8 ≤ x5_2 then
      (some (.inr w_3))
    else
      (bd (f_X7_find_L18 d1 x3 x4 x5_2 FU 1 w_3) fun ex => sm ex (fun ret => .inl ret) fun w_33 =>
      lt (x5_2 + 1 : Int32) fun x5_34 =>
      f_X7_find_L8 d1 x3 x4 n x5_34 w_33)
theorem f_X7_find_L8_s (d1 : Nat) (x3 : Int32) (x4 : Int32) (n : Nat) (x5_2 : Int32) (w_3 : Mem) : f_X7_find_L8 d1 x3 x4 (n + 1) x5_2 w_3 =
    (if 8 ≤ x5_2 then
      (some (.inr w_3))
    else
      (bd (f_X7_find_L18 d1 x3 x4 x5_2 FU 1 w_3) fun ex => sm ex (fun ret => .inl ret) fun w_33 =>
      lt (x5_2 + 1 : Int32) fun x5_34 =>
      f_X7_find_L8 d1 x3 x4 n x5_34 w_33)) := rfl
def f_X7_find (d1 : Nat) (x3 : Int32) (x4 : Int32) (w : Mem) : Option (Int32 × Mem) :=
  lt (mS w 82 0 0) fun w_1 =>
  bd (f_X7_find_L8 d1 x3 x4 FU 0 w_1) fun ex => sm ex (fun ret => ret) fun w_37 =>
  some ((-1), w_37)
def f_X8_forget (w : Mem) : Option (Mem) :=
  lt (mS w 79 2 0) fun w_1 =>
  lt (mS w_1 79 3 0) fun w_2 =>
  some w_2
def f_X8_start (x1 : Int32) (w : Mem) : Option (Mem) :=
  lt (mS w 79 2 1) fun w_1 =>
  lt (mS w_1 79 3 0) fun w_2 =>
  lt (mS w_2 79 4 0) fun w_3 =>
  lt (mS w_3 79 5 0) fun w_4 =>
  lt (mS w_4 79 6 0) fun w_5 =>
  lt (mS w_5 79 7 0) fun w_6 =>
  lt (mS w_6 79 8 0) fun w_7 =>
  lt (mS w_7 79 9 0) fun w_8 =>
  lt (mS w_8 79 10 0) fun w_9 =>
  lt (mS w_9 79 11 0) fun w_10 =>
  lt (mS w_10 79 12 0) fun w_11 =>
  lt (mS w_11 79 13 x1) fun w_12 =>
  some w_12
def f_X8_takesThread (x1 : Int32) (w : Mem) : Option (Int32 × Mem) :=
  bd (f_X0_depth (w.1 74 1) (w.1 74 2) w) fun r_1 =>
  lt (x1 + (2 * r_1) : Int32) fun v_3 =>
  bd (f_X0_bothThicks w) fun r_4 =>
  lt (x1 + (2 * (r_4 - r_1)) : Int32) fun v_6 =>
  if (w.1 74 3) < v_3 then
    (lt (if v_3 ≤ (w.1 74 3) then 2 else 1 : Int32) fun v_8 =>
    lt (mS w 79 8 v_8) fun w_10 =>
    some (0, w_10))
  else
    (if v_6 ≤ (w.1 74 4) then
      (lt (mS w 74 3 ((w.1 74 3) - v_3)) fun w_13 =>
      lt (mS w_13 74 4 ((w_13.1 74 4) - v_6)) fun w_14 =>
      lt (mS w_14 79 9 ((w_14.1 79 9) + v_3)) fun w_15 =>
      lt (mS w_15 79 10 ((w_15.1 79 10) + v_6)) fun w_16 =>
      some (1, w_16))
    else
      (lt (if v_3 ≤ (w.1 74 3) then 2 else 1 : Int32) fun v_17 =>
      lt (mS w 79 8 v_17) fun w_19 =>
      some (0, w_19)))
def f_X8_moves (x1 : Int32) (x2 : Int32) (w : Mem) : Option (Mem) :=
  lt (w.1 79 6 : Int32) fun v_1 =>
  if v_1 = 0 then
    (lt (mS w 79 4 ((w.1 79 4) + x1)) fun w_3 =>
    lt (mS w_3 79 5 ((w_3.1 79 5) + x2)) fun w_4 =>
    some w_4)
  else
  if v_1 = 1 then
    (lt (mS w 79 4 ((w.1 79 4) - x2)) fun w_6 =>
    lt (mS w_6 79 5 ((w_6.1 79 5) + x1)) fun w_7 =>
    some w_7)
  else
  if v_1 = 2 then
    (lt (mS w 79 4 ((w.1 79 4) - x1)) fun w_9 =>
    lt (mS w_9 79 5 ((w_9.1 79 5) - x2)) fun w_10 =>
    some w_10)
  else
    (lt (mS w 79 4 ((w.1 79 4) + x2)) fun w_11 =>
    lt (mS w_11 79 5 ((w_11.1 79 5) - x1)) fun w_12 =>
    some w_12)
def f_X8_sewsOne (d1 : Nat) (w : Mem) : Option (Int32 × Mem) :=
  if (w.1 79 3) < 600 then
    (gd (inb (w.1 79 12) 48 = true) <|
    lt (w.1 (3*d1+1) (w.1 79 12).toNatClampNeg : Int32) fun v_3 =>
    lt (v_3 - (w.1 79 13) : Int32) fun v_4 =>
    lt (if (w.1 79 7) = 0 then (w.1 (3*d1+2) (w.1 79 12).toNatClampNeg) else (-(w.1 (3*d1+2) (w.1 79 12).toNatClampNeg)) : Int32) fun v_5 =>
    lt (iabs v_4) fun v_7 =>
    lt (iabs v_5) fun v_8 =>
    b2 (f_X8_takesThread (v_7 + v_8) w) fun r_9 w_11 =>
    if r_9 = 0 then
      (some (0, w_11))
    else
      (gd (inb (w_11.1 79 12) 48 = true) <|
      lt (w_11.1 (3*d1+1) (w_11.1 79 12).toNatClampNeg : Int32) fun v_14 =>
      lt (mS w_11 79 13 v_14) fun w_15 =>
      lt (if (w_15.1 (3*d1) 2) ≤ ((w_15.1 79 12) + 1) then 0 else ((w_15.1 79 12) + 1) : Int32) fun v_16 =>
      lt (mS w_15 79 12 v_16) fun w_18 =>
      bd (f_X8_moves v_4 v_5 w_18) fun w_21 =>
      gd (inb (w_21.1 79 3) 600 = true) <|
      lt (mS w_21 80 ((w_21.1 79 3).toNatClampNeg) (w_21.1 79 4)) fun w_23 =>
      gd (inb (w_23.1 79 3) 600 = true) <|
      lt (mS w_23 81 ((w_23.1 79 3).toNatClampNeg) (w_23.1 79 5)) fun w_25 =>
      lt (mS w_25 79 3 ((w_25.1 79 3) + 1)) fun w_26 =>
      some (1, w_26)))
  else
    (lt (mS w 79 8 3) fun w_29 =>
    some (0, w_29))
def f_X8_sews_L17 (d1 : Nat) (x3 : Int32) : Nat → Int32 → Mem → Option (Sum (Int32 × Mem) (Mem))
  | 0, _, _ => none
  | n + 1, x4_2, w_3 =>
    if x3 ≤ x4_2 then
      (some (.inr w_3))
    else
      (b2 (f_X8_sewsOne d1 w_3) fun r_6 w_8 =>
      if r_6 = 0 then
        (some (.inl (0, w_8)))
      else
        (lt (x4_2 + 1 : Int32) fun x4_10 =>
        f_X8_sews_L17 d1 x3 n x4_10 w_8))
theorem f_X8_sews_L17_s (d1 : Nat) (x3 : Int32) (n : Nat) (x4_2 : Int32) (w_3 : Mem) : f_X8_sews_L17 d1 x3 (n + 1) x4_2 w_3 =
    (if x3 ≤ x4_2 then
      (some (.inr w_3))
    else
      (b2 (f_X8_sewsOne d1 w_3) fun r_6 w_8 =>
      if r_6 = 0 then
        (some (.inl (0, w_8)))
      else
        (lt (x4_2 + 1 : Int32) fun x4_10 =>
        f_X8_sews_L17 d1 x3 n x4_10 w_8))) := rfl
def f_X8_sews (d1 : Nat) (x3 : Int32) (w : Mem) : Option (Int32 × Mem) :=
  if (w.1 (3*d1) 2) = 0 then
    (lt (mS w 79 8 4) fun w_14 =>
    some (0, w_14))
  else
    (bd (f_X8_sews_L17 d1 x3 FU 0 w) fun ex => sm ex (fun ret => ret) fun w_13 =>
    some (1, w_13))
def f_X8_wasAt_L13 (w : Mem) (x1 : Int32) (x2 : Int32) (x3 : Int32) : Nat → Int32 → Option (Sum (Int32) (Unit))
  | 0, _ => none
  | n + 1, x4_2 =>
    if x3 ≤ x4_2 then
      (some (.inr ()))
    else
      (gd (inb x4_2 600 = true) <|
      lt (w.1 80 x4_2.toNatClampNeg : Int32) fun v_6 =>
      if v_6 = x1 then
        (lt (w.1 81 x4_2.toNatClampNeg : Int32) fun v_9 =>
        if v_9 = x2 then
          (some (.inl 1))
        else
          (lt (x4_2 + 1 : Int32) fun x4_11 =>
          f_X8_wasAt_L13 w x1 x2 x3 n x4_11))
      else
        (lt (x4_2 + 1 : Int32) fun x4_8 =>
        f_X8_wasAt_L13 w x1 x2 x3 n x4_8))
theorem f_X8_wasAt_L13_s (w : Mem) (x1 : Int32) (x2 : Int32) (x3 : Int32) (n : Nat) (x4_2 : Int32) : f_X8_wasAt_L13 w x1 x2 x3 (n + 1) x4_2 =
    (if x3 ≤ x4_2 then
      (some (.inr ()))
    else
      (gd (inb x4_2 600 = true) <|
      lt (w.1 80 x4_2.toNatClampNeg : Int32) fun v_6 =>
      if v_6 = x1 then
        (lt (w.1 81 x4_2.toNatClampNeg : Int32) fun v_9 =>
        if v_9 = x2 then
          (some (.inl 1))
        else
          (lt (x4_2 + 1 : Int32) fun x4_11 =>
          f_X8_wasAt_L13 w x1 x2 x3 n x4_11))
      else
        (lt (x4_2 + 1 : Int32) fun x4_8 =>
        f_X8_wasAt_L13 w x1 x2 x3 n x4_8))) := rfl
def f_X8_wasAt (x1 : Int32) (x2 : Int32) (x3 : Int32) (w : Mem) : Option (Int32) :=
  lt (fun (_ : Unit) => (bd (f_X8_wasAt_L13 w x1 x2 x3 FU 0) fun ex => sm ex (fun ret => ret) fun _ =>
    some 0
    : Option (Int32))) fun k_1 =>
  if x1 = 0 then
    (if x2 = 0 then
      (some 1)
    else
      (k_1 ()))
  else
    (k_1 ())
def f_X8_returns_L4 (w : Mem) : Nat → Int32 → Int32 → Option (Int32)
  | 0, _, _ => none
  | n + 1, x1_1, x2_2 =>
    if (w.1 79 3) ≤ x2_2 then
      (some x1_1)
    else
      (gd (inb x2_2 600 = true) <|
      lt (w.1 80 x2_2.toNatClampNeg : Int32) fun v_6 =>
      lt (w.1 81 x2_2.toNatClampNeg : Int32) fun v_7 =>
      bd (f_X8_wasAt v_6 v_7 x2_2 w) fun r_8 =>
      if r_8 = 0 then
        (lt (x2_2 + 1 : Int32) fun x2_11 =>
        f_X8_returns_L4 w n x1_1 x2_11)
      else
        (lt (x1_1 + 1 : Int32) fun x1_12 =>
        lt (x2_2 + 1 : Int32) fun x2_13 =>
        f_X8_returns_L4 w n x1_12 x2_13))
theorem f_X8_returns_L4_s (w : Mem) (n : Nat) (x1_1 : Int32) (x2_2 : Int32) : f_X8_returns_L4 w (n + 1) x1_1 x2_2 =
    (if (w.1 79 3) ≤ x2_2 then
      (some x1_1)
    else
      (gd (inb x2_2 600 = true) <|
      lt (w.1 80 x2_2.toNatClampNeg : Int32) fun v_6 =>
      lt (w.1 81 x2_2.toNatClampNeg : Int32) fun v_7 =>
      bd (f_X8_wasAt v_6 v_7 x2_2 w) fun r_8 =>
      if r_8 = 0 then
        (lt (x2_2 + 1 : Int32) fun x2_11 =>
        f_X8_returns_L4 w n x1_1 x2_11)
      else
        (lt (x1_1 + 1 : Int32) fun x1_12 =>
        lt (x2_2 + 1 : Int32) fun x2_13 =>
        f_X8_returns_L4 w n x1_12 x2_13))) := rfl
def f_X8_returns (w : Mem) : Option (Int32) :=
  bd (f_X8_returns_L4 w FU 0 0) fun x1_16 =>
  some x1_16
def f_J7_fill_d0a16_L6 (d0 : Nat) (x1 : Int64) : Nat → Int32 → Mem → Option (Mem)
  | 0, _, _ => none
  | n + 1, x3_1, w_2 =>
    if 400 ≤ x3_1 then
      (some w_2)
    else
      (gd (inb x3_1 400 = true) <|
      lt (mL w_2 (49+2*d0) x3_1.toNatClampNeg x1) fun w_6 =>
      lt (x3_1 + 1 : Int32) fun x3_7 =>
      f_J7_fill_d0a16_L6 d0 x1 n x3_7 w_6)
theorem f_J7_fill_d0a16_L6_s (d0 : Nat) (x1 : Int64) (n : Nat) (x3_1 : Int32) (w_2 : Mem) : f_J7_fill_d0a16_L6 d0 x1 (n + 1) x3_1 w_2 =
    (if 400 ≤ x3_1 then
      (some w_2)
    else
      (gd (inb x3_1 400 = true) <|
      lt (mL w_2 (49+2*d0) x3_1.toNatClampNeg x1) fun w_6 =>
      lt (x3_1 + 1 : Int32) fun x3_7 =>
      f_J7_fill_d0a16_L6 d0 x1 n x3_7 w_6)) := rfl
def f_J7_fill_d0a16 (d0 : Nat) (x1 : Int64) (w : Mem) : Option (Mem) :=
  bd (f_J7_fill_d0a16_L6 d0 x1 FU 0 w) fun w_10 =>
  some w_10
def f_X9_becomeRow (d0 : Nat) (x1 : Int32) (x2 : Int32) (w : Mem) : Option (Mem) :=
  lt (mS w (48+2*d0) 2 x1) fun w_1 =>
  lt (mS w_1 (48+2*d0) 3 x2) fun w_2 =>
  bd (f_J7_fill_d0a16 d0 0 w_2) fun w_5 =>
  some w_5
def f_X9_becomeDisc (d0 : Nat) (d1 : Nat) (w : Mem) : Option (Mem) :=
  lt (mS w (48+2*d0) 2 5) fun w_1 =>
  bd (f_X1_become (8+d0) d1 w_1) fun w_4 =>
  some w_4
def f_X9_isRow (d0 : Nat) (w : Mem) : Option (Int32) :=
  lt (if (w.1 (48+2*d0) 2) < 1 then 0 else (if 4 < (w.1 (48+2*d0) 2) then 0 else 1) : Int32) fun v_1 =>
  gd (bz v_1 = true) <|
  some v_1
def f_X9_hasPlaces (d0 : Nat) (x1 : Int32) (x2 : Int32) (w : Mem) : Option (Int32) :=
  lt (if x1 < 0 then 0 else (if x2 < 0 then 0 else (if ((w.1 (48+2*d0) 3) - x2) < x1 then 0 else 1)) : Int32) fun v_1 =>
  gd (bz v_1 = true) <|
  some v_1
def f_X9_narrowed (d0 : Nat) (x1 : Int64) (w : Mem) : Option (Int64) :=
  lt (w.1 (48+2*d0) 2 : Int32) fun v_1 =>
  if v_1 = 1 then
    (lt (x1.toInt32.toInt8.toInt32 : Int32) fun v_3 =>
    some v_3.toInt64)
  else
  if v_1 = 2 then
    (lt (x1.toInt32.toInt16.toInt32 : Int32) fun v_5 =>
    some v_5.toInt64)
  else
  if v_1 = 3 then
    (some x1.toInt32.toInt64)
  else
    (some x1)
def f_X10_begin_L16 : Nat → Int32 → Mem → Option (Mem)
  | 0, _, _ => none
  | n + 1, x1_7, w_8 =>
    if 8 ≤ x1_7 then
      (some w_8)
    else
      (gd (inb x1_7 8 = true) <|
      bd (f_X1_forget x1_7.toNatClampNeg w_8) fun w_14 =>
      lt (x1_7 + 1 : Int32) fun x1_15 =>
      f_X10_begin_L16 n x1_15 w_14)
theorem f_X10_begin_L16_s (n : Nat) (x1_7 : Int32) (w_8 : Mem) : f_X10_begin_L16 (n + 1) x1_7 w_8 =
    (if 8 ≤ x1_7 then
      (some w_8)
    else
      (gd (inb x1_7 8 = true) <|
      bd (f_X1_forget x1_7.toNatClampNeg w_8) fun w_14 =>
      lt (x1_7 + 1 : Int32) fun x1_15 =>
      f_X10_begin_L16 n x1_15 w_14)) := rfl
def f_X10_begin (w : Mem) : Option (Int32 × Mem) :=
  bd (f_X5_forget 0 w) fun w_3 =>
  bd (f_X1_forget 14 w_3) fun w_6 =>
  bd (f_X10_begin_L16 FU 0 w_6) fun w_18 =>
  lt (mS w_18 72 1 0) fun w_19 =>
  bd (f_X0_reset w_19) fun w_22 =>
  lt (mS w_22 76 2 0) fun w_23 =>
  bd (f_X8_forget w_23) fun w_26 =>
  lt (mS w_26 83 2 0) fun w_27 =>
  lt (mS w_27 66 12 0) fun w_28 =>
  some (0, w_28)
def f_X10_isTape (x0 : Int32) : Option (Int32) :=
  lt (if x0 < 0 then 0 else (if 6 ≤ x0 then 0 else 1) : Int32) fun v_1 =>
  gd (bz v_1 = true) <|
  some v_1
def f_X10_againstSort (x1 : Int32) (x2 : Int32) (w : Mem) : Option (Int32) :=
  bd (f_X10_isTape x1) fun r_1 =>
  if r_1 = 0 then
    (some (-1))
  else
    (gd (inb x1 6 = true) <|
    lt (w.1 (48+2*x1.toNatClampNeg) 2 : Int32) fun v_5 =>
    if v_5 = 0 then
      (some (-11))
    else
      (lt (w.1 (48+2*x1.toNatClampNeg) 2 : Int32) fun v_7 =>
      lt (if v_7 = x2 then 0 else (-12) : Int32) fun v_8 =>
      some v_8))
def f_X10_counted (x1 : Int32) (w : Mem) : Option (Int32 × Mem) :=
  if x1 < (-15) then
    (some (x1, w))
  else
    (if (-11) < x1 then
      (some (x1, w))
    else
      (lt (mS w 66 12 ((w.1 66 12) + 1)) fun w_3 =>
      some (x1, w_3)))
def f_X10_read (x1 : Int32) (w : Mem) : Option (Int32 × Mem) :=
  bd (f_X10_againstSort x1 1 w) fun r_1 =>
  if r_1 = 0 then
    (gd (inb x1 6 = true) <|
    b2 (f_X6_firstFault x1.toNatClampNeg w) fun r_5 w_7 =>
    if r_5 = (-1) then
      (bd (f_X5_become 0 1 w_7) fun w_11 =>
      some (w_11.1 (60+3*0) 2, w_11))
    else
      (some ((-100) - r_5, w_7)))
  else
    (b2 (f_X10_counted r_1 w) fun r_12 w_14 =>
    some (r_12, w_14))
def f_X10_make (x1 : Int32) (x2 : Int32) (w : Mem) : Option (Int32 × Mem) :=
  if x1 < 1 then
    (some ((-1), w))
  else
    (if 12 < x1 then
      (some ((-1), w))
    else
      (if x2 < 1 then
        (some ((-1), w))
      else
        (if x2 ≤ 12 then
          (if (w.1 (60+3*0) 2) = 0 then
            (some ((-3), w))
          else
            (b2 (f_X1_becomesMadeFrom 14 0 x1 x2 w) fun r_6 w_8 =>
            lt (if r_6 = 0 then (-2) else (w_8.1 (3*14) 2) : Int32) fun v_9 =>
            some (v_9, w_8)))
        else
          (some ((-1), w)))))
def f_X10_file (x1 : Int32) (x2 : Int32) (x3 : Int32) (w : Mem) : Option (Int32 × Mem) :=
  if x1 < 0 then
    (some ((-1), w))
  else
    (if (w.1 (3*14) 2) ≤ x1 then
      (some ((-1), w))
    else
      (bd (f_X10_isWithin x2 12) fun r_3 =>
      if r_3 = 0 then
        (some ((-1), w))
      else
        (bd (f_X10_isWithin x3 12) fun r_6 =>
        if r_6 = 0 then
          (some ((-1), w))
        else
          (gd (inb x1 48 = true) <|
          lt (mS w (3*14+1) x1.toNatClampNeg x2) fun w_10 =>
          lt (mS w_10 (3*14+2) x1.toNatClampNeg x3) fun w_11 =>
          some (1, w_11)))))
def f_X10_makes (w : Mem) : Option (Int32) :=
  if (w.1 (60+3*0) 2) = 0 then
    (some (-3))
  else
    (if (w.1 (3*14) 2) = 0 then
      (some (-3))
    else
      (bd (f_X1_firstMissed 14 0 w) fun r_3 =>
      lt (if r_3 ≤ (w.1 (60+3*0) 2) then r_3 else 9999 : Int32) fun v_5 =>
      some v_5))
def f_X10_lay (x1 : Int32) (w : Mem) : Option (Int32 × Mem) :=
  bd (f_X10_isShelf x1) fun r_1 =>
  if r_1 = 0 then
    (some ((-1), w))
  else
    (if (w.1 (3*14) 2) = 0 then
      (some ((-3), w))
    else
      (gd (inb x1 8 = true) <|
      bd (f_X1_become x1.toNatClampNeg 14 w) fun w_8 =>
      some (w_8.1 (3*14) 2, w_8)))
def f_X10_comesFrom (x1 : Int32) (w : Mem) : Option (Int32 × Mem) :=
  gd (inb x1 8 = true) <|
  lt (w.1 (3*x1.toNatClampNeg) 2 : Int32) fun v_2 =>
  if v_2 = 0 then
    (some (0, w))
  else
    (bd (f_X1_become 14 x1.toNatClampNeg w) fun w_6 =>
    some (1, w_6))
def f_X10_take (x1 : Int32) (w : Mem) : Option (Int32 × Mem) :=
  bd (f_X10_isShelf x1) fun r_1 =>
  if r_1 = 0 then
    (some ((-1), w))
  else
    (b2 (f_X10_comesFrom x1 w) fun r_4 w_6 =>
    lt (if r_4 = 0 then (-3) else (w_6.1 (3*14) 2) : Int32) fun v_7 =>
    some (v_7, w_6))
def f_X10_turn (x1 : Int32) (x2 : Int32) (w : Mem) : Option (Int32 × Mem) :=
  if x1 < 0 then
    (some ((-1), w))
  else
    (if (w.1 (3*14) 2) ≤ x1 then
      (some ((-1), w))
    else
      (if x2 < 0 then
        (some ((-1), w))
      else
        (if x2 ≤ 1 then
          (bd (f_X1_become 15 14 w) fun w_7 =>
          lt (if x2 = 1 then (-1) else 1 : Int32) fun v_8 =>
          bd (f_X1_becomeTurned 14 15 x1 v_8 w_7) fun w_12 =>
          some (1, w_12))
        else
          (some ((-1), w)))))
def f_X10_side (x1 : Int32) (w : Mem) : Option (Int32 × Mem) :=
  if x1 < 1 then
    (some ((-1), w))
  else
    (if x1 ≤ 999 then
      (if (w.1 72 1) < 8 then
        (gd (inb (w.1 72 1) 8 = true) <|
        lt (mS w 73 ((w.1 72 1).toNatClampNeg) x1) fun w_5 =>
        lt (mS w_5 72 1 ((w_5.1 72 1) + 1)) fun w_6 =>
        some (w_6.1 72 1, w_6))
      else
        (some ((-2), w)))
    else
      (some ((-1), w)))
def f_X10_sideless (w : Mem) : Option (Int32 × Mem) :=
  lt (w.1 72 1 : Int32) fun v_1 =>
  lt (mS w 72 1 0) fun w_2 =>
  some (v_1, w_2)
def f_X10_meets_L15 : Nat → Int32 → Mem → Option (Sum (Int32 × Mem) (Mem))
  | 0, _, _ => none
  | n + 1, x1_2, w_3 =>
    if (w_3.1 72 1) ≤ x1_2 then
      (some (.inr w_3))
    else
      (b2 (f_X3_measures x1_2 14 w_3) fun r_6 w_8 =>
      if r_6 = 0 then
        (some (.inl ((-3), w_8)))
      else
        (bd (f_X3_fits 14 w_8) fun r_10 =>
        if r_10 = 0 then
          (some (.inl (0, w_8)))
        else
          (lt (x1_2 + 1 : Int32) fun x1_13 =>
          f_X10_meets_L15 n x1_13 w_8)))
theorem f_X10_meets_L15_s (n : Nat) (x1_2 : Int32) (w_3 : Mem) : f_X10_meets_L15 (n + 1) x1_2 w_3 =
    (if (w_3.1 72 1) ≤ x1_2 then
      (some (.inr w_3))
    else
      (b2 (f_X3_measures x1_2 14 w_3) fun r_6 w_8 =>
      if r_6 = 0 then
        (some (.inl ((-3), w_8)))
      else
        (bd (f_X3_fits 14 w_8) fun r_10 =>
        if r_10 = 0 then
          (some (.inl (0, w_8)))
        else
          (lt (x1_2 + 1 : Int32) fun x1_13 =>
          f_X10_meets_L15 n x1_13 w_8)))) := rfl
def f_X10_meets (w : Mem) : Option (Int32 × Mem) :=
  if (w.1 72 1) = 0 then
    (some ((-3), w))
  else
    (bd (f_X10_meets_L15 FU 0 w) fun ex => sm ex (fun ret => ret) fun w_16 =>
    some (1, w_16))
def f_X10_feeds_L62 (x1 : Int32) : Nat → Int32 → Mem → Option (Mem)
  | 0, _, _ => none
  | n + 1, x3_13, w_14 =>
    if (w_14.1 72 4) ≤ x3_13 then
      (some w_14)
    else
      (bd (f_X3_feedOf 14 x3_13 w_14) fun r_17 =>
      gd (inb x3_13 400 = true) <|
      lt (mL w_14 (49+2*x1.toNatClampNeg) x3_13.toNatClampNeg r_17.toInt64) fun w_20 =>
      lt (x3_13 + 1 : Int32) fun x3_21 =>
      f_X10_feeds_L62 x1 n x3_21 w_20)
theorem f_X10_feeds_L62_s (x1 : Int32) (n : Nat) (x3_13 : Int32) (w_14 : Mem) : f_X10_feeds_L62 x1 (n + 1) x3_13 w_14 =
    (if (w_14.1 72 4) ≤ x3_13 then
      (some w_14)
    else
      (bd (f_X3_feedOf 14 x3_13 w_14) fun r_17 =>
      gd (inb x3_13 400 = true) <|
      lt (mL w_14 (49+2*x1.toNatClampNeg) x3_13.toNatClampNeg r_17.toInt64) fun w_20 =>
      lt (x3_13 + 1 : Int32) fun x3_21 =>
      f_X10_feeds_L62 x1 n x3_21 w_20)) := rfl
def f_X10_feeds (x1 : Int32) (x2 : Int32) (w : Mem) : Option (Int32 × Mem) :=
  bd (f_X10_isTape x1) fun r_1 =>
  if r_1 = 0 then
    (some ((-1), w))
  else
    (b2 (f_X3_measures x2 14 w) fun r_4 w_6 =>
    if r_4 = 0 then
      (some ((-3), w_6))
    else
      (if (w_6.1 72 4) ≤ 400 then
        (gd (inb x1 6 = true) <|
        bd (f_X9_becomeRow x1.toNatClampNeg 2 (w_6.1 72 4) w_6) fun w_12 =>
        bd (f_X10_feeds_L62 x1 FU 0 w_12) fun w_24 =>
        some (w_24.1 72 4, w_24))
      else
        (some ((-2), w_6))))
def f_X10_judge (x1 : Int32) (x2 : Int32) (w : Mem) : Option (Int32 × Mem) :=
  bd (f_X10_isTape x1) fun r_1 =>
  if r_1 = 0 then
    (some ((-1), w))
  else
    (b2 (f_X3_measures x2 14 w) fun r_4 w_6 =>
    if r_4 = 0 then
      (some ((-3), w_6))
    else
      (bd (f_X10_againstSort x1 2 w_6) fun r_8 =>
      if r_8 = 0 then
        (gd (inb x1 6 = true) <|
        bd (f_X3_judged x1.toNatClampNeg x2 14 w_6) fun r_12 =>
        b2 (f_X10_counted r_12 w_6) fun r_14 w_16 =>
        some (r_14, w_16))
      else
        (b2 (f_X10_counted r_8 w_6) fun r_17 w_19 =>
        some (r_17, w_19))))
def f_X10_cloth (x1 : Int32) (x2 : Int32) (w : Mem) : Option (Int32 × Mem) :=
  if x1 < 0 then
    (some ((-1), w))
  else
    (if 1 < x1 then
      (some ((-1), w))
    else
      (if x2 < 0 then
        (some ((-1), w))
      else
        (if x2 ≤ 60 then
          (gd (inb x1 2 = true) <|
          lt (w.1 75 x1.toNatClampNeg : Int32) fun v_6 =>
          lt (mS w 75 x1.toNatClampNeg x2) fun w_7 =>
          some (v_6, w_7))
        else
          (some ((-1), w)))))
def f_X10_tensions (x1 : Int32) (x2 : Int32) (w : Mem) : Option (Int32 × Mem) :=
  if x1 < 1 then
    (some ((-1), w))
  else
    (if 99 < x1 then
      (some ((-1), w))
    else
      (if x2 < 1 then
        (some ((-1), w))
      else
        (if x2 ≤ 99 then
          (lt (mS w 74 1 x1) fun w_5 =>
          lt (mS w_5 74 2 x2) fun w_6 =>
          bd (f_X0_depth x1 x2 w_6) fun r_7 =>
          some (r_7, w_6))
        else
          (some ((-1), w)))))
def f_X10_lock (w : Mem) : Option (Int32) :=
  bd (f_X0_depth (w.1 74 1) (w.1 74 2) w) fun r_1 =>
  bd (f_X0_whereLies r_1 w) fun r_3 =>
  some r_3
def f_X10_tune (x1 : Int32) (w : Mem) : Option (Int32) :=
  if x1 < 0 then
    (some (-1))
  else
    (if x1 ≤ 1 then
      (bd (f_X0_leastTensions x1 w) fun r_3 =>
      some r_3)
    else
      (some (-1)))
def f_X10_wind (x1 : Int32) (x2 : Int32) (w : Mem) : Option (Int32 × Mem) :=
  if x1 < 0 then
    (some ((-1), w))
  else
    (if 1000000 < x1 then
      (some ((-1), w))
    else
      (if x2 < 0 then
        (some ((-1), w))
      else
        (if x2 ≤ 1000000 then
          (lt (mS w 74 3 x1) fun w_5 =>
          lt (mS w_5 74 4 x2) fun w_6 =>
          some (0, w_6))
        else
          (some ((-1), w)))))
def f_X10_step (x1 : Int32) (x2 : Int32) (w : Mem) : Option (Int32 × Mem) :=
  bd (f_X4_isStep x1 x2) fun r_1 =>
  if r_1 = 0 then
    (some ((-1), w))
  else
    (if (w.1 76 2) < 20 then
      (gd (inb (w.1 76 2) 20 = true) <|
      lt (mS w 77 ((w.1 76 2).toNatClampNeg) x1) fun w_6 =>
      gd (inb (w_6.1 76 2) 20 = true) <|
      lt (mS w_6 78 ((w_6.1 76 2).toNatClampNeg) x2) fun w_8 =>
      lt (mS w_8 76 2 ((w_8.1 76 2) + 1)) fun w_9 =>
      some (w_9.1 76 2, w_9))
    else
      (some ((-2), w)))
def f_X10_stepless (w : Mem) : Option (Int32 × Mem) :=
  lt (w.1 76 2 : Int32) fun v_1 =>
  lt (mS w 76 2 0) fun w_2 =>
  some (v_1, w_2)
def f_X10_endsStep (x1 : Int32) (x2 : Int32) (w : Mem) : Option (Int32 × Mem) :=
  if x1 = 0 then
    (b2 (f_X10_comesFrom x2 w) fun r_2 w_4 =>
    if r_2 = 0 then
      (lt (mS w_4 79 8 4) fun w_7 =>
      some (0, w_7))
    else
      (lt (mS w_4 79 12 0) fun w_6 =>
      some (1, w_6)))
  else
  if x1 = 1 then
    (b2 (f_X8_sews 14 x2 w) fun r_9 w_11 =>
    gd (bz r_9 = true) <|
    some (r_9, w_11))
  else
  if x1 = 2 then
    (lt (irm ((w.1 79 6) + x2) 4) fun v_14 =>
    lt (mS w 79 6 v_14) fun w_15 =>
    some (1, w_15))
  else
    (lt (if (w.1 79 7) = 0 then 1 else 0 : Int32) fun v_16 =>
    gd (bz v_16 = true) <|
    lt (mS w 79 7 v_16) fun w_19 =>
    some (1, w_19))
def f_X10_sew_L16 : Nat → Int32 → Mem → Option (Int32 × Mem)
  | 0, _, _ => none
  | n + 1, x1_6, w_7 =>
    if (w_7.1 76 2) ≤ x1_6 then
      (some (x1_6, w_7))
    else
      (gd (inb x1_6 20 = true) <|
      lt (w_7.1 77 x1_6.toNatClampNeg : Int32) fun v_11 =>
      lt (w_7.1 78 x1_6.toNatClampNeg : Int32) fun v_12 =>
      b2 (f_X10_endsStep v_11 v_12 w_7) fun r_13 w_15 =>
      if r_13 = 0 then
        (some (x1_6, w_15))
      else
        (lt (x1_6 + 1 : Int32) fun x1_17 =>
        f_X10_sew_L16 n x1_17 w_15))
theorem f_X10_sew_L16_s (n : Nat) (x1_6 : Int32) (w_7 : Mem) : f_X10_sew_L16 (n + 1) x1_6 w_7 =
    (if (w_7.1 76 2) ≤ x1_6 then
      (some (x1_6, w_7))
    else
      (gd (inb x1_6 20 = true) <|
      lt (w_7.1 77 x1_6.toNatClampNeg : Int32) fun v_11 =>
      lt (w_7.1 78 x1_6.toNatClampNeg : Int32) fun v_12 =>
      b2 (f_X10_endsStep v_11 v_12 w_7) fun r_13 w_15 =>
      if r_13 = 0 then
        (some (x1_6, w_15))
      else
        (lt (x1_6 + 1 : Int32) fun x1_17 =>
        f_X10_sew_L16 n x1_17 w_15))) := rfl
def f_X10_sew (w : Mem) : Option (Int32 × Mem) :=
  bd (f_X1_needle 14 w) fun r_1 =>
  bd (f_X8_start r_1 w) fun w_5 =>
  bd (f_X10_sew_L16 FU 0 w_5) fun ex => tp2 ex fun x1_20 w_21 =>
  lt (mS w_21 79 11 x1_20) fun w_22 =>
  some (w_22.1 79 3, w_22)
def f_X10_thread (x1 : Int32) (w : Mem) : Option (Int32) :=
  if x1 < 0 then
    (some (-1))
  else
    (if x1 ≤ 1 then
      (lt (if x1 = 0 then (w.1 74 3) else (w.1 74 4) : Int32) fun v_3 =>
      some v_3)
    else
      (some (-1)))
def f_X10_againstRim (x1 : Int32) (x2 : Int32) (w : Mem) : Option (Int32) :=
  if x2 < 0 then
    (some (-1))
  else
    (if x2 ≤ 6 then
      (bd (f_X10_againstSort x1 1 w) fun r_3 =>
      if r_3 = 0 then
        (gd (inb x1 6 = true) <|
        lt (w.1 (48+2*x1.toNatClampNeg) 3 : Int32) fun v_7 =>
        if v_7 < 1 then
          (some (-4))
        else
          (lt (w.1 (48+2*x1.toNatClampNeg) 3 : Int32) fun v_9 =>
          lt (if v_9 ≤ 48 then 0 else (-4) : Int32) fun v_10 =>
          some v_10))
      else
        (some r_3))
    else
      (some (-1)))
def f_X10_names (x1 : Int32) (x2 : Int32) (w : Mem) : Option (Int32 × Mem) :=
  bd (f_X10_againstRim x1 x2 w) fun r_1 =>
  if r_1 = 0 then
    (gd (inb x1 6 = true) <|
    b2 (f_X7_find x1.toNatClampNeg x2 (-1) w) fun r_5 w_7 =>
    some (w_7.1 82 0, w_7))
  else
    (b2 (f_X10_counted r_1 w) fun r_8 w_10 =>
    some (r_8, w_10))
def f_X10_name (x1 : Int32) (x2 : Int32) (x3 : Int32) (w : Mem) : Option (Int32 × Mem) :=
  if 0 ≤ x3 then
    (bd (f_X10_againstRim x1 x2 w) fun r_2 =>
    if r_2 = 0 then
      (gd (inb x1 6 = true) <|
      b2 (f_X7_find x1.toNatClampNeg x2 x3 w) fun r_6 w_8 =>
      b2 (f_X10_counted r_6 w_8) fun r_9 w_11 =>
      some (r_9, w_11))
    else
      (b2 (f_X10_counted r_2 w) fun r_12 w_14 =>
      some (r_12, w_14)))
  else
    (some ((-1), w))
def f_X10_wear_L19 (x1 : Int32) : Nat → Int32 → Mem → Option (Sum (Int32 × Mem) (Mem))
  | 0, _, _ => none
  | n + 1, x3_4, w_5 =>
    if 6 < x3_4 then
      (some (.inr w_5))
    else
      (gd (inb x1 6 = true) <|
      b2 (f_X7_find x1.toNatClampNeg x3_4 0 w_5) fun r_9 w_11 =>
      if r_9 = (-1) then
        (lt (x3_4 + 1 : Int32) fun x3_13 =>
        f_X10_wear_L19 x1 n x3_13 w_11)
      else
        (some (.inl (x3_4, w_11))))
theorem f_X10_wear_L19_s (x1 : Int32) (n : Nat) (x3_4 : Int32) (w_5 : Mem) : f_X10_wear_L19 x1 (n + 1) x3_4 w_5 =
    (if 6 < x3_4 then
      (some (.inr w_5))
    else
      (gd (inb x1 6 = true) <|
      b2 (f_X7_find x1.toNatClampNeg x3_4 0 w_5) fun r_9 w_11 =>
      if r_9 = (-1) then
        (lt (x3_4 + 1 : Int32) fun x3_13 =>
        f_X10_wear_L19 x1 n x3_13 w_11)
      else
        (some (.inl (x3_4, w_11))))) := rfl
def f_X10_wear (x1 : Int32) (w : Mem) : Option (Int32 × Mem) :=
  bd (f_X10_againstRim x1 0 w) fun r_1 =>
  if r_1 = 0 then
    (bd (f_X10_wear_L19 x1 FU 0 w) fun ex => sm ex (fun ret => ret) fun w_16 =>
    some ((-4), w_16))
  else
    (b2 (f_X10_counted r_1 w) fun r_17 w_19 =>
    some (r_17, w_19))
def f_X10_isState (x0 : Int32) : Option (Int32) :=
  lt (if x0 < 0 then 0 else (if 2772 ≤ x0 then 0 else 1) : Int32) fun v_1 =>
  gd (bz v_1 = true) <|
  some v_1
def f_X10_isTrial (x0 : Int32) : Option (Int32) :=
  lt (if x0 < 0 then 0 else (if 325 ≤ x0 then 0 else 1) : Int32) fun v_1 =>
  gd (bz v_1 = true) <|
  some v_1
def f_X10_outcome (x1 : Int32) (x2 : Int32) : Option (Int32) :=
  bd (f_X10_isState x1) fun r_1 =>
  if r_1 = 0 then
    (some (-1))
  else
    (bd (f_X10_isTrial x2) fun r_4 =>
    if r_4 = 0 then
      (some (-1))
    else
      (bd (f_X2_outcomeOf x1 x2) fun r_7 =>
      some r_7))
def f_X10_note (x1 : Int32) (x2 : Int32) (w : Mem) : Option (Int32 × Mem) :=
  bd (f_X10_isTrial x1) fun r_1 =>
  if r_1 = 0 then
    (some ((-1), w))
  else
    (if x2 < 0 then
      (some ((-1), w))
    else
      (if x2 < 5 then
        (if (w.1 83 2) < 24 then
          (gd (inb (w.1 83 2) 24 = true) <|
          lt (mS w 84 ((w.1 83 2).toNatClampNeg) x1) fun w_8 =>
          gd (inb (w_8.1 83 2) 24 = true) <|
          lt (mS w_8 85 ((w_8.1 83 2).toNatClampNeg) x2) fun w_10 =>
          lt (mS w_10 83 2 ((w_10.1 83 2) + 1)) fun w_11 =>
          some (w_11.1 83 2, w_11))
        else
          (some ((-2), w)))
      else
        (some ((-1), w))))
def f_X10_noteless (w : Mem) : Option (Int32 × Mem) :=
  lt (w.1 83 2 : Int32) fun v_1 =>
  lt (mS w 83 2 0) fun w_2 =>
  some (v_1, w_2)
def f_X10_isCauses (x0 : Int32) : Option (Int32) :=
  lt (if x0 < 0 then 0 else (if 4 < x0 then 0 else 1) : Int32) fun v_1 =>
  gd (bz v_1 = true) <|
  some v_1
def f_X10_left (x1 : Int32) (w : Mem) : Option (Int32 × Mem) :=
  bd (f_X10_isCauses x1) fun r_1 =>
  if r_1 = 0 then
    (some ((-1), w))
  else
    (bd (f_X2_gatherNoted x1 w) fun w_6 =>
    some (w_6.1 83 3, w_6))
def f_X10_state (x1 : Int32) (x2 : Int32) (w : Mem) : Option (Int32 × Mem) :=
  bd (f_X10_isCauses x1) fun r_1 =>
  if r_1 = 0 then
    (some ((-1), w))
  else
    (bd (f_X2_gatherNoted x1 w) fun w_6 =>
    bd (f_X2_numberOf x2 w_6) fun r_7 =>
    some (r_7, w_6))
def f_X10_best (x1 : Int32) (w : Mem) : Option (Int32 × Mem) :=
  bd (f_X10_isCauses x1) fun r_1 =>
  if r_1 = 0 then
    (some ((-1), w))
  else
    (bd (f_X2_gatherNoted x1 w) fun w_6 =>
    bd (f_X2_partingTrial w_6) fun r_7 =>
    some (r_7, w_6))
def f_X10_share (x1 : Int32) (x2 : Int32) (w : Mem) : Option (Int32 × Mem) :=
  bd (f_X10_isCauses x1) fun r_1 =>
  if r_1 = 0 then
    (some ((-1), w))
  else
    (bd (f_X10_isTrial x2) fun r_4 =>
    if r_4 = 0 then
      (some ((-1), w))
    else
      (bd (f_X2_gatherNoted x1 w) fun w_9 =>
      bd (f_X2_greatestShare x2 w_9) fun r_10 =>
      some (r_10, w_9)))
def f_X10_hunt (x1 : Int32) (x2 : Int32) (x3 : Int32) (w : Mem) : Option (Int32 × Mem) :=
  bd (f_X10_isState x1) fun r_1 =>
  if r_1 = 0 then
    (some ((-1), w))
  else
    (bd (f_X10_isCauses x2) fun r_4 =>
    if r_4 = 0 then
      (some ((-1), w))
    else
      (if x3 < 0 then
        (some ((-1), w))
      else
        (if x3 ≤ 3 then
          (b2 (f_X2_hunted x1 x2 w) fun r_9 w_11 =>
          if x3 = 0 then
            (some (r_9, w_11))
          else
          if x3 = 1 then
            (some (w_11.1 83 3, w_11))
          else
          if x3 = 2 then
            (bd (f_X2_holds x1 w_11) fun r_15 =>
            lt (if r_15 = 0 then 0 else 1 : Int32) fun v_17 =>
            some (v_17, w_11))
          else
            (some (w_11.1 83 4, w_11)))
        else
          (some ((-1), w)))))
def f_X10_tape (x1 : Int32) (x2 : Int32) (x3 : Int32) (w : Mem) : Option (Int32 × Mem) :=
  bd (f_X10_isTape x1) fun r_1 =>
  if r_1 = 0 then
    (some ((-1), w))
  else
    (if x2 < 1 then
      (some ((-1), w))
    else
      (if 4 < x2 then
        (some ((-1), w))
      else
        (if x3 ≤ 400 then
          (if 0 ≤ x3 then
            (gd (inb x1 6 = true) <|
            bd (f_X9_becomeRow x1.toNatClampNeg x2 x3 w) fun w_11 =>
            some (x3, w_11))
          else
            (b2 (f_X10_counted (-14) w) fun r_12 w_14 =>
            some (r_12, w_14)))
        else
          (some ((-1), w)))))
def f_X10_keep (x1 : Int32) (w : Mem) : Option (Int32 × Mem) :=
  bd (f_X10_isTape x1) fun r_1 =>
  if r_1 = 0 then
    (some ((-1), w))
  else
    (if (w.1 (3*14) 2) = 0 then
      (some ((-3), w))
    else
      (gd (inb x1 6 = true) <|
      bd (f_X9_becomeDisc x1.toNatClampNeg 14 w) fun w_8 =>
      some (w_8.1 (3*14) 2, w_8)))
def f_X10_back (x1 : Int32) (w : Mem) : Option (Int32 × Mem) :=
  bd (f_X10_againstSort x1 5 w) fun r_1 =>
  if r_1 = 0 then
    (gd (inb x1 6 = true) <|
    bd (f_X1_become 14 (8+x1.toNatClampNeg) w) fun w_7 =>
    some (w_7.1 (3*14) 2, w_7))
  else
    (b2 (f_X10_counted r_1 w) fun r_8 w_10 =>
    some (r_8, w_10))
def f_X10_toss (x1 : Int32) (w : Mem) : Option (Int32 × Mem) :=
  bd (f_X10_againstSort x1 5 w) fun r_1 =>
  if r_1 = 0 then
    (gd (inb x1 6 = true) <|
    bd (f_X1_steepness (8+x1.toNatClampNeg) w) fun r_5 =>
    lt (if r_5 = 0 then (-15) else r_5 : Int32) fun v_7 =>
    b2 (f_X10_counted v_7 w) fun r_9 w_11 =>
    some (r_9, w_11))
  else
    (b2 (f_X10_counted r_1 w) fun r_13 w_15 =>
    some (r_13, w_15))
def f_X10_clear (x1 : Int32) (w : Mem) : Option (Int32 × Mem) :=
  bd (f_X10_isTape x1) fun r_1 =>
  if r_1 = 0 then
    (some ((-1), w))
  else
    (gd (inb x1 6 = true) <|
    lt (w.1 (48+2*x1.toNatClampNeg) 2 : Int32) fun v_5 =>
    lt (mS w (48+2*x1.toNatClampNeg) 2 0) fun w_6 =>
    some (v_5, w_6))
def f_X10_againstRow (x1 : Int32) (w : Mem) : Option (Int32) :=
  bd (f_X10_isTape x1) fun r_1 =>
  if r_1 = 0 then
    (some (-1))
  else
    (gd (inb x1 6 = true) <|
    lt (w.1 (48+2*x1.toNatClampNeg) 2 : Int32) fun v_5 =>
    if v_5 = 0 then
      (some (-11))
    else
      (bd (f_X9_isRow x1.toNatClampNeg w) fun r_7 =>
      lt (if r_7 = 0 then (-12) else 0 : Int32) fun v_9 =>
      some v_9))
def f_X10_put (x1 : Int32) (x2 : Int32) (x3 : Int64) (w : Mem) : Option (Int32 × Mem) :=
  bd (f_X10_againstRow x1 w) fun r_1 =>
  if r_1 = 0 then
    (if x2 < 0 then
      (b2 (f_X10_counted (-13) w) fun r_5 w_7 =>
      some (r_5, w_7))
    else
      (gd (inb x1 6 = true) <|
      lt (w.1 (48+2*x1.toNatClampNeg) 3 : Int32) fun v_9 =>
      if x2 < v_9 then
        (bd (f_X9_narrowed x1.toNatClampNeg x3 w) fun r_11 =>
        gd (inb x2 400 = true) <|
        lt (mL w (49+2*x1.toNatClampNeg) x2.toNatClampNeg r_11) fun w_14 =>
        some (1, w_14))
      else
        (b2 (f_X10_counted (-13) w) fun r_15 w_17 =>
        some (r_15, w_17))))
  else
    (b2 (f_X10_counted r_1 w) fun r_18 w_20 =>
    some (r_18, w_20))
def f_X10_copy (x1 : Int32) (x2 : Int32) (x3 : Int32) (x4 : Int32) (x5 : Int32) (w : Mem) : Option (Int32 × Mem) :=
  bd (f_X10_isTape x1) fun r_1 =>
  if r_1 = 0 then
    (some ((-1), w))
  else
    (bd (f_X10_isTape x3) fun r_4 =>
    if r_4 = 0 then
      (some ((-1), w))
    else
      (gd (inb x1 6 = true) <|
      gd (inb x3 6 = true) <|
      lt (w.1 (48+2*x1.toNatClampNeg) 2 : Int32) fun v_9 =>
      if v_9 = 0 then
        (b2 (f_X10_counted (-11) w) fun r_11 w_13 =>
        some (r_11, w_13))
      else
        (lt (w.1 (48+2*x3.toNatClampNeg) 2 : Int32) fun v_14 =>
        if v_14 = 0 then
          (b2 (f_X10_counted (-11) w) fun r_42 w_44 =>
          some (r_42, w_44))
        else
          (bd (f_X9_isRow x1.toNatClampNeg w) fun r_16 =>
          if r_16 = 0 then
            (b2 (f_X10_counted (-12) w) fun r_19 w_21 =>
            some (r_19, w_21))
          else
            (lt (w.1 (48+2*x1.toNatClampNeg) 2 : Int32) fun v_22 =>
            lt (w.1 (48+2*x3.toNatClampNeg) 2 : Int32) fun v_23 =>
            if v_22 = v_23 then
              (bd (f_X9_hasPlaces x1.toNatClampNeg x2 x5 w) fun r_25 =>
              if r_25 = 0 then
                (b2 (f_X10_counted (-13) w) fun r_28 w_30 =>
                some (r_28, w_30))
              else
                (bd (f_X9_hasPlaces x3.toNatClampNeg x4 x5 w) fun r_31 =>
                if r_31 = 0 then
                  (b2 (f_X10_counted (-13) w) fun r_36 w_38 =>
                  some (r_36, w_38))
                else
                  (gd (cpk x2 x4 x5 400 = true) <|
                  lt (mD w (49+2*x1.toNatClampNeg) (49+2*x3.toNatClampNeg) x2.toNatClampNeg x4.toNatClampNeg x5.toNatClampNeg) fun w_35 =>
                  some (x5, w_35))))
            else
              (b2 (f_X10_counted (-12) w) fun r_39 w_41 =>
              some (r_39, w_41)))))))
def f_X10_shelvesInUse_L4 (w : Mem) : Nat → Int32 → Int32 → Option (Int32)
  | 0, _, _ => none
  | n + 1, x1_1, x2_2 =>
    if 8 ≤ x2_2 then
      (some x1_1)
    else
      (gd (inb x2_2 8 = true) <|
      lt (w.1 (3*x2_2.toNatClampNeg) 2 : Int32) fun v_6 =>
      if v_6 ≤ 0 then
        (lt (x2_2 + 1 : Int32) fun x2_8 =>
        f_X10_shelvesInUse_L4 w n x1_1 x2_8)
      else
        (lt (x1_1 + 1 : Int32) fun x1_9 =>
        lt (x2_2 + 1 : Int32) fun x2_10 =>
        f_X10_shelvesInUse_L4 w n x1_9 x2_10))
theorem f_X10_shelvesInUse_L4_s (w : Mem) (n : Nat) (x1_1 : Int32) (x2_2 : Int32) : f_X10_shelvesInUse_L4 w (n + 1) x1_1 x2_2 =
    (if 8 ≤ x2_2 then
      (some x1_1)
    else
      (gd (inb x2_2 8 = true) <|
      lt (w.1 (3*x2_2.toNatClampNeg) 2 : Int32) fun v_6 =>
      if v_6 ≤ 0 then
        (lt (x2_2 + 1 : Int32) fun x2_8 =>
        f_X10_shelvesInUse_L4 w n x1_1 x2_8)
      else
        (lt (x1_1 + 1 : Int32) fun x1_9 =>
        lt (x2_2 + 1 : Int32) fun x2_10 =>
        f_X10_shelvesInUse_L4 w n x1_9 x2_10))) := rfl
def f_X10_shelvesInUse (w : Mem) : Option (Int32) :=
  bd (f_X10_shelvesInUse_L4 w FU 0 0) fun x1_13 =>
  some x1_13
def f_X10_count (x1 : Int32) (w : Mem) : Option (Int32) :=
  if x1 = 0 then
    (some (w.1 (60+3*0) 2))
  else
  if x1 = 1 then
    (bd (f_X10_shelvesInUse w) fun r_3 =>
    some r_3)
  else
  if x1 = 2 then
    (some (w.1 72 1))
  else
  if x1 = 3 then
    (some (w.1 76 2))
  else
  if x1 = 4 then
    (some (w.1 83 2))
  else
  if x1 = 5 then
    (some (w.1 66 12))
  else
    (some (-1))
