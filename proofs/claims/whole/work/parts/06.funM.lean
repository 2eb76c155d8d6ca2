/-! ===== the methods as functional programs (by program: wip/gen/gen.py) ===== -/
def f_X11_thrown (w : Mem) : Option (Int32) :=
  some (w.1 0 0)
def f_X11_in (x0 : Int32) (x1 : Int32) (x2 : Int32) : Option (Int32) :=
  lt (if x0 < x1 then 0 else (if x2 < x0 then 0 else 1) : Int32) fun v_1 =>
  gd (bz v_1 = true) <|
  some v_1
def f_X11_refuse (x1 : Int32) (w : Mem) : Option (Int32 × Mem) :=
  lt (mS w 0 25 ((w.1 0 25) + 1)) fun w_1 =>
  some (x1, w_1)
def f_X11_begin_L7 : Nat → Int32 → Mem → Option (Mem)
  | 0, _, _ => none
  | n + 1, x1_2, w_3 =>
    if 8 ≤ x1_2 then
      (some w_3)
    else
      (gd (inb x1_2 15 = true) <|
      lt (mS w_3 3 x1_2.toNatClampNeg 0) fun w_7 =>
      lt (x1_2 + 1 : Int32) fun x1_8 =>
      f_X11_begin_L7 n x1_8 w_7)
theorem f_X11_begin_L7_s (n : Nat) (x1_2 : Int32) (w_3 : Mem) : f_X11_begin_L7 (n + 1) x1_2 w_3 =
    (if 8 ≤ x1_2 then
      (some w_3)
    else
      (gd (inb x1_2 15 = true) <|
      lt (mS w_3 3 x1_2.toNatClampNeg 0) fun w_7 =>
      lt (x1_2 + 1 : Int32) fun x1_8 =>
      f_X11_begin_L7 n x1_8 w_7)) := rfl
def f_X11_begin (w : Mem) : Option (Int32 × Mem) :=
  lt (mS w 0 1 0) fun w_1 =>
  bd (f_X11_begin_L7 FU 0 w_1) fun w_11 =>
  gd (inb 14 15 = true) <|
  lt (mS w_11 3 ((14 : Int32).toNatClampNeg) 0) fun w_13 =>
  lt (mS w_13 0 8 0) fun w_14 =>
  gd (inb 0 2 = true) <|
  lt (mS w_14 7 ((0 : Int32).toNatClampNeg) 4) fun w_16 =>
  gd (inb 1 2 = true) <|
  lt (mS w_16 7 ((1 : Int32).toNatClampNeg) 0) fun w_18 =>
  lt (mS w_18 0 11 20) fun w_19 =>
  lt (mS w_19 0 12 20) fun w_20 =>
  lt (mS w_20 0 13 100000) fun w_21 =>
  lt (mS w_21 0 14 5000) fun w_22 =>
  lt (mS w_22 0 15 0) fun w_23 =>
  lt (mS w_23 0 18 0) fun w_24 =>
  lt (mS w_24 0 22 0) fun w_25 =>
  lt (mS w_25 0 25 0) fun w_26 =>
  some (0, w_26)
def f_X11_away (x0 : Int32) : Option (Int32) :=
  lt (if 0 ≤ x0 then x0 else (-x0) : Int32) fun v_1 =>
  some v_1
def f_X11_floor (x0 : Int32) (x1 : Int32) : Option (Int32) :=
  gd (¬ x1 = 0) <|
  lt (x0 / x1 : Int32) fun v_2 =>
  lt (if (v_2 * x1) ≤ x0 then v_2 else (v_2 - 1) : Int32) fun v_3 =>
  some v_3
def f_X11_number (x1 : Int32) (w : Mem) : Option (Int32) :=
  lt ((400 * (w.1 0 31)) + (w.1 0 29) : Int32) fun v_1 =>
  gd (inb (v_1 + x1) 2400 = true) <|
  lt (w.2 17 (v_1 + x1).toNatClampNeg : Int64) fun v_3 =>
  some v_3.toInt32
def f_X11_isLong (x1 : Int32) (w : Mem) : Option (Int32) :=
  lt (if (w.1 0 30) ≤ ((w.1 0 29) + x1) then 0 else 1 : Int32) fun v_1 =>
  gd (bz v_1 = true) <|
  some v_1
def f_X11_standsAt (w : Mem) : Option (Int32 × Mem) :=
  lt (fun (t_2 : Int32) => (lt ((w.1 0 33) + t_2 : Int32) fun v_3 =>
    bd (f_X11_number 2 w) fun r_4 =>
    lt ((w.1 0 34) + r_4 : Int32) fun v_6 =>
    bd (f_X11_in v_3 (-12) 12) fun r_7 =>
    if r_7 = 0 then
      (some (0, w))
    else
      (bd (f_X11_in v_6 (-100) 100) fun r_10 =>
      if r_10 = 0 then
        (some (0, w))
      else
        (if (w.1 0 32) = 24 then
          (some (0, w))
        else
          (gd (inb (w.1 0 32) 24 = true) <|
          lt (mS w 18 ((w.1 0 32).toNatClampNeg) v_3) fun w_15 =>
          gd (inb (w_15.1 0 32) 24 = true) <|
          lt (mS w_15 19 ((w_15.1 0 32).toNatClampNeg) v_6) fun w_17 =>
          lt (mS w_17 0 32 ((w_17.1 0 32) + 1)) fun w_18 =>
          lt (mS w_18 0 29 ((w_18.1 0 29) + 3)) fun w_19 =>
          some (1, w_19))))
    : Option (Int32 × Mem))) fun k_1 =>
  if (w.1 0 35) = 0 then
    (bd (f_X11_number 1 w) fun r_21 =>
    k_1 r_21)
  else
    (bd (f_X11_number 1 w) fun r_23 =>
    k_1 (-r_23))
def f_X11_movesTo (w : Mem) : Option (Int32 × Mem) :=
  lt (fun (t_2 : Int32) => (lt ((w.1 0 33) + t_2 : Int32) fun v_3 =>
    bd (f_X11_number 2 w) fun r_4 =>
    lt ((w.1 0 34) + r_4 : Int32) fun v_6 =>
    bd (f_X11_in v_3 (-100) 100) fun r_7 =>
    if r_7 = 0 then
      (some (0, w))
    else
      (bd (f_X11_in v_6 (-100) 100) fun r_10 =>
      if r_10 = 0 then
        (some (0, w))
      else
        (lt (mS w 0 33 v_3) fun w_13 =>
        lt (mS w_13 0 34 v_6) fun w_14 =>
        lt (mS w_14 0 29 ((w_14.1 0 29) + 3)) fun w_15 =>
        some (1, w_15)))
    : Option (Int32 × Mem))) fun k_1 =>
  if (w.1 0 35) = 0 then
    (bd (f_X11_number 1 w) fun r_17 =>
    k_1 r_17)
  else
    (bd (f_X11_number 1 w) fun r_19 =>
    k_1 (-r_19))
def f_X11_loops (w : Mem) : Option (Int32 × Mem) :=
  bd (f_X11_number 1 w) fun r_1 =>
  bd (f_X11_in r_1 1 9) fun r_3 =>
  if r_3 = 0 then
    (some (0, w))
  else
    (if (w.1 0 38) = 3 then
      (some (0, w))
    else
      (gd (inb (w.1 0 38) 3 = true) <|
      lt (mS w 20 ((w.1 0 38).toNatClampNeg) ((w.1 0 29) + 2)) fun w_8 =>
      bd (f_X11_number 1 w_8) fun r_9 =>
      gd (inb (w_8.1 0 38) 3 = true) <|
      lt (mS w_8 21 ((w_8.1 0 38).toNatClampNeg) (r_9 - 1)) fun w_12 =>
      lt (mS w_12 0 38 ((w_12.1 0 38) + 1)) fun w_13 =>
      lt (mS w_13 0 29 ((w_13.1 0 29) + 2)) fun w_14 =>
      some (1, w_14)))
def f_X11_goesRound (w : Mem) : Option (Int32 × Mem) :=
  if (w.1 0 38) = 0 then
    (some (0, w))
  else
    (gd (inb ((w.1 0 38) - 1) 3 = true) <|
    lt (w.1 21 ((w.1 0 38) - 1).toNatClampNeg : Int32) fun v_3 =>
    if v_3 ≤ 0 then
      (lt (mS w 0 38 ((w.1 0 38) - 1)) fun w_5 =>
      lt (mS w_5 0 29 ((w_5.1 0 29) + 1)) fun w_6 =>
      some (1, w_6))
    else
      (lt (w.1 21 ((w.1 0 38) - 1).toNatClampNeg : Int32) fun v_7 =>
      lt (mS w 21 (((w.1 0 38) - 1).toNatClampNeg) (v_7 - 1)) fun w_8 =>
      gd (inb ((w_8.1 0 38) - 1) 3 = true) <|
      lt (w_8.1 20 ((w_8.1 0 38) - 1).toNatClampNeg : Int32) fun v_10 =>
      lt (mS w_8 0 29 v_10) fun w_11 =>
      some (1, w_11)))
def f_X11_does (w : Mem) : Option (Int32 × Mem) :=
  bd (f_X11_number 0 w) fun r_1 =>
  if r_1 = 0 then
    (lt (if (w.1 0 38) = 0 then (if (w.1 0 32) ≤ 0 then 0 else (if (w.1 0 36) = 0 then 0 else 1)) else 0 : Int32) fun v_4 =>
    gd (bz v_4 = true) <|
    lt (mS w 0 39 v_4) fun w_7 =>
    gd (bz (w_7.1 0 39) = true) <|
    some (w_7.1 0 39, w_7))
  else
  if r_1 = 1 then
    (bd (f_X11_isLong 2 w) fun r_13 =>
    if r_13 = 0 then
      (some (0, w))
    else
      (b2 (f_X11_standsAt w) fun r_16 w_18 =>
      lt (if r_16 = 0 then 0 else 1 : Int32) fun v_19 =>
      gd (bz v_19 = true) <|
      some (v_19, w_18)))
  else
  if r_1 = 2 then
    (bd (f_X11_isLong 2 w) fun r_24 =>
    if r_24 = 0 then
      (some (0, w))
    else
      (b2 (f_X11_movesTo w) fun r_27 w_29 =>
      lt (if r_27 = 0 then 0 else 1 : Int32) fun v_30 =>
      gd (bz v_30 = true) <|
      some (v_30, w_29)))
  else
  if r_1 = 3 then
    (lt (if (w.1 0 35) = 0 then 1 else 0 : Int32) fun v_35 =>
    gd (bz v_35 = true) <|
    lt (mS w 0 35 v_35) fun w_38 =>
    lt (mS w_38 0 29 ((w_38.1 0 29) + 1)) fun w_39 =>
    some (1, w_39))
  else
  if r_1 = 4 then
    (bd (f_X11_isLong 1 w) fun r_42 =>
    if r_42 = 0 then
      (some (0, w))
    else
      (b2 (f_X11_loops w) fun r_45 w_47 =>
      lt (if r_45 = 0 then 0 else 1 : Int32) fun v_48 =>
      gd (bz v_48 = true) <|
      some (v_48, w_47)))
  else
  if r_1 = 5 then
    (b2 (f_X11_goesRound w) fun r_53 w_55 =>
    gd (bz r_53 = true) <|
    some (r_53, w_55))
  else
  if r_1 = 6 then
    (bd (f_X11_isLong 1 w) fun r_58 =>
    if r_58 = 0 then
      (some (0, w))
    else
      (bd (f_X11_number 1 w) fun r_61 =>
      bd (f_X11_in r_61 (-100) 100) fun r_63 =>
      if r_63 = 0 then
        (some (0, w))
      else
        (bd (f_X11_number 1 w) fun r_66 =>
        lt (mS w 0 37 r_66) fun w_68 =>
        lt (mS w_68 0 36 1) fun w_69 =>
        lt (mS w_69 0 29 ((w_69.1 0 29) + 2)) fun w_70 =>
        some (1, w_70))))
  else
    (some (0, w))
def f_X11_isTape (x0 : Int32) : Option (Int32) :=
  bd (f_X11_in x0 0 5) fun r_1 =>
  gd (bz r_1 = true) <|
  some r_1
def f_X11_read_L97 : Nat → Mem → Option (Sum (Int32 × Mem) (Mem))
  | 0, _ => none
  | n + 1, w_18 =>
    if (w_18.1 0 39) = 0 then
      (if (w_18.1 0 29) = (w_18.1 0 30) then
        (some (.inl ((-100) - (w_18.1 0 29), w_18)))
      else
        (b2 (f_X11_does w_18) fun r_22 w_24 =>
        if r_22 = 0 then
          (some (.inl ((-100) - (w_24.1 0 29), w_24)))
        else
          (f_X11_read_L97 n w_24)))
    else
      (some (.inr w_18))
theorem f_X11_read_L97_s (n : Nat) (w_18 : Mem) : f_X11_read_L97 (n + 1) w_18 =
    (if (w_18.1 0 39) = 0 then
      (if (w_18.1 0 29) = (w_18.1 0 30) then
        (some (.inl ((-100) - (w_18.1 0 29), w_18)))
      else
        (b2 (f_X11_does w_18) fun r_22 w_24 =>
        if r_22 = 0 then
          (some (.inl ((-100) - (w_24.1 0 29), w_24)))
        else
          (f_X11_read_L97 n w_24)))
    else
      (some (.inr w_18))) := rfl
def f_X11_read_L148 : Nat → Int32 → Mem → Option (Mem)
  | 0, _, _ => none
  | n + 1, x2_31, w_32 =>
    if (w_32.1 0 1) ≤ x2_31 then
      (some w_32)
    else
      (gd (inb x2_31 24 = true) <|
      lt (w_32.1 18 x2_31.toNatClampNeg : Int32) fun v_36 =>
      lt (mS w_32 1 x2_31.toNatClampNeg v_36) fun w_37 =>
      lt (w_37.1 19 x2_31.toNatClampNeg : Int32) fun v_38 =>
      lt (mS w_37 2 x2_31.toNatClampNeg v_38) fun w_39 =>
      lt (x2_31 + 1 : Int32) fun x2_40 =>
      f_X11_read_L148 n x2_40 w_39)
theorem f_X11_read_L148_s (n : Nat) (x2_31 : Int32) (w_32 : Mem) : f_X11_read_L148 (n + 1) x2_31 w_32 =
    (if (w_32.1 0 1) ≤ x2_31 then
      (some w_32)
    else
      (gd (inb x2_31 24 = true) <|
      lt (w_32.1 18 x2_31.toNatClampNeg : Int32) fun v_36 =>
      lt (mS w_32 1 x2_31.toNatClampNeg v_36) fun w_37 =>
      lt (w_37.1 19 x2_31.toNatClampNeg : Int32) fun v_38 =>
      lt (mS w_37 2 x2_31.toNatClampNeg v_38) fun w_39 =>
      lt (x2_31 + 1 : Int32) fun x2_40 =>
      f_X11_read_L148 n x2_40 w_39)) := rfl
def f_X11_read (x1 : Int32) (w : Mem) : Option (Int32 × Mem) :=
  bd (f_X11_isTape x1) fun r_1 =>
  if r_1 = 0 then
    (some ((-1), w))
  else
    (gd (inb x1 6 = true) <|
    if (w.1 15 x1.toNatClampNeg) = 0 then
      (b2 (f_X11_refuse (-11) w) fun r_47 w_49 =>
      some (r_47, w_49))
    else
      (if (w.1 15 x1.toNatClampNeg) = 1 then
        (lt (mS w 0 31 x1) fun w_7 =>
        lt (w_7.1 16 x1.toNatClampNeg : Int32) fun v_8 =>
        lt (mS w_7 0 30 v_8) fun w_9 =>
        lt (mS w_9 0 29 0) fun w_10 =>
        lt (mS w_10 0 32 0) fun w_11 =>
        lt (mS w_11 0 33 0) fun w_12 =>
        lt (mS w_12 0 34 0) fun w_13 =>
        lt (mS w_13 0 35 0) fun w_14 =>
        lt (mS w_14 0 36 0) fun w_15 =>
        lt (mS w_15 0 38 0) fun w_16 =>
        lt (mS w_16 0 39 0) fun w_17 =>
        bd (f_X11_read_L97 FU w_17) fun ex => sm ex (fun ret => ret) fun w_28 =>
        lt (mS w_28 0 1 (w_28.1 0 32)) fun w_29 =>
        lt (mS w_29 0 4 (w_29.1 0 37)) fun w_30 =>
        bd (f_X11_read_L148 FU 0 w_30) fun w_43 =>
        some (w_43.1 0 1, w_43))
      else
        (b2 (f_X11_refuse (-12) w) fun r_44 w_46 =>
        some (r_44, w_46))))
def f_X11_point (x1 : Int32) (x2 : Int32) (w : Mem) : Option (Int32 × Mem) :=
  bd (f_X11_in x2 0 1) fun r_1 =>
  lt (fun (t_4 : Int32) => (lt (mS w 0 0 t_4) fun w_5 =>
    if (w_5.1 0 0) = 0 then
      (if x2 = 0 then
        (gd (inb x1 24 = true) <|
        some (w_5.1 1 x1.toNatClampNeg, w_5))
      else
        (gd (inb x1 24 = true) <|
        some (w_5.1 2 x1.toNatClampNeg, w_5)))
    else
      (some (0, w_5))
    : Option (Int32 × Mem))) fun k_3 =>
  if r_1 = 0 then
    (k_3 1)
  else
    (bd (f_X11_in x1 0 ((w.1 0 1) - 1)) fun r_11 =>
    if r_11 = 0 then
      (k_3 2)
    else
      (k_3 0))
def f_X11_advance (w : Mem) : Option (Int32 × Mem) :=
  lt (if (w.1 0 1) = 0 then 1 else 0 : Int32) fun v_1 =>
  lt (mS w 0 0 v_1) fun w_3 =>
  lt (if (w_3.1 0 0) = 0 then (w_3.1 0 4) else 0 : Int32) fun v_4 =>
  some (v_4, w_3)
def f_X11_toX (x1 : Int32) (w : Mem) : Option (Int32) :=
  gd (¬ (w.1 0 1) = 0) <|
  lt (irm (x1 + 1) (w.1 0 1)) fun v_2 =>
  gd (inb v_2 24 = true) <|
  some (w.1 1 v_2.toNatClampNeg)
def f_X11_toY (x1 : Int32) (w : Mem) : Option (Int32) :=
  if (w.1 0 1) ≤ (x1 + 1) then
    (gd (inb 0 24 = true) <|
    lt (w.1 2 (0 : Int32).toNatClampNeg : Int32) fun v_3 =>
    some (v_3 + (w.1 0 4)))
  else
    (gd (inb (x1 + 1) 24 = true) <|
    lt (w.1 2 (x1 + 1).toNatClampNeg : Int32) fun v_5 =>
    some v_5)
def f_X11_parts_L3 (w : Mem) (x1 : Int32) (x2 : Int32) (x3 : Int32) : Nat → Int32 → Option (Int32)
  | 0, _ => none
  | n + 1, x4_1 =>
    bd (f_X11_toX x1 w) fun r_3 =>
    gd (inb x1 24 = true) <|
    lt (r_3 - (w.1 1 x1.toNatClampNeg) : Int32) fun v_6 =>
    bd (f_X11_away v_6) fun r_7 =>
    if (x4_1 * x2) < r_7 then
      (lt (x4_1 + 1 : Int32) fun x4_10 =>
      f_X11_parts_L3 w x1 x2 x3 n x4_10)
    else
      (bd (f_X11_toY x1 w) fun r_11 =>
      lt (r_11 - (w.1 2 x1.toNatClampNeg) : Int32) fun v_13 =>
      bd (f_X11_away v_13) fun r_14 =>
      if r_14 ≤ (x4_1 * x3) then
        (some x4_1)
      else
        (lt (x4_1 + 1 : Int32) fun x4_17 =>
        f_X11_parts_L3 w x1 x2 x3 n x4_17))
theorem f_X11_parts_L3_s (w : Mem) (x1 : Int32) (x2 : Int32) (x3 : Int32) (n : Nat) (x4_1 : Int32) : f_X11_parts_L3 w x1 x2 x3 (n + 1) x4_1 =
    (bd (f_X11_toX x1 w) fun r_3 =>
    gd (inb x1 24 = true) <|
    lt (r_3 - (w.1 1 x1.toNatClampNeg) : Int32) fun v_6 =>
    bd (f_X11_away v_6) fun r_7 =>
    if (x4_1 * x2) < r_7 then
      (lt (x4_1 + 1 : Int32) fun x4_10 =>
      f_X11_parts_L3 w x1 x2 x3 n x4_10)
    else
      (bd (f_X11_toY x1 w) fun r_11 =>
      lt (r_11 - (w.1 2 x1.toNatClampNeg) : Int32) fun v_13 =>
      bd (f_X11_away v_13) fun r_14 =>
      if r_14 ≤ (x4_1 * x3) then
        (some x4_1)
      else
        (lt (x4_1 + 1 : Int32) fun x4_17 =>
        f_X11_parts_L3 w x1 x2 x3 n x4_17))) := rfl
def f_X11_parts (x1 : Int32) (x2 : Int32) (x3 : Int32) (w : Mem) : Option (Int32) :=
  bd (f_X11_parts_L3 w x1 x2 x3 FU 1) fun x4_20 =>
  some x4_20
def f_X11_make_L37 (w : Mem) (x1 : Int32) (x2 : Int32) : Nat → Int32 → Int32 → Option (Int32)
  | 0, _, _ => none
  | n + 1, x3_8, x4_9 =>
    if (w.1 0 1) ≤ x4_9 then
      (some x3_8)
    else
      (bd (f_X11_parts x4_9 x1 x2 w) fun r_12 =>
      lt (x3_8 + r_12 : Int32) fun v_14 =>
      lt (x4_9 + 1 : Int32) fun x4_15 =>
      f_X11_make_L37 w x1 x2 n v_14 x4_15)
theorem f_X11_make_L37_s (w : Mem) (x1 : Int32) (x2 : Int32) (n : Nat) (x3_8 : Int32) (x4_9 : Int32) : f_X11_make_L37 w x1 x2 (n + 1) x3_8 x4_9 =
    (if (w.1 0 1) ≤ x4_9 then
      (some x3_8)
    else
      (bd (f_X11_parts x4_9 x1 x2 w) fun r_12 =>
      lt (x3_8 + r_12 : Int32) fun v_14 =>
      lt (x4_9 + 1 : Int32) fun x4_15 =>
      f_X11_make_L37 w x1 x2 n v_14 x4_15)) := rfl
def f_X11_make_L105 (x5_21 : Int32) (r_25 : Int32) : Nat → Int32 → Int32 → Int32 → Mem → Option (Int32 × Mem)
  | 0, _, _, _, _ => none
  | n + 1, x4_27, x7_28, x8_29, w_30 =>
    if r_25 < x8_29 then
      (some (x4_27, w_30))
    else
      (bd (f_X11_toY x5_21 w_30) fun r_33 =>
      gd (inb x5_21 24 = true) <|
      lt (w_30.1 2 x5_21.toNatClampNeg : Int32) fun v_36 =>
      bd (f_X11_floor ((r_33 - v_36) * x8_29) r_25) fun r_37 =>
      lt (w_30.1 1 x5_21.toNatClampNeg : Int32) fun v_39 =>
      bd (f_X11_toX x5_21 w_30) fun r_40 =>
      lt (w_30.1 1 x5_21.toNatClampNeg : Int32) fun v_42 =>
      bd (f_X11_floor ((r_40 - v_42) * x8_29) r_25) fun r_43 =>
      gd (inb x4_27 720 = true) <|
      lt (mS w_30 4 x4_27.toNatClampNeg (v_39 + r_43)) fun w_46 =>
      lt (mS w_46 5 x4_27.toNatClampNeg (r_37 - x7_28)) fun w_47 =>
      lt (x4_27 + 1 : Int32) fun x4_48 =>
      lt (x8_29 + 1 : Int32) fun x8_49 =>
      f_X11_make_L105 x5_21 r_25 n x4_48 r_37 x8_49 w_47)
theorem f_X11_make_L105_s (x5_21 : Int32) (r_25 : Int32) (n : Nat) (x4_27 : Int32) (x7_28 : Int32) (x8_29 : Int32) (w_30 : Mem) : f_X11_make_L105 x5_21 r_25 (n + 1) x4_27 x7_28 x8_29 w_30 =
    (if r_25 < x8_29 then
      (some (x4_27, w_30))
    else
      (bd (f_X11_toY x5_21 w_30) fun r_33 =>
      gd (inb x5_21 24 = true) <|
      lt (w_30.1 2 x5_21.toNatClampNeg : Int32) fun v_36 =>
      bd (f_X11_floor ((r_33 - v_36) * x8_29) r_25) fun r_37 =>
      lt (w_30.1 1 x5_21.toNatClampNeg : Int32) fun v_39 =>
      bd (f_X11_toX x5_21 w_30) fun r_40 =>
      lt (w_30.1 1 x5_21.toNatClampNeg : Int32) fun v_42 =>
      bd (f_X11_floor ((r_40 - v_42) * x8_29) r_25) fun r_43 =>
      gd (inb x4_27 720 = true) <|
      lt (mS w_30 4 x4_27.toNatClampNeg (v_39 + r_43)) fun w_46 =>
      lt (mS w_46 5 x4_27.toNatClampNeg (r_37 - x7_28)) fun w_47 =>
      lt (x4_27 + 1 : Int32) fun x4_48 =>
      lt (x8_29 + 1 : Int32) fun x8_49 =>
      f_X11_make_L105 x5_21 r_25 n x4_48 r_37 x8_49 w_47)) := rfl
def f_X11_make_L80 (x1 : Int32) (x2 : Int32) : Nat → Int32 → Int32 → Mem → Option (Mem)
  | 0, _, _, _ => none
  | n + 1, x4_20, x5_21, w_22 =>
    if (w_22.1 0 1) ≤ x5_21 then
      (some w_22)
    else
      (bd (f_X11_parts x5_21 x1 x2 w_22) fun r_25 =>
      bd (f_X11_make_L105 x5_21 r_25 FU x4_20 0 1 w_22) fun ex => tp2 ex fun x4_52 w_53 =>
      lt (x5_21 + 1 : Int32) fun x5_54 =>
      f_X11_make_L80 x1 x2 n x4_52 x5_54 w_53)
theorem f_X11_make_L80_s (x1 : Int32) (x2 : Int32) (n : Nat) (x4_20 : Int32) (x5_21 : Int32) (w_22 : Mem) : f_X11_make_L80 x1 x2 (n + 1) x4_20 x5_21 w_22 =
    (if (w_22.1 0 1) ≤ x5_21 then
      (some w_22)
    else
      (bd (f_X11_parts x5_21 x1 x2 w_22) fun r_25 =>
      bd (f_X11_make_L105 x5_21 r_25 FU x4_20 0 1 w_22) fun ex => tp2 ex fun x4_52 w_53 =>
      lt (x5_21 + 1 : Int32) fun x5_54 =>
      f_X11_make_L80 x1 x2 n x4_52 x5_54 w_53)) := rfl
def f_X11_make (x1 : Int32) (x2 : Int32) (w : Mem) : Option (Int32 × Mem) :=
  bd (f_X11_in x1 1 12) fun r_1 =>
  if r_1 = 0 then
    (some ((-1), w))
  else
    (bd (f_X11_in x2 1 12) fun r_4 =>
    if r_4 = 0 then
      (some ((-1), w))
    else
      (if (w.1 0 1) = 0 then
        (some ((-3), w))
      else
        (bd (f_X11_make_L37 w x1 x2 FU 0 0) fun x3_18 =>
        if x3_18 ≤ 48 then
          (bd (f_X11_make_L80 x1 x2 FU 672 0 w) fun w_57 =>
          gd (inb 14 15 = true) <|
          lt (mS w_57 3 ((14 : Int32).toNatClampNeg) x3_18) fun w_59 =>
          some (x3_18, w_59))
        else
          (some ((-2), w)))))
def f_X11_lengthOf_L7 (w : Mem) (x1 : Int32) : Nat → Int32 → Int32 → Option (Int32)
  | 0, _, _ => none
  | n + 1, x2_2, x3_3 =>
    gd (inb x1 15 = true) <|
    lt ((48 * x1) + (w.1 3 x1.toNatClampNeg) : Int32) fun v_6 =>
    if v_6 ≤ x3_3 then
      (some x2_2)
    else
      (gd (inb x3_3 720 = true) <|
      lt (x2_2 + (w.1 5 x3_3.toNatClampNeg) : Int32) fun v_9 =>
      lt (x3_3 + 1 : Int32) fun x3_10 =>
      f_X11_lengthOf_L7 w x1 n v_9 x3_10)
theorem f_X11_lengthOf_L7_s (w : Mem) (x1 : Int32) (n : Nat) (x2_2 : Int32) (x3_3 : Int32) : f_X11_lengthOf_L7 w x1 (n + 1) x2_2 x3_3 =
    (gd (inb x1 15 = true) <|
    lt ((48 * x1) + (w.1 3 x1.toNatClampNeg) : Int32) fun v_6 =>
    if v_6 ≤ x3_3 then
      (some x2_2)
    else
      (gd (inb x3_3 720 = true) <|
      lt (x2_2 + (w.1 5 x3_3.toNatClampNeg) : Int32) fun v_9 =>
      lt (x3_3 + 1 : Int32) fun x3_10 =>
      f_X11_lengthOf_L7 w x1 n v_9 x3_10)) := rfl
def f_X11_lengthOf (x1 : Int32) (w : Mem) : Option (Int32) :=
  lt (48 * x1 : Int32) fun v_1 =>
  bd (f_X11_lengthOf_L7 w x1 FU 0 v_1) fun x2_13 =>
  some x2_13
def f_X11_steepOf_L27 (w : Mem) (x1 : Int32) : Nat → Int32 → Int32 → Int32 → Option (Int32)
  | 0, _, _, _ => none
  | n + 1, x2_6, x3_7, x4_8 =>
    lt ((48 * x1) + (w.1 3 x1.toNatClampNeg) : Int32) fun v_10 =>
    if v_10 ≤ x4_8 then
      (some x2_6)
    else
      (gd (inb x4_8 720 = true) <|
      lt ((w.1 4 x4_8.toNatClampNeg) - x3_7 : Int32) fun v_13 =>
      bd (f_X11_away v_13) fun r_14 =>
      if r_14 ≤ x2_6 then
        (lt (w.1 4 x4_8.toNatClampNeg : Int32) fun v_17 =>
        lt (x4_8 + 1 : Int32) fun x4_18 =>
        f_X11_steepOf_L27 w x1 n x2_6 v_17 x4_18)
      else
        (lt ((w.1 4 x4_8.toNatClampNeg) - x3_7 : Int32) fun v_19 =>
        bd (f_X11_away v_19) fun r_20 =>
        lt (w.1 4 x4_8.toNatClampNeg : Int32) fun v_22 =>
        lt (x4_8 + 1 : Int32) fun x4_23 =>
        f_X11_steepOf_L27 w x1 n r_20 v_22 x4_23))
theorem f_X11_steepOf_L27_s (w : Mem) (x1 : Int32) (n : Nat) (x2_6 : Int32) (x3_7 : Int32) (x4_8 : Int32) : f_X11_steepOf_L27 w x1 (n + 1) x2_6 x3_7 x4_8 =
    (lt ((48 * x1) + (w.1 3 x1.toNatClampNeg) : Int32) fun v_10 =>
    if v_10 ≤ x4_8 then
      (some x2_6)
    else
      (gd (inb x4_8 720 = true) <|
      lt ((w.1 4 x4_8.toNatClampNeg) - x3_7 : Int32) fun v_13 =>
      bd (f_X11_away v_13) fun r_14 =>
      if r_14 ≤ x2_6 then
        (lt (w.1 4 x4_8.toNatClampNeg : Int32) fun v_17 =>
        lt (x4_8 + 1 : Int32) fun x4_18 =>
        f_X11_steepOf_L27 w x1 n x2_6 v_17 x4_18)
      else
        (lt ((w.1 4 x4_8.toNatClampNeg) - x3_7 : Int32) fun v_19 =>
        bd (f_X11_away v_19) fun r_20 =>
        lt (w.1 4 x4_8.toNatClampNeg : Int32) fun v_22 =>
        lt (x4_8 + 1 : Int32) fun x4_23 =>
        f_X11_steepOf_L27 w x1 n r_20 v_22 x4_23))) := rfl
def f_X11_steepOf (x1 : Int32) (w : Mem) : Option (Int32) :=
  gd (inb x1 15 = true) <|
  lt ((48 * x1) + (w.1 3 x1.toNatClampNeg) : Int32) fun v_2 =>
  gd (inb (v_2 - 1) 720 = true) <|
  lt (w.1 4 (v_2 - 1).toNatClampNeg : Int32) fun v_4 =>
  lt (48 * x1 : Int32) fun v_5 =>
  bd (f_X11_steepOf_L27 w x1 FU 0 v_4 v_5) fun x2_26 =>
  some x2_26
def f_X11_edge_L5 (w : Mem) (x1 : Int32) (x2 : Int32) : Nat → Int32 → Int32 → Option (Int32)
  | 0, _, _ => none
  | n + 1, x3_1, x4_2 =>
    gd (inb 14 15 = true) <|
    lt (w.1 3 (14 : Int32).toNatClampNeg : Int32) fun v_5 =>
    if v_5 ≤ x4_2 then
      (some x3_1)
    else
      (lt (fun (t_8 : Int32) => (lt (if x4_2 = 0 then t_8 else (if x2 = 0 then (if x3_1 ≤ t_8 then x3_1 else t_8) else (if t_8 ≤ x3_1 then x3_1 else t_8)) : Int32) fun v_9 =>
        lt (x4_2 + 1 : Int32) fun x4_11 =>
        f_X11_edge_L5 w x1 x2 n v_9 x4_11
        : Option (Int32))) fun k_7 =>
      if x1 = 0 then
        (gd (inb (672 + x4_2) 720 = true) <|
        lt (w.1 4 (672 + x4_2).toNatClampNeg : Int32) fun v_18 =>
        k_7 v_18)
      else
        (gd (inb (672 + x4_2) 720 = true) <|
        lt (w.1 5 (672 + x4_2).toNatClampNeg : Int32) fun v_20 =>
        k_7 v_20))
theorem f_X11_edge_L5_s (w : Mem) (x1 : Int32) (x2 : Int32) (n : Nat) (x3_1 : Int32) (x4_2 : Int32) : f_X11_edge_L5 w x1 x2 (n + 1) x3_1 x4_2 =
    (gd (inb 14 15 = true) <|
    lt (w.1 3 (14 : Int32).toNatClampNeg : Int32) fun v_5 =>
    if v_5 ≤ x4_2 then
      (some x3_1)
    else
      (lt (fun (t_8 : Int32) => (lt (if x4_2 = 0 then t_8 else (if x2 = 0 then (if x3_1 ≤ t_8 then x3_1 else t_8) else (if t_8 ≤ x3_1 then x3_1 else t_8)) : Int32) fun v_9 =>
        lt (x4_2 + 1 : Int32) fun x4_11 =>
        f_X11_edge_L5 w x1 x2 n v_9 x4_11
        : Option (Int32))) fun k_7 =>
      if x1 = 0 then
        (gd (inb (672 + x4_2) 720 = true) <|
        lt (w.1 4 (672 + x4_2).toNatClampNeg : Int32) fun v_18 =>
        k_7 v_18)
      else
        (gd (inb (672 + x4_2) 720 = true) <|
        lt (w.1 5 (672 + x4_2).toNatClampNeg : Int32) fun v_20 =>
        k_7 v_20))) := rfl
def f_X11_edge (x1 : Int32) (x2 : Int32) (w : Mem) : Option (Int32) :=
  bd (f_X11_edge_L5 w x1 x2 FU 0 0) fun x3_23 =>
  some x3_23
def f_X11_disc (x1 : Int32) (w : Mem) : Option (Int32 × Mem) :=
  bd (f_X11_in x1 0 6) fun r_1 =>
  lt (fun (t_4 : Int32) => (lt (mS w 0 0 t_4) fun w_5 =>
    if (w_5.1 0 0) = 0 then
      (if x1 = 0 then
        (gd (inb 14 15 = true) <|
        lt (w_5.1 3 (14 : Int32).toNatClampNeg : Int32) fun v_9 =>
        some (v_9, w_5))
      else
      if x1 = 1 then
        (bd (f_X11_lengthOf 14 w_5) fun r_11 =>
        some (r_11, w_5))
      else
      if x1 = 2 then
        (bd (f_X11_steepOf 14 w_5) fun r_14 =>
        some (r_14, w_5))
      else
        (lt (if x1 ≤ 4 then 0 else 1 : Int32) fun v_16 =>
        lt (if x1 = 3 then 1 else (if x1 = 5 then 1 else 0) : Int32) fun v_18 =>
        bd (f_X11_edge v_16 v_18 w_5) fun r_20 =>
        some (r_20, w_5)))
    else
      (some (0, w_5))
    : Option (Int32 × Mem))) fun k_3 =>
  if r_1 = 0 then
    (k_3 1)
  else
    (gd (inb 14 15 = true) <|
    lt (w.1 3 (14 : Int32).toNatClampNeg : Int32) fun v_27 =>
    if v_27 = 0 then
      (k_3 2)
    else
      (k_3 0))
def f_X11_stitch (x1 : Int32) (x2 : Int32) (w : Mem) : Option (Int32 × Mem) :=
  bd (f_X11_in x2 0 1) fun r_1 =>
  lt (fun (t_4 : Int32) => (lt (mS w 0 0 t_4) fun w_5 =>
    if (w_5.1 0 0) = 0 then
      (if x2 = 0 then
        (gd (inb (672 + x1) 720 = true) <|
        lt (w_5.1 4 (672 + x1).toNatClampNeg : Int32) fun v_11 =>
        some (v_11, w_5))
      else
        (gd (inb (672 + x1) 720 = true) <|
        lt (w_5.1 5 (672 + x1).toNatClampNeg : Int32) fun v_9 =>
        some (v_9, w_5)))
    else
      (some (0, w_5))
    : Option (Int32 × Mem))) fun k_3 =>
  if r_1 = 0 then
    (k_3 1)
  else
    (gd (inb 14 15 = true) <|
    lt (w.1 3 (14 : Int32).toNatClampNeg : Int32) fun v_14 =>
    bd (f_X11_in x1 0 (v_14 - 1)) fun r_15 =>
    if r_15 = 0 then
      (k_3 2)
    else
      (k_3 0))
def f_X11_file (x1 : Int32) (x2 : Int32) (x3 : Int32) (w : Mem) : Option (Int32 × Mem) :=
  gd (inb 14 15 = true) <|
  lt (w.1 3 (14 : Int32).toNatClampNeg : Int32) fun v_2 =>
  bd (f_X11_in x1 0 (v_2 - 1)) fun r_3 =>
  if r_3 = 0 then
    (some ((-1), w))
  else
    (bd (f_X11_in x2 (-12) 12) fun r_6 =>
    if r_6 = 0 then
      (some ((-1), w))
    else
      (bd (f_X11_in x3 (-12) 12) fun r_9 =>
      if r_9 = 0 then
        (some ((-1), w))
      else
        (gd (inb (672 + x1) 720 = true) <|
        lt (mS w 4 ((672 + x1).toNatClampNeg) x2) fun w_13 =>
        lt (mS w_13 5 ((672 + x1).toNatClampNeg) x3) fun w_14 =>
        some (1, w_14))))
def f_X11_makes_L40 (w : Mem) (v_7 : Int32) : Nat → Int32 → Int32 → Int32 → Option (Sum (Int32) (Int32))
  | 0, _, _, _ => none
  | n + 1, x1_8, x2_9, x4_10 =>
    if v_7 ≤ x4_10 then
      (some (.inr x1_8))
    else
      (lt (672 + x4_10 : Int32) fun v_13 =>
      gd (inb v_13 720 = true) <|
      lt (x2_9 + (w.1 5 v_13.toNatClampNeg) : Int32) fun v_15 =>
      lt (fun (x1_17 : Int32) (x4_18 : Int32) => (if x1_17 = (w.1 0 1) then
          (if x4_18 = (v_7 - 1) then
            (lt (w.1 1 (0 : Int32).toNatClampNeg : Int32) fun v_23 =>
            if (w.1 4 v_13.toNatClampNeg) = v_23 then
              (lt (w.1 2 (0 : Int32).toNatClampNeg : Int32) fun v_26 =>
              if v_15 = (v_26 + (w.1 0 4)) then
                (some (.inl 9999))
              else
                (lt (x4_18 + 1 : Int32) fun x4_28 =>
                f_X11_makes_L40 w v_7 n x1_17 v_15 x4_28))
            else
              (lt (x4_18 + 1 : Int32) fun x4_25 =>
              f_X11_makes_L40 w v_7 n x1_17 v_15 x4_25))
          else
            (lt (x4_18 + 1 : Int32) fun x4_22 =>
            f_X11_makes_L40 w v_7 n x1_17 v_15 x4_22))
        else
          (lt (x4_18 + 1 : Int32) fun x4_20 =>
          f_X11_makes_L40 w v_7 n x1_17 v_15 x4_20)
        : Option (Sum (Int32) (Int32)))) fun k_16 =>
      if (w.1 0 1) ≤ x1_8 then
        (k_16 x1_8 x4_10)
      else
        (gd (inb x1_8 24 = true) <|
        if (w.1 4 v_13.toNatClampNeg) = (w.1 1 x1_8.toNatClampNeg) then
          (if v_15 = (w.1 2 x1_8.toNatClampNeg) then
            (lt (x1_8 + 1 : Int32) fun x1_33 =>
            lt (x4_10 + 1 : Int32) fun x4_34 =>
            f_X11_makes_L40 w v_7 n x1_33 v_15 x4_34)
          else
            (k_16 x1_8 x4_10))
        else
          (k_16 x1_8 x4_10)))
theorem f_X11_makes_L40_s (w : Mem) (v_7 : Int32) (n : Nat) (x1_8 : Int32) (x2_9 : Int32) (x4_10 : Int32) : f_X11_makes_L40 w v_7 (n + 1) x1_8 x2_9 x4_10 =
    (if v_7 ≤ x4_10 then
      (some (.inr x1_8))
    else
      (lt (672 + x4_10 : Int32) fun v_13 =>
      gd (inb v_13 720 = true) <|
      lt (x2_9 + (w.1 5 v_13.toNatClampNeg) : Int32) fun v_15 =>
      lt (fun (x1_17 : Int32) (x4_18 : Int32) => (if x1_17 = (w.1 0 1) then
          (if x4_18 = (v_7 - 1) then
            (lt (w.1 1 (0 : Int32).toNatClampNeg : Int32) fun v_23 =>
            if (w.1 4 v_13.toNatClampNeg) = v_23 then
              (lt (w.1 2 (0 : Int32).toNatClampNeg : Int32) fun v_26 =>
              if v_15 = (v_26 + (w.1 0 4)) then
                (some (.inl 9999))
              else
                (lt (x4_18 + 1 : Int32) fun x4_28 =>
                f_X11_makes_L40 w v_7 n x1_17 v_15 x4_28))
            else
              (lt (x4_18 + 1 : Int32) fun x4_25 =>
              f_X11_makes_L40 w v_7 n x1_17 v_15 x4_25))
          else
            (lt (x4_18 + 1 : Int32) fun x4_22 =>
            f_X11_makes_L40 w v_7 n x1_17 v_15 x4_22))
        else
          (lt (x4_18 + 1 : Int32) fun x4_20 =>
          f_X11_makes_L40 w v_7 n x1_17 v_15 x4_20)
        : Option (Sum (Int32) (Int32)))) fun k_16 =>
      if (w.1 0 1) ≤ x1_8 then
        (k_16 x1_8 x4_10)
      else
        (gd (inb x1_8 24 = true) <|
        if (w.1 4 v_13.toNatClampNeg) = (w.1 1 x1_8.toNatClampNeg) then
          (if v_15 = (w.1 2 x1_8.toNatClampNeg) then
            (lt (x1_8 + 1 : Int32) fun x1_33 =>
            lt (x4_10 + 1 : Int32) fun x4_34 =>
            f_X11_makes_L40 w v_7 n x1_33 v_15 x4_34)
          else
            (k_16 x1_8 x4_10))
        else
          (k_16 x1_8 x4_10)))) := rfl
def f_X11_makes (w : Mem) : Option (Int32) :=
  if (w.1 0 1) = 0 then
    (some (-3))
  else
    (gd (inb 14 15 = true) <|
    lt (w.1 3 (14 : Int32).toNatClampNeg : Int32) fun v_3 =>
    if v_3 = 0 then
      (some (-3))
    else
      (gd (inb 0 24 = true) <|
      lt (w.1 2 (0 : Int32).toNatClampNeg : Int32) fun v_6 =>
      lt (w.1 3 (14 : Int32).toNatClampNeg : Int32) fun v_7 =>
      bd (f_X11_makes_L40 w v_7 FU 1 v_6 0) fun ex => sm ex (fun ret => ret) fun x1_37 =>
      some x1_37))
def f_X11_copies_L14 (x1 : Int32) (x2 : Int32) : Nat → Int32 → Mem → Option (Mem)
  | 0, _, _ => none
  | n + 1, x3_4, w_5 =>
    if (w_5.1 3 x1.toNatClampNeg) ≤ x3_4 then
      (some w_5)
    else
      (gd (inb ((48 * x1) + x3_4) 720 = true) <|
      lt (w_5.1 4 ((48 * x1) + x3_4).toNatClampNeg : Int32) fun v_9 =>
      gd (inb ((48 * x2) + x3_4) 720 = true) <|
      lt (mS w_5 4 (((48 * x2) + x3_4).toNatClampNeg) v_9) fun w_11 =>
      lt (w_11.1 5 ((48 * x1) + x3_4).toNatClampNeg : Int32) fun v_12 =>
      lt (mS w_11 5 (((48 * x2) + x3_4).toNatClampNeg) v_12) fun w_13 =>
      lt (x3_4 + 1 : Int32) fun x3_14 =>
      f_X11_copies_L14 x1 x2 n x3_14 w_13)
theorem f_X11_copies_L14_s (x1 : Int32) (x2 : Int32) (n : Nat) (x3_4 : Int32) (w_5 : Mem) : f_X11_copies_L14 x1 x2 (n + 1) x3_4 w_5 =
    (if (w_5.1 3 x1.toNatClampNeg) ≤ x3_4 then
      (some w_5)
    else
      (gd (inb ((48 * x1) + x3_4) 720 = true) <|
      lt (w_5.1 4 ((48 * x1) + x3_4).toNatClampNeg : Int32) fun v_9 =>
      gd (inb ((48 * x2) + x3_4) 720 = true) <|
      lt (mS w_5 4 (((48 * x2) + x3_4).toNatClampNeg) v_9) fun w_11 =>
      lt (w_11.1 5 ((48 * x1) + x3_4).toNatClampNeg : Int32) fun v_12 =>
      lt (mS w_11 5 (((48 * x2) + x3_4).toNatClampNeg) v_12) fun w_13 =>
      lt (x3_4 + 1 : Int32) fun x3_14 =>
      f_X11_copies_L14 x1 x2 n x3_14 w_13)) := rfl
def f_X11_copies (x1 : Int32) (x2 : Int32) (w : Mem) : Option (Mem) :=
  gd (inb x1 15 = true) <|
  gd (inb x2 15 = true) <|
  lt (mS w 3 x2.toNatClampNeg (w.1 3 x1.toNatClampNeg)) fun w_3 =>
  bd (f_X11_copies_L14 x1 x2 FU 0 w_3) fun w_17 =>
  some w_17
def f_X11_lay (x1 : Int32) (w : Mem) : Option (Int32 × Mem) :=
  bd (f_X11_in x1 0 7) fun r_1 =>
  if r_1 = 0 then
    (some ((-1), w))
  else
    (gd (inb 14 15 = true) <|
    lt (w.1 3 (14 : Int32).toNatClampNeg : Int32) fun v_5 =>
    if v_5 = 0 then
      (some ((-3), w))
    else
      (bd (f_X11_copies 14 x1 w) fun w_9 =>
      lt (w_9.1 3 (14 : Int32).toNatClampNeg : Int32) fun v_10 =>
      some (v_10, w_9)))
def f_X11_take (x1 : Int32) (w : Mem) : Option (Int32 × Mem) :=
  bd (f_X11_in x1 0 7) fun r_1 =>
  if r_1 = 0 then
    (some ((-1), w))
  else
    (gd (inb x1 15 = true) <|
    if (w.1 3 x1.toNatClampNeg) = 0 then
      (some ((-3), w))
    else
      (bd (f_X11_copies x1 14 w) fun w_8 =>
      gd (inb 14 15 = true) <|
      lt (w_8.1 3 (14 : Int32).toNatClampNeg : Int32) fun v_10 =>
      some (v_10, w_8)))
def f_X11_turn_L33 (x1 : Int32) (x2 : Int32) (v_2 : Int32) : Nat → Int32 → Mem → Option (Mem)
  | 0, _, _ => none
  | n + 1, x4_9, w_10 =>
    if v_2 ≤ x4_9 then
      (some w_10)
    else
      (gd (¬ v_2 = 0) <|
      lt (irm (x1 + x4_9) v_2) fun v_14 =>
      gd (inb (672 + v_14) 720 = true) <|
      lt (w_10.1 4 (672 + v_14).toNatClampNeg : Int32) fun v_16 =>
      lt (if x2 = 1 then (-v_16) else v_16 : Int32) fun v_17 =>
      gd (inb x4_9 48 = true) <|
      lt (mS w_10 22 x4_9.toNatClampNeg v_17) fun w_20 =>
      lt (irm (x1 + x4_9) v_2) fun v_21 =>
      gd (inb (672 + v_21) 720 = true) <|
      lt (w_20.1 5 (672 + v_21).toNatClampNeg : Int32) fun v_23 =>
      lt (mS w_20 23 x4_9.toNatClampNeg v_23) fun w_24 =>
      lt (x4_9 + 1 : Int32) fun x4_25 =>
      f_X11_turn_L33 x1 x2 v_2 n x4_25 w_24)
theorem f_X11_turn_L33_s (x1 : Int32) (x2 : Int32) (v_2 : Int32) (n : Nat) (x4_9 : Int32) (w_10 : Mem) : f_X11_turn_L33 x1 x2 v_2 (n + 1) x4_9 w_10 =
    (if v_2 ≤ x4_9 then
      (some w_10)
    else
      (gd (¬ v_2 = 0) <|
      lt (irm (x1 + x4_9) v_2) fun v_14 =>
      gd (inb (672 + v_14) 720 = true) <|
      lt (w_10.1 4 (672 + v_14).toNatClampNeg : Int32) fun v_16 =>
      lt (if x2 = 1 then (-v_16) else v_16 : Int32) fun v_17 =>
      gd (inb x4_9 48 = true) <|
      lt (mS w_10 22 x4_9.toNatClampNeg v_17) fun w_20 =>
      lt (irm (x1 + x4_9) v_2) fun v_21 =>
      gd (inb (672 + v_21) 720 = true) <|
      lt (w_20.1 5 (672 + v_21).toNatClampNeg : Int32) fun v_23 =>
      lt (mS w_20 23 x4_9.toNatClampNeg v_23) fun w_24 =>
      lt (x4_9 + 1 : Int32) fun x4_25 =>
      f_X11_turn_L33 x1 x2 v_2 n x4_25 w_24)) := rfl
def f_X11_turn_L107 (v_2 : Int32) : Nat → Int32 → Mem → Option (Mem)
  | 0, _, _ => none
  | n + 1, x4_30, w_31 =>
    if v_2 ≤ x4_30 then
      (some w_31)
    else
      (gd (inb x4_30 48 = true) <|
      lt (w_31.1 22 x4_30.toNatClampNeg : Int32) fun v_35 =>
      gd (inb (672 + x4_30) 720 = true) <|
      lt (mS w_31 4 ((672 + x4_30).toNatClampNeg) v_35) fun w_37 =>
      lt (w_37.1 23 x4_30.toNatClampNeg : Int32) fun v_38 =>
      lt (mS w_37 5 ((672 + x4_30).toNatClampNeg) v_38) fun w_39 =>
      lt (x4_30 + 1 : Int32) fun x4_40 =>
      f_X11_turn_L107 v_2 n x4_40 w_39)
theorem f_X11_turn_L107_s (v_2 : Int32) (n : Nat) (x4_30 : Int32) (w_31 : Mem) : f_X11_turn_L107 v_2 (n + 1) x4_30 w_31 =
    (if v_2 ≤ x4_30 then
      (some w_31)
    else
      (gd (inb x4_30 48 = true) <|
      lt (w_31.1 22 x4_30.toNatClampNeg : Int32) fun v_35 =>
      gd (inb (672 + x4_30) 720 = true) <|
      lt (mS w_31 4 ((672 + x4_30).toNatClampNeg) v_35) fun w_37 =>
      lt (w_37.1 23 x4_30.toNatClampNeg : Int32) fun v_38 =>
      lt (mS w_37 5 ((672 + x4_30).toNatClampNeg) v_38) fun w_39 =>
      lt (x4_30 + 1 : Int32) fun x4_40 =>
      f_X11_turn_L107 v_2 n x4_40 w_39)) := rfl
def f_X11_turn (x1 : Int32) (x2 : Int32) (w : Mem) : Option (Int32 × Mem) :=
  gd (inb 14 15 = true) <|
  lt (w.1 3 (14 : Int32).toNatClampNeg : Int32) fun v_2 =>
  bd (f_X11_in x1 0 (v_2 - 1)) fun r_3 =>
  if r_3 = 0 then
    (some ((-1), w))
  else
    (bd (f_X11_in x2 0 1) fun r_6 =>
    if r_6 = 0 then
      (some ((-1), w))
    else
      (bd (f_X11_turn_L33 x1 x2 v_2 FU 0 w) fun w_29 =>
      bd (f_X11_turn_L107 v_2 FU 0 w_29) fun w_43 =>
      some (1, w_43)))
def f_X11_side (x1 : Int32) (w : Mem) : Option (Int32 × Mem) :=
  bd (f_X11_in x1 1 999) fun r_1 =>
  if r_1 = 0 then
    (some ((-1), w))
  else
    (if (w.1 0 8) = 8 then
      (some ((-2), w))
    else
      (gd (inb (w.1 0 8) 8 = true) <|
      lt (mS w 6 ((w.1 0 8).toNatClampNeg) x1) fun w_6 =>
      lt (mS w_6 0 8 ((w_6.1 0 8) + 1)) fun w_7 =>
      some (w_7.1 0 8, w_7)))
def f_X11_sideless (w : Mem) : Option (Int32 × Mem) :=
  lt (w.1 0 8 : Int32) fun v_1 =>
  lt (mS w 0 8 0) fun w_2 =>
  some (v_1, w_2)
def f_X11_canHem (w : Mem) : Option (Int32) :=
  gd (inb 14 15 = true) <|
  lt (w.1 3 (14 : Int32).toNatClampNeg : Int32) fun v_2 =>
  if v_2 ≤ 0 then
    (some 0)
  else
    (bd (f_X11_lengthOf 14 w) fun r_4 =>
    lt (if r_4 ≤ 0 then 0 else 1 : Int32) fun v_6 =>
    gd (bz v_6 = true) <|
    some v_6)
def f_X11_rounds_L12 (w : Mem) (x1 : Int32) (r_1 : Int32) : Nat → Int32 → Int32 → Option (Int32)
  | 0, _, _ => none
  | n + 1, x3_3, x4_4 =>
    gd (inb x1 8 = true) <|
    if (w.1 6 x1.toNatClampNeg) < x4_4 then
      (some x3_3)
    else
      (lt ((w.1 6 x1.toNatClampNeg) - (x4_4 * r_1) : Int32) fun v_8 =>
      bd (f_X11_away v_8) fun r_9 =>
      lt ((w.1 6 x1.toNatClampNeg) - (x3_3 * r_1) : Int32) fun v_11 =>
      bd (f_X11_away v_11) fun r_12 =>
      lt (if r_12 ≤ r_9 then x3_3 else x4_4 : Int32) fun v_14 =>
      lt (x4_4 + 1 : Int32) fun x4_16 =>
      f_X11_rounds_L12 w x1 r_1 n v_14 x4_16)
theorem f_X11_rounds_L12_s (w : Mem) (x1 : Int32) (r_1 : Int32) (n : Nat) (x3_3 : Int32) (x4_4 : Int32) : f_X11_rounds_L12 w x1 r_1 (n + 1) x3_3 x4_4 =
    (gd (inb x1 8 = true) <|
    if (w.1 6 x1.toNatClampNeg) < x4_4 then
      (some x3_3)
    else
      (lt ((w.1 6 x1.toNatClampNeg) - (x4_4 * r_1) : Int32) fun v_8 =>
      bd (f_X11_away v_8) fun r_9 =>
      lt ((w.1 6 x1.toNatClampNeg) - (x3_3 * r_1) : Int32) fun v_11 =>
      bd (f_X11_away v_11) fun r_12 =>
      lt (if r_12 ≤ r_9 then x3_3 else x4_4 : Int32) fun v_14 =>
      lt (x4_4 + 1 : Int32) fun x4_16 =>
      f_X11_rounds_L12 w x1 r_1 n v_14 x4_16)) := rfl
def f_X11_rounds (x1 : Int32) (w : Mem) : Option (Int32) :=
  bd (f_X11_lengthOf 14 w) fun r_1 =>
  bd (f_X11_rounds_L12 w x1 r_1 FU 1 2) fun x3_20 =>
  some x3_20
def f_X11_restOf (x1 : Int32) (w : Mem) : Option (Int32) :=
  gd (inb x1 8 = true) <|
  bd (f_X11_rounds x1 w) fun r_2 =>
  bd (f_X11_lengthOf 14 w) fun r_4 =>
  lt ((w.1 6 x1.toNatClampNeg) - (r_2 * r_4) : Int32) fun v_6 =>
  some v_6
def f_X11_more (x1 : Int32) (x2 : Int32) (x3 : Int32) : Option (Int32) :=
  bd (f_X11_floor (x1 * (x2 + 1)) x3) fun r_1 =>
  bd (f_X11_floor (x1 * x2) x3) fun r_3 =>
  some (r_1 - r_3)
def f_X11_looksAt_L30 (w : Mem) (v_5 : Int32) (r_6 : Int32) : Nat → Int32 → Int32 → Int32 → Option (Int32 × Int32)
  | 0, _, _, _ => none
  | n + 1, x5_8, x6_9, x7_10 =>
    if v_5 ≤ x7_10 then
      (some (x5_8, x6_9))
    else
      (bd (f_X11_more r_6 x7_10 v_5) fun r_13 =>
      lt (fun (t_16 : Int32) => (bd (f_X11_away r_13) fun r_17 =>
        if r_17 ≤ x6_9 then
          (lt (x7_10 + 1 : Int32) fun x7_20 =>
          f_X11_looksAt_L30 w v_5 r_6 n t_16 x6_9 x7_20)
        else
          (bd (f_X11_away r_13) fun r_21 =>
          lt (x7_10 + 1 : Int32) fun x7_23 =>
          f_X11_looksAt_L30 w v_5 r_6 n t_16 r_21 x7_23)
        : Option (Int32 × Int32))) fun k_15 =>
      if x5_8 = 0 then
        (k_15 0)
      else
        (lt (w.1 3 (14 : Int32).toNatClampNeg : Int32) fun v_25 =>
        gd (¬ v_25 = 0) <|
        lt (irm x7_10 v_25) fun v_27 =>
        gd (inb (672 + v_27) 720 = true) <|
        lt (w.1 5 (672 + v_27).toNatClampNeg : Int32) fun v_29 =>
        bd (f_X11_in (v_29 + r_13) (-12) 12) fun r_30 =>
        if r_30 = 0 then
          (k_15 0)
        else
          (k_15 1)))
theorem f_X11_looksAt_L30_s (w : Mem) (v_5 : Int32) (r_6 : Int32) (n : Nat) (x5_8 : Int32) (x6_9 : Int32) (x7_10 : Int32) : f_X11_looksAt_L30 w v_5 r_6 (n + 1) x5_8 x6_9 x7_10 =
    (if v_5 ≤ x7_10 then
      (some (x5_8, x6_9))
    else
      (bd (f_X11_more r_6 x7_10 v_5) fun r_13 =>
      lt (fun (t_16 : Int32) => (bd (f_X11_away r_13) fun r_17 =>
        if r_17 ≤ x6_9 then
          (lt (x7_10 + 1 : Int32) fun x7_20 =>
          f_X11_looksAt_L30 w v_5 r_6 n t_16 x6_9 x7_20)
        else
          (bd (f_X11_away r_13) fun r_21 =>
          lt (x7_10 + 1 : Int32) fun x7_23 =>
          f_X11_looksAt_L30 w v_5 r_6 n t_16 r_21 x7_23)
        : Option (Int32 × Int32))) fun k_15 =>
      if x5_8 = 0 then
        (k_15 0)
      else
        (lt (w.1 3 (14 : Int32).toNatClampNeg : Int32) fun v_25 =>
        gd (¬ v_25 = 0) <|
        lt (irm x7_10 v_25) fun v_27 =>
        gd (inb (672 + v_27) 720 = true) <|
        lt (w.1 5 (672 + v_27).toNatClampNeg : Int32) fun v_29 =>
        bd (f_X11_in (v_29 + r_13) (-12) 12) fun r_30 =>
        if r_30 = 0 then
          (k_15 0)
        else
          (k_15 1)))) := rfl
def f_X11_looksAt (x1 : Int32) (x2 : Int32) (w : Mem) : Option (Int32) :=
  bd (f_X11_rounds x1 w) fun r_1 =>
  gd (inb 14 15 = true) <|
  lt (w.1 3 (14 : Int32).toNatClampNeg : Int32) fun v_4 =>
  lt (r_1 * v_4 : Int32) fun v_5 =>
  bd (f_X11_restOf x1 w) fun r_6 =>
  bd (f_X11_looksAt_L30 w v_5 r_6 FU 1 0 0) fun ex => tp2 ex fun x5_35 x6_36 =>
  lt (if x2 = 4 then x6_36 else (if x5_35 = 0 then 0 else 1) : Int32) fun v_37 =>
  some v_37
def f_X11_hem (x1 : Int32) (x2 : Int32) (w : Mem) : Option (Int32 × Mem) :=
  bd (f_X11_in x2 0 4) fun r_1 =>
  lt (fun (t_4 : Int32) => (lt (mS w 0 0 t_4) fun w_5 =>
    if (w_5.1 0 0) = 0 then
      (if x2 = 0 then
        (bd (f_X11_rounds x1 w_5) fun r_8 =>
        some (r_8, w_5))
      else
      if x2 = 1 then
        (bd (f_X11_restOf x1 w_5) fun r_11 =>
        some (r_11, w_5))
      else
      if x2 = 2 then
        (bd (f_X11_looksAt x1 x2 w_5) fun r_14 =>
        some (r_14, w_5))
      else
      if x2 = 3 then
        (bd (f_X11_rounds x1 w_5) fun r_17 =>
        gd (inb 14 15 = true) <|
        lt (w_5.1 3 (14 : Int32).toNatClampNeg : Int32) fun v_20 =>
        some (r_17 * v_20, w_5))
      else
        (bd (f_X11_looksAt x1 x2 w_5) fun r_21 =>
        some (r_21, w_5)))
    else
      (some (0, w_5))
    : Option (Int32 × Mem))) fun k_3 =>
  if r_1 = 0 then
    (k_3 1)
  else
    (bd (f_X11_in x1 0 ((w.1 0 8) - 1)) fun r_24 =>
    if r_24 = 0 then
      (k_3 2)
    else
      (bd (f_X11_canHem w) fun r_27 =>
      if r_27 = 0 then
        (k_3 2)
      else
        (k_3 0)))
def f_X11_fedAt (x1 : Int32) (x2 : Int32) (w : Mem) : Option (Int32) :=
  gd (inb 14 15 = true) <|
  lt (w.1 3 (14 : Int32).toNatClampNeg : Int32) fun v_2 =>
  gd (¬ v_2 = 0) <|
  lt (irm x2 v_2) fun v_4 =>
  gd (inb (672 + v_4) 720 = true) <|
  lt (w.1 5 (672 + v_4).toNatClampNeg : Int32) fun v_6 =>
  bd (f_X11_restOf x1 w) fun r_7 =>
  bd (f_X11_rounds x1 w) fun r_9 =>
  lt (w.1 3 (14 : Int32).toNatClampNeg : Int32) fun v_11 =>
  bd (f_X11_more r_7 x2 (r_9 * v_11)) fun r_12 =>
  some (v_6 + r_12)
def f_X11_fed (x1 : Int32) (x2 : Int32) (w : Mem) : Option (Int32 × Mem) :=
  bd (f_X11_in x1 0 ((w.1 0 8) - 1)) fun r_1 =>
  lt (fun (t_4 : Int32) => (lt (if t_4 = 0 then 1 else 0 : Int32) fun v_5 =>
    lt (mS w 0 0 v_5) fun w_7 =>
    if t_4 = 0 then
      (some (0, w_7))
    else
      (bd (f_X11_fedAt x1 x2 w_7) fun r_9 =>
      some (r_9, w_7))
    : Option (Int32 × Mem))) fun k_3 =>
  if r_1 = 0 then
    (k_3 0)
  else
    (bd (f_X11_canHem w) fun r_13 =>
    if r_13 = 0 then
      (k_3 0)
    else
      (bd (f_X11_rounds x1 w) fun r_16 =>
      gd (inb 14 15 = true) <|
      lt (w.1 3 (14 : Int32).toNatClampNeg : Int32) fun v_19 =>
      bd (f_X11_in x2 0 ((r_16 * v_19) - 1)) fun r_20 =>
      if r_20 = 0 then
        (k_3 0)
      else
        (k_3 1)))
def f_X11_meets_L21 (w : Mem) : Nat → Int32 → Int32 → Option (Int32)
  | 0, _, _ => none
  | n + 1, x1_5, x2_6 =>
    if (w.1 0 8) ≤ x2_6 then
      (some x1_5)
    else
      (bd (f_X11_looksAt x2_6 2 w) fun r_9 =>
      lt (if r_9 = 0 then 0 else x1_5 : Int32) fun v_11 =>
      lt (x2_6 + 1 : Int32) fun x2_13 =>
      f_X11_meets_L21 w n v_11 x2_13)
theorem f_X11_meets_L21_s (w : Mem) (n : Nat) (x1_5 : Int32) (x2_6 : Int32) : f_X11_meets_L21 w (n + 1) x1_5 x2_6 =
    (if (w.1 0 8) ≤ x2_6 then
      (some x1_5)
    else
      (bd (f_X11_looksAt x2_6 2 w) fun r_9 =>
      lt (if r_9 = 0 then 0 else x1_5 : Int32) fun v_11 =>
      lt (x2_6 + 1 : Int32) fun x2_13 =>
      f_X11_meets_L21 w n v_11 x2_13)) := rfl
def f_X11_meets (w : Mem) : Option (Int32) :=
  if (w.1 0 8) = 0 then
    (some (-3))
  else
    (bd (f_X11_canHem w) fun r_2 =>
    if r_2 = 0 then
      (some (-3))
    else
      (bd (f_X11_meets_L21 w FU 1 0) fun x1_17 =>
      some x1_17))
def f_X11_clears_L17 (x1 : Int32) : Nat → Int32 → Mem → Option (Mem)
  | 0, _, _ => none
  | n + 1, x4_4, w_5 =>
    if 400 ≤ x4_4 then
      (some w_5)
    else
      (gd (inb ((400 * x1) + x4_4) 2400 = true) <|
      lt (mL w_5 17 (((400 * x1) + x4_4).toNatClampNeg) 0) fun w_9 =>
      lt (x4_4 + 1 : Int32) fun x4_10 =>
      f_X11_clears_L17 x1 n x4_10 w_9)
theorem f_X11_clears_L17_s (x1 : Int32) (n : Nat) (x4_4 : Int32) (w_5 : Mem) : f_X11_clears_L17 x1 (n + 1) x4_4 w_5 =
    (if 400 ≤ x4_4 then
      (some w_5)
    else
      (gd (inb ((400 * x1) + x4_4) 2400 = true) <|
      lt (mL w_5 17 (((400 * x1) + x4_4).toNatClampNeg) 0) fun w_9 =>
      lt (x4_4 + 1 : Int32) fun x4_10 =>
      f_X11_clears_L17 x1 n x4_10 w_9)) := rfl
def f_X11_clears (x1 : Int32) (x2 : Int32) (x3 : Int32) (w : Mem) : Option (Mem) :=
  gd (inb x1 6 = true) <|
  lt (mS w 15 x1.toNatClampNeg x2) fun w_2 =>
  lt (mS w_2 16 x1.toNatClampNeg x3) fun w_3 =>
  bd (f_X11_clears_L17 x1 FU 0 w_3) fun w_13 =>
  some w_13
def f_X11_feeds_L67 (x1 : Int32) (x2 : Int32) (v_14 : Int32) : Nat → Int32 → Mem → Option (Mem)
  | 0, _, _ => none
  | n + 1, x4_19, w_20 =>
    if v_14 ≤ x4_19 then
      (some w_20)
    else
      (bd (f_X11_fedAt x2 x4_19 w_20) fun r_23 =>
      gd (inb ((400 * x1) + x4_19) 2400 = true) <|
      lt (mL w_20 17 (((400 * x1) + x4_19).toNatClampNeg) r_23.toInt64) fun w_26 =>
      lt (x4_19 + 1 : Int32) fun x4_27 =>
      f_X11_feeds_L67 x1 x2 v_14 n x4_27 w_26)
theorem f_X11_feeds_L67_s (x1 : Int32) (x2 : Int32) (v_14 : Int32) (n : Nat) (x4_19 : Int32) (w_20 : Mem) : f_X11_feeds_L67 x1 x2 v_14 (n + 1) x4_19 w_20 =
    (if v_14 ≤ x4_19 then
      (some w_20)
    else
      (bd (f_X11_fedAt x2 x4_19 w_20) fun r_23 =>
      gd (inb ((400 * x1) + x4_19) 2400 = true) <|
      lt (mL w_20 17 (((400 * x1) + x4_19).toNatClampNeg) r_23.toInt64) fun w_26 =>
      lt (x4_19 + 1 : Int32) fun x4_27 =>
      f_X11_feeds_L67 x1 x2 v_14 n x4_27 w_26)) := rfl
def f_X11_feeds (x1 : Int32) (x2 : Int32) (w : Mem) : Option (Int32 × Mem) :=
  bd (f_X11_isTape x1) fun r_1 =>
  if r_1 = 0 then
    (some ((-1), w))
  else
    (bd (f_X11_in x2 0 ((w.1 0 8) - 1)) fun r_4 =>
    if r_4 = 0 then
      (some ((-3), w))
    else
      (bd (f_X11_canHem w) fun r_7 =>
      if r_7 = 0 then
        (some ((-3), w))
      else
        (bd (f_X11_rounds x2 w) fun r_10 =>
        gd (inb 14 15 = true) <|
        lt (w.1 3 (14 : Int32).toNatClampNeg : Int32) fun v_13 =>
        lt (r_10 * v_13 : Int32) fun v_14 =>
        if v_14 ≤ 400 then
          (bd (f_X11_clears x1 2 v_14 w) fun w_18 =>
          bd (f_X11_feeds_L67 x1 x2 v_14 FU 0 w_18) fun w_30 =>
          some (v_14, w_30))
        else
          (some ((-2), w)))))
def f_X11_judge_L94 (w : Mem) (x1 : Int32) (v_17 : Int32) (r_18 : Int32) : Nat → Int32 → Int32 → Option (Sum (Int32 × Mem) (Int32))
  | 0, _, _ => none
  | n + 1, x5_20, x6_21 =>
    if v_17 ≤ x6_21 then
      (some (.inr x5_20))
    else
      (if x6_21 < (w.1 16 x1.toNatClampNeg) then
        (gd (inb ((400 * x1) + x6_21) 2400 = true) <|
        lt (w.2 17 ((400 * x1) + x6_21).toNatClampNeg : Int64) fun v_26 =>
        lt (v_26.toInt32 : Int32) fun v_27 =>
        bd (f_X11_in v_27 (-12) 12) fun r_28 =>
        if r_28 = 0 then
          (some (.inl (x6_21, w)))
        else
          (lt (w.1 3 (14 : Int32).toNatClampNeg : Int32) fun v_31 =>
          gd (¬ v_31 = 0) <|
          lt (irm x6_21 v_31) fun v_33 =>
          gd (inb (672 + v_33) 720 = true) <|
          lt (w.1 5 (672 + v_33).toNatClampNeg : Int32) fun v_35 =>
          bd (f_X11_away (v_27 - v_35)) fun r_36 =>
          if r_36 ≤ r_18 then
            (lt (x5_20 + v_27 : Int32) fun v_39 =>
            lt (x6_21 + 1 : Int32) fun x6_40 =>
            f_X11_judge_L94 w x1 v_17 r_18 n v_39 x6_40)
          else
            (some (.inl (x6_21, w)))))
      else
        (b2 (f_X11_refuse (-13) w) fun r_41 w_43 =>
        some (.inl (r_41, w_43))))
theorem f_X11_judge_L94_s (w : Mem) (x1 : Int32) (v_17 : Int32) (r_18 : Int32) (n : Nat) (x5_20 : Int32) (x6_21 : Int32) : f_X11_judge_L94 w x1 v_17 r_18 (n + 1) x5_20 x6_21 =
    (if v_17 ≤ x6_21 then
      (some (.inr x5_20))
    else
      (if x6_21 < (w.1 16 x1.toNatClampNeg) then
        (gd (inb ((400 * x1) + x6_21) 2400 = true) <|
        lt (w.2 17 ((400 * x1) + x6_21).toNatClampNeg : Int64) fun v_26 =>
        lt (v_26.toInt32 : Int32) fun v_27 =>
        bd (f_X11_in v_27 (-12) 12) fun r_28 =>
        if r_28 = 0 then
          (some (.inl (x6_21, w)))
        else
          (lt (w.1 3 (14 : Int32).toNatClampNeg : Int32) fun v_31 =>
          gd (¬ v_31 = 0) <|
          lt (irm x6_21 v_31) fun v_33 =>
          gd (inb (672 + v_33) 720 = true) <|
          lt (w.1 5 (672 + v_33).toNatClampNeg : Int32) fun v_35 =>
          bd (f_X11_away (v_27 - v_35)) fun r_36 =>
          if r_36 ≤ r_18 then
            (lt (x5_20 + v_27 : Int32) fun v_39 =>
            lt (x6_21 + 1 : Int32) fun x6_40 =>
            f_X11_judge_L94 w x1 v_17 r_18 n v_39 x6_40)
          else
            (some (.inl (x6_21, w)))))
      else
        (b2 (f_X11_refuse (-13) w) fun r_41 w_43 =>
        some (.inl (r_41, w_43))))) := rfl
def f_X11_judge (x1 : Int32) (x2 : Int32) (w : Mem) : Option (Int32 × Mem) :=
  bd (f_X11_isTape x1) fun r_1 =>
  if r_1 = 0 then
    (some ((-1), w))
  else
    (bd (f_X11_in x2 0 ((w.1 0 8) - 1)) fun r_4 =>
    if r_4 = 0 then
      (some ((-3), w))
    else
      (bd (f_X11_canHem w) fun r_7 =>
      if r_7 = 0 then
        (some ((-3), w))
      else
        (gd (inb x1 6 = true) <|
        if (w.1 15 x1.toNatClampNeg) = 0 then
          (b2 (f_X11_refuse (-11) w) fun r_54 w_56 =>
          some (r_54, w_56))
        else
          (if (w.1 15 x1.toNatClampNeg) = 2 then
            (bd (f_X11_rounds x2 w) fun r_13 =>
            gd (inb 14 15 = true) <|
            lt (w.1 3 (14 : Int32).toNatClampNeg : Int32) fun v_16 =>
            lt (r_13 * v_16 : Int32) fun v_17 =>
            bd (f_X11_looksAt x2 4 w) fun r_18 =>
            bd (f_X11_judge_L94 w x1 v_17 r_18 FU 0 0) fun ex => sm ex (fun ret => ret) fun x5_46 =>
            gd (inb x2 8 = true) <|
            lt (if x5_46 = (w.1 6 x2.toNatClampNeg) then 9999 else v_17 : Int32) fun v_48 =>
            some (v_48, w))
          else
            (b2 (f_X11_refuse (-12) w) fun r_51 w_53 =>
            some (r_51, w_53))))))
def f_X11_lockOf (x1 : Int32) (x2 : Int32) (w : Mem) : Option (Int32) :=
  gd (inb 0 2 = true) <|
  lt (w.1 7 (0 : Int32).toNatClampNeg : Int32) fun v_2 =>
  gd (inb 1 2 = true) <|
  lt (w.1 7 (1 : Int32).toNatClampNeg : Int32) fun v_4 =>
  gd (¬ (x1 + x2) = 0) <|
  lt (((v_2 + v_4) * x2) / (x1 + x2) : Int32) fun v_6 =>
  some v_6
def f_X11_liesIn (x1 : Int32) (w : Mem) : Option (Int32) :=
  gd (inb 0 2 = true) <|
  lt (w.1 7 (0 : Int32).toNatClampNeg : Int32) fun v_2 =>
  gd (inb 1 2 = true) <|
  lt (w.1 7 (1 : Int32).toNatClampNeg : Int32) fun v_4 =>
  lt (v_2 + v_4 : Int32) fun v_5 =>
  lt (if x1 ≤ 0 then (if x1 ≤ (w.1 7 (0 : Int32).toNatClampNeg) then (if x1 = 0 then 2 else (if x1 = v_5 then 3 else 4)) else (if v_5 ≤ x1 then (if x1 = 0 then 2 else (if x1 = v_5 then 3 else 4)) else 1)) else (if (w.1 7 (0 : Int32).toNatClampNeg) ≤ x1 then (if x1 ≤ (w.1 7 (0 : Int32).toNatClampNeg) then (if x1 = 0 then 2 else (if x1 = v_5 then 3 else 4)) else (if v_5 ≤ x1 then (if x1 = 0 then 2 else (if x1 = v_5 then 3 else 4)) else 1)) else 0) : Int32) fun v_6 =>
  some v_6
def f_X11_cloth (x1 : Int32) (x2 : Int32) (w : Mem) : Option (Int32 × Mem) :=
  bd (f_X11_in x1 0 1) fun r_1 =>
  if r_1 = 0 then
    (some ((-1), w))
  else
    (bd (f_X11_in x2 0 60) fun r_4 =>
    if r_4 = 0 then
      (some ((-1), w))
    else
      (gd (inb x1 2 = true) <|
      lt (w.1 7 x1.toNatClampNeg : Int32) fun v_8 =>
      lt (mS w 7 x1.toNatClampNeg x2) fun w_9 =>
      some (v_8, w_9)))
def f_X11_tensions (x1 : Int32) (x2 : Int32) (w : Mem) : Option (Int32 × Mem) :=
  bd (f_X11_in x1 1 99) fun r_1 =>
  if r_1 = 0 then
    (some ((-1), w))
  else
    (bd (f_X11_in x2 1 99) fun r_4 =>
    if r_4 = 0 then
      (some ((-1), w))
    else
      (lt (mS w 0 11 x1) fun w_7 =>
      lt (mS w_7 0 12 x2) fun w_8 =>
      bd (f_X11_lockOf x1 x2 w_8) fun r_9 =>
      some (r_9, w_8)))
def f_X11_lock (w : Mem) : Option (Int32) :=
  bd (f_X11_lockOf (w.1 0 11) (w.1 0 12) w) fun r_1 =>
  bd (f_X11_liesIn r_1 w) fun r_3 =>
  some r_3
def f_X11_tune_L22 (w : Mem) (x1 : Int32) (x2_4 : Int32) : Nat → Int32 → Option (Sum (Int32) (Unit))
  | 0, _ => none
  | n + 1, x3_7 =>
    if x2_4 ≤ x3_7 then
      (some (.inr ()))
    else
      (if 99 < x3_7 then
        (some (.inr ()))
      else
        (if 99 < (x2_4 - x3_7) then
          (lt (x3_7 + 1 : Int32) fun x3_12 =>
          f_X11_tune_L22 w x1 x2_4 n x3_12)
        else
          (bd (f_X11_lockOf x3_7 (x2_4 - x3_7) w) fun r_13 =>
          bd (f_X11_liesIn r_13 w) fun r_15 =>
          if r_15 = x1 then
            (lt (((100 * x3_7) + x2_4) - x3_7 : Int32) fun v_19 =>
            some (.inl v_19))
          else
            (lt (x3_7 + 1 : Int32) fun x3_18 =>
            f_X11_tune_L22 w x1 x2_4 n x3_18))))
theorem f_X11_tune_L22_s (w : Mem) (x1 : Int32) (x2_4 : Int32) (n : Nat) (x3_7 : Int32) : f_X11_tune_L22 w x1 x2_4 (n + 1) x3_7 =
    (if x2_4 ≤ x3_7 then
      (some (.inr ()))
    else
      (if 99 < x3_7 then
        (some (.inr ()))
      else
        (if 99 < (x2_4 - x3_7) then
          (lt (x3_7 + 1 : Int32) fun x3_12 =>
          f_X11_tune_L22 w x1 x2_4 n x3_12)
        else
          (bd (f_X11_lockOf x3_7 (x2_4 - x3_7) w) fun r_13 =>
          bd (f_X11_liesIn r_13 w) fun r_15 =>
          if r_15 = x1 then
            (lt (((100 * x3_7) + x2_4) - x3_7 : Int32) fun v_19 =>
            some (.inl v_19))
          else
            (lt (x3_7 + 1 : Int32) fun x3_18 =>
            f_X11_tune_L22 w x1 x2_4 n x3_18))))) := rfl
def f_X11_tune_L13 (w : Mem) (x1 : Int32) : Nat → Int32 → Option (Sum (Int32) (Unit))
  | 0, _ => none
  | n + 1, x2_4 =>
    if 198 < x2_4 then
      (some (.inr ()))
    else
      (bd (f_X11_tune_L22 w x1 x2_4 FU 1) fun ex => sm ex (fun ret => .inl ret) fun _ =>
      lt (x2_4 + 1 : Int32) fun x2_22 =>
      f_X11_tune_L13 w x1 n x2_22)
theorem f_X11_tune_L13_s (w : Mem) (x1 : Int32) (n : Nat) (x2_4 : Int32) : f_X11_tune_L13 w x1 (n + 1) x2_4 =
    (if 198 < x2_4 then
      (some (.inr ()))
    else
      (bd (f_X11_tune_L22 w x1 x2_4 FU 1) fun ex => sm ex (fun ret => .inl ret) fun _ =>
      lt (x2_4 + 1 : Int32) fun x2_22 =>
      f_X11_tune_L13 w x1 n x2_22)) := rfl
def f_X11_tune (x1 : Int32) (w : Mem) : Option (Int32) :=
  bd (f_X11_in x1 0 1) fun r_1 =>
  if r_1 = 0 then
    (some (-1))
  else
    (bd (f_X11_tune_L13 w x1 FU 2) fun ex => sm ex (fun ret => ret) fun _ =>
    some (-4))
def f_X11_wind (x1 : Int32) (x2 : Int32) (w : Mem) : Option (Int32 × Mem) :=
  bd (f_X11_in x1 0 1000000) fun r_1 =>
  if r_1 = 0 then
    (some ((-1), w))
  else
    (bd (f_X11_in x2 0 1000000) fun r_4 =>
    if r_4 = 0 then
      (some ((-1), w))
    else
      (lt (mS w 0 13 x1) fun w_7 =>
      lt (mS w_7 0 14 x2) fun w_8 =>
      some (0, w_8)))
def f_X11_thread (x1 : Int32) (w : Mem) : Option (Int32) :=
  lt (if x1 = 0 then (w.1 0 13) else (if x1 = 1 then (w.1 0 14) else (-1)) : Int32) fun v_1 =>
  some v_1
def f_X11_step (x1 : Int32) (x2 : Int32) (w : Mem) : Option (Int32 × Mem) :=
  lt (fun (t_2 : Int32) => (if t_2 = 0 then
      (some ((-1), w))
    else
      (if (w.1 0 15) = 20 then
        (some ((-2), w))
      else
        (gd (inb (w.1 0 15) 20 = true) <|
        lt (mS w 8 ((w.1 0 15).toNatClampNeg) x1) fun w_6 =>
        gd (inb (w_6.1 0 15) 20 = true) <|
        lt (mS w_6 9 ((w_6.1 0 15).toNatClampNeg) x2) fun w_8 =>
        lt (mS w_8 0 15 ((w_8.1 0 15) + 1)) fun w_9 =>
        some (w_9.1 0 15, w_9)))
    : Option (Int32 × Mem))) fun k_1 =>
  if x1 = 0 then
    (bd (f_X11_in x2 0 7) fun r_19 =>
    k_1 r_19)
  else
    (if x1 = 1 then
      (bd (f_X11_in x2 1 200) fun r_17 =>
      k_1 r_17)
    else
      (if x1 = 2 then
        (bd (f_X11_in x2 1 3) fun r_15 =>
        k_1 r_15)
      else
        (if x1 = 3 then
          (if x2 = 0 then
            (k_1 1)
          else
            (k_1 0))
        else
          (k_1 0))))
def f_X11_stepless (w : Mem) : Option (Int32 × Mem) :=
  lt (w.1 0 15 : Int32) fun v_1 =>
  lt (mS w 0 15 0) fun w_2 =>
  some (v_1, w_2)
def f_X11_sews_L321 (w_36 : Mem) : Nat → Int32 → Int32 → Option (Int32)
  | 0, _, _ => none
  | n + 1, x7_39, x8_40 =>
    if (w_36.1 0 46) ≤ x8_40 then
      (some x7_39)
    else
      (if x7_39 = 0 then
        (gd (inb x8_40 600 = true) <|
        lt (w_36.1 11 x8_40.toNatClampNeg : Int32) fun v_46 =>
        lt (if v_46 = (w_36.1 0 47) then (if (w_36.1 12 x8_40.toNatClampNeg) = (w_36.1 0 48) then 1 else 0) else 0 : Int32) fun v_47 =>
        lt (x8_40 + 1 : Int32) fun x8_49 =>
        f_X11_sews_L321 w_36 n v_47 x8_49)
      else
        (lt (x8_40 + 1 : Int32) fun x8_44 =>
        f_X11_sews_L321 w_36 n 1 x8_44))
theorem f_X11_sews_L321_s (w_36 : Mem) (n : Nat) (x7_39 : Int32) (x8_40 : Int32) : f_X11_sews_L321 w_36 (n + 1) x7_39 x8_40 =
    (if (w_36.1 0 46) ≤ x8_40 then
      (some x7_39)
    else
      (if x7_39 = 0 then
        (gd (inb x8_40 600 = true) <|
        lt (w_36.1 11 x8_40.toNatClampNeg : Int32) fun v_46 =>
        lt (if v_46 = (w_36.1 0 47) then (if (w_36.1 12 x8_40.toNatClampNeg) = (w_36.1 0 48) then 1 else 0) else 0 : Int32) fun v_47 =>
        lt (x8_40 + 1 : Int32) fun x8_49 =>
        f_X11_sews_L321 w_36 n v_47 x8_49)
      else
        (lt (x8_40 + 1 : Int32) fun x8_44 =>
        f_X11_sews_L321 w_36 n 1 x8_44))) := rfl
def f_X11_sews (w : Mem) : Option (Int32 × Mem) :=
  lt (672 + (w.1 0 52) : Int32) fun v_1 =>
  gd (inb v_1 720 = true) <|
  lt ((w.1 4 v_1.toNatClampNeg) - (w.1 0 51) : Int32) fun v_3 =>
  lt (if (w.1 0 50) = 0 then (w.1 5 v_1.toNatClampNeg) else (-(w.1 5 v_1.toNatClampNeg)) : Int32) fun v_4 =>
  bd (f_X11_lockOf (w.1 0 11) (w.1 0 12) w) fun r_6 =>
  bd (f_X11_away v_3) fun r_8 =>
  bd (f_X11_away v_4) fun r_10 =>
  lt ((r_8 + r_10) + (2 * r_6) : Int32) fun v_12 =>
  bd (f_X11_away v_3) fun r_13 =>
  bd (f_X11_away v_4) fun r_15 =>
  gd (inb 0 2 = true) <|
  lt (w.1 7 (0 : Int32).toNatClampNeg : Int32) fun v_18 =>
  gd (inb 1 2 = true) <|
  lt (w.1 7 (1 : Int32).toNatClampNeg : Int32) fun v_20 =>
  lt (2 * ((v_18 + v_20) - r_6) : Int32) fun v_21 =>
  lt ((r_13 + r_15) + v_21 : Int32) fun v_22 =>
  lt (if (w.1 0 46) = 600 then 3 else (if v_12 ≤ (w.1 0 13) then (if v_22 ≤ (w.1 0 14) then 0 else 2) else 1) : Int32) fun v_23 =>
  lt (mS w 0 53 v_23) fun w_25 =>
  if (w_25.1 0 53) = 0 then
    (lt (mS w_25 0 13 ((w_25.1 0 13) - v_12)) fun w_27 =>
    lt (mS w_27 0 14 ((w_27.1 0 14) - v_22)) fun w_28 =>
    lt (mS w_28 0 55 ((w_28.1 0 55) + v_12)) fun w_29 =>
    lt (mS w_29 0 56 ((w_29.1 0 56) + v_22)) fun w_30 =>
    lt (if (w_30.1 0 49) = 0 then v_3 else (if (w_30.1 0 49) = 1 then (-v_4) else (if (w_30.1 0 49) = 2 then (-v_3) else v_4)) : Int32) fun v_31 =>
    lt (mS w_30 0 47 ((w_30.1 0 47) + v_31)) fun w_33 =>
    lt (if (w_33.1 0 49) = 0 then v_4 else (if (w_33.1 0 49) = 1 then v_3 else (if (w_33.1 0 49) = 2 then (-v_4) else (-v_3))) : Int32) fun v_34 =>
    lt (mS w_33 0 48 ((w_33.1 0 48) + v_34)) fun w_36 =>
    lt (if (w_36.1 0 47) = 0 then (if (w_36.1 0 48) = 0 then 1 else 0) else 0 : Int32) fun v_37 =>
    bd (f_X11_sews_L321 w_36 FU v_37 0) fun x7_54 =>
    lt (if x7_54 = 0 then 0 else 1 : Int32) fun v_55 =>
    lt (mS w_36 0 54 ((w_36.1 0 54) + v_55)) fun w_57 =>
    gd (inb (w_57.1 0 46) 600 = true) <|
    lt (mS w_57 11 ((w_57.1 0 46).toNatClampNeg) (w_57.1 0 47)) fun w_59 =>
    gd (inb (w_59.1 0 46) 600 = true) <|
    lt (mS w_59 12 ((w_59.1 0 46).toNatClampNeg) (w_59.1 0 48)) fun w_61 =>
    lt (mS w_61 0 46 ((w_61.1 0 46) + 1)) fun w_62 =>
    lt (w_62.1 4 v_1.toNatClampNeg : Int32) fun v_63 =>
    lt (mS w_62 0 51 v_63) fun w_64 =>
    gd (inb 14 15 = true) <|
    lt (w_64.1 3 (14 : Int32).toNatClampNeg : Int32) fun v_66 =>
    gd (¬ v_66 = 0) <|
    lt (irm ((w_64.1 0 52) + 1) v_66) fun v_68 =>
    lt (mS w_64 0 52 v_68) fun w_69 =>
    some (1, w_69))
  else
    (some (0, w_25))
def f_X11_ends_L59 (x2 : Int32) : Nat → Int32 → Mem → Option (Sum (Int32 × Mem) (Mem))
  | 0, _, _ => none
  | n + 1, x3_14, w_15 =>
    if x2 ≤ x3_14 then
      (some (.inr w_15))
    else
      (b2 (f_X11_sews w_15) fun r_18 w_20 =>
      if r_18 = 0 then
        (some (.inl (0, w_20)))
      else
        (lt (x3_14 + 1 : Int32) fun x3_22 =>
        f_X11_ends_L59 x2 n x3_22 w_20))
theorem f_X11_ends_L59_s (x2 : Int32) (n : Nat) (x3_14 : Int32) (w_15 : Mem) : f_X11_ends_L59 x2 (n + 1) x3_14 w_15 =
    (if x2 ≤ x3_14 then
      (some (.inr w_15))
    else
      (b2 (f_X11_sews w_15) fun r_18 w_20 =>
      if r_18 = 0 then
        (some (.inl (0, w_20)))
      else
        (lt (x3_14 + 1 : Int32) fun x3_22 =>
        f_X11_ends_L59 x2 n x3_22 w_20))) := rfl
def f_X11_ends (x1 : Int32) (x2 : Int32) (w : Mem) : Option (Int32 × Mem) :=
  if x1 = 0 then
    (gd (inb x2 15 = true) <|
    if (w.1 3 x2.toNatClampNeg) = 0 then
      (lt (mS w 0 53 4) fun w_33 =>
      some (0, w_33))
    else
      (bd (f_X11_copies x2 14 w) fun w_31 =>
      lt (mS w_31 0 52 0) fun w_32 =>
      some (1, w_32)))
  else
    (if x1 = 1 then
      (gd (inb 14 15 = true) <|
      lt (w.1 3 (14 : Int32).toNatClampNeg : Int32) fun v_12 =>
      if v_12 = 0 then
        (lt (mS w 0 53 4) fun w_26 =>
        some (0, w_26))
      else
        (bd (f_X11_ends_L59 x2 FU 0 w) fun ex => sm ex (fun ret => ret) fun w_25 =>
        some (1, w_25)))
    else
      (if x1 = 2 then
        (lt (irm ((w.1 0 49) + x2) 4) fun v_9 =>
        lt (mS w 0 49 v_9) fun w_10 =>
        some (1, w_10))
      else
        (lt (if (w.1 0 50) = 0 then 1 else 0 : Int32) fun v_4 =>
        gd (bz v_4 = true) <|
        lt (mS w 0 50 v_4) fun w_7 =>
        some (1, w_7))))
def f_X11_sew_L88 : Nat → Int32 → Mem → Option (Int32 × Mem)
  | 0, _, _ => none
  | n + 1, x1_16, w_17 =>
    if (w_17.1 0 15) ≤ x1_16 then
      (some (x1_16, w_17))
    else
      (gd (inb x1_16 20 = true) <|
      lt (w_17.1 8 x1_16.toNatClampNeg : Int32) fun v_21 =>
      lt (w_17.1 9 x1_16.toNatClampNeg : Int32) fun v_22 =>
      b2 (f_X11_ends v_21 v_22 w_17) fun r_23 w_25 =>
      if r_23 = 0 then
        (some (x1_16, w_25))
      else
        (lt (x1_16 + 1 : Int32) fun x1_27 =>
        f_X11_sew_L88 n x1_27 w_25))
theorem f_X11_sew_L88_s (n : Nat) (x1_16 : Int32) (w_17 : Mem) : f_X11_sew_L88 (n + 1) x1_16 w_17 =
    (if (w_17.1 0 15) ≤ x1_16 then
      (some (x1_16, w_17))
    else
      (gd (inb x1_16 20 = true) <|
      lt (w_17.1 8 x1_16.toNatClampNeg : Int32) fun v_21 =>
      lt (w_17.1 9 x1_16.toNatClampNeg : Int32) fun v_22 =>
      b2 (f_X11_ends v_21 v_22 w_17) fun r_23 w_25 =>
      if r_23 = 0 then
        (some (x1_16, w_25))
      else
        (lt (x1_16 + 1 : Int32) fun x1_27 =>
        f_X11_sew_L88 n x1_27 w_25))) := rfl
def f_X11_sew (w : Mem) : Option (Int32 × Mem) :=
  lt (mS w 0 46 0) fun w_1 =>
  lt (mS w_1 0 47 0) fun w_2 =>
  lt (mS w_2 0 48 0) fun w_3 =>
  lt (mS w_3 0 49 0) fun w_4 =>
  lt (mS w_4 0 50 0) fun w_5 =>
  gd (inb 14 15 = true) <|
  lt (w_5.1 3 (14 : Int32).toNatClampNeg : Int32) fun v_7 =>
  lt (fun (t_9 : Int32) => (lt (mS w_5 0 51 t_9) fun w_10 =>
    lt (mS w_10 0 52 0) fun w_11 =>
    lt (mS w_11 0 53 0) fun w_12 =>
    lt (mS w_12 0 54 0) fun w_13 =>
    lt (mS w_13 0 55 0) fun w_14 =>
    lt (mS w_14 0 56 0) fun w_15 =>
    bd (f_X11_sew_L88 FU 0 w_15) fun ex => tp2 ex fun x1_30 w_31 =>
    lt (mS w_31 0 18 1) fun w_32 =>
    gd (inb 0 10 = true) <|
    lt (mS w_32 10 ((0 : Int32).toNatClampNeg) (w_32.1 0 46)) fun w_34 =>
    gd (inb 1 10 = true) <|
    lt (mS w_34 10 ((1 : Int32).toNatClampNeg) (w_34.1 0 47)) fun w_36 =>
    gd (inb 2 10 = true) <|
    lt (mS w_36 10 ((2 : Int32).toNatClampNeg) (w_36.1 0 48)) fun w_38 =>
    gd (inb 3 10 = true) <|
    lt (mS w_38 10 ((3 : Int32).toNatClampNeg) (w_38.1 0 49)) fun w_40 =>
    lt (if (w_40.1 0 50) = 0 then 0 else 1 : Int32) fun v_41 =>
    gd (inb 4 10 = true) <|
    lt (mS w_40 10 ((4 : Int32).toNatClampNeg) v_41) fun w_44 =>
    gd (inb 5 10 = true) <|
    lt (mS w_44 10 ((5 : Int32).toNatClampNeg) (w_44.1 0 53)) fun w_46 =>
    gd (inb 6 10 = true) <|
    lt (mS w_46 10 ((6 : Int32).toNatClampNeg) (w_46.1 0 54)) fun w_48 =>
    gd (inb 7 10 = true) <|
    lt (mS w_48 10 ((7 : Int32).toNatClampNeg) (w_48.1 0 55)) fun w_50 =>
    gd (inb 8 10 = true) <|
    lt (mS w_50 10 ((8 : Int32).toNatClampNeg) (w_50.1 0 56)) fun w_52 =>
    gd (inb 9 10 = true) <|
    lt (mS w_52 10 ((9 : Int32).toNatClampNeg) x1_30) fun w_54 =>
    some (w_54.1 0 46, w_54)
    : Option (Int32 × Mem))) fun k_8 =>
  if v_7 = 0 then
    (k_8 0)
  else
    (lt (w_5.1 3 (14 : Int32).toNatClampNeg : Int32) fun v_57 =>
    gd (inb ((672 + v_57) - 1) 720 = true) <|
    lt (w_5.1 4 ((672 + v_57) - 1).toNatClampNeg : Int32) fun v_59 =>
    k_8 v_59)
def f_X11_seam (x1 : Int32) (w : Mem) : Option (Int32 × Mem) :=
  bd (f_X11_in x1 0 9) fun r_1 =>
  lt (if r_1 = 0 then 1 else (if (w.1 0 18) = 0 then 2 else 0) : Int32) fun v_3 =>
  lt (mS w 0 0 v_3) fun w_5 =>
  if (w_5.1 0 0) = 0 then
    (gd (inb x1 10 = true) <|
    lt (w_5.1 10 x1.toNatClampNeg : Int32) fun v_8 =>
    some (v_8, w_5))
  else
    (some (0, w_5))
def f_X11_sewn (x1 : Int32) (x2 : Int32) (w : Mem) : Option (Int32 × Mem) :=
  bd (f_X11_in x2 0 1) fun r_1 =>
  lt (fun (t_4 : Int32) => (lt (mS w 0 0 t_4) fun w_5 =>
    if (w_5.1 0 0) = 0 then
      (if x2 = 0 then
        (gd (inb x1 600 = true) <|
        lt (w_5.1 11 x1.toNatClampNeg : Int32) fun v_11 =>
        some (v_11, w_5))
      else
        (gd (inb x1 600 = true) <|
        lt (w_5.1 12 x1.toNatClampNeg : Int32) fun v_9 =>
        some (v_9, w_5)))
    else
      (some (0, w_5))
    : Option (Int32 × Mem))) fun k_3 =>
  if r_1 = 0 then
    (k_3 1)
  else
    (if (w.1 0 18) = 0 then
      (k_3 2)
    else
      (gd (inb 0 10 = true) <|
      lt (w.1 10 (0 : Int32).toNatClampNeg : Int32) fun v_15 =>
      bd (f_X11_in x1 0 (v_15 - 1)) fun r_16 =>
      if r_16 = 0 then
        (k_3 2)
      else
        (k_3 0)))
def f_X11_lacksRim (x1 : Int32) (x2 : Int32) (w : Mem) : Option (Int32 × Mem) :=
  bd (f_X11_isTape x1) fun r_1 =>
  if r_1 = 0 then
    (some ((-1), w))
  else
    (if x2 = 0 then
      (some ((-1), w))
    else
      (gd (inb x1 6 = true) <|
      if (w.1 15 x1.toNatClampNeg) = 0 then
        (b2 (f_X11_refuse (-11) w) fun r_16 w_18 =>
        some (r_16, w_18))
      else
        (if (w.1 15 x1.toNatClampNeg) = 1 then
          (bd (f_X11_in (w.1 16 x1.toNatClampNeg) 1 48) fun r_8 =>
          lt (if r_8 = 0 then (-4) else 0 : Int32) fun v_10 =>
          some (v_10, w))
        else
          (b2 (f_X11_refuse (-12) w) fun r_13 w_15 =>
          some (r_13, w_15)))))
def f_X11_isNamed_L11 (w : Mem) (x1 : Int32) (x2 : Int32) (x3 : Int32) (x4 : Int32) (x5 : Int32) (v_2 : Int32) : Nat → Int32 → Option (Sum (Int32) (Unit))
  | 0, _ => none
  | n + 1, x7_3 =>
    gd (inb x1 6 = true) <|
    if (w.1 16 x1.toNatClampNeg) ≤ x7_3 then
      (some (.inr ()))
    else
      (gd (inb ((400 * x1) + x7_3) 2400 = true) <|
      lt (w.2 17 ((400 * x1) + x7_3).toNatClampNeg : Int64) fun v_8 =>
      lt (v_8.toInt32 : Int32) fun v_9 =>
      gd (¬ v_2 = 0) <|
      lt (irm (x5 + (x4 * x7_3)) v_2) fun v_11 =>
      lt (if 0 ≤ v_11 then v_11 else (v_11 + v_2) : Int32) fun v_12 =>
      gd (inb ((48 * x3) + v_12) 720 = true) <|
      lt (w.1 4 ((48 * x3) + v_12).toNatClampNeg : Int32) fun v_15 =>
      if v_9 = (-128) then
        (lt (x7_3 + 1 : Int32) fun x7_17 =>
        f_X11_isNamed_L11 w x1 x2 x3 x4 x5 v_2 n x7_17)
      else
        (bd (f_X11_in v_9 (v_15 - x2) v_15) fun r_18 =>
        if r_18 = 0 then
          (some (.inl 0))
        else
          (lt (x7_3 + 1 : Int32) fun x7_21 =>
          f_X11_isNamed_L11 w x1 x2 x3 x4 x5 v_2 n x7_21)))
theorem f_X11_isNamed_L11_s (w : Mem) (x1 : Int32) (x2 : Int32) (x3 : Int32) (x4 : Int32) (x5 : Int32) (v_2 : Int32) (n : Nat) (x7_3 : Int32) : f_X11_isNamed_L11 w x1 x2 x3 x4 x5 v_2 (n + 1) x7_3 =
    (gd (inb x1 6 = true) <|
    if (w.1 16 x1.toNatClampNeg) ≤ x7_3 then
      (some (.inr ()))
    else
      (gd (inb ((400 * x1) + x7_3) 2400 = true) <|
      lt (w.2 17 ((400 * x1) + x7_3).toNatClampNeg : Int64) fun v_8 =>
      lt (v_8.toInt32 : Int32) fun v_9 =>
      gd (¬ v_2 = 0) <|
      lt (irm (x5 + (x4 * x7_3)) v_2) fun v_11 =>
      lt (if 0 ≤ v_11 then v_11 else (v_11 + v_2) : Int32) fun v_12 =>
      gd (inb ((48 * x3) + v_12) 720 = true) <|
      lt (w.1 4 ((48 * x3) + v_12).toNatClampNeg : Int32) fun v_15 =>
      if v_9 = (-128) then
        (lt (x7_3 + 1 : Int32) fun x7_17 =>
        f_X11_isNamed_L11 w x1 x2 x3 x4 x5 v_2 n x7_17)
      else
        (bd (f_X11_in v_9 (v_15 - x2) v_15) fun r_18 =>
        if r_18 = 0 then
          (some (.inl 0))
        else
          (lt (x7_3 + 1 : Int32) fun x7_21 =>
          f_X11_isNamed_L11 w x1 x2 x3 x4 x5 v_2 n x7_21)))) := rfl
def f_X11_isNamed (x1 : Int32) (x2 : Int32) (x3 : Int32) (x4 : Int32) (x5 : Int32) (w : Mem) : Option (Int32) :=
  gd (inb x3 15 = true) <|
  lt (w.1 3 x3.toNatClampNeg : Int32) fun v_2 =>
  bd (f_X11_isNamed_L11 w x1 x2 x3 x4 x5 v_2 FU 0) fun ex => sm ex (fun ret => ret) fun _ =>
  some 1
def f_X11_namesOf_L30 (x1 : Int32) (x2 : Int32) (x3 : Int32) (x5_3 : Int32) (x6_8 : Int32) : Nat → Int32 → Int32 → Mem → Option (Int32 × Mem)
  | 0, _, _, _ => none
  | n + 1, x4_12, x7_13, w_14 =>
    gd (inb x5_3 15 = true) <|
    lt (w_14.1 3 x5_3.toNatClampNeg : Int32) fun v_17 =>
    if v_17 ≤ x7_13 then
      (some (x4_12, w_14))
    else
      (lt (if x6_8 = 0 then 1 else (-1) : Int32) fun v_19 =>
      bd (f_X11_isNamed x1 x2 x5_3 v_19 x7_13 w_14) fun r_21 =>
      if r_21 = 0 then
        (lt (x7_13 + 1 : Int32) fun x7_24 =>
        f_X11_namesOf_L30 x1 x2 x3 x5_3 x6_8 n x4_12 x7_24 w_14)
      else
        (lt (if x4_12 = x3 then (((1000 * x5_3) + (100 * x6_8)) + x7_13) else (w_14.1 0 57) : Int32) fun v_25 =>
        lt (mS w_14 0 57 v_25) fun w_27 =>
        lt (x4_12 + 1 : Int32) fun x4_28 =>
        lt (x7_13 + 1 : Int32) fun x7_29 =>
        f_X11_namesOf_L30 x1 x2 x3 x5_3 x6_8 n x4_28 x7_29 w_27))
theorem f_X11_namesOf_L30_s (x1 : Int32) (x2 : Int32) (x3 : Int32) (x5_3 : Int32) (x6_8 : Int32) (n : Nat) (x4_12 : Int32) (x7_13 : Int32) (w_14 : Mem) : f_X11_namesOf_L30 x1 x2 x3 x5_3 x6_8 (n + 1) x4_12 x7_13 w_14 =
    (gd (inb x5_3 15 = true) <|
    lt (w_14.1 3 x5_3.toNatClampNeg : Int32) fun v_17 =>
    if v_17 ≤ x7_13 then
      (some (x4_12, w_14))
    else
      (lt (if x6_8 = 0 then 1 else (-1) : Int32) fun v_19 =>
      bd (f_X11_isNamed x1 x2 x5_3 v_19 x7_13 w_14) fun r_21 =>
      if r_21 = 0 then
        (lt (x7_13 + 1 : Int32) fun x7_24 =>
        f_X11_namesOf_L30 x1 x2 x3 x5_3 x6_8 n x4_12 x7_24 w_14)
      else
        (lt (if x4_12 = x3 then (((1000 * x5_3) + (100 * x6_8)) + x7_13) else (w_14.1 0 57) : Int32) fun v_25 =>
        lt (mS w_14 0 57 v_25) fun w_27 =>
        lt (x4_12 + 1 : Int32) fun x4_28 =>
        lt (x7_13 + 1 : Int32) fun x7_29 =>
        f_X11_namesOf_L30 x1 x2 x3 x5_3 x6_8 n x4_28 x7_29 w_27))) := rfl
def f_X11_namesOf_L21 (x1 : Int32) (x2 : Int32) (x3 : Int32) (x5_3 : Int32) : Nat → Int32 → Int32 → Mem → Option (Int32 × Mem)
  | 0, _, _, _ => none
  | n + 1, x4_7, x6_8, w_9 =>
    if 2 ≤ x6_8 then
      (some (x4_7, w_9))
    else
      (bd (f_X11_namesOf_L30 x1 x2 x3 x5_3 x6_8 FU x4_7 0 w_9) fun ex => tp2 ex fun x4_34 w_35 =>
      lt (x6_8 + 1 : Int32) fun x6_36 =>
      f_X11_namesOf_L21 x1 x2 x3 x5_3 n x4_34 x6_36 w_35)
theorem f_X11_namesOf_L21_s (x1 : Int32) (x2 : Int32) (x3 : Int32) (x5_3 : Int32) (n : Nat) (x4_7 : Int32) (x6_8 : Int32) (w_9 : Mem) : f_X11_namesOf_L21 x1 x2 x3 x5_3 (n + 1) x4_7 x6_8 w_9 =
    (if 2 ≤ x6_8 then
      (some (x4_7, w_9))
    else
      (bd (f_X11_namesOf_L30 x1 x2 x3 x5_3 x6_8 FU x4_7 0 w_9) fun ex => tp2 ex fun x4_34 w_35 =>
      lt (x6_8 + 1 : Int32) fun x6_36 =>
      f_X11_namesOf_L21 x1 x2 x3 x5_3 n x4_34 x6_36 w_35)) := rfl
def f_X11_namesOf_L11 (x1 : Int32) (x2 : Int32) (x3 : Int32) : Nat → Int32 → Int32 → Mem → Option (Int32 × Mem)
  | 0, _, _, _ => none
  | n + 1, x4_2, x5_3, w_4 =>
    if 8 ≤ x5_3 then
      (some (x4_2, w_4))
    else
      (bd (f_X11_namesOf_L21 x1 x2 x3 x5_3 FU x4_2 0 w_4) fun ex => tp2 ex fun x4_39 w_40 =>
      lt (x5_3 + 1 : Int32) fun x5_41 =>
      f_X11_namesOf_L11 x1 x2 x3 n x4_39 x5_41 w_40)
theorem f_X11_namesOf_L11_s (x1 : Int32) (x2 : Int32) (x3 : Int32) (n : Nat) (x4_2 : Int32) (x5_3 : Int32) (w_4 : Mem) : f_X11_namesOf_L11 x1 x2 x3 (n + 1) x4_2 x5_3 w_4 =
    (if 8 ≤ x5_3 then
      (some (x4_2, w_4))
    else
      (bd (f_X11_namesOf_L21 x1 x2 x3 x5_3 FU x4_2 0 w_4) fun ex => tp2 ex fun x4_39 w_40 =>
      lt (x5_3 + 1 : Int32) fun x5_41 =>
      f_X11_namesOf_L11 x1 x2 x3 n x4_39 x5_41 w_40)) := rfl
def f_X11_namesOf (x1 : Int32) (x2 : Int32) (x3 : Int32) (w : Mem) : Option (Int32 × Mem) :=
  lt (mS w 0 57 (-1)) fun w_1 =>
  bd (f_X11_namesOf_L11 x1 x2 x3 FU 0 0 w_1) fun ex => tp2 ex fun x4_44 w_45 =>
  some (x4_44, w_45)
def f_X11_names (x1 : Int32) (x2 : Int32) (w : Mem) : Option (Int32 × Mem) :=
  bd (f_X11_in x2 0 6) fun r_1 =>
  b2 (f_X11_lacksRim x1 r_1 w) fun r_3 w_5 =>
  if r_3 = 0 then
    (b2 (f_X11_namesOf x1 x2 (-1) w_5) fun r_7 w_9 =>
    some (r_7, w_9))
  else
    (some (r_3, w_5))
def f_X11_name (x1 : Int32) (x2 : Int32) (x3 : Int32) (w : Mem) : Option (Int32 × Mem) :=
  bd (f_X11_in x2 0 6) fun r_1 =>
  lt (if r_1 = 0 then 0 else (if x3 < 0 then 0 else 1) : Int32) fun v_3 =>
  b2 (f_X11_lacksRim x1 v_3 w) fun r_5 w_7 =>
  if r_5 = 0 then
    (b2 (f_X11_namesOf x1 x2 x3 w_7) fun r_9 w_11 =>
    lt (if r_9 ≤ x3 then (-1) else (w_11.1 0 57) : Int32) fun v_12 =>
    some (v_12, w_11))
  else
    (some (r_5, w_7))
def f_X11_wear_L15 (x1 : Int32) : Nat → Int32 → Mem → Option (Sum (Int32 × Mem) (Mem))
  | 0, _, _ => none
  | n + 1, x3_5, w_6 =>
    if 6 < x3_5 then
      (some (.inr w_6))
    else
      (b2 (f_X11_namesOf x1 x3_5 (-1) w_6) fun r_9 w_11 =>
      if r_9 ≤ 0 then
        (lt (x3_5 + 1 : Int32) fun x3_13 =>
        f_X11_wear_L15 x1 n x3_13 w_11)
      else
        (some (.inl (x3_5, w_11))))
theorem f_X11_wear_L15_s (x1 : Int32) (n : Nat) (x3_5 : Int32) (w_6 : Mem) : f_X11_wear_L15 x1 (n + 1) x3_5 w_6 =
    (if 6 < x3_5 then
      (some (.inr w_6))
    else
      (b2 (f_X11_namesOf x1 x3_5 (-1) w_6) fun r_9 w_11 =>
      if r_9 ≤ 0 then
        (lt (x3_5 + 1 : Int32) fun x3_13 =>
        f_X11_wear_L15 x1 n x3_13 w_11)
      else
        (some (.inl (x3_5, w_11))))) := rfl
def f_X11_wear (x1 : Int32) (w : Mem) : Option (Int32 × Mem) :=
  b2 (f_X11_lacksRim x1 1 w) fun r_1 w_3 =>
  if r_1 = 0 then
    (bd (f_X11_wear_L15 x1 FU 0 w_3) fun ex => sm ex (fun ret => ret) fun w_16 =>
    some ((-4), w_16))
  else
    (some (r_1, w_3))
def f_X11_outcomeOf (x0 : Int32) (x1 : Int32) : Option (Int32) :=
  lt ((x0 / 308) - 4 : Int32) fun v_1 =>
  lt (irm (x0 / 44) 7) fun v_2 =>
  lt (v_2 - 3 : Int32) fun v_3 =>
  lt (irm (x0 / 11) 4) fun v_4 =>
  lt (irm x0 11) fun v_5 =>
  lt (v_5 - 5 : Int32) fun v_6 =>
  lt ((x1 / 65) + 1 : Int32) fun v_7 =>
  lt (irm (x1 / 13) 5) fun v_8 =>
  lt (v_8 + 1 : Int32) fun v_9 =>
  lt (irm x1 13) fun v_10 =>
  lt (v_10 - 6 : Int32) fun v_11 =>
  bd (f_X11_away ((2 * v_1) + (v_3 * v_11))) fun r_12 =>
  if r_12 ≤ ((9 - v_4) - v_7) then
    (if (10 * v_6) ≤ (6 * v_9) then
      (if ((-6) * v_9) ≤ (10 * v_6) then
        (bd (f_X11_away v_3) fun r_17 =>
        if r_17 = 3 then
          (if v_7 < 4 then
            (some 0)
          else
            (bd (f_X11_away v_11) fun r_21 =>
            lt (if r_21 < 4 then 0 else 4 : Int32) fun v_23 =>
            some v_23))
        else
          (some 0))
      else
        (some 2))
    else
      (some 3))
  else
    (some 1)
def f_X11_causes (x0 : Int32) : Option (Int32) :=
  lt (if (x0 / 308) = 4 then 0 else 1 : Int32) fun v_1 =>
  lt (irm (x0 / 44) 7) fun v_3 =>
  lt (if v_3 = 3 then 0 else 1 : Int32) fun v_4 =>
  lt (irm (x0 / 11) 4) fun v_6 =>
  lt (if v_6 = 0 then 0 else 1 : Int32) fun v_7 =>
  lt (irm x0 11) fun v_9 =>
  lt (if v_9 = 5 then 0 else 1 : Int32) fun v_10 =>
  lt (((v_1 + v_4) + v_7) + v_10 : Int32) fun v_12 =>
  some v_12
def f_X11_outcome (x1 : Int32) (x2 : Int32) : Option (Int32) :=
  bd (f_X11_in x1 0 2771) fun r_1 =>
  if r_1 = 0 then
    (some (-1))
  else
    (bd (f_X11_in x2 0 324) fun r_4 =>
    if r_4 = 0 then
      (some (-1))
    else
      (bd (f_X11_outcomeOf x1 x2) fun r_7 =>
      some r_7))
def f_X11_note (x1 : Int32) (x2 : Int32) (w : Mem) : Option (Int32 × Mem) :=
  bd (f_X11_in x1 0 324) fun r_1 =>
  if r_1 = 0 then
    (some ((-1), w))
  else
    (bd (f_X11_in x2 0 4) fun r_4 =>
    if r_4 = 0 then
      (some ((-1), w))
    else
      (if (w.1 0 22) = 24 then
        (some ((-2), w))
      else
        (gd (inb (w.1 0 22) 24 = true) <|
        lt (mS w 13 ((w.1 0 22).toNatClampNeg) x1) fun w_9 =>
        gd (inb (w_9.1 0 22) 24 = true) <|
        lt (mS w_9 14 ((w_9.1 0 22).toNatClampNeg) x2) fun w_11 =>
        lt (mS w_11 0 22 ((w_11.1 0 22) + 1)) fun w_12 =>
        some (w_12.1 0 22, w_12))))
def f_X11_noteless (w : Mem) : Option (Int32 × Mem) :=
  lt (w.1 0 22 : Int32) fun v_1 =>
  lt (mS w 0 22 0) fun w_2 =>
  some (v_1, w_2)
def f_X11_lefts_L31 (x2_2 : Int32) (w_3 : Mem) : Nat → Int32 → Int32 → Option (Int32)
  | 0, _, _ => none
  | n + 1, x3_10, x4_11 =>
    if (w_3.1 0 22) ≤ x4_11 then
      (some x3_10)
    else
      (if x3_10 = 0 then
        (some x3_10)
      else
        (gd (inb x4_11 24 = true) <|
        lt (w_3.1 13 x4_11.toNatClampNeg : Int32) fun v_16 =>
        bd (f_X11_outcomeOf x2_2 v_16) fun r_17 =>
        lt (w_3.1 14 x4_11.toNatClampNeg : Int32) fun v_19 =>
        lt (if r_17 = v_19 then 1 else 0 : Int32) fun v_20 =>
        lt (x4_11 + 1 : Int32) fun x4_22 =>
        f_X11_lefts_L31 x2_2 w_3 n v_20 x4_22))
theorem f_X11_lefts_L31_s (x2_2 : Int32) (w_3 : Mem) (n : Nat) (x3_10 : Int32) (x4_11 : Int32) : f_X11_lefts_L31 x2_2 w_3 (n + 1) x3_10 x4_11 =
    (if (w_3.1 0 22) ≤ x4_11 then
      (some x3_10)
    else
      (if x3_10 = 0 then
        (some x3_10)
      else
        (gd (inb x4_11 24 = true) <|
        lt (w_3.1 13 x4_11.toNatClampNeg : Int32) fun v_16 =>
        bd (f_X11_outcomeOf x2_2 v_16) fun r_17 =>
        lt (w_3.1 14 x4_11.toNatClampNeg : Int32) fun v_19 =>
        lt (if r_17 = v_19 then 1 else 0 : Int32) fun v_20 =>
        lt (x4_11 + 1 : Int32) fun x4_22 =>
        f_X11_lefts_L31 x2_2 w_3 n v_20 x4_22))) := rfl
def f_X11_lefts_L7 (x1 : Int32) : Nat → Int32 → Mem → Option (Mem)
  | 0, _, _ => none
  | n + 1, x2_2, w_3 =>
    if 2772 ≤ x2_2 then
      (some w_3)
    else
      (bd (f_X11_causes x2_2) fun r_6 =>
      lt (if x1 < r_6 then 0 else 1 : Int32) fun v_8 =>
      bd (f_X11_lefts_L31 x2_2 w_3 FU v_8 0) fun x3_26 =>
      if x3_26 = 0 then
        (lt (x2_2 + 1 : Int32) fun x2_28 =>
        f_X11_lefts_L7 x1 n x2_28 w_3)
      else
        (gd (inb (w_3.1 0 59) 2772 = true) <|
        lt (mS w_3 24 ((w_3.1 0 59).toNatClampNeg) x2_2) fun w_30 =>
        lt (mS w_30 0 59 ((w_30.1 0 59) + 1)) fun w_31 =>
        lt (x2_2 + 1 : Int32) fun x2_32 =>
        f_X11_lefts_L7 x1 n x2_32 w_31))
theorem f_X11_lefts_L7_s (x1 : Int32) (n : Nat) (x2_2 : Int32) (w_3 : Mem) : f_X11_lefts_L7 x1 (n + 1) x2_2 w_3 =
    (if 2772 ≤ x2_2 then
      (some w_3)
    else
      (bd (f_X11_causes x2_2) fun r_6 =>
      lt (if x1 < r_6 then 0 else 1 : Int32) fun v_8 =>
      bd (f_X11_lefts_L31 x2_2 w_3 FU v_8 0) fun x3_26 =>
      if x3_26 = 0 then
        (lt (x2_2 + 1 : Int32) fun x2_28 =>
        f_X11_lefts_L7 x1 n x2_28 w_3)
      else
        (gd (inb (w_3.1 0 59) 2772 = true) <|
        lt (mS w_3 24 ((w_3.1 0 59).toNatClampNeg) x2_2) fun w_30 =>
        lt (mS w_30 0 59 ((w_30.1 0 59) + 1)) fun w_31 =>
        lt (x2_2 + 1 : Int32) fun x2_32 =>
        f_X11_lefts_L7 x1 n x2_32 w_31))) := rfl
def f_X11_lefts (x1 : Int32) (w : Mem) : Option (Mem) :=
  lt (mS w 0 59 0) fun w_1 =>
  bd (f_X11_lefts_L7 x1 FU 0 w_1) fun w_36 =>
  some w_36
def f_X11_shareOf_L2 : Nat → Int32 → Mem → Option (Mem)
  | 0, _, _ => none
  | n + 1, x2_1, w_2 =>
    if 5 ≤ x2_1 then
      (some w_2)
    else
      (gd (inb x2_1 5 = true) <|
      lt (mS w_2 25 x2_1.toNatClampNeg 0) fun w_6 =>
      lt (x2_1 + 1 : Int32) fun x2_7 =>
      f_X11_shareOf_L2 n x2_7 w_6)
theorem f_X11_shareOf_L2_s (n : Nat) (x2_1 : Int32) (w_2 : Mem) : f_X11_shareOf_L2 (n + 1) x2_1 w_2 =
    (if 5 ≤ x2_1 then
      (some w_2)
    else
      (gd (inb x2_1 5 = true) <|
      lt (mS w_2 25 x2_1.toNatClampNeg 0) fun w_6 =>
      lt (x2_1 + 1 : Int32) fun x2_7 =>
      f_X11_shareOf_L2 n x2_7 w_6)) := rfl
def f_X11_shareOf_L24 (x1 : Int32) : Nat → Int32 → Int32 → Mem → Option (Int32 × Mem)
  | 0, _, _, _ => none
  | n + 1, x2_11, x3_12, w_13 =>
    if (w_13.1 0 59) ≤ x3_12 then
      (some (x2_11, w_13))
    else
      (gd (inb x3_12 2772 = true) <|
      lt (w_13.1 24 x3_12.toNatClampNeg : Int32) fun v_17 =>
      bd (f_X11_outcomeOf v_17 x1) fun r_18 =>
      gd (inb r_18 5 = true) <|
      lt (w_13.1 25 r_18.toNatClampNeg : Int32) fun v_21 =>
      lt (mS w_13 25 r_18.toNatClampNeg (v_21 + 1)) fun w_22 =>
      lt (w_22.1 25 r_18.toNatClampNeg : Int32) fun v_23 =>
      lt (if v_23 ≤ x2_11 then x2_11 else (w_22.1 25 r_18.toNatClampNeg) : Int32) fun v_24 =>
      lt (x3_12 + 1 : Int32) fun x3_26 =>
      f_X11_shareOf_L24 x1 n v_24 x3_26 w_22)
theorem f_X11_shareOf_L24_s (x1 : Int32) (n : Nat) (x2_11 : Int32) (x3_12 : Int32) (w_13 : Mem) : f_X11_shareOf_L24 x1 (n + 1) x2_11 x3_12 w_13 =
    (if (w_13.1 0 59) ≤ x3_12 then
      (some (x2_11, w_13))
    else
      (gd (inb x3_12 2772 = true) <|
      lt (w_13.1 24 x3_12.toNatClampNeg : Int32) fun v_17 =>
      bd (f_X11_outcomeOf v_17 x1) fun r_18 =>
      gd (inb r_18 5 = true) <|
      lt (w_13.1 25 r_18.toNatClampNeg : Int32) fun v_21 =>
      lt (mS w_13 25 r_18.toNatClampNeg (v_21 + 1)) fun w_22 =>
      lt (w_22.1 25 r_18.toNatClampNeg : Int32) fun v_23 =>
      lt (if v_23 ≤ x2_11 then x2_11 else (w_22.1 25 r_18.toNatClampNeg) : Int32) fun v_24 =>
      lt (x3_12 + 1 : Int32) fun x3_26 =>
      f_X11_shareOf_L24 x1 n v_24 x3_26 w_22)) := rfl
def f_X11_shareOf (x1 : Int32) (w : Mem) : Option (Int32 × Mem) :=
  bd (f_X11_shareOf_L2 FU 0 w) fun w_10 =>
  bd (f_X11_shareOf_L24 x1 FU 0 0 w_10) fun ex => tp2 ex fun x2_30 w_31 =>
  some (x2_30, w_31)
def f_X11_bestOf_L10 : Nat → Int32 → Int32 → Int32 → Mem → Option (Int32 × Int32 × Mem)
  | 0, _, _, _, _ => none
  | n + 1, x1_4, x2_5, x3_6, w_7 =>
    if 325 ≤ x3_6 then
      (some (x1_4, x2_5, w_7))
    else
      (b2 (f_X11_shareOf x3_6 w_7) fun r_10 w_12 =>
      lt (if x2_5 ≤ r_10 then x1_4 else x3_6 : Int32) fun v_13 =>
      lt (if x2_5 ≤ r_10 then x2_5 else r_10 : Int32) fun v_15 =>
      lt (x3_6 + 1 : Int32) fun x3_17 =>
      f_X11_bestOf_L10 n v_13 v_15 x3_17 w_12)
theorem f_X11_bestOf_L10_s (n : Nat) (x1_4 : Int32) (x2_5 : Int32) (x3_6 : Int32) (w_7 : Mem) : f_X11_bestOf_L10 (n + 1) x1_4 x2_5 x3_6 w_7 =
    (if 325 ≤ x3_6 then
      (some (x1_4, x2_5, w_7))
    else
      (b2 (f_X11_shareOf x3_6 w_7) fun r_10 w_12 =>
      lt (if x2_5 ≤ r_10 then x1_4 else x3_6 : Int32) fun v_13 =>
      lt (if x2_5 ≤ r_10 then x2_5 else r_10 : Int32) fun v_15 =>
      lt (x3_6 + 1 : Int32) fun x3_17 =>
      f_X11_bestOf_L10 n v_13 v_15 x3_17 w_12)) := rfl
def f_X11_bestOf (w : Mem) : Option (Int32 × Mem) :=
  b2 (f_X11_shareOf 0 w) fun r_1 w_3 =>
  bd (f_X11_bestOf_L10 FU 0 r_1 1 w_3) fun ex => tp3 ex fun x1_22 x2_23 w_24 =>
  lt (if (w_24.1 0 59) ≤ x2_23 then (-1) else x1_22 : Int32) fun v_25 =>
  some (v_25, w_24)
def f_X11_left (x1 : Int32) (w : Mem) : Option (Int32 × Mem) :=
  bd (f_X11_in x1 0 4) fun r_1 =>
  if r_1 = 0 then
    (some ((-1), w))
  else
    (bd (f_X11_lefts x1 w) fun w_6 =>
    some (w_6.1 0 59, w_6))
def f_X11_state (x1 : Int32) (x2 : Int32) (w : Mem) : Option (Int32 × Mem) :=
  bd (f_X11_in x1 0 4) fun r_1 =>
  if r_1 = 0 then
    (some ((-1), w))
  else
    (bd (f_X11_lefts x1 w) fun w_6 =>
    bd (f_X11_in x2 0 ((w_6.1 0 59) - 1)) fun r_7 =>
    if r_7 = 0 then
      (some ((-1), w_6))
    else
      (gd (inb x2 2772 = true) <|
      lt (w_6.1 24 x2.toNatClampNeg : Int32) fun v_11 =>
      some (v_11, w_6)))
def f_X11_best (x1 : Int32) (w : Mem) : Option (Int32 × Mem) :=
  bd (f_X11_in x1 0 4) fun r_1 =>
  if r_1 = 0 then
    (some ((-1), w))
  else
    (bd (f_X11_lefts x1 w) fun w_6 =>
    if 2 ≤ (w_6.1 0 59) then
      (b2 (f_X11_bestOf w_6) fun r_8 w_10 =>
      lt (if r_8 = (-1) then (-4) else r_8 : Int32) fun v_11 =>
      some (v_11, w_10))
    else
      (lt (if ((-1) : Int32) = (-1) then (-4) else (-1) : Int32) fun v_14 =>
      some (v_14, w_6)))
def f_X11_share (x1 : Int32) (x2 : Int32) (w : Mem) : Option (Int32 × Mem) :=
  bd (f_X11_in x1 0 4) fun r_1 =>
  if r_1 = 0 then
    (some ((-1), w))
  else
    (bd (f_X11_in x2 0 324) fun r_4 =>
    if r_4 = 0 then
      (some ((-1), w))
    else
      (bd (f_X11_lefts x1 w) fun w_9 =>
      b2 (f_X11_shareOf x2 w_9) fun r_10 w_12 =>
      some (r_10, w_12)))
def f_X11_hunt_L39 (x2 : Int32) : Nat → Int32 → Mem → Option (Mem)
  | 0, _, _ => none
  | n + 1, x4_11, w_12 =>
    if 2772 ≤ x4_11 then
      (some w_12)
    else
      (bd (f_X11_causes x4_11) fun r_15 =>
      if x2 < r_15 then
        (lt (x4_11 + 1 : Int32) fun x4_18 =>
        f_X11_hunt_L39 x2 n x4_18 w_12)
      else
        (gd (inb (w_12.1 0 59) 2772 = true) <|
        lt (mS w_12 24 ((w_12.1 0 59).toNatClampNeg) x4_11) fun w_20 =>
        lt (mS w_20 0 59 ((w_20.1 0 59) + 1)) fun w_21 =>
        lt (x4_11 + 1 : Int32) fun x4_22 =>
        f_X11_hunt_L39 x2 n x4_22 w_21))
theorem f_X11_hunt_L39_s (x2 : Int32) (n : Nat) (x4_11 : Int32) (w_12 : Mem) : f_X11_hunt_L39 x2 (n + 1) x4_11 w_12 =
    (if 2772 ≤ x4_11 then
      (some w_12)
    else
      (bd (f_X11_causes x4_11) fun r_15 =>
      if x2 < r_15 then
        (lt (x4_11 + 1 : Int32) fun x4_18 =>
        f_X11_hunt_L39 x2 n x4_18 w_12)
      else
        (gd (inb (w_12.1 0 59) 2772 = true) <|
        lt (mS w_12 24 ((w_12.1 0 59).toNatClampNeg) x4_11) fun w_20 =>
        lt (mS w_20 0 59 ((w_20.1 0 59) + 1)) fun w_21 =>
        lt (x4_11 + 1 : Int32) fun x4_22 =>
        f_X11_hunt_L39 x2 n x4_22 w_21))) := rfl
def f_X11_hunt_L135 (x6_31 : Int32) (r_36 : Int32) : Nat → Int32 → Int32 → Mem → Option (Int32 × Mem)
  | 0, _, _, _ => none
  | n + 1, x8_38, x9_39, w_40 =>
    if (w_40.1 0 59) ≤ x9_39 then
      (some (x8_38, w_40))
    else
      (gd (inb x9_39 2772 = true) <|
      lt (w_40.1 24 x9_39.toNatClampNeg : Int32) fun v_44 =>
      bd (f_X11_outcomeOf v_44 x6_31) fun r_45 =>
      if r_45 = r_36 then
        (lt (w_40.1 24 x9_39.toNatClampNeg : Int32) fun v_49 =>
        gd (inb x8_38 2772 = true) <|
        lt (mS w_40 24 x8_38.toNatClampNeg v_49) fun w_51 =>
        lt (x8_38 + 1 : Int32) fun x8_52 =>
        lt (x9_39 + 1 : Int32) fun x9_53 =>
        f_X11_hunt_L135 x6_31 r_36 n x8_52 x9_53 w_51)
      else
        (lt (x9_39 + 1 : Int32) fun x9_48 =>
        f_X11_hunt_L135 x6_31 r_36 n x8_38 x9_48 w_40))
theorem f_X11_hunt_L135_s (x6_31 : Int32) (r_36 : Int32) (n : Nat) (x8_38 : Int32) (x9_39 : Int32) (w_40 : Mem) : f_X11_hunt_L135 x6_31 r_36 (n + 1) x8_38 x9_39 w_40 =
    (if (w_40.1 0 59) ≤ x9_39 then
      (some (x8_38, w_40))
    else
      (gd (inb x9_39 2772 = true) <|
      lt (w_40.1 24 x9_39.toNatClampNeg : Int32) fun v_44 =>
      bd (f_X11_outcomeOf v_44 x6_31) fun r_45 =>
      if r_45 = r_36 then
        (lt (w_40.1 24 x9_39.toNatClampNeg : Int32) fun v_49 =>
        gd (inb x8_38 2772 = true) <|
        lt (mS w_40 24 x8_38.toNatClampNeg v_49) fun w_51 =>
        lt (x8_38 + 1 : Int32) fun x8_52 =>
        lt (x9_39 + 1 : Int32) fun x9_53 =>
        f_X11_hunt_L135 x6_31 r_36 n x8_52 x9_53 w_51)
      else
        (lt (x9_39 + 1 : Int32) fun x9_48 =>
        f_X11_hunt_L135 x6_31 r_36 n x8_38 x9_48 w_40))) := rfl
def f_X11_hunt_L108 (x1 : Int32) : Nat → Int32 → Int32 → Int32 → Mem → Option (Int32 × Int32 × Mem)
  | 0, _, _, _, _ => none
  | n + 1, x4_29, x5_30, x6_31, w_32 =>
    if x6_31 = (-1) then
      (some (x4_29, x5_30, w_32))
    else
      (if 20 ≤ x4_29 then
        (some (x4_29, x5_30, w_32))
      else
        (bd (f_X11_outcomeOf x1 x6_31) fun r_36 =>
        bd (f_X11_hunt_L135 x6_31 r_36 FU 0 0 w_32) fun ex => tp2 ex fun x8_56 w_57 =>
        lt (mS w_57 0 59 x8_56) fun w_58 =>
        lt (x4_29 + 1 : Int32) fun x4_59 =>
        if (w_58.1 0 59) ≤ 1 then
          (f_X11_hunt_L108 x1 n x4_59 x6_31 (-1) w_58)
        else
          (b2 (f_X11_bestOf w_58) fun r_61 w_63 =>
          f_X11_hunt_L108 x1 n x4_59 x6_31 r_61 w_63)))
theorem f_X11_hunt_L108_s (x1 : Int32) (n : Nat) (x4_29 : Int32) (x5_30 : Int32) (x6_31 : Int32) (w_32 : Mem) : f_X11_hunt_L108 x1 (n + 1) x4_29 x5_30 x6_31 w_32 =
    (if x6_31 = (-1) then
      (some (x4_29, x5_30, w_32))
    else
      (if 20 ≤ x4_29 then
        (some (x4_29, x5_30, w_32))
      else
        (bd (f_X11_outcomeOf x1 x6_31) fun r_36 =>
        bd (f_X11_hunt_L135 x6_31 r_36 FU 0 0 w_32) fun ex => tp2 ex fun x8_56 w_57 =>
        lt (mS w_57 0 59 x8_56) fun w_58 =>
        lt (x4_29 + 1 : Int32) fun x4_59 =>
        if (w_58.1 0 59) ≤ 1 then
          (f_X11_hunt_L108 x1 n x4_59 x6_31 (-1) w_58)
        else
          (b2 (f_X11_bestOf w_58) fun r_61 w_63 =>
          f_X11_hunt_L108 x1 n x4_59 x6_31 r_61 w_63)))) := rfl
def f_X11_hunt_L224 (x1 : Int32) (w_68 : Mem) : Nat → Int32 → Int32 → Option (Int32)
  | 0, _, _ => none
  | n + 1, x7_69, x8_70 =>
    if (w_68.1 0 59) ≤ x8_70 then
      (some x7_69)
    else
      (gd (inb x8_70 2772 = true) <|
      lt (w_68.1 24 x8_70.toNatClampNeg : Int32) fun v_74 =>
      lt (if v_74 = x1 then 1 else x7_69 : Int32) fun v_75 =>
      lt (x8_70 + 1 : Int32) fun x8_77 =>
      f_X11_hunt_L224 x1 w_68 n v_75 x8_77)
theorem f_X11_hunt_L224_s (x1 : Int32) (w_68 : Mem) (n : Nat) (x7_69 : Int32) (x8_70 : Int32) : f_X11_hunt_L224 x1 w_68 (n + 1) x7_69 x8_70 =
    (if (w_68.1 0 59) ≤ x8_70 then
      (some x7_69)
    else
      (gd (inb x8_70 2772 = true) <|
      lt (w_68.1 24 x8_70.toNatClampNeg : Int32) fun v_74 =>
      lt (if v_74 = x1 then 1 else x7_69 : Int32) fun v_75 =>
      lt (x8_70 + 1 : Int32) fun x8_77 =>
      f_X11_hunt_L224 x1 w_68 n v_75 x8_77)) := rfl
def f_X11_hunt (x1 : Int32) (x2 : Int32) (x3 : Int32) (w : Mem) : Option (Int32 × Mem) :=
  bd (f_X11_in x1 0 2771) fun r_1 =>
  if r_1 = 0 then
    (some ((-1), w))
  else
    (bd (f_X11_in x2 0 4) fun r_4 =>
    if r_4 = 0 then
      (some ((-1), w))
    else
      (bd (f_X11_in x3 0 3) fun r_7 =>
      if r_7 = 0 then
        (some ((-1), w))
      else
        (lt (mS w 0 59 0) fun w_10 =>
        bd (f_X11_hunt_L39 x2 FU 0 w_10) fun w_25 =>
        lt (fun (t_27 : Int32) (w_28 : Mem) => (bd (f_X11_hunt_L108 x1 FU 0 (-2) t_27 w_28) fun ex => tp3 ex fun x4_66 x5_67 w_68 =>
          bd (f_X11_hunt_L224 x1 w_68 FU 0 0) fun x7_81 =>
          lt (if x3 = 0 then x4_66 else (if x3 = 1 then (w_68.1 0 59) else (if x3 = 2 then x7_81 else x5_67)) : Int32) fun v_82 =>
          some (v_82, w_68)
          : Option (Int32 × Mem))) fun k_26 =>
        if (w_25.1 0 59) ≤ 1 then
          (k_26 (-1) w_25)
        else
          (b2 (f_X11_bestOf w_25) fun r_88 w_90 =>
          k_26 r_88 w_90))))
def f_X11_tape (x1 : Int32) (x2 : Int32) (x3 : Int32) (w : Mem) : Option (Int32 × Mem) :=
  bd (f_X11_isTape x1) fun r_1 =>
  if r_1 = 0 then
    (some ((-1), w))
  else
    (bd (f_X11_in x2 1 4) fun r_4 =>
    if r_4 = 0 then
      (some ((-1), w))
    else
      (if x3 ≤ 400 then
        (if 0 ≤ x3 then
          (bd (f_X11_clears x1 x2 x3 w) fun w_11 =>
          some (x3, w_11))
        else
          (b2 (f_X11_refuse (-14) w) fun r_12 w_14 =>
          some (r_12, w_14)))
      else
        (some ((-1), w))))
def f_X11_keep (x1 : Int32) (w : Mem) : Option (Int32 × Mem) :=
  bd (f_X11_isTape x1) fun r_1 =>
  if r_1 = 0 then
    (some ((-1), w))
  else
    (gd (inb 14 15 = true) <|
    lt (w.1 3 (14 : Int32).toNatClampNeg : Int32) fun v_5 =>
    if v_5 = 0 then
      (some ((-3), w))
    else
      (gd (inb x1 6 = true) <|
      lt (mS w 15 x1.toNatClampNeg 5) fun w_8 =>
      bd (f_X11_copies 14 (8 + x1) w_8) fun w_11 =>
      lt (w_11.1 3 (14 : Int32).toNatClampNeg : Int32) fun v_12 =>
      some (v_12, w_11)))
def f_X11_lacks (x1 : Int32) (w : Mem) : Option (Int32 × Mem) :=
  bd (f_X11_isTape x1) fun r_1 =>
  if r_1 = 0 then
    (some ((-1), w))
  else
    (gd (inb x1 6 = true) <|
    if (w.1 15 x1.toNatClampNeg) = 0 then
      (b2 (f_X11_refuse (-11) w) fun r_10 w_12 =>
      some (r_10, w_12))
    else
      (if (w.1 15 x1.toNatClampNeg) = 5 then
        (some (0, w))
      else
        (b2 (f_X11_refuse (-12) w) fun r_7 w_9 =>
        some (r_7, w_9))))
def f_X11_back (x1 : Int32) (w : Mem) : Option (Int32 × Mem) :=
  b2 (f_X11_lacks x1 w) fun r_1 w_3 =>
  if r_1 = 0 then
    (bd (f_X11_copies (8 + x1) 14 w_3) fun w_7 =>
    gd (inb 14 15 = true) <|
    lt (w_7.1 3 (14 : Int32).toNatClampNeg : Int32) fun v_9 =>
    some (v_9, w_7))
  else
    (some (r_1, w_3))
def f_X11_toss (x1 : Int32) (w : Mem) : Option (Int32 × Mem) :=
  b2 (f_X11_lacks x1 w) fun r_1 w_3 =>
  if r_1 = 0 then
    (bd (f_X11_steepOf (8 + x1) w_3) fun r_5 =>
    if r_5 = 0 then
      (b2 (f_X11_refuse (-15) w_3) fun r_8 w_10 =>
      some (r_8, w_10))
    else
      (some (r_5, w_3)))
  else
    (some (r_1, w_3))
def f_X11_clear (x1 : Int32) (w : Mem) : Option (Int32 × Mem) :=
  bd (f_X11_isTape x1) fun r_1 =>
  if r_1 = 0 then
    (some ((-1), w))
  else
    (gd (inb x1 6 = true) <|
    lt (w.1 15 x1.toNatClampNeg : Int32) fun v_5 =>
    lt (mS w 15 x1.toNatClampNeg 0) fun w_6 =>
    some (v_5, w_6))
def f_X11_narrowed (x0 : Int32) (x1 : Int64) : Option (Int64) :=
  if x0 = 1 then
    (lt (x1.toInt32.toInt8.toInt32 : Int32) fun v_5 =>
    some v_5.toInt64)
  else
    (if x0 = 2 then
      (lt (x1.toInt32.toInt16.toInt32 : Int32) fun v_4 =>
      some v_4.toInt64)
    else
      (if x0 = 3 then
        (some x1.toInt32.toInt64)
      else
        (some x1)))
def f_X11_put (x1 : Int32) (x2 : Int32) (x3 : Int64) (w : Mem) : Option (Int32 × Mem) :=
  bd (f_X11_isTape x1) fun r_1 =>
  if r_1 = 0 then
    (some ((-1), w))
  else
    (gd (inb x1 6 = true) <|
    if (w.1 15 x1.toNatClampNeg) = 0 then
      (b2 (f_X11_refuse (-11) w) fun r_21 w_23 =>
      some (r_21, w_23))
    else
      (if (w.1 15 x1.toNatClampNeg) = 5 then
        (b2 (f_X11_refuse (-12) w) fun r_18 w_20 =>
        some (r_18, w_20))
      else
        (lt ((w.1 16 x1.toNatClampNeg) - 1 : Int32) fun v_7 =>
        bd (f_X11_in x2 0 v_7) fun r_8 =>
        if r_8 = 0 then
          (b2 (f_X11_refuse (-13) w) fun r_15 w_17 =>
          some (r_15, w_17))
        else
          (bd (f_X11_narrowed (w.1 15 x1.toNatClampNeg) x3) fun r_11 =>
          gd (inb ((400 * x1) + x2) 2400 = true) <|
          lt (mL w 17 (((400 * x1) + x2).toNatClampNeg) r_11) fun w_14 =>
          some (1, w_14)))))
def f_X11_at (x1 : Int32) (x2 : Int32) (w : Mem) : Option (Int64 × Mem) :=
  bd (f_X11_isTape x1) fun r_1 =>
  lt (fun (t_4 : Int32) => (lt (mS w 0 0 t_4) fun w_5 =>
    if (w_5.1 0 0) = 0 then
      (gd (inb ((400 * x1) + x2) 2400 = true) <|
      lt (w_5.2 17 ((400 * x1) + x2).toNatClampNeg : Int64) fun v_8 =>
      some (v_8, w_5))
    else
      (some (0, w_5))
    : Option (Int64 × Mem))) fun k_3 =>
  if r_1 = 0 then
    (k_3 1)
  else
    (gd (inb x1 6 = true) <|
    if (w.1 15 x1.toNatClampNeg) = 0 then
      (k_3 2)
    else
      (if (w.1 15 x1.toNatClampNeg) = 5 then
        (k_3 2)
      else
        (lt ((w.1 16 x1.toNatClampNeg) - 1 : Int32) fun v_13 =>
        bd (f_X11_in x2 0 v_13) fun r_14 =>
        if r_14 = 0 then
          (k_3 2)
        else
          (k_3 0))))
def f_X11_copy_L124 (x1 : Int32) (x2 : Int32) (x5 : Int32) : Nat → Int32 → Mem → Option (Mem)
  | 0, _, _ => none
  | n + 1, x6_38, w_39 =>
    if x5 ≤ x6_38 then
      (some w_39)
    else
      (lt (((400 * x1) + x2) + x6_38 : Int32) fun v_42 =>
      gd (inb v_42 2400 = true) <|
      lt (w_39.2 17 v_42.toNatClampNeg : Int64) fun v_44 =>
      gd (inb x6_38 400 = true) <|
      lt (mL w_39 26 x6_38.toNatClampNeg v_44) fun w_46 =>
      lt (x6_38 + 1 : Int32) fun x6_47 =>
      f_X11_copy_L124 x1 x2 x5 n x6_47 w_46)
theorem f_X11_copy_L124_s (x1 : Int32) (x2 : Int32) (x5 : Int32) (n : Nat) (x6_38 : Int32) (w_39 : Mem) : f_X11_copy_L124 x1 x2 x5 (n + 1) x6_38 w_39 =
    (if x5 ≤ x6_38 then
      (some w_39)
    else
      (lt (((400 * x1) + x2) + x6_38 : Int32) fun v_42 =>
      gd (inb v_42 2400 = true) <|
      lt (w_39.2 17 v_42.toNatClampNeg : Int64) fun v_44 =>
      gd (inb x6_38 400 = true) <|
      lt (mL w_39 26 x6_38.toNatClampNeg v_44) fun w_46 =>
      lt (x6_38 + 1 : Int32) fun x6_47 =>
      f_X11_copy_L124 x1 x2 x5 n x6_47 w_46)) := rfl
def f_X11_copy_L162 (x3 : Int32) (x4 : Int32) (x5 : Int32) : Nat → Int32 → Mem → Option (Mem)
  | 0, _, _ => none
  | n + 1, x6_51, w_52 =>
    if x5 ≤ x6_51 then
      (some w_52)
    else
      (lt (((400 * x3) + x4) + x6_51 : Int32) fun v_55 =>
      gd (inb x6_51 400 = true) <|
      lt (w_52.2 26 x6_51.toNatClampNeg : Int64) fun v_57 =>
      gd (inb v_55 2400 = true) <|
      lt (mL w_52 17 v_55.toNatClampNeg v_57) fun w_59 =>
      lt (x6_51 + 1 : Int32) fun x6_60 =>
      f_X11_copy_L162 x3 x4 x5 n x6_60 w_59)
theorem f_X11_copy_L162_s (x3 : Int32) (x4 : Int32) (x5 : Int32) (n : Nat) (x6_51 : Int32) (w_52 : Mem) : f_X11_copy_L162 x3 x4 x5 (n + 1) x6_51 w_52 =
    (if x5 ≤ x6_51 then
      (some w_52)
    else
      (lt (((400 * x3) + x4) + x6_51 : Int32) fun v_55 =>
      gd (inb x6_51 400 = true) <|
      lt (w_52.2 26 x6_51.toNatClampNeg : Int64) fun v_57 =>
      gd (inb v_55 2400 = true) <|
      lt (mL w_52 17 v_55.toNatClampNeg v_57) fun w_59 =>
      lt (x6_51 + 1 : Int32) fun x6_60 =>
      f_X11_copy_L162 x3 x4 x5 n x6_60 w_59)) := rfl
def f_X11_copy (x1 : Int32) (x2 : Int32) (x3 : Int32) (x4 : Int32) (x5 : Int32) (w : Mem) : Option (Int32 × Mem) :=
  bd (f_X11_isTape x1) fun r_1 =>
  if r_1 = 0 then
    (some ((-1), w))
  else
    (bd (f_X11_isTape x3) fun r_4 =>
    if r_4 = 0 then
      (some ((-1), w))
    else
      (gd (inb x1 6 = true) <|
      if (w.1 15 x1.toNatClampNeg) = 0 then
        (b2 (f_X11_refuse (-11) w) fun r_9 w_11 =>
        some (r_9, w_11))
      else
        (gd (inb x3 6 = true) <|
        if (w.1 15 x3.toNatClampNeg) = 0 then
          (b2 (f_X11_refuse (-11) w) fun r_70 w_72 =>
          some (r_70, w_72))
        else
          (if (w.1 15 x1.toNatClampNeg) = 5 then
            (b2 (f_X11_refuse (-12) w) fun r_15 w_17 =>
            some (r_15, w_17))
          else
            (if (w.1 15 x1.toNatClampNeg) = (w.1 15 x3.toNatClampNeg) then
              (if x5 < 0 then
                (b2 (f_X11_refuse (-13) w) fun r_20 w_22 =>
                some (r_20, w_22))
              else
                (if x2 < 0 then
                  (b2 (f_X11_refuse (-13) w) fun r_24 w_26 =>
                  some (r_24, w_26))
                else
                  (if x4 < 0 then
                    (b2 (f_X11_refuse (-13) w) fun r_28 w_30 =>
                    some (r_28, w_30))
                  else
                    (lt ((w.1 16 x1.toNatClampNeg) - x2 : Int32) fun v_31 =>
                    if v_31 < x5 then
                      (b2 (f_X11_refuse (-13) w) fun r_33 w_35 =>
                      some (r_33, w_35))
                    else
                      (lt ((w.1 16 x3.toNatClampNeg) - x4 : Int32) fun v_36 =>
                      if x5 ≤ v_36 then
                        (bd (f_X11_copy_L124 x1 x2 x5 FU 0 w) fun w_50 =>
                        bd (f_X11_copy_L162 x3 x4 x5 FU 0 w_50) fun w_63 =>
                        some (x5, w_63))
                      else
                        (b2 (f_X11_refuse (-13) w) fun r_64 w_66 =>
                        some (r_64, w_66)))))))
            else
              (b2 (f_X11_refuse (-12) w) fun r_67 w_69 =>
              some (r_67, w_69)))))))
def f_X11_count_L47 (w : Mem) : Nat → Int32 → Int32 → Option (Int32)
  | 0, _, _ => none
  | n + 1, x2_3, x3_4 =>
    if 8 ≤ x3_4 then
      (some x2_3)
    else
      (gd (inb x3_4 15 = true) <|
      lt (if (w.1 3 x3_4.toNatClampNeg) ≤ 0 then 0 else 1 : Int32) fun v_8 =>
      lt (x2_3 + v_8 : Int32) fun v_10 =>
      lt (x3_4 + 1 : Int32) fun x3_11 =>
      f_X11_count_L47 w n v_10 x3_11)
theorem f_X11_count_L47_s (w : Mem) (n : Nat) (x2_3 : Int32) (x3_4 : Int32) : f_X11_count_L47 w (n + 1) x2_3 x3_4 =
    (if 8 ≤ x3_4 then
      (some x2_3)
    else
      (gd (inb x3_4 15 = true) <|
      lt (if (w.1 3 x3_4.toNatClampNeg) ≤ 0 then 0 else 1 : Int32) fun v_8 =>
      lt (x2_3 + v_8 : Int32) fun v_10 =>
      lt (x3_4 + 1 : Int32) fun x3_11 =>
      f_X11_count_L47 w n v_10 x3_11)) := rfl
def f_X11_count (x1 : Int32) (w : Mem) : Option (Int32) :=
  if x1 = 0 then
    (some (w.1 0 1))
  else
  if x1 = 1 then
    (bd (f_X11_count_L47 w FU 0 0) fun x2_15 =>
    some x2_15)
  else
  if x1 = 2 then
    (some (w.1 0 8))
  else
  if x1 = 3 then
    (some (w.1 0 15))
  else
  if x1 = 4 then
    (some (w.1 0 22))
  else
  if x1 = 5 then
    (some (w.1 0 25))
  else
    (some (-1))
