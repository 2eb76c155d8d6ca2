/-! ===== the nine throwing methods as functional programs ===== -/
def f_X10_point (x1 : Int32) (x2 : Int32) (w : Mem) : Option (Sum Int32 Nat × Mem) :=
  if x2 < 0 then
    (some (.inr 0, w))
  else
    (if x2 ≤ 1 then
      (if x1 < 0 then
        (some (.inr 1, w))
      else
        (if x1 < (w.1 (60+3*0) 2) then
          (if x2 = 0 then
            (gd (inb x1 24 = true) <|
            lt (w.1 (61+3*0) x1.toNatClampNeg : Int32) fun v_9 =>
            some (.inl v_9, w))
          else
            (gd (inb x1 24 = true) <|
            lt (w.1 (62+3*0) x1.toNatClampNeg : Int32) fun v_7 =>
            some (.inl v_7, w)))
        else
          (some (.inr 1, w))))
    else
      (some (.inr 0, w)))
def f_X10_advance (w : Mem) : Option (Sum Int32 Nat × Mem) :=
  if (w.1 (60+3*0) 2) = 0 then
    (some (.inr 1, w))
  else
    (some (.inl (w.1 (60+3*0) 3), w))
def f_X10_disc (x1 : Int32) (w : Mem) : Option (Sum Int32 Nat × Mem) :=
  if x1 < 0 then
    (some (.inr 0, w))
  else
    (if x1 ≤ 6 then
      (if (w.1 (3*14) 2) = 0 then
        (some (.inr 1, w))
      else
        (if x1 = 0 then
          (some (.inl (w.1 (3*14) 2), w))
        else
        if x1 = 1 then
          (bd (f_X1_sumOfFeeds 14 w) fun r_6 =>
          some (.inl r_6, w))
        else
        if x1 = 2 then
          (bd (f_X1_steepness 14 w) fun r_9 =>
          some (.inl r_9, w))
        else
        if x1 = 3 then
          (bd (f_X1_greatestOf 14 (3*14+1) w) fun r_12 =>
          some (.inl r_12, w))
        else
        if x1 = 4 then
          (bd (f_X1_leastOf 14 (3*14+1) w) fun r_15 =>
          some (.inl r_15, w))
        else
        if x1 = 5 then
          (bd (f_X1_greatestOf 14 (3*14+2) w) fun r_18 =>
          some (.inl r_18, w))
        else
          (bd (f_X1_leastOf 14 (3*14+2) w) fun r_20 =>
          some (.inl r_20, w))))
    else
      (some (.inr 0, w)))
def f_X10_stitch (x1 : Int32) (x2 : Int32) (w : Mem) : Option (Sum Int32 Nat × Mem) :=
  if x2 < 0 then
    (some (.inr 0, w))
  else
    (if x2 ≤ 1 then
      (if x1 < 0 then
        (some (.inr 1, w))
      else
        (if x1 < (w.1 (3*14) 2) then
          (if x2 = 0 then
            (gd (inb x1 48 = true) <|
            lt (w.1 (3*14+1) x1.toNatClampNeg : Int32) fun v_9 =>
            some (.inl v_9, w))
          else
            (gd (inb x1 48 = true) <|
            lt (w.1 (3*14+2) x1.toNatClampNeg : Int32) fun v_7 =>
            some (.inl v_7, w)))
        else
          (some (.inr 1, w))))
    else
      (some (.inr 0, w)))
def f_X10_hem (x1 : Int32) (x2 : Int32) (w : Mem) : Option (Sum Int32 Nat × Mem) :=
  if x2 < 0 then
    (some (.inr 0, w))
  else
    (if x2 ≤ 4 then
      (b2 (f_X3_measures x1 14 w) fun r_3 w_5 =>
      if r_3 = 0 then
        (some (.inr 1, w_5))
      else
        (if x2 = 0 then
          (some (.inl (w_5.1 72 2), w_5))
        else
        if x2 = 1 then
          (some (.inl (w_5.1 72 3), w_5))
        else
        if x2 = 2 then
          (bd (f_X3_fits 14 w_5) fun r_10 =>
          lt (if r_10 = 0 then 0 else 1 : Int32) fun v_12 =>
          some (.inl v_12, w_5))
        else
        if x2 = 3 then
          (some (.inl (w_5.1 72 4), w_5))
        else
          (bd (f_X3_greatestChange w_5) fun r_16 =>
          some (.inl r_16, w_5))))
    else
      (some (.inr 0, w)))
def f_X10_fed (x1 : Int32) (x2 : Int32) (w : Mem) : Option (Sum Int32 Nat × Mem) :=
  b2 (f_X3_measures x1 14 w) fun r_1 w_3 =>
  if r_1 = 0 then
    (some (.inr 1, w_3))
  else
    (if x2 < 0 then
      (some (.inr 1, w_3))
    else
      (if x2 < (w_3.1 72 4) then
        (bd (f_X3_feedOf 14 x2 w_3) fun r_7 =>
        some (.inl r_7, w_3))
      else
        (some (.inr 1, w_3))))
def f_X10_seam (x1 : Int32) (w : Mem) : Option (Sum Int32 Nat × Mem) :=
  if x1 < 0 then
    (some (.inr 0, w))
  else
    (if x1 ≤ 9 then
      (if (w.1 79 2) = 0 then
        (some (.inr 1, w))
      else
        (if x1 = 0 then
          (some (.inl (w.1 79 3), w))
        else
        if x1 = 1 then
          (some (.inl (w.1 79 4), w))
        else
        if x1 = 2 then
          (some (.inl (w.1 79 5), w))
        else
        if x1 = 3 then
          (some (.inl (w.1 79 6), w))
        else
        if x1 = 4 then
          (lt (if (w.1 79 7) = 0 then 0 else 1 : Int32) fun v_9 =>
          some (.inl v_9, w))
        else
        if x1 = 5 then
          (some (.inl (w.1 79 8), w))
        else
        if x1 = 6 then
          (bd (f_X8_returns w) fun r_14 =>
          some (.inl r_14, w))
        else
        if x1 = 7 then
          (some (.inl (w.1 79 9), w))
        else
        if x1 = 8 then
          (some (.inl (w.1 79 10), w))
        else
          (some (.inl (w.1 79 11), w))))
    else
      (some (.inr 0, w)))
def f_X10_sewn (x1 : Int32) (x2 : Int32) (w : Mem) : Option (Sum Int32 Nat × Mem) :=
  if x2 < 0 then
    (some (.inr 0, w))
  else
    (if x2 ≤ 1 then
      (if x1 < 0 then
        (some (.inr 1, w))
      else
        (if x1 < (w.1 79 3) then
          (if x2 = 0 then
            (gd (inb x1 600 = true) <|
            some (.inl (w.1 80 x1.toNatClampNeg), w))
          else
            (gd (inb x1 600 = true) <|
            some (.inl (w.1 81 x1.toNatClampNeg), w)))
        else
          (some (.inr 1, w))))
    else
      (some (.inr 0, w)))
def f_X10_at (x1 : Int32) (x2 : Int32) (w : Mem) : Option (Sum Int64 Nat × Mem) :=
  bd (f_X10_isTape x1) fun r_1 =>
  if r_1 = 0 then
    (some (.inr 0, w))
  else
    (gd (inb x1 6 = true) <|
    bd (f_X9_isRow x1.toNatClampNeg w) fun r_5 =>
    if r_5 = 0 then
      (some (.inr 1, w))
    else
      (if x2 < 0 then
        (some (.inr 1, w))
      else
        (lt (w.1 (48+2*x1.toNatClampNeg) 3 : Int32) fun v_9 =>
        if x2 < v_9 then
          (gd (inb x2 400 = true) <|
          lt (w.2 (49+2*x1.toNatClampNeg) x2.toNatClampNeg : Int64) fun v_12 =>
          some (.inl v_12, w))
        else
          (some (.inr 1, w)))))
def lwr (o : Sum Int32 Nat) (w : Mem) : Option (Int32 × Mem) := match o with
  | .inl v => some (0, mL w 88 (0 : Int32).toNatClampNeg v.toInt64)
  | .inr 0 => some (1, w)
  | .inr (_ + 1) => some (2, w)
def lwl (o : Sum Int64 Nat) (w : Mem) : Option (Int32 × Mem) := match o with
  | .inl v => some (0, mL w 88 (0 : Int32).toNatClampNeg v)
  | .inr 0 => some (1, w)
  | .inr (_ + 1) => some (2, w)
def lws (o : Sum Int32 Nat) (w : Mem) : Option (Int32 × Mem) := match o with
  | .inl v => some (0, mL w 88 (0 : Int32).toNatClampNeg v.toInt64)
  | .inr 0 => none
  | .inr (_ + 1) => some (1, w)
def f_L_point (x1 : Int32) (x2 : Int32) (w : Mem) : Option (Int32 × Mem) := b2 (f_X10_point x1 x2 w) fun o w1 => lwr o w1
def f_L_advance  (w : Mem) : Option (Int32 × Mem) := b2 (f_X10_advance  w) fun o w1 => lws o w1
def f_L_disc (x1 : Int32) (w : Mem) : Option (Int32 × Mem) := b2 (f_X10_disc x1 w) fun o w1 => lwr o w1
def f_L_stitch (x1 : Int32) (x2 : Int32) (w : Mem) : Option (Int32 × Mem) := b2 (f_X10_stitch x1 x2 w) fun o w1 => lwr o w1
def f_L_hem (x1 : Int32) (x2 : Int32) (w : Mem) : Option (Int32 × Mem) := b2 (f_X10_hem x1 x2 w) fun o w1 => lwr o w1
def f_L_fed (x1 : Int32) (x2 : Int32) (w : Mem) : Option (Int32 × Mem) := b2 (f_X10_fed x1 x2 w) fun o w1 => lws o w1
def f_L_seam (x1 : Int32) (w : Mem) : Option (Int32 × Mem) := b2 (f_X10_seam x1 w) fun o w1 => lwr o w1
def f_L_sewn (x1 : Int32) (x2 : Int32) (w : Mem) : Option (Int32 × Mem) := b2 (f_X10_sewn x1 x2 w) fun o w1 => lwr o w1
def f_L_at (x1 : Int32) (x2 : Int32) (w : Mem) : Option (Int32 × Mem) := b2 (f_X10_at x1 x2 w) fun o w1 => lwl o w1
