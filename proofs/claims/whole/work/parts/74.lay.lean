/-! ===== the two layouts, and a row for each field and each array (by program: wip/gen/lay.py) ===== -/
def eC (ad : Nat → Nat) (cI cL cD cT : ClassId) (w : Mem) (o : Nat) : va_E :=
  if o < 48 then (if o % 3 = 0 then .inr (1, [.ref (ad (o+1)), .ref (ad (o+2)), .int (w.1 o 2)]) else .inl (cI, 48, .inl (w.1 o)))
  else if o < 60 then (if o % 2 = 0 then .inr (9, [.ref (ad (o+1)), .ref (ad (3*(8+(o-48)/2))), .int (w.1 o 2), .int (w.1 o 3)]) else .inl (cL, 400, .inr (.inl (w.2 o))))
  else if o < 66 then (if o % 3 = 0 then .inr (5, [.ref (ad (o+1)), .ref (ad (o+2)), .int (w.1 o 2), .int (w.1 o 3)]) else .inl (cI, 24, .inl (w.1 o)))
  else match o with
  | 66 => .inr (10, [.ref (ad (60+3*0)), .ref (ad (67)), .ref (ad (3*14)), .ref (ad (3*15)), .ref (ad (70)), .ref (ad (72)), .ref (ad (74)), .ref (ad (76)), .ref (ad (79)), .ref (ad (82)), .ref (ad (83)), .ref (ad (71)), .int (w.1 (66) 12)])
  | 67 => .inr (6, [.ref (ad (60+3*1)), .ref (ad (68)), .ref (ad (69)), .int (w.1 (67) 3), .int (w.1 (67) 4), .int (w.1 (67) 5), .int (w.1 (67) 6), .int (w.1 (67) 7), .int (w.1 (67) 8)])
  | 68 => .inl (cI, 3, .inl (w.1 68))
  | 69 => .inl (cI, 3, .inl (w.1 69))
  | 70 => .inl (cD, 8, .inr (.inr (.inr (.inr (fun j => some (ad (3*j)))))))
  | 71 => .inl (cT, 6, .inr (.inr (.inr (.inr (fun j => some (ad (48+2*j)))))))
  | 72 => .inr (3, [.ref (ad (73)), .int (w.1 (72) 1), .int (w.1 (72) 2), .int (w.1 (72) 3), .int (w.1 (72) 4)])
  | 73 => .inl (cI, 8, .inl (w.1 73))
  | 74 => .inr (0, [.ref (ad (75)), .int (w.1 (74) 1), .int (w.1 (74) 2), .int (w.1 (74) 3), .int (w.1 (74) 4)])
  | 75 => .inl (cI, 2, .inl (w.1 75))
  | 76 => .inr (4, [.ref (ad (77)), .ref (ad (78)), .int (w.1 (76) 2)])
  | 77 => .inl (cI, 20, .inl (w.1 77))
  | 78 => .inl (cI, 20, .inl (w.1 78))
  | 79 => .inr (8, [.ref (ad (80)), .ref (ad (81)), .int (w.1 (79) 2), .int (w.1 (79) 3), .int (w.1 (79) 4), .int (w.1 (79) 5), .int (w.1 (79) 6), .int (w.1 (79) 7), .int (w.1 (79) 8), .int (w.1 (79) 9), .int (w.1 (79) 10), .int (w.1 (79) 11), .int (w.1 (79) 12), .int (w.1 (79) 13)])
  | 80 => .inl (cI, 600, .inl (w.1 80))
  | 81 => .inl (cI, 600, .inl (w.1 81))
  | 82 => .inr (7, [.int (w.1 (82) 0)])
  | 83 => .inr (2, [.ref (ad (84)), .ref (ad (85)), .int (w.1 (83) 2), .int (w.1 (83) 3), .int (w.1 (83) 4), .ref (ad (86)), .ref (ad (87)), .int (w.1 (83) 7)])
  | 84 => .inl (cI, 24, .inl (w.1 84))
  | 85 => .inl (cI, 24, .inl (w.1 85))
  | 86 => .inl (cI, 252, .inl (w.1 86))
  | 87 => .inl (cI, 252, .inl (w.1 87))
  | _ => .inl (cL, 1, .inr (.inl (w.2 o)))
def nestC : List (String × Nat × MethodName × String) := [(RX3, 58, yX10_isWithin, "CamStitch"), (RX4, 18, yX10_isShelf, "CamStitch"), (RX5, 31, yX10_isWithin, "CamStitch"), (RX6, 80, yX10_isWithin, "CamStitch")]
def IC (z : LZ) : Prop := iz z ∧ z.2.2.2.1 = 89 ∧ ∃ cI cL cD cT : ClassId, z.2.2.2.2.1 = [(cI, .int), (cL, .long), (cD, .object RX1), (cT, .object RX9)] ∧ z.2.2.1 = eC z.2.1 cI cL cD cT ∧ z.2.2.2.2.2 = nestC
def eM (ad : Nat → Nat) (cI cL : ClassId) (w : Mem) (o : Nat) : va_E := match o with
  | 0 => .inr (11, [.int (w.1 (0) 0), .int (w.1 (0) 1), .ref (ad (1)), .ref (ad (2)), .int (w.1 (0) 4), .ref (ad (3)), .ref (ad (4)), .ref (ad (5)), .int (w.1 (0) 8), .ref (ad (6)), .ref (ad (7)), .int (w.1 (0) 11), .int (w.1 (0) 12), .int (w.1 (0) 13), .int (w.1 (0) 14), .int (w.1 (0) 15), .ref (ad (8)), .ref (ad (9)), .int (w.1 (0) 18), .ref (ad (10)), .ref (ad (11)), .ref (ad (12)), .int (w.1 (0) 22), .ref (ad (13)), .ref (ad (14)), .int (w.1 (0) 25), .ref (ad (15)), .ref (ad (16)), .ref (ad (17)), .int (w.1 (0) 29), .int (w.1 (0) 30), .int (w.1 (0) 31), .int (w.1 (0) 32), .int (w.1 (0) 33), .int (w.1 (0) 34), .int (w.1 (0) 35), .int (w.1 (0) 36), .int (w.1 (0) 37), .int (w.1 (0) 38), .int (w.1 (0) 39), .ref (ad (18)), .ref (ad (19)), .ref (ad (20)), .ref (ad (21)), .ref (ad (22)), .ref (ad (23)), .int (w.1 (0) 46), .int (w.1 (0) 47), .int (w.1 (0) 48), .int (w.1 (0) 49), .int (w.1 (0) 50), .int (w.1 (0) 51), .int (w.1 (0) 52), .int (w.1 (0) 53), .int (w.1 (0) 54), .int (w.1 (0) 55), .int (w.1 (0) 56), .int (w.1 (0) 57), .ref (ad (24)), .int (w.1 (0) 59), .ref (ad (25)), .ref (ad (26))])
  | 1 => .inl (cI, 24, .inl (w.1 1))
  | 2 => .inl (cI, 24, .inl (w.1 2))
  | 3 => .inl (cI, 15, .inl (w.1 3))
  | 4 => .inl (cI, 720, .inl (w.1 4))
  | 5 => .inl (cI, 720, .inl (w.1 5))
  | 6 => .inl (cI, 8, .inl (w.1 6))
  | 7 => .inl (cI, 2, .inl (w.1 7))
  | 8 => .inl (cI, 20, .inl (w.1 8))
  | 9 => .inl (cI, 20, .inl (w.1 9))
  | 10 => .inl (cI, 10, .inl (w.1 10))
  | 11 => .inl (cI, 600, .inl (w.1 11))
  | 12 => .inl (cI, 600, .inl (w.1 12))
  | 13 => .inl (cI, 24, .inl (w.1 13))
  | 14 => .inl (cI, 24, .inl (w.1 14))
  | 15 => .inl (cI, 6, .inl (w.1 15))
  | 16 => .inl (cI, 6, .inl (w.1 16))
  | 17 => .inl (cL, 2400, .inr (.inl (w.2 17)))
  | 18 => .inl (cI, 24, .inl (w.1 18))
  | 19 => .inl (cI, 24, .inl (w.1 19))
  | 20 => .inl (cI, 3, .inl (w.1 20))
  | 21 => .inl (cI, 3, .inl (w.1 21))
  | 22 => .inl (cI, 48, .inl (w.1 22))
  | 23 => .inl (cI, 48, .inl (w.1 23))
  | 24 => .inl (cI, 2772, .inl (w.1 24))
  | 25 => .inl (cI, 5, .inl (w.1 25))
  | _ => .inl (cL, 400, .inr (.inl (w.2 o)))
def IM (z : LZ) : Prop := iz z ∧ z.2.2.2.1 = 27 ∧ ∃ cI cL : ClassId, z.2.2.2.2.1 = [(cI, .int), (cL, .long)] ∧ z.2.2.1 = eM z.2.1 cI cL ∧ z.2.2.2.2.2 = []
section EC
variable {ad : Nat → Nat} {cI cL cD cT : ClassId} {w : Mem}
theorem eC_X1 {d : Nat} (h : d < 16) : eC ad cI cL cD cT w (3*d) = .inr (1, [.ref (ad (3*d+1)), .ref (ad (3*d+2)), .int (w.1 (3*d) 2)]) := by
  unfold eC; rw [if_pos (by omega), if_pos (by omega)]
theorem eC_AI48 {o : Nat} (h : o < 48 ∧ ¬ o % 3 = 0) : eC ad cI cL cD cT w o = .inl (cI, 48, .inl (w.1 o)) := by
  unfold eC; rw [if_pos h.1, if_neg h.2]
theorem eC_X9 {d : Nat} (h : d < 6) : eC ad cI cL cD cT w (48+2*d) = .inr (9, [.ref (ad (49+2*d)), .ref (ad (3*(8+d))), .int (w.1 (48+2*d) 2), .int (w.1 (48+2*d) 3)]) := by
  unfold eC; rw [if_neg (by omega), if_pos (by omega), if_pos (by omega), show (48 + 2*d - 48)/2 = d by omega, show 48 + 2*d + 1 = 49 + 2*d by omega]
theorem eC_AL400 {d : Nat} (h : d < 6) : eC ad cI cL cD cT w (49+2*d) = .inl (cL, 400, .inr (.inl (w.2 (49+2*d)))) := by
  unfold eC; rw [if_neg (by omega), if_pos (by omega), if_neg (by omega)]
theorem eC_X5 {d : Nat} (h : d < 2) : eC ad cI cL cD cT w (60+3*d) = .inr (5, [.ref (ad (61+3*d)), .ref (ad (62+3*d)), .int (w.1 (60+3*d) 2), .int (w.1 (60+3*d) 3)]) := by
  unfold eC; rw [if_neg (by omega), if_neg (by omega), if_pos (by omega), if_pos (by omega), show 60 + 3*d + 1 = 61 + 3*d by omega, show 60 + 3*d + 2 = 62 + 3*d by omega]
theorem eC_AI24p {d : Nat} (h : d < 2) : eC ad cI cL cD cT w (61+3*d) = .inl (cI, 24, .inl (w.1 (61+3*d))) := by
  unfold eC; rw [if_neg (by omega), if_neg (by omega), if_pos (by omega), if_neg (by omega)]
theorem eC_AI24q {d : Nat} (h : d < 2) : eC ad cI cL cD cT w (62+3*d) = .inl (cI, 24, .inl (w.1 (62+3*d))) := by
  unfold eC; rw [if_neg (by omega), if_neg (by omega), if_pos (by omega), if_neg (by omega)]
theorem eC_66 : eC ad cI cL cD cT w 66 = .inr (10, [.ref (ad (60+3*0)), .ref (ad (67)), .ref (ad (3*14)), .ref (ad (3*15)), .ref (ad (70)), .ref (ad (72)), .ref (ad (74)), .ref (ad (76)), .ref (ad (79)), .ref (ad (82)), .ref (ad (83)), .ref (ad (71)), .int (w.1 (66) 12)]) := rfl
theorem eC_67 : eC ad cI cL cD cT w 67 = .inr (6, [.ref (ad (60+3*1)), .ref (ad (68)), .ref (ad (69)), .int (w.1 (67) 3), .int (w.1 (67) 4), .int (w.1 (67) 5), .int (w.1 (67) 6), .int (w.1 (67) 7), .int (w.1 (67) 8)]) := rfl
theorem eC_68 : eC ad cI cL cD cT w 68 = .inl (cI, 3, .inl (w.1 68)) := rfl
theorem eC_69 : eC ad cI cL cD cT w 69 = .inl (cI, 3, .inl (w.1 69)) := rfl
theorem eC_70 : eC ad cI cL cD cT w 70 = .inl (cD, 8, .inr (.inr (.inr (.inr (fun j => some (ad (3*j))))))) := rfl
theorem eC_71 : eC ad cI cL cD cT w 71 = .inl (cT, 6, .inr (.inr (.inr (.inr (fun j => some (ad (48+2*j))))))) := rfl
theorem eC_72 : eC ad cI cL cD cT w 72 = .inr (3, [.ref (ad (73)), .int (w.1 (72) 1), .int (w.1 (72) 2), .int (w.1 (72) 3), .int (w.1 (72) 4)]) := rfl
theorem eC_73 : eC ad cI cL cD cT w 73 = .inl (cI, 8, .inl (w.1 73)) := rfl
theorem eC_74 : eC ad cI cL cD cT w 74 = .inr (0, [.ref (ad (75)), .int (w.1 (74) 1), .int (w.1 (74) 2), .int (w.1 (74) 3), .int (w.1 (74) 4)]) := rfl
theorem eC_75 : eC ad cI cL cD cT w 75 = .inl (cI, 2, .inl (w.1 75)) := rfl
theorem eC_76 : eC ad cI cL cD cT w 76 = .inr (4, [.ref (ad (77)), .ref (ad (78)), .int (w.1 (76) 2)]) := rfl
theorem eC_77 : eC ad cI cL cD cT w 77 = .inl (cI, 20, .inl (w.1 77)) := rfl
theorem eC_78 : eC ad cI cL cD cT w 78 = .inl (cI, 20, .inl (w.1 78)) := rfl
theorem eC_79 : eC ad cI cL cD cT w 79 = .inr (8, [.ref (ad (80)), .ref (ad (81)), .int (w.1 (79) 2), .int (w.1 (79) 3), .int (w.1 (79) 4), .int (w.1 (79) 5), .int (w.1 (79) 6), .int (w.1 (79) 7), .int (w.1 (79) 8), .int (w.1 (79) 9), .int (w.1 (79) 10), .int (w.1 (79) 11), .int (w.1 (79) 12), .int (w.1 (79) 13)]) := rfl
theorem eC_80 : eC ad cI cL cD cT w 80 = .inl (cI, 600, .inl (w.1 80)) := rfl
theorem eC_81 : eC ad cI cL cD cT w 81 = .inl (cI, 600, .inl (w.1 81)) := rfl
theorem eC_82 : eC ad cI cL cD cT w 82 = .inr (7, [.int (w.1 (82) 0)]) := rfl
theorem eC_83 : eC ad cI cL cD cT w 83 = .inr (2, [.ref (ad (84)), .ref (ad (85)), .int (w.1 (83) 2), .int (w.1 (83) 3), .int (w.1 (83) 4), .ref (ad (86)), .ref (ad (87)), .int (w.1 (83) 7)]) := rfl
theorem eC_84 : eC ad cI cL cD cT w 84 = .inl (cI, 24, .inl (w.1 84)) := rfl
theorem eC_85 : eC ad cI cL cD cT w 85 = .inl (cI, 24, .inl (w.1 85)) := rfl
theorem eC_86 : eC ad cI cL cD cT w 86 = .inl (cI, 252, .inl (w.1 86)) := rfl
theorem eC_87 : eC ad cI cL cD cT w 87 = .inl (cI, 252, .inl (w.1 87)) := rfl
theorem eC_88 : eC ad cI cL cD cT w 88 = .inl (cL, 1, .inr (.inl (w.2 88))) := rfl
theorem eC_l {w' : Mem} {o : Nat} (h1 : w.1 o = w'.1 o) (h2 : w.2 o = w'.2 o) : eC ad cI cL cD cT w o = eC ad cI cL cD cT w' o := by
  unfold eC
  split
  · rw [h1]
  · split
    · rw [h1, h2]
    · split
      · rw [h1]
      · split <;> first | rfl | (rw [h1]) | (rw [h2])
theorem eM_0 : eM ad cI cL w 0 = .inr (11, [.int (w.1 (0) 0), .int (w.1 (0) 1), .ref (ad (1)), .ref (ad (2)), .int (w.1 (0) 4), .ref (ad (3)), .ref (ad (4)), .ref (ad (5)), .int (w.1 (0) 8), .ref (ad (6)), .ref (ad (7)), .int (w.1 (0) 11), .int (w.1 (0) 12), .int (w.1 (0) 13), .int (w.1 (0) 14), .int (w.1 (0) 15), .ref (ad (8)), .ref (ad (9)), .int (w.1 (0) 18), .ref (ad (10)), .ref (ad (11)), .ref (ad (12)), .int (w.1 (0) 22), .ref (ad (13)), .ref (ad (14)), .int (w.1 (0) 25), .ref (ad (15)), .ref (ad (16)), .ref (ad (17)), .int (w.1 (0) 29), .int (w.1 (0) 30), .int (w.1 (0) 31), .int (w.1 (0) 32), .int (w.1 (0) 33), .int (w.1 (0) 34), .int (w.1 (0) 35), .int (w.1 (0) 36), .int (w.1 (0) 37), .int (w.1 (0) 38), .int (w.1 (0) 39), .ref (ad (18)), .ref (ad (19)), .ref (ad (20)), .ref (ad (21)), .ref (ad (22)), .ref (ad (23)), .int (w.1 (0) 46), .int (w.1 (0) 47), .int (w.1 (0) 48), .int (w.1 (0) 49), .int (w.1 (0) 50), .int (w.1 (0) 51), .int (w.1 (0) 52), .int (w.1 (0) 53), .int (w.1 (0) 54), .int (w.1 (0) 55), .int (w.1 (0) 56), .int (w.1 (0) 57), .ref (ad (24)), .int (w.1 (0) 59), .ref (ad (25)), .ref (ad (26))]) := rfl
theorem eM_1 : eM ad cI cL w 1 = .inl (cI, 24, .inl (w.1 1)) := rfl
theorem eM_2 : eM ad cI cL w 2 = .inl (cI, 24, .inl (w.1 2)) := rfl
theorem eM_3 : eM ad cI cL w 3 = .inl (cI, 15, .inl (w.1 3)) := rfl
theorem eM_4 : eM ad cI cL w 4 = .inl (cI, 720, .inl (w.1 4)) := rfl
theorem eM_5 : eM ad cI cL w 5 = .inl (cI, 720, .inl (w.1 5)) := rfl
theorem eM_6 : eM ad cI cL w 6 = .inl (cI, 8, .inl (w.1 6)) := rfl
theorem eM_7 : eM ad cI cL w 7 = .inl (cI, 2, .inl (w.1 7)) := rfl
theorem eM_8 : eM ad cI cL w 8 = .inl (cI, 20, .inl (w.1 8)) := rfl
theorem eM_9 : eM ad cI cL w 9 = .inl (cI, 20, .inl (w.1 9)) := rfl
theorem eM_10 : eM ad cI cL w 10 = .inl (cI, 10, .inl (w.1 10)) := rfl
theorem eM_11 : eM ad cI cL w 11 = .inl (cI, 600, .inl (w.1 11)) := rfl
theorem eM_12 : eM ad cI cL w 12 = .inl (cI, 600, .inl (w.1 12)) := rfl
theorem eM_13 : eM ad cI cL w 13 = .inl (cI, 24, .inl (w.1 13)) := rfl
theorem eM_14 : eM ad cI cL w 14 = .inl (cI, 24, .inl (w.1 14)) := rfl
theorem eM_15 : eM ad cI cL w 15 = .inl (cI, 6, .inl (w.1 15)) := rfl
theorem eM_16 : eM ad cI cL w 16 = .inl (cI, 6, .inl (w.1 16)) := rfl
theorem eM_17 : eM ad cI cL w 17 = .inl (cL, 2400, .inr (.inl (w.2 17))) := rfl
theorem eM_18 : eM ad cI cL w 18 = .inl (cI, 24, .inl (w.1 18)) := rfl
theorem eM_19 : eM ad cI cL w 19 = .inl (cI, 24, .inl (w.1 19)) := rfl
theorem eM_20 : eM ad cI cL w 20 = .inl (cI, 3, .inl (w.1 20)) := rfl
theorem eM_21 : eM ad cI cL w 21 = .inl (cI, 3, .inl (w.1 21)) := rfl
theorem eM_22 : eM ad cI cL w 22 = .inl (cI, 48, .inl (w.1 22)) := rfl
theorem eM_23 : eM ad cI cL w 23 = .inl (cI, 48, .inl (w.1 23)) := rfl
theorem eM_24 : eM ad cI cL w 24 = .inl (cI, 2772, .inl (w.1 24)) := rfl
theorem eM_25 : eM ad cI cL w 25 = .inl (cI, 5, .inl (w.1 25)) := rfl
theorem eM_26 : eM ad cI cL w 26 = .inl (cL, 400, .inr (.inl (w.2 26))) := rfl
theorem eM_l {w' : Mem} {o : Nat} (h1 : w.1 o = w'.1 o) (h2 : w.2 o = w'.2 o) : eM ad cI cL w o = eM ad cI cL w' o := by
  unfold eM
  split <;> first | rfl | (rw [h1]) | (rw [h2])
end EC
section RZ
variable {p : Program} {l : Launch} {e : Env} {R : Room} {s : State} {m : MethodId} {args : Array Value} {below : List Frame} {meth : Method} {c : Code} {H : Heap} {locs : List Loc} {cells slots : Nat} {Q : State → Prop}
variable {cc : ByteArray} {pc : Nat} {ls : Array Slot} {rest : List Value} {z : LZ} {w : Mem} {H0 : Heap} {own : String} {index : Nat} {Ts : List Cond}
theorem pre_X0 (hK : ks z s) (hz : IC z) (hW : hd z w H)  (As : List Value) : PreV s H RX0 (z.2.1 (74)) (PZ z w (.ref (z.2.1 (74)) :: As)) As := by
  obtain ⟨hi, hn, cI, cL, cD, cT, ht, hE, hne⟩ := hz
  exact m_preV (q := (RX0, TX0, 5)) hK hW (74) (by rw [hn]; omega) (by rw [hE]; exact eC_74) rfl As
theorem get_X0_0 (hx : p.tables.exec = Jvm.exec) (hb : c.code = cc) (hts : ∀ w ∈ Ts, w.before args s = true) (hin : ∀ w ∈ wsX00, w ∈ Ts) (hown : s.vm.findClass own = some m.cls) (hK : ks z s) (hz : IC z) (hW : hd z w H)  (hl : Cond.fieldLink own index "CamStitch$Bench" "thicks" "[I" ∈ Ts) (hdg : decode cc pc = .ok (.getfield index, 3))
    (kk : W p l e R s m args below meth c H locs cells slots Q (F0 m (pc + 3) ls (.ref (z.2.1 (75)) :: rest))) : W p l e R s m args below meth c H locs cells slots Q (F0 m pc ls (.ref (z.2.1 (74)) :: rest)) := by
  obtain ⟨hi, hn, cI, cL, cD, cT, ht, hE, hne⟩ := hz
  exact m_get (C := RX0) (T := TX0) (N := 5) (ci := 0) hx hb hts hin hown hK hW (74) (by rw [hn]; omega) (by rw [hE]; exact eC_74) rfl 0 (by decide) (hts _ hl) (fun _ h => h) rfl hdg kk
theorem get_X0_1 (hx : p.tables.exec = Jvm.exec) (hb : c.code = cc) (hts : ∀ w ∈ Ts, w.before args s = true) (hin : ∀ w ∈ wsX00, w ∈ Ts) (hown : s.vm.findClass own = some m.cls) (hK : ks z s) (hz : IC z) (hW : hd z w H)  (hl : Cond.fieldLink own index "CamStitch$Bench" "upper" "I" ∈ Ts) (hdg : decode cc pc = .ok (.getfield index, 3))
    (kk : W p l e R s m args below meth c H locs cells slots Q (F0 m (pc + 3) ls (.int (w.1 (74) 1) :: rest))) : W p l e R s m args below meth c H locs cells slots Q (F0 m pc ls (.ref (z.2.1 (74)) :: rest)) := by
  obtain ⟨hi, hn, cI, cL, cD, cT, ht, hE, hne⟩ := hz
  exact m_get (C := RX0) (T := TX0) (N := 5) (ci := 0) hx hb hts hin hown hK hW (74) (by rw [hn]; omega) (by rw [hE]; exact eC_74) rfl 1 (by decide) (hts _ hl) (fun _ h => h) rfl hdg kk
theorem put_X0_1 (hx : p.tables.exec = Jvm.exec) (hb : c.code = cc) (hts : ∀ w ∈ Ts, w.before args s = true) (hin : ∀ w ∈ wsX00, w ∈ Ts) (hown : s.vm.findClass own = some m.cls) (hK : ks z s) (hz : IC z) (hW : hd z w H) (hS : va_S (az z) H0 H locs)  {v : Int32} (hl : Cond.fieldLink own index "CamStitch$Bench" "upper" "I" ∈ Ts) (hdg : decode cc pc = .ok (.putfield index, 3))
    (kk : ∀ (H1 : Heap) (locs1 : List Loc), hd z (mS w (74) 1 v) H1 → va_S (az z) H0 H1 locs1 → W p l e R s m args below meth c H1 locs1 cells slots Q (F0 m (pc + 3) ls rest)) : W p l e R s m args below meth c H locs cells slots Q (F0 m pc ls (.int v :: .ref (z.2.1 (74)) :: rest)) := by
  obtain ⟨hi, hn, cI, cL, cD, cT, ht, hE, hne⟩ := hz
  exact m_put (C := RX0) (T := TX0) (N := 5) (ci := 0) hx hb hts hin tyX0 tyX0_ok nmX0 hown hK hi hW hS (74) (by rw [hn]; omega) (by rw [hE]; exact eC_74) rfl 1 (by decide) (hts _ hl) (fun _ h => h) rfl (ty := .int) rfl rfl rfl (Nat.le_of_ble_eq_true rfl) (by rw [hE, eC_74]; simp [mS, up2]) hdg kk
theorem get_X0_2 (hx : p.tables.exec = Jvm.exec) (hb : c.code = cc) (hts : ∀ w ∈ Ts, w.before args s = true) (hin : ∀ w ∈ wsX00, w ∈ Ts) (hown : s.vm.findClass own = some m.cls) (hK : ks z s) (hz : IC z) (hW : hd z w H)  (hl : Cond.fieldLink own index "CamStitch$Bench" "lower" "I" ∈ Ts) (hdg : decode cc pc = .ok (.getfield index, 3))
    (kk : W p l e R s m args below meth c H locs cells slots Q (F0 m (pc + 3) ls (.int (w.1 (74) 2) :: rest))) : W p l e R s m args below meth c H locs cells slots Q (F0 m pc ls (.ref (z.2.1 (74)) :: rest)) := by
  obtain ⟨hi, hn, cI, cL, cD, cT, ht, hE, hne⟩ := hz
  exact m_get (C := RX0) (T := TX0) (N := 5) (ci := 0) hx hb hts hin hown hK hW (74) (by rw [hn]; omega) (by rw [hE]; exact eC_74) rfl 2 (by decide) (hts _ hl) (fun _ h => h) rfl hdg kk
theorem put_X0_2 (hx : p.tables.exec = Jvm.exec) (hb : c.code = cc) (hts : ∀ w ∈ Ts, w.before args s = true) (hin : ∀ w ∈ wsX00, w ∈ Ts) (hown : s.vm.findClass own = some m.cls) (hK : ks z s) (hz : IC z) (hW : hd z w H) (hS : va_S (az z) H0 H locs)  {v : Int32} (hl : Cond.fieldLink own index "CamStitch$Bench" "lower" "I" ∈ Ts) (hdg : decode cc pc = .ok (.putfield index, 3))
    (kk : ∀ (H1 : Heap) (locs1 : List Loc), hd z (mS w (74) 2 v) H1 → va_S (az z) H0 H1 locs1 → W p l e R s m args below meth c H1 locs1 cells slots Q (F0 m (pc + 3) ls rest)) : W p l e R s m args below meth c H locs cells slots Q (F0 m pc ls (.int v :: .ref (z.2.1 (74)) :: rest)) := by
  obtain ⟨hi, hn, cI, cL, cD, cT, ht, hE, hne⟩ := hz
  exact m_put (C := RX0) (T := TX0) (N := 5) (ci := 0) hx hb hts hin tyX0 tyX0_ok nmX0 hown hK hi hW hS (74) (by rw [hn]; omega) (by rw [hE]; exact eC_74) rfl 2 (by decide) (hts _ hl) (fun _ h => h) rfl (ty := .int) rfl rfl rfl (Nat.le_of_ble_eq_true rfl) (by rw [hE, eC_74]; simp [mS, up2]) hdg kk
theorem get_X0_3 (hx : p.tables.exec = Jvm.exec) (hb : c.code = cc) (hts : ∀ w ∈ Ts, w.before args s = true) (hin : ∀ w ∈ wsX00, w ∈ Ts) (hown : s.vm.findClass own = some m.cls) (hK : ks z s) (hz : IC z) (hW : hd z w H)  (hl : Cond.fieldLink own index "CamStitch$Bench" "spool" "I" ∈ Ts) (hdg : decode cc pc = .ok (.getfield index, 3))
    (kk : W p l e R s m args below meth c H locs cells slots Q (F0 m (pc + 3) ls (.int (w.1 (74) 3) :: rest))) : W p l e R s m args below meth c H locs cells slots Q (F0 m pc ls (.ref (z.2.1 (74)) :: rest)) := by
  obtain ⟨hi, hn, cI, cL, cD, cT, ht, hE, hne⟩ := hz
  exact m_get (C := RX0) (T := TX0) (N := 5) (ci := 0) hx hb hts hin hown hK hW (74) (by rw [hn]; omega) (by rw [hE]; exact eC_74) rfl 3 (by decide) (hts _ hl) (fun _ h => h) rfl hdg kk
theorem put_X0_3 (hx : p.tables.exec = Jvm.exec) (hb : c.code = cc) (hts : ∀ w ∈ Ts, w.before args s = true) (hin : ∀ w ∈ wsX00, w ∈ Ts) (hown : s.vm.findClass own = some m.cls) (hK : ks z s) (hz : IC z) (hW : hd z w H) (hS : va_S (az z) H0 H locs)  {v : Int32} (hl : Cond.fieldLink own index "CamStitch$Bench" "spool" "I" ∈ Ts) (hdg : decode cc pc = .ok (.putfield index, 3))
    (kk : ∀ (H1 : Heap) (locs1 : List Loc), hd z (mS w (74) 3 v) H1 → va_S (az z) H0 H1 locs1 → W p l e R s m args below meth c H1 locs1 cells slots Q (F0 m (pc + 3) ls rest)) : W p l e R s m args below meth c H locs cells slots Q (F0 m pc ls (.int v :: .ref (z.2.1 (74)) :: rest)) := by
  obtain ⟨hi, hn, cI, cL, cD, cT, ht, hE, hne⟩ := hz
  exact m_put (C := RX0) (T := TX0) (N := 5) (ci := 0) hx hb hts hin tyX0 tyX0_ok nmX0 hown hK hi hW hS (74) (by rw [hn]; omega) (by rw [hE]; exact eC_74) rfl 3 (by decide) (hts _ hl) (fun _ h => h) rfl (ty := .int) rfl rfl rfl (Nat.le_of_ble_eq_true rfl) (by rw [hE, eC_74]; simp [mS, up2]) hdg kk
theorem get_X0_4 (hx : p.tables.exec = Jvm.exec) (hb : c.code = cc) (hts : ∀ w ∈ Ts, w.before args s = true) (hin : ∀ w ∈ wsX00, w ∈ Ts) (hown : s.vm.findClass own = some m.cls) (hK : ks z s) (hz : IC z) (hW : hd z w H)  (hl : Cond.fieldLink own index "CamStitch$Bench" "bobbin" "I" ∈ Ts) (hdg : decode cc pc = .ok (.getfield index, 3))
    (kk : W p l e R s m args below meth c H locs cells slots Q (F0 m (pc + 3) ls (.int (w.1 (74) 4) :: rest))) : W p l e R s m args below meth c H locs cells slots Q (F0 m pc ls (.ref (z.2.1 (74)) :: rest)) := by
  obtain ⟨hi, hn, cI, cL, cD, cT, ht, hE, hne⟩ := hz
  exact m_get (C := RX0) (T := TX0) (N := 5) (ci := 0) hx hb hts hin hown hK hW (74) (by rw [hn]; omega) (by rw [hE]; exact eC_74) rfl 4 (by decide) (hts _ hl) (fun _ h => h) rfl hdg kk
theorem put_X0_4 (hx : p.tables.exec = Jvm.exec) (hb : c.code = cc) (hts : ∀ w ∈ Ts, w.before args s = true) (hin : ∀ w ∈ wsX00, w ∈ Ts) (hown : s.vm.findClass own = some m.cls) (hK : ks z s) (hz : IC z) (hW : hd z w H) (hS : va_S (az z) H0 H locs)  {v : Int32} (hl : Cond.fieldLink own index "CamStitch$Bench" "bobbin" "I" ∈ Ts) (hdg : decode cc pc = .ok (.putfield index, 3))
    (kk : ∀ (H1 : Heap) (locs1 : List Loc), hd z (mS w (74) 4 v) H1 → va_S (az z) H0 H1 locs1 → W p l e R s m args below meth c H1 locs1 cells slots Q (F0 m (pc + 3) ls rest)) : W p l e R s m args below meth c H locs cells slots Q (F0 m pc ls (.int v :: .ref (z.2.1 (74)) :: rest)) := by
  obtain ⟨hi, hn, cI, cL, cD, cT, ht, hE, hne⟩ := hz
  exact m_put (C := RX0) (T := TX0) (N := 5) (ci := 0) hx hb hts hin tyX0 tyX0_ok nmX0 hown hK hi hW hS (74) (by rw [hn]; omega) (by rw [hE]; exact eC_74) rfl 4 (by decide) (hts _ hl) (fun _ h => h) rfl (ty := .int) rfl rfl rfl (Nat.le_of_ble_eq_true rfl) (by rw [hE, eC_74]; simp [mS, up2]) hdg kk
theorem pre_X1 (hK : ks z s) (hz : IC z) (hW : hd z w H) {d : Nat} (hd0 : d < 16) (As : List Value) : PreV s H RX1 (z.2.1 (3*d)) (PZ z w (.ref (z.2.1 (3*d)) :: As)) As := by
  obtain ⟨hi, hn, cI, cL, cD, cT, ht, hE, hne⟩ := hz
  exact m_preV (q := (RX1, TX1, 3)) hK hW (3*d) (by rw [hn]; omega) (by rw [hE]; exact eC_X1 hd0) rfl As
theorem get_X1_0 (hx : p.tables.exec = Jvm.exec) (hb : c.code = cc) (hts : ∀ w ∈ Ts, w.before args s = true) (hin : ∀ w ∈ wsX10, w ∈ Ts) (hown : s.vm.findClass own = some m.cls) (hK : ks z s) (hz : IC z) (hW : hd z w H) {d : Nat} (hd0 : d < 16) (hl : Cond.fieldLink own index "CamStitch$Disc" "swings" "[I" ∈ Ts) (hdg : decode cc pc = .ok (.getfield index, 3))
    (kk : W p l e R s m args below meth c H locs cells slots Q (F0 m (pc + 3) ls (.ref (z.2.1 (3*d+1)) :: rest))) : W p l e R s m args below meth c H locs cells slots Q (F0 m pc ls (.ref (z.2.1 (3*d)) :: rest)) := by
  obtain ⟨hi, hn, cI, cL, cD, cT, ht, hE, hne⟩ := hz
  exact m_get (C := RX1) (T := TX1) (N := 3) (ci := 1) hx hb hts hin hown hK hW (3*d) (by rw [hn]; omega) (by rw [hE]; exact eC_X1 hd0) rfl 0 (by decide) (hts _ hl) (fun _ h => h) rfl hdg kk
theorem get_X1_1 (hx : p.tables.exec = Jvm.exec) (hb : c.code = cc) (hts : ∀ w ∈ Ts, w.before args s = true) (hin : ∀ w ∈ wsX10, w ∈ Ts) (hown : s.vm.findClass own = some m.cls) (hK : ks z s) (hz : IC z) (hW : hd z w H) {d : Nat} (hd0 : d < 16) (hl : Cond.fieldLink own index "CamStitch$Disc" "feeds" "[I" ∈ Ts) (hdg : decode cc pc = .ok (.getfield index, 3))
    (kk : W p l e R s m args below meth c H locs cells slots Q (F0 m (pc + 3) ls (.ref (z.2.1 (3*d+2)) :: rest))) : W p l e R s m args below meth c H locs cells slots Q (F0 m pc ls (.ref (z.2.1 (3*d)) :: rest)) := by
  obtain ⟨hi, hn, cI, cL, cD, cT, ht, hE, hne⟩ := hz
  exact m_get (C := RX1) (T := TX1) (N := 3) (ci := 1) hx hb hts hin hown hK hW (3*d) (by rw [hn]; omega) (by rw [hE]; exact eC_X1 hd0) rfl 1 (by decide) (hts _ hl) (fun _ h => h) rfl hdg kk
theorem get_X1_2 (hx : p.tables.exec = Jvm.exec) (hb : c.code = cc) (hts : ∀ w ∈ Ts, w.before args s = true) (hin : ∀ w ∈ wsX10, w ∈ Ts) (hown : s.vm.findClass own = some m.cls) (hK : ks z s) (hz : IC z) (hW : hd z w H) {d : Nat} (hd0 : d < 16) (hl : Cond.fieldLink own index "CamStitch$Disc" "stitches" "I" ∈ Ts) (hdg : decode cc pc = .ok (.getfield index, 3))
    (kk : W p l e R s m args below meth c H locs cells slots Q (F0 m (pc + 3) ls (.int (w.1 (3*d) 2) :: rest))) : W p l e R s m args below meth c H locs cells slots Q (F0 m pc ls (.ref (z.2.1 (3*d)) :: rest)) := by
  obtain ⟨hi, hn, cI, cL, cD, cT, ht, hE, hne⟩ := hz
  exact m_get (C := RX1) (T := TX1) (N := 3) (ci := 1) hx hb hts hin hown hK hW (3*d) (by rw [hn]; omega) (by rw [hE]; exact eC_X1 hd0) rfl 2 (by decide) (hts _ hl) (fun _ h => h) rfl hdg kk
theorem put_X1_2 (hx : p.tables.exec = Jvm.exec) (hb : c.code = cc) (hts : ∀ w ∈ Ts, w.before args s = true) (hin : ∀ w ∈ wsX10, w ∈ Ts) (hown : s.vm.findClass own = some m.cls) (hK : ks z s) (hz : IC z) (hW : hd z w H) (hS : va_S (az z) H0 H locs) {d : Nat} (hd0 : d < 16) {v : Int32} (hl : Cond.fieldLink own index "CamStitch$Disc" "stitches" "I" ∈ Ts) (hdg : decode cc pc = .ok (.putfield index, 3))
    (kk : ∀ (H1 : Heap) (locs1 : List Loc), hd z (mS w (3*d) 2 v) H1 → va_S (az z) H0 H1 locs1 → W p l e R s m args below meth c H1 locs1 cells slots Q (F0 m (pc + 3) ls rest)) : W p l e R s m args below meth c H locs cells slots Q (F0 m pc ls (.int v :: .ref (z.2.1 (3*d)) :: rest)) := by
  obtain ⟨hi, hn, cI, cL, cD, cT, ht, hE, hne⟩ := hz
  exact m_put (C := RX1) (T := TX1) (N := 3) (ci := 1) hx hb hts hin tyX1 tyX1_ok nmX1 hown hK hi hW hS (3*d) (by rw [hn]; omega) (by rw [hE]; exact eC_X1 hd0) rfl 2 (by decide) (hts _ hl) (fun _ h => h) rfl (ty := .int) rfl rfl rfl (Nat.le_of_ble_eq_true rfl) (by rw [hE, eC_X1 hd0]; simp [mS, up2]) hdg kk
theorem pre_X2 (hK : ks z s) (hz : IC z) (hW : hd z w H)  (As : List Value) : PreV s H RX2 (z.2.1 (83)) (PZ z w (.ref (z.2.1 (83)) :: As)) As := by
  obtain ⟨hi, hn, cI, cL, cD, cT, ht, hE, hne⟩ := hz
  exact m_preV (q := (RX2, TX2, 8)) hK hW (83) (by rw [hn]; omega) (by rw [hE]; exact eC_83) rfl As
theorem get_X2_0 (hx : p.tables.exec = Jvm.exec) (hb : c.code = cc) (hts : ∀ w ∈ Ts, w.before args s = true) (hin : ∀ w ∈ wsX20, w ∈ Ts) (hown : s.vm.findClass own = some m.cls) (hK : ks z s) (hz : IC z) (hW : hd z w H)  (hl : Cond.fieldLink own index "CamStitch$Faults" "trials" "[I" ∈ Ts) (hdg : decode cc pc = .ok (.getfield index, 3))
    (kk : W p l e R s m args below meth c H locs cells slots Q (F0 m (pc + 3) ls (.ref (z.2.1 (84)) :: rest))) : W p l e R s m args below meth c H locs cells slots Q (F0 m pc ls (.ref (z.2.1 (83)) :: rest)) := by
  obtain ⟨hi, hn, cI, cL, cD, cT, ht, hE, hne⟩ := hz
  exact m_get (C := RX2) (T := TX2) (N := 8) (ci := 2) hx hb hts hin hown hK hW (83) (by rw [hn]; omega) (by rw [hE]; exact eC_83) rfl 0 (by decide) (hts _ hl) (fun _ h => h) rfl hdg kk
theorem get_X2_1 (hx : p.tables.exec = Jvm.exec) (hb : c.code = cc) (hts : ∀ w ∈ Ts, w.before args s = true) (hin : ∀ w ∈ wsX20, w ∈ Ts) (hown : s.vm.findClass own = some m.cls) (hK : ks z s) (hz : IC z) (hW : hd z w H)  (hl : Cond.fieldLink own index "CamStitch$Faults" "outcomes" "[I" ∈ Ts) (hdg : decode cc pc = .ok (.getfield index, 3))
    (kk : W p l e R s m args below meth c H locs cells slots Q (F0 m (pc + 3) ls (.ref (z.2.1 (85)) :: rest))) : W p l e R s m args below meth c H locs cells slots Q (F0 m pc ls (.ref (z.2.1 (83)) :: rest)) := by
  obtain ⟨hi, hn, cI, cL, cD, cT, ht, hE, hne⟩ := hz
  exact m_get (C := RX2) (T := TX2) (N := 8) (ci := 2) hx hb hts hin hown hK hW (83) (by rw [hn]; omega) (by rw [hE]; exact eC_83) rfl 1 (by decide) (hts _ hl) (fun _ h => h) rfl hdg kk
theorem get_X2_2 (hx : p.tables.exec = Jvm.exec) (hb : c.code = cc) (hts : ∀ w ∈ Ts, w.before args s = true) (hin : ∀ w ∈ wsX20, w ∈ Ts) (hown : s.vm.findClass own = some m.cls) (hK : ks z s) (hz : IC z) (hW : hd z w H)  (hl : Cond.fieldLink own index "CamStitch$Faults" "notes" "I" ∈ Ts) (hdg : decode cc pc = .ok (.getfield index, 3))
    (kk : W p l e R s m args below meth c H locs cells slots Q (F0 m (pc + 3) ls (.int (w.1 (83) 2) :: rest))) : W p l e R s m args below meth c H locs cells slots Q (F0 m pc ls (.ref (z.2.1 (83)) :: rest)) := by
  obtain ⟨hi, hn, cI, cL, cD, cT, ht, hE, hne⟩ := hz
  exact m_get (C := RX2) (T := TX2) (N := 8) (ci := 2) hx hb hts hin hown hK hW (83) (by rw [hn]; omega) (by rw [hE]; exact eC_83) rfl 2 (by decide) (hts _ hl) (fun _ h => h) rfl hdg kk
theorem put_X2_2 (hx : p.tables.exec = Jvm.exec) (hb : c.code = cc) (hts : ∀ w ∈ Ts, w.before args s = true) (hin : ∀ w ∈ wsX20, w ∈ Ts) (hown : s.vm.findClass own = some m.cls) (hK : ks z s) (hz : IC z) (hW : hd z w H) (hS : va_S (az z) H0 H locs)  {v : Int32} (hl : Cond.fieldLink own index "CamStitch$Faults" "notes" "I" ∈ Ts) (hdg : decode cc pc = .ok (.putfield index, 3))
    (kk : ∀ (H1 : Heap) (locs1 : List Loc), hd z (mS w (83) 2 v) H1 → va_S (az z) H0 H1 locs1 → W p l e R s m args below meth c H1 locs1 cells slots Q (F0 m (pc + 3) ls rest)) : W p l e R s m args below meth c H locs cells slots Q (F0 m pc ls (.int v :: .ref (z.2.1 (83)) :: rest)) := by
  obtain ⟨hi, hn, cI, cL, cD, cT, ht, hE, hne⟩ := hz
  exact m_put (C := RX2) (T := TX2) (N := 8) (ci := 2) hx hb hts hin tyX2 tyX2_ok nmX2 hown hK hi hW hS (83) (by rw [hn]; omega) (by rw [hE]; exact eC_83) rfl 2 (by decide) (hts _ hl) (fun _ h => h) rfl (ty := .int) rfl rfl rfl (Nat.le_of_ble_eq_true rfl) (by rw [hE, eC_83]; simp [mS, up2]) hdg kk
theorem get_X2_3 (hx : p.tables.exec = Jvm.exec) (hb : c.code = cc) (hts : ∀ w ∈ Ts, w.before args s = true) (hin : ∀ w ∈ wsX20, w ∈ Ts) (hown : s.vm.findClass own = some m.cls) (hK : ks z s) (hz : IC z) (hW : hd z w H)  (hl : Cond.fieldLink own index "CamStitch$Faults" "size" "I" ∈ Ts) (hdg : decode cc pc = .ok (.getfield index, 3))
    (kk : W p l e R s m args below meth c H locs cells slots Q (F0 m (pc + 3) ls (.int (w.1 (83) 3) :: rest))) : W p l e R s m args below meth c H locs cells slots Q (F0 m pc ls (.ref (z.2.1 (83)) :: rest)) := by
  obtain ⟨hi, hn, cI, cL, cD, cT, ht, hE, hne⟩ := hz
  exact m_get (C := RX2) (T := TX2) (N := 8) (ci := 2) hx hb hts hin hown hK hW (83) (by rw [hn]; omega) (by rw [hE]; exact eC_83) rfl 3 (by decide) (hts _ hl) (fun _ h => h) rfl hdg kk
theorem put_X2_3 (hx : p.tables.exec = Jvm.exec) (hb : c.code = cc) (hts : ∀ w ∈ Ts, w.before args s = true) (hin : ∀ w ∈ wsX20, w ∈ Ts) (hown : s.vm.findClass own = some m.cls) (hK : ks z s) (hz : IC z) (hW : hd z w H) (hS : va_S (az z) H0 H locs)  {v : Int32} (hl : Cond.fieldLink own index "CamStitch$Faults" "size" "I" ∈ Ts) (hdg : decode cc pc = .ok (.putfield index, 3))
    (kk : ∀ (H1 : Heap) (locs1 : List Loc), hd z (mS w (83) 3 v) H1 → va_S (az z) H0 H1 locs1 → W p l e R s m args below meth c H1 locs1 cells slots Q (F0 m (pc + 3) ls rest)) : W p l e R s m args below meth c H locs cells slots Q (F0 m pc ls (.int v :: .ref (z.2.1 (83)) :: rest)) := by
  obtain ⟨hi, hn, cI, cL, cD, cT, ht, hE, hne⟩ := hz
  exact m_put (C := RX2) (T := TX2) (N := 8) (ci := 2) hx hb hts hin tyX2 tyX2_ok nmX2 hown hK hi hW hS (83) (by rw [hn]; omega) (by rw [hE]; exact eC_83) rfl 3 (by decide) (hts _ hl) (fun _ h => h) rfl (ty := .int) rfl rfl rfl (Nat.le_of_ble_eq_true rfl) (by rw [hE, eC_83]; simp [mS, up2]) hdg kk
theorem get_X2_4 (hx : p.tables.exec = Jvm.exec) (hb : c.code = cc) (hts : ∀ w ∈ Ts, w.before args s = true) (hin : ∀ w ∈ wsX20, w ∈ Ts) (hown : s.vm.findClass own = some m.cls) (hK : ks z s) (hz : IC z) (hW : hd z w H)  (hl : Cond.fieldLink own index "CamStitch$Faults" "lastTrial" "I" ∈ Ts) (hdg : decode cc pc = .ok (.getfield index, 3))
    (kk : W p l e R s m args below meth c H locs cells slots Q (F0 m (pc + 3) ls (.int (w.1 (83) 4) :: rest))) : W p l e R s m args below meth c H locs cells slots Q (F0 m pc ls (.ref (z.2.1 (83)) :: rest)) := by
  obtain ⟨hi, hn, cI, cL, cD, cT, ht, hE, hne⟩ := hz
  exact m_get (C := RX2) (T := TX2) (N := 8) (ci := 2) hx hb hts hin hown hK hW (83) (by rw [hn]; omega) (by rw [hE]; exact eC_83) rfl 4 (by decide) (hts _ hl) (fun _ h => h) rfl hdg kk
theorem put_X2_4 (hx : p.tables.exec = Jvm.exec) (hb : c.code = cc) (hts : ∀ w ∈ Ts, w.before args s = true) (hin : ∀ w ∈ wsX20, w ∈ Ts) (hown : s.vm.findClass own = some m.cls) (hK : ks z s) (hz : IC z) (hW : hd z w H) (hS : va_S (az z) H0 H locs)  {v : Int32} (hl : Cond.fieldLink own index "CamStitch$Faults" "lastTrial" "I" ∈ Ts) (hdg : decode cc pc = .ok (.putfield index, 3))
    (kk : ∀ (H1 : Heap) (locs1 : List Loc), hd z (mS w (83) 4 v) H1 → va_S (az z) H0 H1 locs1 → W p l e R s m args below meth c H1 locs1 cells slots Q (F0 m (pc + 3) ls rest)) : W p l e R s m args below meth c H locs cells slots Q (F0 m pc ls (.int v :: .ref (z.2.1 (83)) :: rest)) := by
  obtain ⟨hi, hn, cI, cL, cD, cT, ht, hE, hne⟩ := hz
  exact m_put (C := RX2) (T := TX2) (N := 8) (ci := 2) hx hb hts hin tyX2 tyX2_ok nmX2 hown hK hi hW hS (83) (by rw [hn]; omega) (by rw [hE]; exact eC_83) rfl 4 (by decide) (hts _ hl) (fun _ h => h) rfl (ty := .int) rfl rfl rfl (Nat.le_of_ble_eq_true rfl) (by rw [hE, eC_83]; simp [mS, up2]) hdg kk
theorem get_X2_5 (hx : p.tables.exec = Jvm.exec) (hb : c.code = cc) (hts : ∀ w ∈ Ts, w.before args s = true) (hin : ∀ w ∈ wsX20, w ∈ Ts) (hown : s.vm.findClass own = some m.cls) (hK : ks z s) (hz : IC z) (hW : hd z w H)  (hl : Cond.fieldLink own index "CamStitch$Faults" "kinds" "[I" ∈ Ts) (hdg : decode cc pc = .ok (.getfield index, 3))
    (kk : W p l e R s m args below meth c H locs cells slots Q (F0 m (pc + 3) ls (.ref (z.2.1 (86)) :: rest))) : W p l e R s m args below meth c H locs cells slots Q (F0 m pc ls (.ref (z.2.1 (83)) :: rest)) := by
  obtain ⟨hi, hn, cI, cL, cD, cT, ht, hE, hne⟩ := hz
  exact m_get (C := RX2) (T := TX2) (N := 8) (ci := 2) hx hb hts hin hown hK hW (83) (by rw [hn]; omega) (by rw [hE]; exact eC_83) rfl 5 (by decide) (hts _ hl) (fun _ h => h) rfl hdg kk
theorem get_X2_6 (hx : p.tables.exec = Jvm.exec) (hb : c.code = cc) (hts : ∀ w ∈ Ts, w.before args s = true) (hin : ∀ w ∈ wsX20, w ∈ Ts) (hown : s.vm.findClass own = some m.cls) (hK : ks z s) (hz : IC z) (hW : hd z w H)  (hl : Cond.fieldLink own index "CamStitch$Faults" "pulls" "[I" ∈ Ts) (hdg : decode cc pc = .ok (.getfield index, 3))
    (kk : W p l e R s m args below meth c H locs cells slots Q (F0 m (pc + 3) ls (.ref (z.2.1 (87)) :: rest))) : W p l e R s m args below meth c H locs cells slots Q (F0 m pc ls (.ref (z.2.1 (83)) :: rest)) := by
  obtain ⟨hi, hn, cI, cL, cD, cT, ht, hE, hne⟩ := hz
  exact m_get (C := RX2) (T := TX2) (N := 8) (ci := 2) hx hb hts hin hown hK hW (83) (by rw [hn]; omega) (by rw [hE]; exact eC_83) rfl 6 (by decide) (hts _ hl) (fun _ h => h) rfl hdg kk
theorem get_X2_7 (hx : p.tables.exec = Jvm.exec) (hb : c.code = cc) (hts : ∀ w ∈ Ts, w.before args s = true) (hin : ∀ w ∈ wsX20, w ∈ Ts) (hown : s.vm.findClass own = some m.cls) (hK : ks z s) (hz : IC z) (hW : hd z w H)  (hl : Cond.fieldLink own index "CamStitch$Faults" "kindsLeft" "I" ∈ Ts) (hdg : decode cc pc = .ok (.getfield index, 3))
    (kk : W p l e R s m args below meth c H locs cells slots Q (F0 m (pc + 3) ls (.int (w.1 (83) 7) :: rest))) : W p l e R s m args below meth c H locs cells slots Q (F0 m pc ls (.ref (z.2.1 (83)) :: rest)) := by
  obtain ⟨hi, hn, cI, cL, cD, cT, ht, hE, hne⟩ := hz
  exact m_get (C := RX2) (T := TX2) (N := 8) (ci := 2) hx hb hts hin hown hK hW (83) (by rw [hn]; omega) (by rw [hE]; exact eC_83) rfl 7 (by decide) (hts _ hl) (fun _ h => h) rfl hdg kk
theorem put_X2_7 (hx : p.tables.exec = Jvm.exec) (hb : c.code = cc) (hts : ∀ w ∈ Ts, w.before args s = true) (hin : ∀ w ∈ wsX20, w ∈ Ts) (hown : s.vm.findClass own = some m.cls) (hK : ks z s) (hz : IC z) (hW : hd z w H) (hS : va_S (az z) H0 H locs)  {v : Int32} (hl : Cond.fieldLink own index "CamStitch$Faults" "kindsLeft" "I" ∈ Ts) (hdg : decode cc pc = .ok (.putfield index, 3))
    (kk : ∀ (H1 : Heap) (locs1 : List Loc), hd z (mS w (83) 7 v) H1 → va_S (az z) H0 H1 locs1 → W p l e R s m args below meth c H1 locs1 cells slots Q (F0 m (pc + 3) ls rest)) : W p l e R s m args below meth c H locs cells slots Q (F0 m pc ls (.int v :: .ref (z.2.1 (83)) :: rest)) := by
  obtain ⟨hi, hn, cI, cL, cD, cT, ht, hE, hne⟩ := hz
  exact m_put (C := RX2) (T := TX2) (N := 8) (ci := 2) hx hb hts hin tyX2 tyX2_ok nmX2 hown hK hi hW hS (83) (by rw [hn]; omega) (by rw [hE]; exact eC_83) rfl 7 (by decide) (hts _ hl) (fun _ h => h) rfl (ty := .int) rfl rfl rfl (Nat.le_of_ble_eq_true rfl) (by rw [hE, eC_83]; simp [mS, up2]) hdg kk
theorem pre_X3 (hK : ks z s) (hz : IC z) (hW : hd z w H)  (As : List Value) : PreV s H RX3 (z.2.1 (72)) (PZ z w (.ref (z.2.1 (72)) :: As)) As := by
  obtain ⟨hi, hn, cI, cL, cD, cT, ht, hE, hne⟩ := hz
  exact m_preV (q := (RX3, TX3, 5)) hK hW (72) (by rw [hn]; omega) (by rw [hE]; exact eC_72) rfl As
theorem get_X3_0 (hx : p.tables.exec = Jvm.exec) (hb : c.code = cc) (hts : ∀ w ∈ Ts, w.before args s = true) (hin : ∀ w ∈ wsX30, w ∈ Ts) (hown : s.vm.findClass own = some m.cls) (hK : ks z s) (hz : IC z) (hW : hd z w H)  (hl : Cond.fieldLink own index "CamStitch$Hem" "lengths" "[I" ∈ Ts) (hdg : decode cc pc = .ok (.getfield index, 3))
    (kk : W p l e R s m args below meth c H locs cells slots Q (F0 m (pc + 3) ls (.ref (z.2.1 (73)) :: rest))) : W p l e R s m args below meth c H locs cells slots Q (F0 m pc ls (.ref (z.2.1 (72)) :: rest)) := by
  obtain ⟨hi, hn, cI, cL, cD, cT, ht, hE, hne⟩ := hz
  exact m_get (C := RX3) (T := TX3) (N := 5) (ci := 3) hx hb hts hin hown hK hW (72) (by rw [hn]; omega) (by rw [hE]; exact eC_72) rfl 0 (by decide) (hts _ hl) (fun _ h => h) rfl hdg kk
theorem get_X3_1 (hx : p.tables.exec = Jvm.exec) (hb : c.code = cc) (hts : ∀ w ∈ Ts, w.before args s = true) (hin : ∀ w ∈ wsX30, w ∈ Ts) (hown : s.vm.findClass own = some m.cls) (hK : ks z s) (hz : IC z) (hW : hd z w H)  (hl : Cond.fieldLink own index "CamStitch$Hem" "sides" "I" ∈ Ts) (hdg : decode cc pc = .ok (.getfield index, 3))
    (kk : W p l e R s m args below meth c H locs cells slots Q (F0 m (pc + 3) ls (.int (w.1 (72) 1) :: rest))) : W p l e R s m args below meth c H locs cells slots Q (F0 m pc ls (.ref (z.2.1 (72)) :: rest)) := by
  obtain ⟨hi, hn, cI, cL, cD, cT, ht, hE, hne⟩ := hz
  exact m_get (C := RX3) (T := TX3) (N := 5) (ci := 3) hx hb hts hin hown hK hW (72) (by rw [hn]; omega) (by rw [hE]; exact eC_72) rfl 1 (by decide) (hts _ hl) (fun _ h => h) rfl hdg kk
theorem put_X3_1 (hx : p.tables.exec = Jvm.exec) (hb : c.code = cc) (hts : ∀ w ∈ Ts, w.before args s = true) (hin : ∀ w ∈ wsX30, w ∈ Ts) (hown : s.vm.findClass own = some m.cls) (hK : ks z s) (hz : IC z) (hW : hd z w H) (hS : va_S (az z) H0 H locs)  {v : Int32} (hl : Cond.fieldLink own index "CamStitch$Hem" "sides" "I" ∈ Ts) (hdg : decode cc pc = .ok (.putfield index, 3))
    (kk : ∀ (H1 : Heap) (locs1 : List Loc), hd z (mS w (72) 1 v) H1 → va_S (az z) H0 H1 locs1 → W p l e R s m args below meth c H1 locs1 cells slots Q (F0 m (pc + 3) ls rest)) : W p l e R s m args below meth c H locs cells slots Q (F0 m pc ls (.int v :: .ref (z.2.1 (72)) :: rest)) := by
  obtain ⟨hi, hn, cI, cL, cD, cT, ht, hE, hne⟩ := hz
  exact m_put (C := RX3) (T := TX3) (N := 5) (ci := 3) hx hb hts hin tyX3 tyX3_ok nmX3 hown hK hi hW hS (72) (by rw [hn]; omega) (by rw [hE]; exact eC_72) rfl 1 (by decide) (hts _ hl) (fun _ h => h) rfl (ty := .int) rfl rfl rfl (Nat.le_of_ble_eq_true rfl) (by rw [hE, eC_72]; simp [mS, up2]) hdg kk
theorem get_X3_2 (hx : p.tables.exec = Jvm.exec) (hb : c.code = cc) (hts : ∀ w ∈ Ts, w.before args s = true) (hin : ∀ w ∈ wsX30, w ∈ Ts) (hown : s.vm.findClass own = some m.cls) (hK : ks z s) (hz : IC z) (hW : hd z w H)  (hl : Cond.fieldLink own index "CamStitch$Hem" "rounds" "I" ∈ Ts) (hdg : decode cc pc = .ok (.getfield index, 3))
    (kk : W p l e R s m args below meth c H locs cells slots Q (F0 m (pc + 3) ls (.int (w.1 (72) 2) :: rest))) : W p l e R s m args below meth c H locs cells slots Q (F0 m pc ls (.ref (z.2.1 (72)) :: rest)) := by
  obtain ⟨hi, hn, cI, cL, cD, cT, ht, hE, hne⟩ := hz
  exact m_get (C := RX3) (T := TX3) (N := 5) (ci := 3) hx hb hts hin hown hK hW (72) (by rw [hn]; omega) (by rw [hE]; exact eC_72) rfl 2 (by decide) (hts _ hl) (fun _ h => h) rfl hdg kk
theorem put_X3_2 (hx : p.tables.exec = Jvm.exec) (hb : c.code = cc) (hts : ∀ w ∈ Ts, w.before args s = true) (hin : ∀ w ∈ wsX30, w ∈ Ts) (hown : s.vm.findClass own = some m.cls) (hK : ks z s) (hz : IC z) (hW : hd z w H) (hS : va_S (az z) H0 H locs)  {v : Int32} (hl : Cond.fieldLink own index "CamStitch$Hem" "rounds" "I" ∈ Ts) (hdg : decode cc pc = .ok (.putfield index, 3))
    (kk : ∀ (H1 : Heap) (locs1 : List Loc), hd z (mS w (72) 2 v) H1 → va_S (az z) H0 H1 locs1 → W p l e R s m args below meth c H1 locs1 cells slots Q (F0 m (pc + 3) ls rest)) : W p l e R s m args below meth c H locs cells slots Q (F0 m pc ls (.int v :: .ref (z.2.1 (72)) :: rest)) := by
  obtain ⟨hi, hn, cI, cL, cD, cT, ht, hE, hne⟩ := hz
  exact m_put (C := RX3) (T := TX3) (N := 5) (ci := 3) hx hb hts hin tyX3 tyX3_ok nmX3 hown hK hi hW hS (72) (by rw [hn]; omega) (by rw [hE]; exact eC_72) rfl 2 (by decide) (hts _ hl) (fun _ h => h) rfl (ty := .int) rfl rfl rfl (Nat.le_of_ble_eq_true rfl) (by rw [hE, eC_72]; simp [mS, up2]) hdg kk
theorem get_X3_3 (hx : p.tables.exec = Jvm.exec) (hb : c.code = cc) (hts : ∀ w ∈ Ts, w.before args s = true) (hin : ∀ w ∈ wsX30, w ∈ Ts) (hown : s.vm.findClass own = some m.cls) (hK : ks z s) (hz : IC z) (hW : hd z w H)  (hl : Cond.fieldLink own index "CamStitch$Hem" "rest" "I" ∈ Ts) (hdg : decode cc pc = .ok (.getfield index, 3))
    (kk : W p l e R s m args below meth c H locs cells slots Q (F0 m (pc + 3) ls (.int (w.1 (72) 3) :: rest))) : W p l e R s m args below meth c H locs cells slots Q (F0 m pc ls (.ref (z.2.1 (72)) :: rest)) := by
  obtain ⟨hi, hn, cI, cL, cD, cT, ht, hE, hne⟩ := hz
  exact m_get (C := RX3) (T := TX3) (N := 5) (ci := 3) hx hb hts hin hown hK hW (72) (by rw [hn]; omega) (by rw [hE]; exact eC_72) rfl 3 (by decide) (hts _ hl) (fun _ h => h) rfl hdg kk
theorem put_X3_3 (hx : p.tables.exec = Jvm.exec) (hb : c.code = cc) (hts : ∀ w ∈ Ts, w.before args s = true) (hin : ∀ w ∈ wsX30, w ∈ Ts) (hown : s.vm.findClass own = some m.cls) (hK : ks z s) (hz : IC z) (hW : hd z w H) (hS : va_S (az z) H0 H locs)  {v : Int32} (hl : Cond.fieldLink own index "CamStitch$Hem" "rest" "I" ∈ Ts) (hdg : decode cc pc = .ok (.putfield index, 3))
    (kk : ∀ (H1 : Heap) (locs1 : List Loc), hd z (mS w (72) 3 v) H1 → va_S (az z) H0 H1 locs1 → W p l e R s m args below meth c H1 locs1 cells slots Q (F0 m (pc + 3) ls rest)) : W p l e R s m args below meth c H locs cells slots Q (F0 m pc ls (.int v :: .ref (z.2.1 (72)) :: rest)) := by
  obtain ⟨hi, hn, cI, cL, cD, cT, ht, hE, hne⟩ := hz
  exact m_put (C := RX3) (T := TX3) (N := 5) (ci := 3) hx hb hts hin tyX3 tyX3_ok nmX3 hown hK hi hW hS (72) (by rw [hn]; omega) (by rw [hE]; exact eC_72) rfl 3 (by decide) (hts _ hl) (fun _ h => h) rfl (ty := .int) rfl rfl rfl (Nat.le_of_ble_eq_true rfl) (by rw [hE, eC_72]; simp [mS, up2]) hdg kk
theorem get_X3_4 (hx : p.tables.exec = Jvm.exec) (hb : c.code = cc) (hts : ∀ w ∈ Ts, w.before args s = true) (hin : ∀ w ∈ wsX30, w ∈ Ts) (hown : s.vm.findClass own = some m.cls) (hK : ks z s) (hz : IC z) (hW : hd z w H)  (hl : Cond.fieldLink own index "CamStitch$Hem" "stitches" "I" ∈ Ts) (hdg : decode cc pc = .ok (.getfield index, 3))
    (kk : W p l e R s m args below meth c H locs cells slots Q (F0 m (pc + 3) ls (.int (w.1 (72) 4) :: rest))) : W p l e R s m args below meth c H locs cells slots Q (F0 m pc ls (.ref (z.2.1 (72)) :: rest)) := by
  obtain ⟨hi, hn, cI, cL, cD, cT, ht, hE, hne⟩ := hz
  exact m_get (C := RX3) (T := TX3) (N := 5) (ci := 3) hx hb hts hin hown hK hW (72) (by rw [hn]; omega) (by rw [hE]; exact eC_72) rfl 4 (by decide) (hts _ hl) (fun _ h => h) rfl hdg kk
theorem put_X3_4 (hx : p.tables.exec = Jvm.exec) (hb : c.code = cc) (hts : ∀ w ∈ Ts, w.before args s = true) (hin : ∀ w ∈ wsX30, w ∈ Ts) (hown : s.vm.findClass own = some m.cls) (hK : ks z s) (hz : IC z) (hW : hd z w H) (hS : va_S (az z) H0 H locs)  {v : Int32} (hl : Cond.fieldLink own index "CamStitch$Hem" "stitches" "I" ∈ Ts) (hdg : decode cc pc = .ok (.putfield index, 3))
    (kk : ∀ (H1 : Heap) (locs1 : List Loc), hd z (mS w (72) 4 v) H1 → va_S (az z) H0 H1 locs1 → W p l e R s m args below meth c H1 locs1 cells slots Q (F0 m (pc + 3) ls rest)) : W p l e R s m args below meth c H locs cells slots Q (F0 m pc ls (.int v :: .ref (z.2.1 (72)) :: rest)) := by
  obtain ⟨hi, hn, cI, cL, cD, cT, ht, hE, hne⟩ := hz
  exact m_put (C := RX3) (T := TX3) (N := 5) (ci := 3) hx hb hts hin tyX3 tyX3_ok nmX3 hown hK hi hW hS (72) (by rw [hn]; omega) (by rw [hE]; exact eC_72) rfl 4 (by decide) (hts _ hl) (fun _ h => h) rfl (ty := .int) rfl rfl rfl (Nat.le_of_ble_eq_true rfl) (by rw [hE, eC_72]; simp [mS, up2]) hdg kk
theorem pre_X4 (hK : ks z s) (hz : IC z) (hW : hd z w H)  (As : List Value) : PreV s H RX4 (z.2.1 (76)) (PZ z w (.ref (z.2.1 (76)) :: As)) As := by
  obtain ⟨hi, hn, cI, cL, cD, cT, ht, hE, hne⟩ := hz
  exact m_preV (q := (RX4, TX4, 3)) hK hW (76) (by rw [hn]; omega) (by rw [hE]; exact eC_76) rfl As
theorem get_X4_0 (hx : p.tables.exec = Jvm.exec) (hb : c.code = cc) (hts : ∀ w ∈ Ts, w.before args s = true) (hin : ∀ w ∈ wsX40, w ∈ Ts) (hown : s.vm.findClass own = some m.cls) (hK : ks z s) (hz : IC z) (hW : hd z w H)  (hl : Cond.fieldLink own index "CamStitch$Job" "kinds" "[I" ∈ Ts) (hdg : decode cc pc = .ok (.getfield index, 3))
    (kk : W p l e R s m args below meth c H locs cells slots Q (F0 m (pc + 3) ls (.ref (z.2.1 (77)) :: rest))) : W p l e R s m args below meth c H locs cells slots Q (F0 m pc ls (.ref (z.2.1 (76)) :: rest)) := by
  obtain ⟨hi, hn, cI, cL, cD, cT, ht, hE, hne⟩ := hz
  exact m_get (C := RX4) (T := TX4) (N := 3) (ci := 4) hx hb hts hin hown hK hW (76) (by rw [hn]; omega) (by rw [hE]; exact eC_76) rfl 0 (by decide) (hts _ hl) (fun _ h => h) rfl hdg kk
theorem get_X4_1 (hx : p.tables.exec = Jvm.exec) (hb : c.code = cc) (hts : ∀ w ∈ Ts, w.before args s = true) (hin : ∀ w ∈ wsX40, w ∈ Ts) (hown : s.vm.findClass own = some m.cls) (hK : ks z s) (hz : IC z) (hW : hd z w H)  (hl : Cond.fieldLink own index "CamStitch$Job" "numbers" "[I" ∈ Ts) (hdg : decode cc pc = .ok (.getfield index, 3))
    (kk : W p l e R s m args below meth c H locs cells slots Q (F0 m (pc + 3) ls (.ref (z.2.1 (78)) :: rest))) : W p l e R s m args below meth c H locs cells slots Q (F0 m pc ls (.ref (z.2.1 (76)) :: rest)) := by
  obtain ⟨hi, hn, cI, cL, cD, cT, ht, hE, hne⟩ := hz
  exact m_get (C := RX4) (T := TX4) (N := 3) (ci := 4) hx hb hts hin hown hK hW (76) (by rw [hn]; omega) (by rw [hE]; exact eC_76) rfl 1 (by decide) (hts _ hl) (fun _ h => h) rfl hdg kk
theorem get_X4_2 (hx : p.tables.exec = Jvm.exec) (hb : c.code = cc) (hts : ∀ w ∈ Ts, w.before args s = true) (hin : ∀ w ∈ wsX40, w ∈ Ts) (hown : s.vm.findClass own = some m.cls) (hK : ks z s) (hz : IC z) (hW : hd z w H)  (hl : Cond.fieldLink own index "CamStitch$Job" "steps" "I" ∈ Ts) (hdg : decode cc pc = .ok (.getfield index, 3))
    (kk : W p l e R s m args below meth c H locs cells slots Q (F0 m (pc + 3) ls (.int (w.1 (76) 2) :: rest))) : W p l e R s m args below meth c H locs cells slots Q (F0 m pc ls (.ref (z.2.1 (76)) :: rest)) := by
  obtain ⟨hi, hn, cI, cL, cD, cT, ht, hE, hne⟩ := hz
  exact m_get (C := RX4) (T := TX4) (N := 3) (ci := 4) hx hb hts hin hown hK hW (76) (by rw [hn]; omega) (by rw [hE]; exact eC_76) rfl 2 (by decide) (hts _ hl) (fun _ h => h) rfl hdg kk
theorem put_X4_2 (hx : p.tables.exec = Jvm.exec) (hb : c.code = cc) (hts : ∀ w ∈ Ts, w.before args s = true) (hin : ∀ w ∈ wsX40, w ∈ Ts) (hown : s.vm.findClass own = some m.cls) (hK : ks z s) (hz : IC z) (hW : hd z w H) (hS : va_S (az z) H0 H locs)  {v : Int32} (hl : Cond.fieldLink own index "CamStitch$Job" "steps" "I" ∈ Ts) (hdg : decode cc pc = .ok (.putfield index, 3))
    (kk : ∀ (H1 : Heap) (locs1 : List Loc), hd z (mS w (76) 2 v) H1 → va_S (az z) H0 H1 locs1 → W p l e R s m args below meth c H1 locs1 cells slots Q (F0 m (pc + 3) ls rest)) : W p l e R s m args below meth c H locs cells slots Q (F0 m pc ls (.int v :: .ref (z.2.1 (76)) :: rest)) := by
  obtain ⟨hi, hn, cI, cL, cD, cT, ht, hE, hne⟩ := hz
  exact m_put (C := RX4) (T := TX4) (N := 3) (ci := 4) hx hb hts hin tyX4 tyX4_ok nmX4 hown hK hi hW hS (76) (by rw [hn]; omega) (by rw [hE]; exact eC_76) rfl 2 (by decide) (hts _ hl) (fun _ h => h) rfl (ty := .int) rfl rfl rfl (Nat.le_of_ble_eq_true rfl) (by rw [hE, eC_76]; simp [mS, up2]) hdg kk
theorem pre_X5 (hK : ks z s) (hz : IC z) (hW : hd z w H) {d : Nat} (hd0 : d < 2) (As : List Value) : PreV s H RX5 (z.2.1 (60+3*d)) (PZ z w (.ref (z.2.1 (60+3*d)) :: As)) As := by
  obtain ⟨hi, hn, cI, cL, cD, cT, ht, hE, hne⟩ := hz
  exact m_preV (q := (RX5, TX5, 4)) hK hW (60+3*d) (by rw [hn]; omega) (by rw [hE]; exact eC_X5 hd0) rfl As
theorem get_X5_0 (hx : p.tables.exec = Jvm.exec) (hb : c.code = cc) (hts : ∀ w ∈ Ts, w.before args s = true) (hin : ∀ w ∈ wsX50, w ∈ Ts) (hown : s.vm.findClass own = some m.cls) (hK : ks z s) (hz : IC z) (hW : hd z w H) {d : Nat} (hd0 : d < 2) (hl : Cond.fieldLink own index "CamStitch$Pattern" "xs" "[I" ∈ Ts) (hdg : decode cc pc = .ok (.getfield index, 3))
    (kk : W p l e R s m args below meth c H locs cells slots Q (F0 m (pc + 3) ls (.ref (z.2.1 (61+3*d)) :: rest))) : W p l e R s m args below meth c H locs cells slots Q (F0 m pc ls (.ref (z.2.1 (60+3*d)) :: rest)) := by
  obtain ⟨hi, hn, cI, cL, cD, cT, ht, hE, hne⟩ := hz
  exact m_get (C := RX5) (T := TX5) (N := 4) (ci := 5) hx hb hts hin hown hK hW (60+3*d) (by rw [hn]; omega) (by rw [hE]; exact eC_X5 hd0) rfl 0 (by decide) (hts _ hl) (fun _ h => h) rfl hdg kk
theorem get_X5_1 (hx : p.tables.exec = Jvm.exec) (hb : c.code = cc) (hts : ∀ w ∈ Ts, w.before args s = true) (hin : ∀ w ∈ wsX50, w ∈ Ts) (hown : s.vm.findClass own = some m.cls) (hK : ks z s) (hz : IC z) (hW : hd z w H) {d : Nat} (hd0 : d < 2) (hl : Cond.fieldLink own index "CamStitch$Pattern" "ys" "[I" ∈ Ts) (hdg : decode cc pc = .ok (.getfield index, 3))
    (kk : W p l e R s m args below meth c H locs cells slots Q (F0 m (pc + 3) ls (.ref (z.2.1 (62+3*d)) :: rest))) : W p l e R s m args below meth c H locs cells slots Q (F0 m pc ls (.ref (z.2.1 (60+3*d)) :: rest)) := by
  obtain ⟨hi, hn, cI, cL, cD, cT, ht, hE, hne⟩ := hz
  exact m_get (C := RX5) (T := TX5) (N := 4) (ci := 5) hx hb hts hin hown hK hW (60+3*d) (by rw [hn]; omega) (by rw [hE]; exact eC_X5 hd0) rfl 1 (by decide) (hts _ hl) (fun _ h => h) rfl hdg kk
theorem get_X5_2 (hx : p.tables.exec = Jvm.exec) (hb : c.code = cc) (hts : ∀ w ∈ Ts, w.before args s = true) (hin : ∀ w ∈ wsX50, w ∈ Ts) (hown : s.vm.findClass own = some m.cls) (hK : ks z s) (hz : IC z) (hW : hd z w H) {d : Nat} (hd0 : d < 2) (hl : Cond.fieldLink own index "CamStitch$Pattern" "points" "I" ∈ Ts) (hdg : decode cc pc = .ok (.getfield index, 3))
    (kk : W p l e R s m args below meth c H locs cells slots Q (F0 m (pc + 3) ls (.int (w.1 (60+3*d) 2) :: rest))) : W p l e R s m args below meth c H locs cells slots Q (F0 m pc ls (.ref (z.2.1 (60+3*d)) :: rest)) := by
  obtain ⟨hi, hn, cI, cL, cD, cT, ht, hE, hne⟩ := hz
  exact m_get (C := RX5) (T := TX5) (N := 4) (ci := 5) hx hb hts hin hown hK hW (60+3*d) (by rw [hn]; omega) (by rw [hE]; exact eC_X5 hd0) rfl 2 (by decide) (hts _ hl) (fun _ h => h) rfl hdg kk
theorem put_X5_2 (hx : p.tables.exec = Jvm.exec) (hb : c.code = cc) (hts : ∀ w ∈ Ts, w.before args s = true) (hin : ∀ w ∈ wsX50, w ∈ Ts) (hown : s.vm.findClass own = some m.cls) (hK : ks z s) (hz : IC z) (hW : hd z w H) (hS : va_S (az z) H0 H locs) {d : Nat} (hd0 : d < 2) {v : Int32} (hl : Cond.fieldLink own index "CamStitch$Pattern" "points" "I" ∈ Ts) (hdg : decode cc pc = .ok (.putfield index, 3))
    (kk : ∀ (H1 : Heap) (locs1 : List Loc), hd z (mS w (60+3*d) 2 v) H1 → va_S (az z) H0 H1 locs1 → W p l e R s m args below meth c H1 locs1 cells slots Q (F0 m (pc + 3) ls rest)) : W p l e R s m args below meth c H locs cells slots Q (F0 m pc ls (.int v :: .ref (z.2.1 (60+3*d)) :: rest)) := by
  obtain ⟨hi, hn, cI, cL, cD, cT, ht, hE, hne⟩ := hz
  exact m_put (C := RX5) (T := TX5) (N := 4) (ci := 5) hx hb hts hin tyX5 tyX5_ok nmX5 hown hK hi hW hS (60+3*d) (by rw [hn]; omega) (by rw [hE]; exact eC_X5 hd0) rfl 2 (by decide) (hts _ hl) (fun _ h => h) rfl (ty := .int) rfl rfl rfl (Nat.le_of_ble_eq_true rfl) (by rw [hE, eC_X5 hd0]; simp [mS, up2]) hdg kk
theorem get_X5_3 (hx : p.tables.exec = Jvm.exec) (hb : c.code = cc) (hts : ∀ w ∈ Ts, w.before args s = true) (hin : ∀ w ∈ wsX50, w ∈ Ts) (hown : s.vm.findClass own = some m.cls) (hK : ks z s) (hz : IC z) (hW : hd z w H) {d : Nat} (hd0 : d < 2) (hl : Cond.fieldLink own index "CamStitch$Pattern" "advance" "I" ∈ Ts) (hdg : decode cc pc = .ok (.getfield index, 3))
    (kk : W p l e R s m args below meth c H locs cells slots Q (F0 m (pc + 3) ls (.int (w.1 (60+3*d) 3) :: rest))) : W p l e R s m args below meth c H locs cells slots Q (F0 m pc ls (.ref (z.2.1 (60+3*d)) :: rest)) := by
  obtain ⟨hi, hn, cI, cL, cD, cT, ht, hE, hne⟩ := hz
  exact m_get (C := RX5) (T := TX5) (N := 4) (ci := 5) hx hb hts hin hown hK hW (60+3*d) (by rw [hn]; omega) (by rw [hE]; exact eC_X5 hd0) rfl 3 (by decide) (hts _ hl) (fun _ h => h) rfl hdg kk
theorem put_X5_3 (hx : p.tables.exec = Jvm.exec) (hb : c.code = cc) (hts : ∀ w ∈ Ts, w.before args s = true) (hin : ∀ w ∈ wsX50, w ∈ Ts) (hown : s.vm.findClass own = some m.cls) (hK : ks z s) (hz : IC z) (hW : hd z w H) (hS : va_S (az z) H0 H locs) {d : Nat} (hd0 : d < 2) {v : Int32} (hl : Cond.fieldLink own index "CamStitch$Pattern" "advance" "I" ∈ Ts) (hdg : decode cc pc = .ok (.putfield index, 3))
    (kk : ∀ (H1 : Heap) (locs1 : List Loc), hd z (mS w (60+3*d) 3 v) H1 → va_S (az z) H0 H1 locs1 → W p l e R s m args below meth c H1 locs1 cells slots Q (F0 m (pc + 3) ls rest)) : W p l e R s m args below meth c H locs cells slots Q (F0 m pc ls (.int v :: .ref (z.2.1 (60+3*d)) :: rest)) := by
  obtain ⟨hi, hn, cI, cL, cD, cT, ht, hE, hne⟩ := hz
  exact m_put (C := RX5) (T := TX5) (N := 4) (ci := 5) hx hb hts hin tyX5 tyX5_ok nmX5 hown hK hi hW hS (60+3*d) (by rw [hn]; omega) (by rw [hE]; exact eC_X5 hd0) rfl 3 (by decide) (hts _ hl) (fun _ h => h) rfl (ty := .int) rfl rfl rfl (Nat.le_of_ble_eq_true rfl) (by rw [hE, eC_X5 hd0]; simp [mS, up2]) hdg kk
theorem pre_X6 (hK : ks z s) (hz : IC z) (hW : hd z w H)  (As : List Value) : PreV s H RX6 (z.2.1 (67)) (PZ z w (.ref (z.2.1 (67)) :: As)) As := by
  obtain ⟨hi, hn, cI, cL, cD, cT, ht, hE, hne⟩ := hz
  exact m_preV (q := (RX6, TX6, 9)) hK hW (67) (by rw [hn]; omega) (by rw [hE]; exact eC_67) rfl As
theorem get_X6_0 (hx : p.tables.exec = Jvm.exec) (hb : c.code = cc) (hts : ∀ w ∈ Ts, w.before args s = true) (hin : ∀ w ∈ wsX60, w ∈ Ts) (hown : s.vm.findClass own = some m.cls) (hK : ks z s) (hz : IC z) (hW : hd z w H)  (hl : Cond.fieldLink own index "CamStitch$Reader" "draft" "LCamStitch$Pattern;" ∈ Ts) (hdg : decode cc pc = .ok (.getfield index, 3))
    (kk : W p l e R s m args below meth c H locs cells slots Q (F0 m (pc + 3) ls (.ref (z.2.1 (60+3*1)) :: rest))) : W p l e R s m args below meth c H locs cells slots Q (F0 m pc ls (.ref (z.2.1 (67)) :: rest)) := by
  obtain ⟨hi, hn, cI, cL, cD, cT, ht, hE, hne⟩ := hz
  exact m_get (C := RX6) (T := TX6) (N := 9) (ci := 6) hx hb hts hin hown hK hW (67) (by rw [hn]; omega) (by rw [hE]; exact eC_67) rfl 0 (by decide) (hts _ hl) (fun _ h => h) rfl hdg kk
theorem get_X6_1 (hx : p.tables.exec = Jvm.exec) (hb : c.code = cc) (hts : ∀ w ∈ Ts, w.before args s = true) (hin : ∀ w ∈ wsX60, w ∈ Ts) (hown : s.vm.findClass own = some m.cls) (hK : ks z s) (hz : IC z) (hW : hd z w H)  (hl : Cond.fieldLink own index "CamStitch$Reader" "starts" "[I" ∈ Ts) (hdg : decode cc pc = .ok (.getfield index, 3))
    (kk : W p l e R s m args below meth c H locs cells slots Q (F0 m (pc + 3) ls (.ref (z.2.1 (68)) :: rest))) : W p l e R s m args below meth c H locs cells slots Q (F0 m pc ls (.ref (z.2.1 (67)) :: rest)) := by
  obtain ⟨hi, hn, cI, cL, cD, cT, ht, hE, hne⟩ := hz
  exact m_get (C := RX6) (T := TX6) (N := 9) (ci := 6) hx hb hts hin hown hK hW (67) (by rw [hn]; omega) (by rw [hE]; exact eC_67) rfl 1 (by decide) (hts _ hl) (fun _ h => h) rfl hdg kk
theorem get_X6_2 (hx : p.tables.exec = Jvm.exec) (hb : c.code = cc) (hts : ∀ w ∈ Ts, w.before args s = true) (hin : ∀ w ∈ wsX60, w ∈ Ts) (hown : s.vm.findClass own = some m.cls) (hK : ks z s) (hz : IC z) (hW : hd z w H)  (hl : Cond.fieldLink own index "CamStitch$Reader" "timesLeft" "[I" ∈ Ts) (hdg : decode cc pc = .ok (.getfield index, 3))
    (kk : W p l e R s m args below meth c H locs cells slots Q (F0 m (pc + 3) ls (.ref (z.2.1 (69)) :: rest))) : W p l e R s m args below meth c H locs cells slots Q (F0 m pc ls (.ref (z.2.1 (67)) :: rest)) := by
  obtain ⟨hi, hn, cI, cL, cD, cT, ht, hE, hne⟩ := hz
  exact m_get (C := RX6) (T := TX6) (N := 9) (ci := 6) hx hb hts hin hown hK hW (67) (by rw [hn]; omega) (by rw [hE]; exact eC_67) rfl 2 (by decide) (hts _ hl) (fun _ h => h) rfl hdg kk
theorem get_X6_3 (hx : p.tables.exec = Jvm.exec) (hb : c.code = cc) (hts : ∀ w ∈ Ts, w.before args s = true) (hin : ∀ w ∈ wsX60, w ∈ Ts) (hown : s.vm.findClass own = some m.cls) (hK : ks z s) (hz : IC z) (hW : hd z w H)  (hl : Cond.fieldLink own index "CamStitch$Reader" "depth" "I" ∈ Ts) (hdg : decode cc pc = .ok (.getfield index, 3))
    (kk : W p l e R s m args below meth c H locs cells slots Q (F0 m (pc + 3) ls (.int (w.1 (67) 3) :: rest))) : W p l e R s m args below meth c H locs cells slots Q (F0 m pc ls (.ref (z.2.1 (67)) :: rest)) := by
  obtain ⟨hi, hn, cI, cL, cD, cT, ht, hE, hne⟩ := hz
  exact m_get (C := RX6) (T := TX6) (N := 9) (ci := 6) hx hb hts hin hown hK hW (67) (by rw [hn]; omega) (by rw [hE]; exact eC_67) rfl 3 (by decide) (hts _ hl) (fun _ h => h) rfl hdg kk
theorem put_X6_3 (hx : p.tables.exec = Jvm.exec) (hb : c.code = cc) (hts : ∀ w ∈ Ts, w.before args s = true) (hin : ∀ w ∈ wsX60, w ∈ Ts) (hown : s.vm.findClass own = some m.cls) (hK : ks z s) (hz : IC z) (hW : hd z w H) (hS : va_S (az z) H0 H locs)  {v : Int32} (hl : Cond.fieldLink own index "CamStitch$Reader" "depth" "I" ∈ Ts) (hdg : decode cc pc = .ok (.putfield index, 3))
    (kk : ∀ (H1 : Heap) (locs1 : List Loc), hd z (mS w (67) 3 v) H1 → va_S (az z) H0 H1 locs1 → W p l e R s m args below meth c H1 locs1 cells slots Q (F0 m (pc + 3) ls rest)) : W p l e R s m args below meth c H locs cells slots Q (F0 m pc ls (.int v :: .ref (z.2.1 (67)) :: rest)) := by
  obtain ⟨hi, hn, cI, cL, cD, cT, ht, hE, hne⟩ := hz
  exact m_put (C := RX6) (T := TX6) (N := 9) (ci := 6) hx hb hts hin tyX6 tyX6_ok nmX6 hown hK hi hW hS (67) (by rw [hn]; omega) (by rw [hE]; exact eC_67) rfl 3 (by decide) (hts _ hl) (fun _ h => h) rfl (ty := .int) rfl rfl rfl (Nat.le_of_ble_eq_true rfl) (by rw [hE, eC_67]; simp [mS, up2]) hdg kk
theorem get_X6_4 (hx : p.tables.exec = Jvm.exec) (hb : c.code = cc) (hts : ∀ w ∈ Ts, w.before args s = true) (hin : ∀ w ∈ wsX60, w ∈ Ts) (hown : s.vm.findClass own = some m.cls) (hK : ks z s) (hz : IC z) (hW : hd z w H)  (hl : Cond.fieldLink own index "CamStitch$Reader" "next" "I" ∈ Ts) (hdg : decode cc pc = .ok (.getfield index, 3))
    (kk : W p l e R s m args below meth c H locs cells slots Q (F0 m (pc + 3) ls (.int (w.1 (67) 4) :: rest))) : W p l e R s m args below meth c H locs cells slots Q (F0 m pc ls (.ref (z.2.1 (67)) :: rest)) := by
  obtain ⟨hi, hn, cI, cL, cD, cT, ht, hE, hne⟩ := hz
  exact m_get (C := RX6) (T := TX6) (N := 9) (ci := 6) hx hb hts hin hown hK hW (67) (by rw [hn]; omega) (by rw [hE]; exact eC_67) rfl 4 (by decide) (hts _ hl) (fun _ h => h) rfl hdg kk
theorem put_X6_4 (hx : p.tables.exec = Jvm.exec) (hb : c.code = cc) (hts : ∀ w ∈ Ts, w.before args s = true) (hin : ∀ w ∈ wsX60, w ∈ Ts) (hown : s.vm.findClass own = some m.cls) (hK : ks z s) (hz : IC z) (hW : hd z w H) (hS : va_S (az z) H0 H locs)  {v : Int32} (hl : Cond.fieldLink own index "CamStitch$Reader" "next" "I" ∈ Ts) (hdg : decode cc pc = .ok (.putfield index, 3))
    (kk : ∀ (H1 : Heap) (locs1 : List Loc), hd z (mS w (67) 4 v) H1 → va_S (az z) H0 H1 locs1 → W p l e R s m args below meth c H1 locs1 cells slots Q (F0 m (pc + 3) ls rest)) : W p l e R s m args below meth c H locs cells slots Q (F0 m pc ls (.int v :: .ref (z.2.1 (67)) :: rest)) := by
  obtain ⟨hi, hn, cI, cL, cD, cT, ht, hE, hne⟩ := hz
  exact m_put (C := RX6) (T := TX6) (N := 9) (ci := 6) hx hb hts hin tyX6 tyX6_ok nmX6 hown hK hi hW hS (67) (by rw [hn]; omega) (by rw [hE]; exact eC_67) rfl 4 (by decide) (hts _ hl) (fun _ h => h) rfl (ty := .int) rfl rfl rfl (Nat.le_of_ble_eq_true rfl) (by rw [hE, eC_67]; simp [mS, up2]) hdg kk
theorem get_X6_5 (hx : p.tables.exec = Jvm.exec) (hb : c.code = cc) (hts : ∀ w ∈ Ts, w.before args s = true) (hin : ∀ w ∈ wsX60, w ∈ Ts) (hown : s.vm.findClass own = some m.cls) (hK : ks z s) (hz : IC z) (hW : hd z w H)  (hl : Cond.fieldLink own index "CamStitch$Reader" "originX" "I" ∈ Ts) (hdg : decode cc pc = .ok (.getfield index, 3))
    (kk : W p l e R s m args below meth c H locs cells slots Q (F0 m (pc + 3) ls (.int (w.1 (67) 5) :: rest))) : W p l e R s m args below meth c H locs cells slots Q (F0 m pc ls (.ref (z.2.1 (67)) :: rest)) := by
  obtain ⟨hi, hn, cI, cL, cD, cT, ht, hE, hne⟩ := hz
  exact m_get (C := RX6) (T := TX6) (N := 9) (ci := 6) hx hb hts hin hown hK hW (67) (by rw [hn]; omega) (by rw [hE]; exact eC_67) rfl 5 (by decide) (hts _ hl) (fun _ h => h) rfl hdg kk
theorem put_X6_5 (hx : p.tables.exec = Jvm.exec) (hb : c.code = cc) (hts : ∀ w ∈ Ts, w.before args s = true) (hin : ∀ w ∈ wsX60, w ∈ Ts) (hown : s.vm.findClass own = some m.cls) (hK : ks z s) (hz : IC z) (hW : hd z w H) (hS : va_S (az z) H0 H locs)  {v : Int32} (hl : Cond.fieldLink own index "CamStitch$Reader" "originX" "I" ∈ Ts) (hdg : decode cc pc = .ok (.putfield index, 3))
    (kk : ∀ (H1 : Heap) (locs1 : List Loc), hd z (mS w (67) 5 v) H1 → va_S (az z) H0 H1 locs1 → W p l e R s m args below meth c H1 locs1 cells slots Q (F0 m (pc + 3) ls rest)) : W p l e R s m args below meth c H locs cells slots Q (F0 m pc ls (.int v :: .ref (z.2.1 (67)) :: rest)) := by
  obtain ⟨hi, hn, cI, cL, cD, cT, ht, hE, hne⟩ := hz
  exact m_put (C := RX6) (T := TX6) (N := 9) (ci := 6) hx hb hts hin tyX6 tyX6_ok nmX6 hown hK hi hW hS (67) (by rw [hn]; omega) (by rw [hE]; exact eC_67) rfl 5 (by decide) (hts _ hl) (fun _ h => h) rfl (ty := .int) rfl rfl rfl (Nat.le_of_ble_eq_true rfl) (by rw [hE, eC_67]; simp [mS, up2]) hdg kk
theorem get_X6_6 (hx : p.tables.exec = Jvm.exec) (hb : c.code = cc) (hts : ∀ w ∈ Ts, w.before args s = true) (hin : ∀ w ∈ wsX60, w ∈ Ts) (hown : s.vm.findClass own = some m.cls) (hK : ks z s) (hz : IC z) (hW : hd z w H)  (hl : Cond.fieldLink own index "CamStitch$Reader" "originY" "I" ∈ Ts) (hdg : decode cc pc = .ok (.getfield index, 3))
    (kk : W p l e R s m args below meth c H locs cells slots Q (F0 m (pc + 3) ls (.int (w.1 (67) 6) :: rest))) : W p l e R s m args below meth c H locs cells slots Q (F0 m pc ls (.ref (z.2.1 (67)) :: rest)) := by
  obtain ⟨hi, hn, cI, cL, cD, cT, ht, hE, hne⟩ := hz
  exact m_get (C := RX6) (T := TX6) (N := 9) (ci := 6) hx hb hts hin hown hK hW (67) (by rw [hn]; omega) (by rw [hE]; exact eC_67) rfl 6 (by decide) (hts _ hl) (fun _ h => h) rfl hdg kk
theorem put_X6_6 (hx : p.tables.exec = Jvm.exec) (hb : c.code = cc) (hts : ∀ w ∈ Ts, w.before args s = true) (hin : ∀ w ∈ wsX60, w ∈ Ts) (hown : s.vm.findClass own = some m.cls) (hK : ks z s) (hz : IC z) (hW : hd z w H) (hS : va_S (az z) H0 H locs)  {v : Int32} (hl : Cond.fieldLink own index "CamStitch$Reader" "originY" "I" ∈ Ts) (hdg : decode cc pc = .ok (.putfield index, 3))
    (kk : ∀ (H1 : Heap) (locs1 : List Loc), hd z (mS w (67) 6 v) H1 → va_S (az z) H0 H1 locs1 → W p l e R s m args below meth c H1 locs1 cells slots Q (F0 m (pc + 3) ls rest)) : W p l e R s m args below meth c H locs cells slots Q (F0 m pc ls (.int v :: .ref (z.2.1 (67)) :: rest)) := by
  obtain ⟨hi, hn, cI, cL, cD, cT, ht, hE, hne⟩ := hz
  exact m_put (C := RX6) (T := TX6) (N := 9) (ci := 6) hx hb hts hin tyX6 tyX6_ok nmX6 hown hK hi hW hS (67) (by rw [hn]; omega) (by rw [hE]; exact eC_67) rfl 6 (by decide) (hts _ hl) (fun _ h => h) rfl (ty := .int) rfl rfl rfl (Nat.le_of_ble_eq_true rfl) (by rw [hE, eC_67]; simp [mS, up2]) hdg kk
theorem get_X6_7 (hx : p.tables.exec = Jvm.exec) (hb : c.code = cc) (hts : ∀ w ∈ Ts, w.before args s = true) (hin : ∀ w ∈ wsX60, w ∈ Ts) (hown : s.vm.findClass own = some m.cls) (hK : ks z s) (hz : IC z) (hW : hd z w H)  (hl : Cond.fieldLink own index "CamStitch$Reader" "isMirrored" "Z" ∈ Ts) (hdg : decode cc pc = .ok (.getfield index, 3))
    (kk : W p l e R s m args below meth c H locs cells slots Q (F0 m (pc + 3) ls (.int (w.1 (67) 7) :: rest))) : W p l e R s m args below meth c H locs cells slots Q (F0 m pc ls (.ref (z.2.1 (67)) :: rest)) := by
  obtain ⟨hi, hn, cI, cL, cD, cT, ht, hE, hne⟩ := hz
  exact m_get (C := RX6) (T := TX6) (N := 9) (ci := 6) hx hb hts hin hown hK hW (67) (by rw [hn]; omega) (by rw [hE]; exact eC_67) rfl 7 (by decide) (hts _ hl) (fun _ h => h) rfl hdg kk
theorem put_X6_7 (hx : p.tables.exec = Jvm.exec) (hb : c.code = cc) (hts : ∀ w ∈ Ts, w.before args s = true) (hin : ∀ w ∈ wsX60, w ∈ Ts) (hown : s.vm.findClass own = some m.cls) (hK : ks z s) (hz : IC z) (hW : hd z w H) (hS : va_S (az z) H0 H locs)  {v : Int32} (hv : v = 0 ∨ v = 1) (hl : Cond.fieldLink own index "CamStitch$Reader" "isMirrored" "Z" ∈ Ts) (hdg : decode cc pc = .ok (.putfield index, 3))
    (kk : ∀ (H1 : Heap) (locs1 : List Loc), hd z (mS w (67) 7 v) H1 → va_S (az z) H0 H1 locs1 → W p l e R s m args below meth c H1 locs1 cells slots Q (F0 m (pc + 3) ls rest)) : W p l e R s m args below meth c H locs cells slots Q (F0 m pc ls (.int v :: .ref (z.2.1 (67)) :: rest)) := by
  obtain ⟨hi, hn, cI, cL, cD, cT, ht, hE, hne⟩ := hz
  exact m_put (C := RX6) (T := TX6) (N := 9) (ci := 6) hx hb hts hin tyX6 tyX6_ok nmX6 hown hK hi hW hS (67) (by rw [hn]; omega) (by rw [hE]; exact eC_67) rfl 7 (by decide) (hts _ hl) (fun _ h => h) rfl (ty := .boolean) rfl (by rcases hv with rfl | rfl <;> rfl) (by rcases hv with rfl | rfl <;> rfl) (Nat.le_of_ble_eq_true rfl) (by rw [hE, eC_67]; simp [mS, up2]) hdg kk
theorem get_X6_8 (hx : p.tables.exec = Jvm.exec) (hb : c.code = cc) (hts : ∀ w ∈ Ts, w.before args s = true) (hin : ∀ w ∈ wsX60, w ∈ Ts) (hown : s.vm.findClass own = some m.cls) (hK : ks z s) (hz : IC z) (hW : hd z w H)  (hl : Cond.fieldLink own index "CamStitch$Reader" "hasAdvance" "Z" ∈ Ts) (hdg : decode cc pc = .ok (.getfield index, 3))
    (kk : W p l e R s m args below meth c H locs cells slots Q (F0 m (pc + 3) ls (.int (w.1 (67) 8) :: rest))) : W p l e R s m args below meth c H locs cells slots Q (F0 m pc ls (.ref (z.2.1 (67)) :: rest)) := by
  obtain ⟨hi, hn, cI, cL, cD, cT, ht, hE, hne⟩ := hz
  exact m_get (C := RX6) (T := TX6) (N := 9) (ci := 6) hx hb hts hin hown hK hW (67) (by rw [hn]; omega) (by rw [hE]; exact eC_67) rfl 8 (by decide) (hts _ hl) (fun _ h => h) rfl hdg kk
theorem put_X6_8 (hx : p.tables.exec = Jvm.exec) (hb : c.code = cc) (hts : ∀ w ∈ Ts, w.before args s = true) (hin : ∀ w ∈ wsX60, w ∈ Ts) (hown : s.vm.findClass own = some m.cls) (hK : ks z s) (hz : IC z) (hW : hd z w H) (hS : va_S (az z) H0 H locs)  {v : Int32} (hv : v = 0 ∨ v = 1) (hl : Cond.fieldLink own index "CamStitch$Reader" "hasAdvance" "Z" ∈ Ts) (hdg : decode cc pc = .ok (.putfield index, 3))
    (kk : ∀ (H1 : Heap) (locs1 : List Loc), hd z (mS w (67) 8 v) H1 → va_S (az z) H0 H1 locs1 → W p l e R s m args below meth c H1 locs1 cells slots Q (F0 m (pc + 3) ls rest)) : W p l e R s m args below meth c H locs cells slots Q (F0 m pc ls (.int v :: .ref (z.2.1 (67)) :: rest)) := by
  obtain ⟨hi, hn, cI, cL, cD, cT, ht, hE, hne⟩ := hz
  exact m_put (C := RX6) (T := TX6) (N := 9) (ci := 6) hx hb hts hin tyX6 tyX6_ok nmX6 hown hK hi hW hS (67) (by rw [hn]; omega) (by rw [hE]; exact eC_67) rfl 8 (by decide) (hts _ hl) (fun _ h => h) rfl (ty := .boolean) rfl (by rcases hv with rfl | rfl <;> rfl) (by rcases hv with rfl | rfl <;> rfl) (Nat.le_of_ble_eq_true rfl) (by rw [hE, eC_67]; simp [mS, up2]) hdg kk
theorem pre_X7 (hK : ks z s) (hz : IC z) (hW : hd z w H)  (As : List Value) : PreV s H RX7 (z.2.1 (82)) (PZ z w (.ref (z.2.1 (82)) :: As)) As := by
  obtain ⟨hi, hn, cI, cL, cD, cT, ht, hE, hne⟩ := hz
  exact m_preV (q := (RX7, TX7, 1)) hK hW (82) (by rw [hn]; omega) (by rw [hE]; exact eC_82) rfl As
theorem get_X7_0 (hx : p.tables.exec = Jvm.exec) (hb : c.code = cc) (hts : ∀ w ∈ Ts, w.before args s = true) (hin : ∀ w ∈ wsX70, w ∈ Ts) (hown : s.vm.findClass own = some m.cls) (hK : ks z s) (hz : IC z) (hW : hd z w H)  (hl : Cond.fieldLink own index "CamStitch$Rim" "found" "I" ∈ Ts) (hdg : decode cc pc = .ok (.getfield index, 3))
    (kk : W p l e R s m args below meth c H locs cells slots Q (F0 m (pc + 3) ls (.int (w.1 (82) 0) :: rest))) : W p l e R s m args below meth c H locs cells slots Q (F0 m pc ls (.ref (z.2.1 (82)) :: rest)) := by
  obtain ⟨hi, hn, cI, cL, cD, cT, ht, hE, hne⟩ := hz
  exact m_get (C := RX7) (T := TX7) (N := 1) (ci := 7) hx hb hts hin hown hK hW (82) (by rw [hn]; omega) (by rw [hE]; exact eC_82) rfl 0 (by decide) (hts _ hl) (fun _ h => h) rfl hdg kk
theorem put_X7_0 (hx : p.tables.exec = Jvm.exec) (hb : c.code = cc) (hts : ∀ w ∈ Ts, w.before args s = true) (hin : ∀ w ∈ wsX70, w ∈ Ts) (hown : s.vm.findClass own = some m.cls) (hK : ks z s) (hz : IC z) (hW : hd z w H) (hS : va_S (az z) H0 H locs)  {v : Int32} (hl : Cond.fieldLink own index "CamStitch$Rim" "found" "I" ∈ Ts) (hdg : decode cc pc = .ok (.putfield index, 3))
    (kk : ∀ (H1 : Heap) (locs1 : List Loc), hd z (mS w (82) 0 v) H1 → va_S (az z) H0 H1 locs1 → W p l e R s m args below meth c H1 locs1 cells slots Q (F0 m (pc + 3) ls rest)) : W p l e R s m args below meth c H locs cells slots Q (F0 m pc ls (.int v :: .ref (z.2.1 (82)) :: rest)) := by
  obtain ⟨hi, hn, cI, cL, cD, cT, ht, hE, hne⟩ := hz
  exact m_put (C := RX7) (T := TX7) (N := 1) (ci := 7) hx hb hts hin tyX7 tyX7_ok nmX7 hown hK hi hW hS (82) (by rw [hn]; omega) (by rw [hE]; exact eC_82) rfl 0 (by decide) (hts _ hl) (fun _ h => h) rfl (ty := .int) rfl rfl rfl (Nat.le_of_ble_eq_true rfl) (by rw [hE, eC_82]; simp [mS, up2]) hdg kk
theorem pre_X8 (hK : ks z s) (hz : IC z) (hW : hd z w H)  (As : List Value) : PreV s H RX8 (z.2.1 (79)) (PZ z w (.ref (z.2.1 (79)) :: As)) As := by
  obtain ⟨hi, hn, cI, cL, cD, cT, ht, hE, hne⟩ := hz
  exact m_preV (q := (RX8, TX8, 14)) hK hW (79) (by rw [hn]; omega) (by rw [hE]; exact eC_79) rfl As
theorem get_X8_0 (hx : p.tables.exec = Jvm.exec) (hb : c.code = cc) (hts : ∀ w ∈ Ts, w.before args s = true) (hin : ∀ w ∈ wsX80, w ∈ Ts) (hown : s.vm.findClass own = some m.cls) (hK : ks z s) (hz : IC z) (hW : hd z w H)  (hl : Cond.fieldLink own index "CamStitch$Seam" "xs" "[I" ∈ Ts) (hdg : decode cc pc = .ok (.getfield index, 3))
    (kk : W p l e R s m args below meth c H locs cells slots Q (F0 m (pc + 3) ls (.ref (z.2.1 (80)) :: rest))) : W p l e R s m args below meth c H locs cells slots Q (F0 m pc ls (.ref (z.2.1 (79)) :: rest)) := by
  obtain ⟨hi, hn, cI, cL, cD, cT, ht, hE, hne⟩ := hz
  exact m_get (C := RX8) (T := TX8) (N := 14) (ci := 8) hx hb hts hin hown hK hW (79) (by rw [hn]; omega) (by rw [hE]; exact eC_79) rfl 0 (by decide) (hts _ hl) (fun _ h => h) rfl hdg kk
theorem get_X8_1 (hx : p.tables.exec = Jvm.exec) (hb : c.code = cc) (hts : ∀ w ∈ Ts, w.before args s = true) (hin : ∀ w ∈ wsX80, w ∈ Ts) (hown : s.vm.findClass own = some m.cls) (hK : ks z s) (hz : IC z) (hW : hd z w H)  (hl : Cond.fieldLink own index "CamStitch$Seam" "ys" "[I" ∈ Ts) (hdg : decode cc pc = .ok (.getfield index, 3))
    (kk : W p l e R s m args below meth c H locs cells slots Q (F0 m (pc + 3) ls (.ref (z.2.1 (81)) :: rest))) : W p l e R s m args below meth c H locs cells slots Q (F0 m pc ls (.ref (z.2.1 (79)) :: rest)) := by
  obtain ⟨hi, hn, cI, cL, cD, cT, ht, hE, hne⟩ := hz
  exact m_get (C := RX8) (T := TX8) (N := 14) (ci := 8) hx hb hts hin hown hK hW (79) (by rw [hn]; omega) (by rw [hE]; exact eC_79) rfl 1 (by decide) (hts _ hl) (fun _ h => h) rfl hdg kk
theorem get_X8_2 (hx : p.tables.exec = Jvm.exec) (hb : c.code = cc) (hts : ∀ w ∈ Ts, w.before args s = true) (hin : ∀ w ∈ wsX80, w ∈ Ts) (hown : s.vm.findClass own = some m.cls) (hK : ks z s) (hz : IC z) (hW : hd z w H)  (hl : Cond.fieldLink own index "CamStitch$Seam" "isSewn" "Z" ∈ Ts) (hdg : decode cc pc = .ok (.getfield index, 3))
    (kk : W p l e R s m args below meth c H locs cells slots Q (F0 m (pc + 3) ls (.int (w.1 (79) 2) :: rest))) : W p l e R s m args below meth c H locs cells slots Q (F0 m pc ls (.ref (z.2.1 (79)) :: rest)) := by
  obtain ⟨hi, hn, cI, cL, cD, cT, ht, hE, hne⟩ := hz
  exact m_get (C := RX8) (T := TX8) (N := 14) (ci := 8) hx hb hts hin hown hK hW (79) (by rw [hn]; omega) (by rw [hE]; exact eC_79) rfl 2 (by decide) (hts _ hl) (fun _ h => h) rfl hdg kk
theorem put_X8_2 (hx : p.tables.exec = Jvm.exec) (hb : c.code = cc) (hts : ∀ w ∈ Ts, w.before args s = true) (hin : ∀ w ∈ wsX80, w ∈ Ts) (hown : s.vm.findClass own = some m.cls) (hK : ks z s) (hz : IC z) (hW : hd z w H) (hS : va_S (az z) H0 H locs)  {v : Int32} (hv : v = 0 ∨ v = 1) (hl : Cond.fieldLink own index "CamStitch$Seam" "isSewn" "Z" ∈ Ts) (hdg : decode cc pc = .ok (.putfield index, 3))
    (kk : ∀ (H1 : Heap) (locs1 : List Loc), hd z (mS w (79) 2 v) H1 → va_S (az z) H0 H1 locs1 → W p l e R s m args below meth c H1 locs1 cells slots Q (F0 m (pc + 3) ls rest)) : W p l e R s m args below meth c H locs cells slots Q (F0 m pc ls (.int v :: .ref (z.2.1 (79)) :: rest)) := by
  obtain ⟨hi, hn, cI, cL, cD, cT, ht, hE, hne⟩ := hz
  exact m_put (C := RX8) (T := TX8) (N := 14) (ci := 8) hx hb hts hin tyX8 tyX8_ok nmX8 hown hK hi hW hS (79) (by rw [hn]; omega) (by rw [hE]; exact eC_79) rfl 2 (by decide) (hts _ hl) (fun _ h => h) rfl (ty := .boolean) rfl (by rcases hv with rfl | rfl <;> rfl) (by rcases hv with rfl | rfl <;> rfl) (Nat.le_of_ble_eq_true rfl) (by rw [hE, eC_79]; simp [mS, up2]) hdg kk
theorem get_X8_3 (hx : p.tables.exec = Jvm.exec) (hb : c.code = cc) (hts : ∀ w ∈ Ts, w.before args s = true) (hin : ∀ w ∈ wsX80, w ∈ Ts) (hown : s.vm.findClass own = some m.cls) (hK : ks z s) (hz : IC z) (hW : hd z w H)  (hl : Cond.fieldLink own index "CamStitch$Seam" "stitches" "I" ∈ Ts) (hdg : decode cc pc = .ok (.getfield index, 3))
    (kk : W p l e R s m args below meth c H locs cells slots Q (F0 m (pc + 3) ls (.int (w.1 (79) 3) :: rest))) : W p l e R s m args below meth c H locs cells slots Q (F0 m pc ls (.ref (z.2.1 (79)) :: rest)) := by
  obtain ⟨hi, hn, cI, cL, cD, cT, ht, hE, hne⟩ := hz
  exact m_get (C := RX8) (T := TX8) (N := 14) (ci := 8) hx hb hts hin hown hK hW (79) (by rw [hn]; omega) (by rw [hE]; exact eC_79) rfl 3 (by decide) (hts _ hl) (fun _ h => h) rfl hdg kk
theorem put_X8_3 (hx : p.tables.exec = Jvm.exec) (hb : c.code = cc) (hts : ∀ w ∈ Ts, w.before args s = true) (hin : ∀ w ∈ wsX80, w ∈ Ts) (hown : s.vm.findClass own = some m.cls) (hK : ks z s) (hz : IC z) (hW : hd z w H) (hS : va_S (az z) H0 H locs)  {v : Int32} (hl : Cond.fieldLink own index "CamStitch$Seam" "stitches" "I" ∈ Ts) (hdg : decode cc pc = .ok (.putfield index, 3))
    (kk : ∀ (H1 : Heap) (locs1 : List Loc), hd z (mS w (79) 3 v) H1 → va_S (az z) H0 H1 locs1 → W p l e R s m args below meth c H1 locs1 cells slots Q (F0 m (pc + 3) ls rest)) : W p l e R s m args below meth c H locs cells slots Q (F0 m pc ls (.int v :: .ref (z.2.1 (79)) :: rest)) := by
  obtain ⟨hi, hn, cI, cL, cD, cT, ht, hE, hne⟩ := hz
  exact m_put (C := RX8) (T := TX8) (N := 14) (ci := 8) hx hb hts hin tyX8 tyX8_ok nmX8 hown hK hi hW hS (79) (by rw [hn]; omega) (by rw [hE]; exact eC_79) rfl 3 (by decide) (hts _ hl) (fun _ h => h) rfl (ty := .int) rfl rfl rfl (Nat.le_of_ble_eq_true rfl) (by rw [hE, eC_79]; simp [mS, up2]) hdg kk
theorem get_X8_4 (hx : p.tables.exec = Jvm.exec) (hb : c.code = cc) (hts : ∀ w ∈ Ts, w.before args s = true) (hin : ∀ w ∈ wsX80, w ∈ Ts) (hown : s.vm.findClass own = some m.cls) (hK : ks z s) (hz : IC z) (hW : hd z w H)  (hl : Cond.fieldLink own index "CamStitch$Seam" "x" "I" ∈ Ts) (hdg : decode cc pc = .ok (.getfield index, 3))
    (kk : W p l e R s m args below meth c H locs cells slots Q (F0 m (pc + 3) ls (.int (w.1 (79) 4) :: rest))) : W p l e R s m args below meth c H locs cells slots Q (F0 m pc ls (.ref (z.2.1 (79)) :: rest)) := by
  obtain ⟨hi, hn, cI, cL, cD, cT, ht, hE, hne⟩ := hz
  exact m_get (C := RX8) (T := TX8) (N := 14) (ci := 8) hx hb hts hin hown hK hW (79) (by rw [hn]; omega) (by rw [hE]; exact eC_79) rfl 4 (by decide) (hts _ hl) (fun _ h => h) rfl hdg kk
theorem put_X8_4 (hx : p.tables.exec = Jvm.exec) (hb : c.code = cc) (hts : ∀ w ∈ Ts, w.before args s = true) (hin : ∀ w ∈ wsX80, w ∈ Ts) (hown : s.vm.findClass own = some m.cls) (hK : ks z s) (hz : IC z) (hW : hd z w H) (hS : va_S (az z) H0 H locs)  {v : Int32} (hl : Cond.fieldLink own index "CamStitch$Seam" "x" "I" ∈ Ts) (hdg : decode cc pc = .ok (.putfield index, 3))
    (kk : ∀ (H1 : Heap) (locs1 : List Loc), hd z (mS w (79) 4 v) H1 → va_S (az z) H0 H1 locs1 → W p l e R s m args below meth c H1 locs1 cells slots Q (F0 m (pc + 3) ls rest)) : W p l e R s m args below meth c H locs cells slots Q (F0 m pc ls (.int v :: .ref (z.2.1 (79)) :: rest)) := by
  obtain ⟨hi, hn, cI, cL, cD, cT, ht, hE, hne⟩ := hz
  exact m_put (C := RX8) (T := TX8) (N := 14) (ci := 8) hx hb hts hin tyX8 tyX8_ok nmX8 hown hK hi hW hS (79) (by rw [hn]; omega) (by rw [hE]; exact eC_79) rfl 4 (by decide) (hts _ hl) (fun _ h => h) rfl (ty := .int) rfl rfl rfl (Nat.le_of_ble_eq_true rfl) (by rw [hE, eC_79]; simp [mS, up2]) hdg kk
theorem get_X8_5 (hx : p.tables.exec = Jvm.exec) (hb : c.code = cc) (hts : ∀ w ∈ Ts, w.before args s = true) (hin : ∀ w ∈ wsX80, w ∈ Ts) (hown : s.vm.findClass own = some m.cls) (hK : ks z s) (hz : IC z) (hW : hd z w H)  (hl : Cond.fieldLink own index "CamStitch$Seam" "y" "I" ∈ Ts) (hdg : decode cc pc = .ok (.getfield index, 3))
    (kk : W p l e R s m args below meth c H locs cells slots Q (F0 m (pc + 3) ls (.int (w.1 (79) 5) :: rest))) : W p l e R s m args below meth c H locs cells slots Q (F0 m pc ls (.ref (z.2.1 (79)) :: rest)) := by
  obtain ⟨hi, hn, cI, cL, cD, cT, ht, hE, hne⟩ := hz
  exact m_get (C := RX8) (T := TX8) (N := 14) (ci := 8) hx hb hts hin hown hK hW (79) (by rw [hn]; omega) (by rw [hE]; exact eC_79) rfl 5 (by decide) (hts _ hl) (fun _ h => h) rfl hdg kk
theorem put_X8_5 (hx : p.tables.exec = Jvm.exec) (hb : c.code = cc) (hts : ∀ w ∈ Ts, w.before args s = true) (hin : ∀ w ∈ wsX80, w ∈ Ts) (hown : s.vm.findClass own = some m.cls) (hK : ks z s) (hz : IC z) (hW : hd z w H) (hS : va_S (az z) H0 H locs)  {v : Int32} (hl : Cond.fieldLink own index "CamStitch$Seam" "y" "I" ∈ Ts) (hdg : decode cc pc = .ok (.putfield index, 3))
    (kk : ∀ (H1 : Heap) (locs1 : List Loc), hd z (mS w (79) 5 v) H1 → va_S (az z) H0 H1 locs1 → W p l e R s m args below meth c H1 locs1 cells slots Q (F0 m (pc + 3) ls rest)) : W p l e R s m args below meth c H locs cells slots Q (F0 m pc ls (.int v :: .ref (z.2.1 (79)) :: rest)) := by
  obtain ⟨hi, hn, cI, cL, cD, cT, ht, hE, hne⟩ := hz
  exact m_put (C := RX8) (T := TX8) (N := 14) (ci := 8) hx hb hts hin tyX8 tyX8_ok nmX8 hown hK hi hW hS (79) (by rw [hn]; omega) (by rw [hE]; exact eC_79) rfl 5 (by decide) (hts _ hl) (fun _ h => h) rfl (ty := .int) rfl rfl rfl (Nat.le_of_ble_eq_true rfl) (by rw [hE, eC_79]; simp [mS, up2]) hdg kk
theorem get_X8_6 (hx : p.tables.exec = Jvm.exec) (hb : c.code = cc) (hts : ∀ w ∈ Ts, w.before args s = true) (hin : ∀ w ∈ wsX80, w ∈ Ts) (hown : s.vm.findClass own = some m.cls) (hK : ks z s) (hz : IC z) (hW : hd z w H)  (hl : Cond.fieldLink own index "CamStitch$Seam" "quarter" "I" ∈ Ts) (hdg : decode cc pc = .ok (.getfield index, 3))
    (kk : W p l e R s m args below meth c H locs cells slots Q (F0 m (pc + 3) ls (.int (w.1 (79) 6) :: rest))) : W p l e R s m args below meth c H locs cells slots Q (F0 m pc ls (.ref (z.2.1 (79)) :: rest)) := by
  obtain ⟨hi, hn, cI, cL, cD, cT, ht, hE, hne⟩ := hz
  exact m_get (C := RX8) (T := TX8) (N := 14) (ci := 8) hx hb hts hin hown hK hW (79) (by rw [hn]; omega) (by rw [hE]; exact eC_79) rfl 6 (by decide) (hts _ hl) (fun _ h => h) rfl hdg kk
theorem put_X8_6 (hx : p.tables.exec = Jvm.exec) (hb : c.code = cc) (hts : ∀ w ∈ Ts, w.before args s = true) (hin : ∀ w ∈ wsX80, w ∈ Ts) (hown : s.vm.findClass own = some m.cls) (hK : ks z s) (hz : IC z) (hW : hd z w H) (hS : va_S (az z) H0 H locs)  {v : Int32} (hl : Cond.fieldLink own index "CamStitch$Seam" "quarter" "I" ∈ Ts) (hdg : decode cc pc = .ok (.putfield index, 3))
    (kk : ∀ (H1 : Heap) (locs1 : List Loc), hd z (mS w (79) 6 v) H1 → va_S (az z) H0 H1 locs1 → W p l e R s m args below meth c H1 locs1 cells slots Q (F0 m (pc + 3) ls rest)) : W p l e R s m args below meth c H locs cells slots Q (F0 m pc ls (.int v :: .ref (z.2.1 (79)) :: rest)) := by
  obtain ⟨hi, hn, cI, cL, cD, cT, ht, hE, hne⟩ := hz
  exact m_put (C := RX8) (T := TX8) (N := 14) (ci := 8) hx hb hts hin tyX8 tyX8_ok nmX8 hown hK hi hW hS (79) (by rw [hn]; omega) (by rw [hE]; exact eC_79) rfl 6 (by decide) (hts _ hl) (fun _ h => h) rfl (ty := .int) rfl rfl rfl (Nat.le_of_ble_eq_true rfl) (by rw [hE, eC_79]; simp [mS, up2]) hdg kk
theorem get_X8_7 (hx : p.tables.exec = Jvm.exec) (hb : c.code = cc) (hts : ∀ w ∈ Ts, w.before args s = true) (hin : ∀ w ∈ wsX80, w ∈ Ts) (hown : s.vm.findClass own = some m.cls) (hK : ks z s) (hz : IC z) (hW : hd z w H)  (hl : Cond.fieldLink own index "CamStitch$Seam" "isBack" "Z" ∈ Ts) (hdg : decode cc pc = .ok (.getfield index, 3))
    (kk : W p l e R s m args below meth c H locs cells slots Q (F0 m (pc + 3) ls (.int (w.1 (79) 7) :: rest))) : W p l e R s m args below meth c H locs cells slots Q (F0 m pc ls (.ref (z.2.1 (79)) :: rest)) := by
  obtain ⟨hi, hn, cI, cL, cD, cT, ht, hE, hne⟩ := hz
  exact m_get (C := RX8) (T := TX8) (N := 14) (ci := 8) hx hb hts hin hown hK hW (79) (by rw [hn]; omega) (by rw [hE]; exact eC_79) rfl 7 (by decide) (hts _ hl) (fun _ h => h) rfl hdg kk
theorem put_X8_7 (hx : p.tables.exec = Jvm.exec) (hb : c.code = cc) (hts : ∀ w ∈ Ts, w.before args s = true) (hin : ∀ w ∈ wsX80, w ∈ Ts) (hown : s.vm.findClass own = some m.cls) (hK : ks z s) (hz : IC z) (hW : hd z w H) (hS : va_S (az z) H0 H locs)  {v : Int32} (hv : v = 0 ∨ v = 1) (hl : Cond.fieldLink own index "CamStitch$Seam" "isBack" "Z" ∈ Ts) (hdg : decode cc pc = .ok (.putfield index, 3))
    (kk : ∀ (H1 : Heap) (locs1 : List Loc), hd z (mS w (79) 7 v) H1 → va_S (az z) H0 H1 locs1 → W p l e R s m args below meth c H1 locs1 cells slots Q (F0 m (pc + 3) ls rest)) : W p l e R s m args below meth c H locs cells slots Q (F0 m pc ls (.int v :: .ref (z.2.1 (79)) :: rest)) := by
  obtain ⟨hi, hn, cI, cL, cD, cT, ht, hE, hne⟩ := hz
  exact m_put (C := RX8) (T := TX8) (N := 14) (ci := 8) hx hb hts hin tyX8 tyX8_ok nmX8 hown hK hi hW hS (79) (by rw [hn]; omega) (by rw [hE]; exact eC_79) rfl 7 (by decide) (hts _ hl) (fun _ h => h) rfl (ty := .boolean) rfl (by rcases hv with rfl | rfl <;> rfl) (by rcases hv with rfl | rfl <;> rfl) (Nat.le_of_ble_eq_true rfl) (by rw [hE, eC_79]; simp [mS, up2]) hdg kk
theorem get_X8_8 (hx : p.tables.exec = Jvm.exec) (hb : c.code = cc) (hts : ∀ w ∈ Ts, w.before args s = true) (hin : ∀ w ∈ wsX80, w ∈ Ts) (hown : s.vm.findClass own = some m.cls) (hK : ks z s) (hz : IC z) (hW : hd z w H)  (hl : Cond.fieldLink own index "CamStitch$Seam" "why" "I" ∈ Ts) (hdg : decode cc pc = .ok (.getfield index, 3))
    (kk : W p l e R s m args below meth c H locs cells slots Q (F0 m (pc + 3) ls (.int (w.1 (79) 8) :: rest))) : W p l e R s m args below meth c H locs cells slots Q (F0 m pc ls (.ref (z.2.1 (79)) :: rest)) := by
  obtain ⟨hi, hn, cI, cL, cD, cT, ht, hE, hne⟩ := hz
  exact m_get (C := RX8) (T := TX8) (N := 14) (ci := 8) hx hb hts hin hown hK hW (79) (by rw [hn]; omega) (by rw [hE]; exact eC_79) rfl 8 (by decide) (hts _ hl) (fun _ h => h) rfl hdg kk
theorem put_X8_8 (hx : p.tables.exec = Jvm.exec) (hb : c.code = cc) (hts : ∀ w ∈ Ts, w.before args s = true) (hin : ∀ w ∈ wsX80, w ∈ Ts) (hown : s.vm.findClass own = some m.cls) (hK : ks z s) (hz : IC z) (hW : hd z w H) (hS : va_S (az z) H0 H locs)  {v : Int32} (hl : Cond.fieldLink own index "CamStitch$Seam" "why" "I" ∈ Ts) (hdg : decode cc pc = .ok (.putfield index, 3))
    (kk : ∀ (H1 : Heap) (locs1 : List Loc), hd z (mS w (79) 8 v) H1 → va_S (az z) H0 H1 locs1 → W p l e R s m args below meth c H1 locs1 cells slots Q (F0 m (pc + 3) ls rest)) : W p l e R s m args below meth c H locs cells slots Q (F0 m pc ls (.int v :: .ref (z.2.1 (79)) :: rest)) := by
  obtain ⟨hi, hn, cI, cL, cD, cT, ht, hE, hne⟩ := hz
  exact m_put (C := RX8) (T := TX8) (N := 14) (ci := 8) hx hb hts hin tyX8 tyX8_ok nmX8 hown hK hi hW hS (79) (by rw [hn]; omega) (by rw [hE]; exact eC_79) rfl 8 (by decide) (hts _ hl) (fun _ h => h) rfl (ty := .int) rfl rfl rfl (Nat.le_of_ble_eq_true rfl) (by rw [hE, eC_79]; simp [mS, up2]) hdg kk
theorem get_X8_9 (hx : p.tables.exec = Jvm.exec) (hb : c.code = cc) (hts : ∀ w ∈ Ts, w.before args s = true) (hin : ∀ w ∈ wsX80, w ∈ Ts) (hown : s.vm.findClass own = some m.cls) (hK : ks z s) (hz : IC z) (hW : hd z w H)  (hl : Cond.fieldLink own index "CamStitch$Seam" "upperThread" "I" ∈ Ts) (hdg : decode cc pc = .ok (.getfield index, 3))
    (kk : W p l e R s m args below meth c H locs cells slots Q (F0 m (pc + 3) ls (.int (w.1 (79) 9) :: rest))) : W p l e R s m args below meth c H locs cells slots Q (F0 m pc ls (.ref (z.2.1 (79)) :: rest)) := by
  obtain ⟨hi, hn, cI, cL, cD, cT, ht, hE, hne⟩ := hz
  exact m_get (C := RX8) (T := TX8) (N := 14) (ci := 8) hx hb hts hin hown hK hW (79) (by rw [hn]; omega) (by rw [hE]; exact eC_79) rfl 9 (by decide) (hts _ hl) (fun _ h => h) rfl hdg kk
theorem put_X8_9 (hx : p.tables.exec = Jvm.exec) (hb : c.code = cc) (hts : ∀ w ∈ Ts, w.before args s = true) (hin : ∀ w ∈ wsX80, w ∈ Ts) (hown : s.vm.findClass own = some m.cls) (hK : ks z s) (hz : IC z) (hW : hd z w H) (hS : va_S (az z) H0 H locs)  {v : Int32} (hl : Cond.fieldLink own index "CamStitch$Seam" "upperThread" "I" ∈ Ts) (hdg : decode cc pc = .ok (.putfield index, 3))
    (kk : ∀ (H1 : Heap) (locs1 : List Loc), hd z (mS w (79) 9 v) H1 → va_S (az z) H0 H1 locs1 → W p l e R s m args below meth c H1 locs1 cells slots Q (F0 m (pc + 3) ls rest)) : W p l e R s m args below meth c H locs cells slots Q (F0 m pc ls (.int v :: .ref (z.2.1 (79)) :: rest)) := by
  obtain ⟨hi, hn, cI, cL, cD, cT, ht, hE, hne⟩ := hz
  exact m_put (C := RX8) (T := TX8) (N := 14) (ci := 8) hx hb hts hin tyX8 tyX8_ok nmX8 hown hK hi hW hS (79) (by rw [hn]; omega) (by rw [hE]; exact eC_79) rfl 9 (by decide) (hts _ hl) (fun _ h => h) rfl (ty := .int) rfl rfl rfl (Nat.le_of_ble_eq_true rfl) (by rw [hE, eC_79]; simp [mS, up2]) hdg kk
theorem get_X8_10 (hx : p.tables.exec = Jvm.exec) (hb : c.code = cc) (hts : ∀ w ∈ Ts, w.before args s = true) (hin : ∀ w ∈ wsX80, w ∈ Ts) (hown : s.vm.findClass own = some m.cls) (hK : ks z s) (hz : IC z) (hW : hd z w H)  (hl : Cond.fieldLink own index "CamStitch$Seam" "lowerThread" "I" ∈ Ts) (hdg : decode cc pc = .ok (.getfield index, 3))
    (kk : W p l e R s m args below meth c H locs cells slots Q (F0 m (pc + 3) ls (.int (w.1 (79) 10) :: rest))) : W p l e R s m args below meth c H locs cells slots Q (F0 m pc ls (.ref (z.2.1 (79)) :: rest)) := by
  obtain ⟨hi, hn, cI, cL, cD, cT, ht, hE, hne⟩ := hz
  exact m_get (C := RX8) (T := TX8) (N := 14) (ci := 8) hx hb hts hin hown hK hW (79) (by rw [hn]; omega) (by rw [hE]; exact eC_79) rfl 10 (by decide) (hts _ hl) (fun _ h => h) rfl hdg kk
theorem put_X8_10 (hx : p.tables.exec = Jvm.exec) (hb : c.code = cc) (hts : ∀ w ∈ Ts, w.before args s = true) (hin : ∀ w ∈ wsX80, w ∈ Ts) (hown : s.vm.findClass own = some m.cls) (hK : ks z s) (hz : IC z) (hW : hd z w H) (hS : va_S (az z) H0 H locs)  {v : Int32} (hl : Cond.fieldLink own index "CamStitch$Seam" "lowerThread" "I" ∈ Ts) (hdg : decode cc pc = .ok (.putfield index, 3))
    (kk : ∀ (H1 : Heap) (locs1 : List Loc), hd z (mS w (79) 10 v) H1 → va_S (az z) H0 H1 locs1 → W p l e R s m args below meth c H1 locs1 cells slots Q (F0 m (pc + 3) ls rest)) : W p l e R s m args below meth c H locs cells slots Q (F0 m pc ls (.int v :: .ref (z.2.1 (79)) :: rest)) := by
  obtain ⟨hi, hn, cI, cL, cD, cT, ht, hE, hne⟩ := hz
  exact m_put (C := RX8) (T := TX8) (N := 14) (ci := 8) hx hb hts hin tyX8 tyX8_ok nmX8 hown hK hi hW hS (79) (by rw [hn]; omega) (by rw [hE]; exact eC_79) rfl 10 (by decide) (hts _ hl) (fun _ h => h) rfl (ty := .int) rfl rfl rfl (Nat.le_of_ble_eq_true rfl) (by rw [hE, eC_79]; simp [mS, up2]) hdg kk
theorem get_X8_11 (hx : p.tables.exec = Jvm.exec) (hb : c.code = cc) (hts : ∀ w ∈ Ts, w.before args s = true) (hin : ∀ w ∈ wsX80, w ∈ Ts) (hown : s.vm.findClass own = some m.cls) (hK : ks z s) (hz : IC z) (hW : hd z w H)  (hl : Cond.fieldLink own index "CamStitch$Seam" "stepsEnded" "I" ∈ Ts) (hdg : decode cc pc = .ok (.getfield index, 3))
    (kk : W p l e R s m args below meth c H locs cells slots Q (F0 m (pc + 3) ls (.int (w.1 (79) 11) :: rest))) : W p l e R s m args below meth c H locs cells slots Q (F0 m pc ls (.ref (z.2.1 (79)) :: rest)) := by
  obtain ⟨hi, hn, cI, cL, cD, cT, ht, hE, hne⟩ := hz
  exact m_get (C := RX8) (T := TX8) (N := 14) (ci := 8) hx hb hts hin hown hK hW (79) (by rw [hn]; omega) (by rw [hE]; exact eC_79) rfl 11 (by decide) (hts _ hl) (fun _ h => h) rfl hdg kk
theorem put_X8_11 (hx : p.tables.exec = Jvm.exec) (hb : c.code = cc) (hts : ∀ w ∈ Ts, w.before args s = true) (hin : ∀ w ∈ wsX80, w ∈ Ts) (hown : s.vm.findClass own = some m.cls) (hK : ks z s) (hz : IC z) (hW : hd z w H) (hS : va_S (az z) H0 H locs)  {v : Int32} (hl : Cond.fieldLink own index "CamStitch$Seam" "stepsEnded" "I" ∈ Ts) (hdg : decode cc pc = .ok (.putfield index, 3))
    (kk : ∀ (H1 : Heap) (locs1 : List Loc), hd z (mS w (79) 11 v) H1 → va_S (az z) H0 H1 locs1 → W p l e R s m args below meth c H1 locs1 cells slots Q (F0 m (pc + 3) ls rest)) : W p l e R s m args below meth c H locs cells slots Q (F0 m pc ls (.int v :: .ref (z.2.1 (79)) :: rest)) := by
  obtain ⟨hi, hn, cI, cL, cD, cT, ht, hE, hne⟩ := hz
  exact m_put (C := RX8) (T := TX8) (N := 14) (ci := 8) hx hb hts hin tyX8 tyX8_ok nmX8 hown hK hi hW hS (79) (by rw [hn]; omega) (by rw [hE]; exact eC_79) rfl 11 (by decide) (hts _ hl) (fun _ h => h) rfl (ty := .int) rfl rfl rfl (Nat.le_of_ble_eq_true rfl) (by rw [hE, eC_79]; simp [mS, up2]) hdg kk
theorem get_X8_12 (hx : p.tables.exec = Jvm.exec) (hb : c.code = cc) (hts : ∀ w ∈ Ts, w.before args s = true) (hin : ∀ w ∈ wsX80, w ∈ Ts) (hown : s.vm.findClass own = some m.cls) (hK : ks z s) (hz : IC z) (hW : hd z w H)  (hl : Cond.fieldLink own index "CamStitch$Seam" "next" "I" ∈ Ts) (hdg : decode cc pc = .ok (.getfield index, 3))
    (kk : W p l e R s m args below meth c H locs cells slots Q (F0 m (pc + 3) ls (.int (w.1 (79) 12) :: rest))) : W p l e R s m args below meth c H locs cells slots Q (F0 m pc ls (.ref (z.2.1 (79)) :: rest)) := by
  obtain ⟨hi, hn, cI, cL, cD, cT, ht, hE, hne⟩ := hz
  exact m_get (C := RX8) (T := TX8) (N := 14) (ci := 8) hx hb hts hin hown hK hW (79) (by rw [hn]; omega) (by rw [hE]; exact eC_79) rfl 12 (by decide) (hts _ hl) (fun _ h => h) rfl hdg kk
theorem put_X8_12 (hx : p.tables.exec = Jvm.exec) (hb : c.code = cc) (hts : ∀ w ∈ Ts, w.before args s = true) (hin : ∀ w ∈ wsX80, w ∈ Ts) (hown : s.vm.findClass own = some m.cls) (hK : ks z s) (hz : IC z) (hW : hd z w H) (hS : va_S (az z) H0 H locs)  {v : Int32} (hl : Cond.fieldLink own index "CamStitch$Seam" "next" "I" ∈ Ts) (hdg : decode cc pc = .ok (.putfield index, 3))
    (kk : ∀ (H1 : Heap) (locs1 : List Loc), hd z (mS w (79) 12 v) H1 → va_S (az z) H0 H1 locs1 → W p l e R s m args below meth c H1 locs1 cells slots Q (F0 m (pc + 3) ls rest)) : W p l e R s m args below meth c H locs cells slots Q (F0 m pc ls (.int v :: .ref (z.2.1 (79)) :: rest)) := by
  obtain ⟨hi, hn, cI, cL, cD, cT, ht, hE, hne⟩ := hz
  exact m_put (C := RX8) (T := TX8) (N := 14) (ci := 8) hx hb hts hin tyX8 tyX8_ok nmX8 hown hK hi hW hS (79) (by rw [hn]; omega) (by rw [hE]; exact eC_79) rfl 12 (by decide) (hts _ hl) (fun _ h => h) rfl (ty := .int) rfl rfl rfl (Nat.le_of_ble_eq_true rfl) (by rw [hE, eC_79]; simp [mS, up2]) hdg kk
theorem get_X8_13 (hx : p.tables.exec = Jvm.exec) (hb : c.code = cc) (hts : ∀ w ∈ Ts, w.before args s = true) (hin : ∀ w ∈ wsX80, w ∈ Ts) (hown : s.vm.findClass own = some m.cls) (hK : ks z s) (hz : IC z) (hW : hd z w H)  (hl : Cond.fieldLink own index "CamStitch$Seam" "needle" "I" ∈ Ts) (hdg : decode cc pc = .ok (.getfield index, 3))
    (kk : W p l e R s m args below meth c H locs cells slots Q (F0 m (pc + 3) ls (.int (w.1 (79) 13) :: rest))) : W p l e R s m args below meth c H locs cells slots Q (F0 m pc ls (.ref (z.2.1 (79)) :: rest)) := by
  obtain ⟨hi, hn, cI, cL, cD, cT, ht, hE, hne⟩ := hz
  exact m_get (C := RX8) (T := TX8) (N := 14) (ci := 8) hx hb hts hin hown hK hW (79) (by rw [hn]; omega) (by rw [hE]; exact eC_79) rfl 13 (by decide) (hts _ hl) (fun _ h => h) rfl hdg kk
theorem put_X8_13 (hx : p.tables.exec = Jvm.exec) (hb : c.code = cc) (hts : ∀ w ∈ Ts, w.before args s = true) (hin : ∀ w ∈ wsX80, w ∈ Ts) (hown : s.vm.findClass own = some m.cls) (hK : ks z s) (hz : IC z) (hW : hd z w H) (hS : va_S (az z) H0 H locs)  {v : Int32} (hl : Cond.fieldLink own index "CamStitch$Seam" "needle" "I" ∈ Ts) (hdg : decode cc pc = .ok (.putfield index, 3))
    (kk : ∀ (H1 : Heap) (locs1 : List Loc), hd z (mS w (79) 13 v) H1 → va_S (az z) H0 H1 locs1 → W p l e R s m args below meth c H1 locs1 cells slots Q (F0 m (pc + 3) ls rest)) : W p l e R s m args below meth c H locs cells slots Q (F0 m pc ls (.int v :: .ref (z.2.1 (79)) :: rest)) := by
  obtain ⟨hi, hn, cI, cL, cD, cT, ht, hE, hne⟩ := hz
  exact m_put (C := RX8) (T := TX8) (N := 14) (ci := 8) hx hb hts hin tyX8 tyX8_ok nmX8 hown hK hi hW hS (79) (by rw [hn]; omega) (by rw [hE]; exact eC_79) rfl 13 (by decide) (hts _ hl) (fun _ h => h) rfl (ty := .int) rfl rfl rfl (Nat.le_of_ble_eq_true rfl) (by rw [hE, eC_79]; simp [mS, up2]) hdg kk
theorem pre_X9 (hK : ks z s) (hz : IC z) (hW : hd z w H) {d : Nat} (hd0 : d < 6) (As : List Value) : PreV s H RX9 (z.2.1 (48+2*d)) (PZ z w (.ref (z.2.1 (48+2*d)) :: As)) As := by
  obtain ⟨hi, hn, cI, cL, cD, cT, ht, hE, hne⟩ := hz
  exact m_preV (q := (RX9, TX9, 4)) hK hW (48+2*d) (by rw [hn]; omega) (by rw [hE]; exact eC_X9 hd0) rfl As
theorem get_X9_0 (hx : p.tables.exec = Jvm.exec) (hb : c.code = cc) (hts : ∀ w ∈ Ts, w.before args s = true) (hin : ∀ w ∈ wsX90, w ∈ Ts) (hown : s.vm.findClass own = some m.cls) (hK : ks z s) (hz : IC z) (hW : hd z w H) {d : Nat} (hd0 : d < 6) (hl : Cond.fieldLink own index "CamStitch$Tape" "row" "[J" ∈ Ts) (hdg : decode cc pc = .ok (.getfield index, 3))
    (kk : W p l e R s m args below meth c H locs cells slots Q (F0 m (pc + 3) ls (.ref (z.2.1 (49+2*d)) :: rest))) : W p l e R s m args below meth c H locs cells slots Q (F0 m pc ls (.ref (z.2.1 (48+2*d)) :: rest)) := by
  obtain ⟨hi, hn, cI, cL, cD, cT, ht, hE, hne⟩ := hz
  exact m_get (C := RX9) (T := TX9) (N := 4) (ci := 9) hx hb hts hin hown hK hW (48+2*d) (by rw [hn]; omega) (by rw [hE]; exact eC_X9 hd0) rfl 0 (by decide) (hts _ hl) (fun _ h => h) rfl hdg kk
theorem get_X9_1 (hx : p.tables.exec = Jvm.exec) (hb : c.code = cc) (hts : ∀ w ∈ Ts, w.before args s = true) (hin : ∀ w ∈ wsX90, w ∈ Ts) (hown : s.vm.findClass own = some m.cls) (hK : ks z s) (hz : IC z) (hW : hd z w H) {d : Nat} (hd0 : d < 6) (hl : Cond.fieldLink own index "CamStitch$Tape" "disc" "LCamStitch$Disc;" ∈ Ts) (hdg : decode cc pc = .ok (.getfield index, 3))
    (kk : W p l e R s m args below meth c H locs cells slots Q (F0 m (pc + 3) ls (.ref (z.2.1 (3*(8+d))) :: rest))) : W p l e R s m args below meth c H locs cells slots Q (F0 m pc ls (.ref (z.2.1 (48+2*d)) :: rest)) := by
  obtain ⟨hi, hn, cI, cL, cD, cT, ht, hE, hne⟩ := hz
  exact m_get (C := RX9) (T := TX9) (N := 4) (ci := 9) hx hb hts hin hown hK hW (48+2*d) (by rw [hn]; omega) (by rw [hE]; exact eC_X9 hd0) rfl 1 (by decide) (hts _ hl) (fun _ h => h) rfl hdg kk
theorem get_X9_2 (hx : p.tables.exec = Jvm.exec) (hb : c.code = cc) (hts : ∀ w ∈ Ts, w.before args s = true) (hin : ∀ w ∈ wsX90, w ∈ Ts) (hown : s.vm.findClass own = some m.cls) (hK : ks z s) (hz : IC z) (hW : hd z w H) {d : Nat} (hd0 : d < 6) (hl : Cond.fieldLink own index "CamStitch$Tape" "sort" "I" ∈ Ts) (hdg : decode cc pc = .ok (.getfield index, 3))
    (kk : W p l e R s m args below meth c H locs cells slots Q (F0 m (pc + 3) ls (.int (w.1 (48+2*d) 2) :: rest))) : W p l e R s m args below meth c H locs cells slots Q (F0 m pc ls (.ref (z.2.1 (48+2*d)) :: rest)) := by
  obtain ⟨hi, hn, cI, cL, cD, cT, ht, hE, hne⟩ := hz
  exact m_get (C := RX9) (T := TX9) (N := 4) (ci := 9) hx hb hts hin hown hK hW (48+2*d) (by rw [hn]; omega) (by rw [hE]; exact eC_X9 hd0) rfl 2 (by decide) (hts _ hl) (fun _ h => h) rfl hdg kk
theorem put_X9_2 (hx : p.tables.exec = Jvm.exec) (hb : c.code = cc) (hts : ∀ w ∈ Ts, w.before args s = true) (hin : ∀ w ∈ wsX90, w ∈ Ts) (hown : s.vm.findClass own = some m.cls) (hK : ks z s) (hz : IC z) (hW : hd z w H) (hS : va_S (az z) H0 H locs) {d : Nat} (hd0 : d < 6) {v : Int32} (hl : Cond.fieldLink own index "CamStitch$Tape" "sort" "I" ∈ Ts) (hdg : decode cc pc = .ok (.putfield index, 3))
    (kk : ∀ (H1 : Heap) (locs1 : List Loc), hd z (mS w (48+2*d) 2 v) H1 → va_S (az z) H0 H1 locs1 → W p l e R s m args below meth c H1 locs1 cells slots Q (F0 m (pc + 3) ls rest)) : W p l e R s m args below meth c H locs cells slots Q (F0 m pc ls (.int v :: .ref (z.2.1 (48+2*d)) :: rest)) := by
  obtain ⟨hi, hn, cI, cL, cD, cT, ht, hE, hne⟩ := hz
  exact m_put (C := RX9) (T := TX9) (N := 4) (ci := 9) hx hb hts hin tyX9 tyX9_ok nmX9 hown hK hi hW hS (48+2*d) (by rw [hn]; omega) (by rw [hE]; exact eC_X9 hd0) rfl 2 (by decide) (hts _ hl) (fun _ h => h) rfl (ty := .int) rfl rfl rfl (Nat.le_of_ble_eq_true rfl) (by rw [hE, eC_X9 hd0]; simp [mS, up2]) hdg kk
theorem get_X9_3 (hx : p.tables.exec = Jvm.exec) (hb : c.code = cc) (hts : ∀ w ∈ Ts, w.before args s = true) (hin : ∀ w ∈ wsX90, w ∈ Ts) (hown : s.vm.findClass own = some m.cls) (hK : ks z s) (hz : IC z) (hW : hd z w H) {d : Nat} (hd0 : d < 6) (hl : Cond.fieldLink own index "CamStitch$Tape" "length" "I" ∈ Ts) (hdg : decode cc pc = .ok (.getfield index, 3))
    (kk : W p l e R s m args below meth c H locs cells slots Q (F0 m (pc + 3) ls (.int (w.1 (48+2*d) 3) :: rest))) : W p l e R s m args below meth c H locs cells slots Q (F0 m pc ls (.ref (z.2.1 (48+2*d)) :: rest)) := by
  obtain ⟨hi, hn, cI, cL, cD, cT, ht, hE, hne⟩ := hz
  exact m_get (C := RX9) (T := TX9) (N := 4) (ci := 9) hx hb hts hin hown hK hW (48+2*d) (by rw [hn]; omega) (by rw [hE]; exact eC_X9 hd0) rfl 3 (by decide) (hts _ hl) (fun _ h => h) rfl hdg kk
theorem put_X9_3 (hx : p.tables.exec = Jvm.exec) (hb : c.code = cc) (hts : ∀ w ∈ Ts, w.before args s = true) (hin : ∀ w ∈ wsX90, w ∈ Ts) (hown : s.vm.findClass own = some m.cls) (hK : ks z s) (hz : IC z) (hW : hd z w H) (hS : va_S (az z) H0 H locs) {d : Nat} (hd0 : d < 6) {v : Int32} (hl : Cond.fieldLink own index "CamStitch$Tape" "length" "I" ∈ Ts) (hdg : decode cc pc = .ok (.putfield index, 3))
    (kk : ∀ (H1 : Heap) (locs1 : List Loc), hd z (mS w (48+2*d) 3 v) H1 → va_S (az z) H0 H1 locs1 → W p l e R s m args below meth c H1 locs1 cells slots Q (F0 m (pc + 3) ls rest)) : W p l e R s m args below meth c H locs cells slots Q (F0 m pc ls (.int v :: .ref (z.2.1 (48+2*d)) :: rest)) := by
  obtain ⟨hi, hn, cI, cL, cD, cT, ht, hE, hne⟩ := hz
  exact m_put (C := RX9) (T := TX9) (N := 4) (ci := 9) hx hb hts hin tyX9 tyX9_ok nmX9 hown hK hi hW hS (48+2*d) (by rw [hn]; omega) (by rw [hE]; exact eC_X9 hd0) rfl 3 (by decide) (hts _ hl) (fun _ h => h) rfl (ty := .int) rfl rfl rfl (Nat.le_of_ble_eq_true rfl) (by rw [hE, eC_X9 hd0]; simp [mS, up2]) hdg kk
theorem pre_X10 (hK : ks z s) (hz : IC z) (hW : hd z w H)  (As : List Value) : PreV s H RX10 (z.2.1 (66)) (PZ z w (.ref (z.2.1 (66)) :: As)) As := by
  obtain ⟨hi, hn, cI, cL, cD, cT, ht, hE, hne⟩ := hz
  exact m_preV (q := (RX10, TX10, 13)) hK hW (66) (by rw [hn]; omega) (by rw [hE]; exact eC_66) rfl As
theorem get_X10_0 (hx : p.tables.exec = Jvm.exec) (hb : c.code = cc) (hts : ∀ w ∈ Ts, w.before args s = true) (hin : ∀ w ∈ wsX100, w ∈ Ts) (hown : s.vm.findClass own = some m.cls) (hK : ks z s) (hz : IC z) (hW : hd z w H)  (hl : Cond.fieldLink own index "CamStitch" "pattern" "LCamStitch$Pattern;" ∈ Ts) (hdg : decode cc pc = .ok (.getfield index, 3))
    (kk : W p l e R s m args below meth c H locs cells slots Q (F0 m (pc + 3) ls (.ref (z.2.1 (60+3*0)) :: rest))) : W p l e R s m args below meth c H locs cells slots Q (F0 m pc ls (.ref (z.2.1 (66)) :: rest)) := by
  obtain ⟨hi, hn, cI, cL, cD, cT, ht, hE, hne⟩ := hz
  exact m_get (C := RX10) (T := TX10) (N := 13) (ci := 10) hx hb hts hin hown hK hW (66) (by rw [hn]; omega) (by rw [hE]; exact eC_66) rfl 0 (by decide) (hts _ hl) (fun _ h => h) rfl hdg kk
theorem get_X10_1 (hx : p.tables.exec = Jvm.exec) (hb : c.code = cc) (hts : ∀ w ∈ Ts, w.before args s = true) (hin : ∀ w ∈ wsX100, w ∈ Ts) (hown : s.vm.findClass own = some m.cls) (hK : ks z s) (hz : IC z) (hW : hd z w H)  (hl : Cond.fieldLink own index "CamStitch" "reader" "LCamStitch$Reader;" ∈ Ts) (hdg : decode cc pc = .ok (.getfield index, 3))
    (kk : W p l e R s m args below meth c H locs cells slots Q (F0 m (pc + 3) ls (.ref (z.2.1 (67)) :: rest))) : W p l e R s m args below meth c H locs cells slots Q (F0 m pc ls (.ref (z.2.1 (66)) :: rest)) := by
  obtain ⟨hi, hn, cI, cL, cD, cT, ht, hE, hne⟩ := hz
  exact m_get (C := RX10) (T := TX10) (N := 13) (ci := 10) hx hb hts hin hown hK hW (66) (by rw [hn]; omega) (by rw [hE]; exact eC_66) rfl 1 (by decide) (hts _ hl) (fun _ h => h) rfl hdg kk
theorem get_X10_2 (hx : p.tables.exec = Jvm.exec) (hb : c.code = cc) (hts : ∀ w ∈ Ts, w.before args s = true) (hin : ∀ w ∈ wsX100, w ∈ Ts) (hown : s.vm.findClass own = some m.cls) (hK : ks z s) (hz : IC z) (hW : hd z w H)  (hl : Cond.fieldLink own index "CamStitch" "work" "LCamStitch$Disc;" ∈ Ts) (hdg : decode cc pc = .ok (.getfield index, 3))
    (kk : W p l e R s m args below meth c H locs cells slots Q (F0 m (pc + 3) ls (.ref (z.2.1 (3*14)) :: rest))) : W p l e R s m args below meth c H locs cells slots Q (F0 m pc ls (.ref (z.2.1 (66)) :: rest)) := by
  obtain ⟨hi, hn, cI, cL, cD, cT, ht, hE, hne⟩ := hz
  exact m_get (C := RX10) (T := TX10) (N := 13) (ci := 10) hx hb hts hin hown hK hW (66) (by rw [hn]; omega) (by rw [hE]; exact eC_66) rfl 2 (by decide) (hts _ hl) (fun _ h => h) rfl hdg kk
theorem get_X10_3 (hx : p.tables.exec = Jvm.exec) (hb : c.code = cc) (hts : ∀ w ∈ Ts, w.before args s = true) (hin : ∀ w ∈ wsX100, w ∈ Ts) (hown : s.vm.findClass own = some m.cls) (hK : ks z s) (hz : IC z) (hW : hd z w H)  (hl : Cond.fieldLink own index "CamStitch" "spare" "LCamStitch$Disc;" ∈ Ts) (hdg : decode cc pc = .ok (.getfield index, 3))
    (kk : W p l e R s m args below meth c H locs cells slots Q (F0 m (pc + 3) ls (.ref (z.2.1 (3*15)) :: rest))) : W p l e R s m args below meth c H locs cells slots Q (F0 m pc ls (.ref (z.2.1 (66)) :: rest)) := by
  obtain ⟨hi, hn, cI, cL, cD, cT, ht, hE, hne⟩ := hz
  exact m_get (C := RX10) (T := TX10) (N := 13) (ci := 10) hx hb hts hin hown hK hW (66) (by rw [hn]; omega) (by rw [hE]; exact eC_66) rfl 3 (by decide) (hts _ hl) (fun _ h => h) rfl hdg kk
theorem get_X10_4 (hx : p.tables.exec = Jvm.exec) (hb : c.code = cc) (hts : ∀ w ∈ Ts, w.before args s = true) (hin : ∀ w ∈ wsX100, w ∈ Ts) (hown : s.vm.findClass own = some m.cls) (hK : ks z s) (hz : IC z) (hW : hd z w H)  (hl : Cond.fieldLink own index "CamStitch" "shelves" "[LCamStitch$Disc;" ∈ Ts) (hdg : decode cc pc = .ok (.getfield index, 3))
    (kk : W p l e R s m args below meth c H locs cells slots Q (F0 m (pc + 3) ls (.ref (z.2.1 (70)) :: rest))) : W p l e R s m args below meth c H locs cells slots Q (F0 m pc ls (.ref (z.2.1 (66)) :: rest)) := by
  obtain ⟨hi, hn, cI, cL, cD, cT, ht, hE, hne⟩ := hz
  exact m_get (C := RX10) (T := TX10) (N := 13) (ci := 10) hx hb hts hin hown hK hW (66) (by rw [hn]; omega) (by rw [hE]; exact eC_66) rfl 4 (by decide) (hts _ hl) (fun _ h => h) rfl hdg kk
theorem get_X10_5 (hx : p.tables.exec = Jvm.exec) (hb : c.code = cc) (hts : ∀ w ∈ Ts, w.before args s = true) (hin : ∀ w ∈ wsX100, w ∈ Ts) (hown : s.vm.findClass own = some m.cls) (hK : ks z s) (hz : IC z) (hW : hd z w H)  (hl : Cond.fieldLink own index "CamStitch" "hem" "LCamStitch$Hem;" ∈ Ts) (hdg : decode cc pc = .ok (.getfield index, 3))
    (kk : W p l e R s m args below meth c H locs cells slots Q (F0 m (pc + 3) ls (.ref (z.2.1 (72)) :: rest))) : W p l e R s m args below meth c H locs cells slots Q (F0 m pc ls (.ref (z.2.1 (66)) :: rest)) := by
  obtain ⟨hi, hn, cI, cL, cD, cT, ht, hE, hne⟩ := hz
  exact m_get (C := RX10) (T := TX10) (N := 13) (ci := 10) hx hb hts hin hown hK hW (66) (by rw [hn]; omega) (by rw [hE]; exact eC_66) rfl 5 (by decide) (hts _ hl) (fun _ h => h) rfl hdg kk
theorem get_X10_6 (hx : p.tables.exec = Jvm.exec) (hb : c.code = cc) (hts : ∀ w ∈ Ts, w.before args s = true) (hin : ∀ w ∈ wsX100, w ∈ Ts) (hown : s.vm.findClass own = some m.cls) (hK : ks z s) (hz : IC z) (hW : hd z w H)  (hl : Cond.fieldLink own index "CamStitch" "bench" "LCamStitch$Bench;" ∈ Ts) (hdg : decode cc pc = .ok (.getfield index, 3))
    (kk : W p l e R s m args below meth c H locs cells slots Q (F0 m (pc + 3) ls (.ref (z.2.1 (74)) :: rest))) : W p l e R s m args below meth c H locs cells slots Q (F0 m pc ls (.ref (z.2.1 (66)) :: rest)) := by
  obtain ⟨hi, hn, cI, cL, cD, cT, ht, hE, hne⟩ := hz
  exact m_get (C := RX10) (T := TX10) (N := 13) (ci := 10) hx hb hts hin hown hK hW (66) (by rw [hn]; omega) (by rw [hE]; exact eC_66) rfl 6 (by decide) (hts _ hl) (fun _ h => h) rfl hdg kk
theorem get_X10_7 (hx : p.tables.exec = Jvm.exec) (hb : c.code = cc) (hts : ∀ w ∈ Ts, w.before args s = true) (hin : ∀ w ∈ wsX100, w ∈ Ts) (hown : s.vm.findClass own = some m.cls) (hK : ks z s) (hz : IC z) (hW : hd z w H)  (hl : Cond.fieldLink own index "CamStitch" "job" "LCamStitch$Job;" ∈ Ts) (hdg : decode cc pc = .ok (.getfield index, 3))
    (kk : W p l e R s m args below meth c H locs cells slots Q (F0 m (pc + 3) ls (.ref (z.2.1 (76)) :: rest))) : W p l e R s m args below meth c H locs cells slots Q (F0 m pc ls (.ref (z.2.1 (66)) :: rest)) := by
  obtain ⟨hi, hn, cI, cL, cD, cT, ht, hE, hne⟩ := hz
  exact m_get (C := RX10) (T := TX10) (N := 13) (ci := 10) hx hb hts hin hown hK hW (66) (by rw [hn]; omega) (by rw [hE]; exact eC_66) rfl 7 (by decide) (hts _ hl) (fun _ h => h) rfl hdg kk
theorem get_X10_8 (hx : p.tables.exec = Jvm.exec) (hb : c.code = cc) (hts : ∀ w ∈ Ts, w.before args s = true) (hin : ∀ w ∈ wsX100, w ∈ Ts) (hown : s.vm.findClass own = some m.cls) (hK : ks z s) (hz : IC z) (hW : hd z w H)  (hl : Cond.fieldLink own index "CamStitch" "seam" "LCamStitch$Seam;" ∈ Ts) (hdg : decode cc pc = .ok (.getfield index, 3))
    (kk : W p l e R s m args below meth c H locs cells slots Q (F0 m (pc + 3) ls (.ref (z.2.1 (79)) :: rest))) : W p l e R s m args below meth c H locs cells slots Q (F0 m pc ls (.ref (z.2.1 (66)) :: rest)) := by
  obtain ⟨hi, hn, cI, cL, cD, cT, ht, hE, hne⟩ := hz
  exact m_get (C := RX10) (T := TX10) (N := 13) (ci := 10) hx hb hts hin hown hK hW (66) (by rw [hn]; omega) (by rw [hE]; exact eC_66) rfl 8 (by decide) (hts _ hl) (fun _ h => h) rfl hdg kk
theorem get_X10_9 (hx : p.tables.exec = Jvm.exec) (hb : c.code = cc) (hts : ∀ w ∈ Ts, w.before args s = true) (hin : ∀ w ∈ wsX100, w ∈ Ts) (hown : s.vm.findClass own = some m.cls) (hK : ks z s) (hz : IC z) (hW : hd z w H)  (hl : Cond.fieldLink own index "CamStitch" "rim" "LCamStitch$Rim;" ∈ Ts) (hdg : decode cc pc = .ok (.getfield index, 3))
    (kk : W p l e R s m args below meth c H locs cells slots Q (F0 m (pc + 3) ls (.ref (z.2.1 (82)) :: rest))) : W p l e R s m args below meth c H locs cells slots Q (F0 m pc ls (.ref (z.2.1 (66)) :: rest)) := by
  obtain ⟨hi, hn, cI, cL, cD, cT, ht, hE, hne⟩ := hz
  exact m_get (C := RX10) (T := TX10) (N := 13) (ci := 10) hx hb hts hin hown hK hW (66) (by rw [hn]; omega) (by rw [hE]; exact eC_66) rfl 9 (by decide) (hts _ hl) (fun _ h => h) rfl hdg kk
theorem get_X10_10 (hx : p.tables.exec = Jvm.exec) (hb : c.code = cc) (hts : ∀ w ∈ Ts, w.before args s = true) (hin : ∀ w ∈ wsX100, w ∈ Ts) (hown : s.vm.findClass own = some m.cls) (hK : ks z s) (hz : IC z) (hW : hd z w H)  (hl : Cond.fieldLink own index "CamStitch" "faults" "LCamStitch$Faults;" ∈ Ts) (hdg : decode cc pc = .ok (.getfield index, 3))
    (kk : W p l e R s m args below meth c H locs cells slots Q (F0 m (pc + 3) ls (.ref (z.2.1 (83)) :: rest))) : W p l e R s m args below meth c H locs cells slots Q (F0 m pc ls (.ref (z.2.1 (66)) :: rest)) := by
  obtain ⟨hi, hn, cI, cL, cD, cT, ht, hE, hne⟩ := hz
  exact m_get (C := RX10) (T := TX10) (N := 13) (ci := 10) hx hb hts hin hown hK hW (66) (by rw [hn]; omega) (by rw [hE]; exact eC_66) rfl 10 (by decide) (hts _ hl) (fun _ h => h) rfl hdg kk
theorem get_X10_11 (hx : p.tables.exec = Jvm.exec) (hb : c.code = cc) (hts : ∀ w ∈ Ts, w.before args s = true) (hin : ∀ w ∈ wsX100, w ∈ Ts) (hown : s.vm.findClass own = some m.cls) (hK : ks z s) (hz : IC z) (hW : hd z w H)  (hl : Cond.fieldLink own index "CamStitch" "tapes" "[LCamStitch$Tape;" ∈ Ts) (hdg : decode cc pc = .ok (.getfield index, 3))
    (kk : W p l e R s m args below meth c H locs cells slots Q (F0 m (pc + 3) ls (.ref (z.2.1 (71)) :: rest))) : W p l e R s m args below meth c H locs cells slots Q (F0 m pc ls (.ref (z.2.1 (66)) :: rest)) := by
  obtain ⟨hi, hn, cI, cL, cD, cT, ht, hE, hne⟩ := hz
  exact m_get (C := RX10) (T := TX10) (N := 13) (ci := 10) hx hb hts hin hown hK hW (66) (by rw [hn]; omega) (by rw [hE]; exact eC_66) rfl 11 (by decide) (hts _ hl) (fun _ h => h) rfl hdg kk
theorem get_X10_12 (hx : p.tables.exec = Jvm.exec) (hb : c.code = cc) (hts : ∀ w ∈ Ts, w.before args s = true) (hin : ∀ w ∈ wsX100, w ∈ Ts) (hown : s.vm.findClass own = some m.cls) (hK : ks z s) (hz : IC z) (hW : hd z w H)  (hl : Cond.fieldLink own index "CamStitch" "refusals" "I" ∈ Ts) (hdg : decode cc pc = .ok (.getfield index, 3))
    (kk : W p l e R s m args below meth c H locs cells slots Q (F0 m (pc + 3) ls (.int (w.1 (66) 12) :: rest))) : W p l e R s m args below meth c H locs cells slots Q (F0 m pc ls (.ref (z.2.1 (66)) :: rest)) := by
  obtain ⟨hi, hn, cI, cL, cD, cT, ht, hE, hne⟩ := hz
  exact m_get (C := RX10) (T := TX10) (N := 13) (ci := 10) hx hb hts hin hown hK hW (66) (by rw [hn]; omega) (by rw [hE]; exact eC_66) rfl 12 (by decide) (hts _ hl) (fun _ h => h) rfl hdg kk
theorem put_X10_12 (hx : p.tables.exec = Jvm.exec) (hb : c.code = cc) (hts : ∀ w ∈ Ts, w.before args s = true) (hin : ∀ w ∈ wsX100, w ∈ Ts) (hown : s.vm.findClass own = some m.cls) (hK : ks z s) (hz : IC z) (hW : hd z w H) (hS : va_S (az z) H0 H locs)  {v : Int32} (hl : Cond.fieldLink own index "CamStitch" "refusals" "I" ∈ Ts) (hdg : decode cc pc = .ok (.putfield index, 3))
    (kk : ∀ (H1 : Heap) (locs1 : List Loc), hd z (mS w (66) 12 v) H1 → va_S (az z) H0 H1 locs1 → W p l e R s m args below meth c H1 locs1 cells slots Q (F0 m (pc + 3) ls rest)) : W p l e R s m args below meth c H locs cells slots Q (F0 m pc ls (.int v :: .ref (z.2.1 (66)) :: rest)) := by
  obtain ⟨hi, hn, cI, cL, cD, cT, ht, hE, hne⟩ := hz
  exact m_put (C := RX10) (T := TX10) (N := 13) (ci := 10) hx hb hts hin tyX10 tyX10_ok nmX10 hown hK hi hW hS (66) (by rw [hn]; omega) (by rw [hE]; exact eC_66) rfl 12 (by decide) (hts _ hl) (fun _ h => h) rfl (ty := .int) rfl rfl rfl (Nat.le_of_ble_eq_true rfl) (by rw [hE, eC_66]; simp [mS, up2]) hdg kk
theorem pre_X11 (hK : ks z s) (hz : IM z) (hW : hd z w H)  (As : List Value) : PreV s H RX11 (z.2.1 (0)) (PZ z w (.ref (z.2.1 (0)) :: As)) As := by
  obtain ⟨hi, hn, cI, cL, ht, hE, hne⟩ := hz
  exact m_preV (q := (RX11, TX11, 62)) hK hW (0) (by rw [hn]; omega) (by rw [hE]; exact eM_0) rfl As
theorem get_X11_0 (hx : p.tables.exec = Jvm.exec) (hb : c.code = cc) (hts : ∀ w ∈ Ts, w.before args s = true) (hin : ∀ w ∈ wsX110, w ∈ Ts) (hown : s.vm.findClass own = some m.cls) (hK : ks z s) (hz : IM z) (hW : hd z w H)  (hl : Cond.fieldLink own index "CamStitchModel" "thrown" "I" ∈ Ts) (hdg : decode cc pc = .ok (.getfield index, 3))
    (kk : W p l e R s m args below meth c H locs cells slots Q (F0 m (pc + 3) ls (.int (w.1 (0) 0) :: rest))) : W p l e R s m args below meth c H locs cells slots Q (F0 m pc ls (.ref (z.2.1 (0)) :: rest)) := by
  obtain ⟨hi, hn, cI, cL, ht, hE, hne⟩ := hz
  exact m_get (C := RX11) (T := TX11) (N := 62) (ci := 11) hx hb hts hin hown hK hW (0) (by rw [hn]; omega) (by rw [hE]; exact eM_0) rfl 0 (by decide) (hts _ hl) (fun _ h => h) rfl hdg kk
theorem put_X11_0 (hx : p.tables.exec = Jvm.exec) (hb : c.code = cc) (hts : ∀ w ∈ Ts, w.before args s = true) (hin : ∀ w ∈ wsX110, w ∈ Ts) (hown : s.vm.findClass own = some m.cls) (hK : ks z s) (hz : IM z) (hW : hd z w H) (hS : va_S (az z) H0 H locs)  {v : Int32} (hl : Cond.fieldLink own index "CamStitchModel" "thrown" "I" ∈ Ts) (hdg : decode cc pc = .ok (.putfield index, 3))
    (kk : ∀ (H1 : Heap) (locs1 : List Loc), hd z (mS w (0) 0 v) H1 → va_S (az z) H0 H1 locs1 → W p l e R s m args below meth c H1 locs1 cells slots Q (F0 m (pc + 3) ls rest)) : W p l e R s m args below meth c H locs cells slots Q (F0 m pc ls (.int v :: .ref (z.2.1 (0)) :: rest)) := by
  obtain ⟨hi, hn, cI, cL, ht, hE, hne⟩ := hz
  exact m_put (C := RX11) (T := TX11) (N := 62) (ci := 11) hx hb hts hin tyX11 tyX11_ok nmX11 hown hK hi hW hS (0) (by rw [hn]; omega) (by rw [hE]; exact eM_0) rfl 0 (by decide) (hts _ hl) (fun _ h => h) rfl (ty := .int) rfl rfl rfl (Nat.le_of_ble_eq_true rfl) (by rw [hE, eM_0]; simp [mS, up2]) hdg kk
theorem get_X11_1 (hx : p.tables.exec = Jvm.exec) (hb : c.code = cc) (hts : ∀ w ∈ Ts, w.before args s = true) (hin : ∀ w ∈ wsX110, w ∈ Ts) (hown : s.vm.findClass own = some m.cls) (hK : ks z s) (hz : IM z) (hW : hd z w H)  (hl : Cond.fieldLink own index "CamStitchModel" "points" "I" ∈ Ts) (hdg : decode cc pc = .ok (.getfield index, 3))
    (kk : W p l e R s m args below meth c H locs cells slots Q (F0 m (pc + 3) ls (.int (w.1 (0) 1) :: rest))) : W p l e R s m args below meth c H locs cells slots Q (F0 m pc ls (.ref (z.2.1 (0)) :: rest)) := by
  obtain ⟨hi, hn, cI, cL, ht, hE, hne⟩ := hz
  exact m_get (C := RX11) (T := TX11) (N := 62) (ci := 11) hx hb hts hin hown hK hW (0) (by rw [hn]; omega) (by rw [hE]; exact eM_0) rfl 1 (by decide) (hts _ hl) (fun _ h => h) rfl hdg kk
theorem put_X11_1 (hx : p.tables.exec = Jvm.exec) (hb : c.code = cc) (hts : ∀ w ∈ Ts, w.before args s = true) (hin : ∀ w ∈ wsX110, w ∈ Ts) (hown : s.vm.findClass own = some m.cls) (hK : ks z s) (hz : IM z) (hW : hd z w H) (hS : va_S (az z) H0 H locs)  {v : Int32} (hl : Cond.fieldLink own index "CamStitchModel" "points" "I" ∈ Ts) (hdg : decode cc pc = .ok (.putfield index, 3))
    (kk : ∀ (H1 : Heap) (locs1 : List Loc), hd z (mS w (0) 1 v) H1 → va_S (az z) H0 H1 locs1 → W p l e R s m args below meth c H1 locs1 cells slots Q (F0 m (pc + 3) ls rest)) : W p l e R s m args below meth c H locs cells slots Q (F0 m pc ls (.int v :: .ref (z.2.1 (0)) :: rest)) := by
  obtain ⟨hi, hn, cI, cL, ht, hE, hne⟩ := hz
  exact m_put (C := RX11) (T := TX11) (N := 62) (ci := 11) hx hb hts hin tyX11 tyX11_ok nmX11 hown hK hi hW hS (0) (by rw [hn]; omega) (by rw [hE]; exact eM_0) rfl 1 (by decide) (hts _ hl) (fun _ h => h) rfl (ty := .int) rfl rfl rfl (Nat.le_of_ble_eq_true rfl) (by rw [hE, eM_0]; simp [mS, up2]) hdg kk
theorem get_X11_2 (hx : p.tables.exec = Jvm.exec) (hb : c.code = cc) (hts : ∀ w ∈ Ts, w.before args s = true) (hin : ∀ w ∈ wsX110, w ∈ Ts) (hown : s.vm.findClass own = some m.cls) (hK : ks z s) (hz : IM z) (hW : hd z w H)  (hl : Cond.fieldLink own index "CamStitchModel" "px" "[I" ∈ Ts) (hdg : decode cc pc = .ok (.getfield index, 3))
    (kk : W p l e R s m args below meth c H locs cells slots Q (F0 m (pc + 3) ls (.ref (z.2.1 (1)) :: rest))) : W p l e R s m args below meth c H locs cells slots Q (F0 m pc ls (.ref (z.2.1 (0)) :: rest)) := by
  obtain ⟨hi, hn, cI, cL, ht, hE, hne⟩ := hz
  exact m_get (C := RX11) (T := TX11) (N := 62) (ci := 11) hx hb hts hin hown hK hW (0) (by rw [hn]; omega) (by rw [hE]; exact eM_0) rfl 2 (by decide) (hts _ hl) (fun _ h => h) rfl hdg kk
theorem get_X11_3 (hx : p.tables.exec = Jvm.exec) (hb : c.code = cc) (hts : ∀ w ∈ Ts, w.before args s = true) (hin : ∀ w ∈ wsX110, w ∈ Ts) (hown : s.vm.findClass own = some m.cls) (hK : ks z s) (hz : IM z) (hW : hd z w H)  (hl : Cond.fieldLink own index "CamStitchModel" "py" "[I" ∈ Ts) (hdg : decode cc pc = .ok (.getfield index, 3))
    (kk : W p l e R s m args below meth c H locs cells slots Q (F0 m (pc + 3) ls (.ref (z.2.1 (2)) :: rest))) : W p l e R s m args below meth c H locs cells slots Q (F0 m pc ls (.ref (z.2.1 (0)) :: rest)) := by
  obtain ⟨hi, hn, cI, cL, ht, hE, hne⟩ := hz
  exact m_get (C := RX11) (T := TX11) (N := 62) (ci := 11) hx hb hts hin hown hK hW (0) (by rw [hn]; omega) (by rw [hE]; exact eM_0) rfl 3 (by decide) (hts _ hl) (fun _ h => h) rfl hdg kk
theorem get_X11_4 (hx : p.tables.exec = Jvm.exec) (hb : c.code = cc) (hts : ∀ w ∈ Ts, w.before args s = true) (hin : ∀ w ∈ wsX110, w ∈ Ts) (hown : s.vm.findClass own = some m.cls) (hK : ks z s) (hz : IM z) (hW : hd z w H)  (hl : Cond.fieldLink own index "CamStitchModel" "advance" "I" ∈ Ts) (hdg : decode cc pc = .ok (.getfield index, 3))
    (kk : W p l e R s m args below meth c H locs cells slots Q (F0 m (pc + 3) ls (.int (w.1 (0) 4) :: rest))) : W p l e R s m args below meth c H locs cells slots Q (F0 m pc ls (.ref (z.2.1 (0)) :: rest)) := by
  obtain ⟨hi, hn, cI, cL, ht, hE, hne⟩ := hz
  exact m_get (C := RX11) (T := TX11) (N := 62) (ci := 11) hx hb hts hin hown hK hW (0) (by rw [hn]; omega) (by rw [hE]; exact eM_0) rfl 4 (by decide) (hts _ hl) (fun _ h => h) rfl hdg kk
theorem put_X11_4 (hx : p.tables.exec = Jvm.exec) (hb : c.code = cc) (hts : ∀ w ∈ Ts, w.before args s = true) (hin : ∀ w ∈ wsX110, w ∈ Ts) (hown : s.vm.findClass own = some m.cls) (hK : ks z s) (hz : IM z) (hW : hd z w H) (hS : va_S (az z) H0 H locs)  {v : Int32} (hl : Cond.fieldLink own index "CamStitchModel" "advance" "I" ∈ Ts) (hdg : decode cc pc = .ok (.putfield index, 3))
    (kk : ∀ (H1 : Heap) (locs1 : List Loc), hd z (mS w (0) 4 v) H1 → va_S (az z) H0 H1 locs1 → W p l e R s m args below meth c H1 locs1 cells slots Q (F0 m (pc + 3) ls rest)) : W p l e R s m args below meth c H locs cells slots Q (F0 m pc ls (.int v :: .ref (z.2.1 (0)) :: rest)) := by
  obtain ⟨hi, hn, cI, cL, ht, hE, hne⟩ := hz
  exact m_put (C := RX11) (T := TX11) (N := 62) (ci := 11) hx hb hts hin tyX11 tyX11_ok nmX11 hown hK hi hW hS (0) (by rw [hn]; omega) (by rw [hE]; exact eM_0) rfl 4 (by decide) (hts _ hl) (fun _ h => h) rfl (ty := .int) rfl rfl rfl (Nat.le_of_ble_eq_true rfl) (by rw [hE, eM_0]; simp [mS, up2]) hdg kk
theorem get_X11_5 (hx : p.tables.exec = Jvm.exec) (hb : c.code = cc) (hts : ∀ w ∈ Ts, w.before args s = true) (hin : ∀ w ∈ wsX110, w ∈ Ts) (hown : s.vm.findClass own = some m.cls) (hK : ks z s) (hz : IM z) (hW : hd z w H)  (hl : Cond.fieldLink own index "CamStitchModel" "many" "[I" ∈ Ts) (hdg : decode cc pc = .ok (.getfield index, 3))
    (kk : W p l e R s m args below meth c H locs cells slots Q (F0 m (pc + 3) ls (.ref (z.2.1 (3)) :: rest))) : W p l e R s m args below meth c H locs cells slots Q (F0 m pc ls (.ref (z.2.1 (0)) :: rest)) := by
  obtain ⟨hi, hn, cI, cL, ht, hE, hne⟩ := hz
  exact m_get (C := RX11) (T := TX11) (N := 62) (ci := 11) hx hb hts hin hown hK hW (0) (by rw [hn]; omega) (by rw [hE]; exact eM_0) rfl 5 (by decide) (hts _ hl) (fun _ h => h) rfl hdg kk
theorem get_X11_6 (hx : p.tables.exec = Jvm.exec) (hb : c.code = cc) (hts : ∀ w ∈ Ts, w.before args s = true) (hin : ∀ w ∈ wsX110, w ∈ Ts) (hown : s.vm.findClass own = some m.cls) (hK : ks z s) (hz : IM z) (hW : hd z w H)  (hl : Cond.fieldLink own index "CamStitchModel" "swing" "[I" ∈ Ts) (hdg : decode cc pc = .ok (.getfield index, 3))
    (kk : W p l e R s m args below meth c H locs cells slots Q (F0 m (pc + 3) ls (.ref (z.2.1 (4)) :: rest))) : W p l e R s m args below meth c H locs cells slots Q (F0 m pc ls (.ref (z.2.1 (0)) :: rest)) := by
  obtain ⟨hi, hn, cI, cL, ht, hE, hne⟩ := hz
  exact m_get (C := RX11) (T := TX11) (N := 62) (ci := 11) hx hb hts hin hown hK hW (0) (by rw [hn]; omega) (by rw [hE]; exact eM_0) rfl 6 (by decide) (hts _ hl) (fun _ h => h) rfl hdg kk
theorem get_X11_7 (hx : p.tables.exec = Jvm.exec) (hb : c.code = cc) (hts : ∀ w ∈ Ts, w.before args s = true) (hin : ∀ w ∈ wsX110, w ∈ Ts) (hown : s.vm.findClass own = some m.cls) (hK : ks z s) (hz : IM z) (hW : hd z w H)  (hl : Cond.fieldLink own index "CamStitchModel" "feed" "[I" ∈ Ts) (hdg : decode cc pc = .ok (.getfield index, 3))
    (kk : W p l e R s m args below meth c H locs cells slots Q (F0 m (pc + 3) ls (.ref (z.2.1 (5)) :: rest))) : W p l e R s m args below meth c H locs cells slots Q (F0 m pc ls (.ref (z.2.1 (0)) :: rest)) := by
  obtain ⟨hi, hn, cI, cL, ht, hE, hne⟩ := hz
  exact m_get (C := RX11) (T := TX11) (N := 62) (ci := 11) hx hb hts hin hown hK hW (0) (by rw [hn]; omega) (by rw [hE]; exact eM_0) rfl 7 (by decide) (hts _ hl) (fun _ h => h) rfl hdg kk
theorem get_X11_8 (hx : p.tables.exec = Jvm.exec) (hb : c.code = cc) (hts : ∀ w ∈ Ts, w.before args s = true) (hin : ∀ w ∈ wsX110, w ∈ Ts) (hown : s.vm.findClass own = some m.cls) (hK : ks z s) (hz : IM z) (hW : hd z w H)  (hl : Cond.fieldLink own index "CamStitchModel" "sides" "I" ∈ Ts) (hdg : decode cc pc = .ok (.getfield index, 3))
    (kk : W p l e R s m args below meth c H locs cells slots Q (F0 m (pc + 3) ls (.int (w.1 (0) 8) :: rest))) : W p l e R s m args below meth c H locs cells slots Q (F0 m pc ls (.ref (z.2.1 (0)) :: rest)) := by
  obtain ⟨hi, hn, cI, cL, ht, hE, hne⟩ := hz
  exact m_get (C := RX11) (T := TX11) (N := 62) (ci := 11) hx hb hts hin hown hK hW (0) (by rw [hn]; omega) (by rw [hE]; exact eM_0) rfl 8 (by decide) (hts _ hl) (fun _ h => h) rfl hdg kk
theorem put_X11_8 (hx : p.tables.exec = Jvm.exec) (hb : c.code = cc) (hts : ∀ w ∈ Ts, w.before args s = true) (hin : ∀ w ∈ wsX110, w ∈ Ts) (hown : s.vm.findClass own = some m.cls) (hK : ks z s) (hz : IM z) (hW : hd z w H) (hS : va_S (az z) H0 H locs)  {v : Int32} (hl : Cond.fieldLink own index "CamStitchModel" "sides" "I" ∈ Ts) (hdg : decode cc pc = .ok (.putfield index, 3))
    (kk : ∀ (H1 : Heap) (locs1 : List Loc), hd z (mS w (0) 8 v) H1 → va_S (az z) H0 H1 locs1 → W p l e R s m args below meth c H1 locs1 cells slots Q (F0 m (pc + 3) ls rest)) : W p l e R s m args below meth c H locs cells slots Q (F0 m pc ls (.int v :: .ref (z.2.1 (0)) :: rest)) := by
  obtain ⟨hi, hn, cI, cL, ht, hE, hne⟩ := hz
  exact m_put (C := RX11) (T := TX11) (N := 62) (ci := 11) hx hb hts hin tyX11 tyX11_ok nmX11 hown hK hi hW hS (0) (by rw [hn]; omega) (by rw [hE]; exact eM_0) rfl 8 (by decide) (hts _ hl) (fun _ h => h) rfl (ty := .int) rfl rfl rfl (Nat.le_of_ble_eq_true rfl) (by rw [hE, eM_0]; simp [mS, up2]) hdg kk
theorem get_X11_9 (hx : p.tables.exec = Jvm.exec) (hb : c.code = cc) (hts : ∀ w ∈ Ts, w.before args s = true) (hin : ∀ w ∈ wsX110, w ∈ Ts) (hown : s.vm.findClass own = some m.cls) (hK : ks z s) (hz : IM z) (hW : hd z w H)  (hl : Cond.fieldLink own index "CamStitchModel" "side" "[I" ∈ Ts) (hdg : decode cc pc = .ok (.getfield index, 3))
    (kk : W p l e R s m args below meth c H locs cells slots Q (F0 m (pc + 3) ls (.ref (z.2.1 (6)) :: rest))) : W p l e R s m args below meth c H locs cells slots Q (F0 m pc ls (.ref (z.2.1 (0)) :: rest)) := by
  obtain ⟨hi, hn, cI, cL, ht, hE, hne⟩ := hz
  exact m_get (C := RX11) (T := TX11) (N := 62) (ci := 11) hx hb hts hin hown hK hW (0) (by rw [hn]; omega) (by rw [hE]; exact eM_0) rfl 9 (by decide) (hts _ hl) (fun _ h => h) rfl hdg kk
theorem get_X11_10 (hx : p.tables.exec = Jvm.exec) (hb : c.code = cc) (hts : ∀ w ∈ Ts, w.before args s = true) (hin : ∀ w ∈ wsX110, w ∈ Ts) (hown : s.vm.findClass own = some m.cls) (hK : ks z s) (hz : IM z) (hW : hd z w H)  (hl : Cond.fieldLink own index "CamStitchModel" "thick" "[I" ∈ Ts) (hdg : decode cc pc = .ok (.getfield index, 3))
    (kk : W p l e R s m args below meth c H locs cells slots Q (F0 m (pc + 3) ls (.ref (z.2.1 (7)) :: rest))) : W p l e R s m args below meth c H locs cells slots Q (F0 m pc ls (.ref (z.2.1 (0)) :: rest)) := by
  obtain ⟨hi, hn, cI, cL, ht, hE, hne⟩ := hz
  exact m_get (C := RX11) (T := TX11) (N := 62) (ci := 11) hx hb hts hin hown hK hW (0) (by rw [hn]; omega) (by rw [hE]; exact eM_0) rfl 10 (by decide) (hts _ hl) (fun _ h => h) rfl hdg kk
theorem get_X11_11 (hx : p.tables.exec = Jvm.exec) (hb : c.code = cc) (hts : ∀ w ∈ Ts, w.before args s = true) (hin : ∀ w ∈ wsX110, w ∈ Ts) (hown : s.vm.findClass own = some m.cls) (hK : ks z s) (hz : IM z) (hW : hd z w H)  (hl : Cond.fieldLink own index "CamStitchModel" "upper" "I" ∈ Ts) (hdg : decode cc pc = .ok (.getfield index, 3))
    (kk : W p l e R s m args below meth c H locs cells slots Q (F0 m (pc + 3) ls (.int (w.1 (0) 11) :: rest))) : W p l e R s m args below meth c H locs cells slots Q (F0 m pc ls (.ref (z.2.1 (0)) :: rest)) := by
  obtain ⟨hi, hn, cI, cL, ht, hE, hne⟩ := hz
  exact m_get (C := RX11) (T := TX11) (N := 62) (ci := 11) hx hb hts hin hown hK hW (0) (by rw [hn]; omega) (by rw [hE]; exact eM_0) rfl 11 (by decide) (hts _ hl) (fun _ h => h) rfl hdg kk
theorem put_X11_11 (hx : p.tables.exec = Jvm.exec) (hb : c.code = cc) (hts : ∀ w ∈ Ts, w.before args s = true) (hin : ∀ w ∈ wsX110, w ∈ Ts) (hown : s.vm.findClass own = some m.cls) (hK : ks z s) (hz : IM z) (hW : hd z w H) (hS : va_S (az z) H0 H locs)  {v : Int32} (hl : Cond.fieldLink own index "CamStitchModel" "upper" "I" ∈ Ts) (hdg : decode cc pc = .ok (.putfield index, 3))
    (kk : ∀ (H1 : Heap) (locs1 : List Loc), hd z (mS w (0) 11 v) H1 → va_S (az z) H0 H1 locs1 → W p l e R s m args below meth c H1 locs1 cells slots Q (F0 m (pc + 3) ls rest)) : W p l e R s m args below meth c H locs cells slots Q (F0 m pc ls (.int v :: .ref (z.2.1 (0)) :: rest)) := by
  obtain ⟨hi, hn, cI, cL, ht, hE, hne⟩ := hz
  exact m_put (C := RX11) (T := TX11) (N := 62) (ci := 11) hx hb hts hin tyX11 tyX11_ok nmX11 hown hK hi hW hS (0) (by rw [hn]; omega) (by rw [hE]; exact eM_0) rfl 11 (by decide) (hts _ hl) (fun _ h => h) rfl (ty := .int) rfl rfl rfl (Nat.le_of_ble_eq_true rfl) (by rw [hE, eM_0]; simp [mS, up2]) hdg kk
theorem get_X11_12 (hx : p.tables.exec = Jvm.exec) (hb : c.code = cc) (hts : ∀ w ∈ Ts, w.before args s = true) (hin : ∀ w ∈ wsX110, w ∈ Ts) (hown : s.vm.findClass own = some m.cls) (hK : ks z s) (hz : IM z) (hW : hd z w H)  (hl : Cond.fieldLink own index "CamStitchModel" "lower" "I" ∈ Ts) (hdg : decode cc pc = .ok (.getfield index, 3))
    (kk : W p l e R s m args below meth c H locs cells slots Q (F0 m (pc + 3) ls (.int (w.1 (0) 12) :: rest))) : W p l e R s m args below meth c H locs cells slots Q (F0 m pc ls (.ref (z.2.1 (0)) :: rest)) := by
  obtain ⟨hi, hn, cI, cL, ht, hE, hne⟩ := hz
  exact m_get (C := RX11) (T := TX11) (N := 62) (ci := 11) hx hb hts hin hown hK hW (0) (by rw [hn]; omega) (by rw [hE]; exact eM_0) rfl 12 (by decide) (hts _ hl) (fun _ h => h) rfl hdg kk
theorem put_X11_12 (hx : p.tables.exec = Jvm.exec) (hb : c.code = cc) (hts : ∀ w ∈ Ts, w.before args s = true) (hin : ∀ w ∈ wsX110, w ∈ Ts) (hown : s.vm.findClass own = some m.cls) (hK : ks z s) (hz : IM z) (hW : hd z w H) (hS : va_S (az z) H0 H locs)  {v : Int32} (hl : Cond.fieldLink own index "CamStitchModel" "lower" "I" ∈ Ts) (hdg : decode cc pc = .ok (.putfield index, 3))
    (kk : ∀ (H1 : Heap) (locs1 : List Loc), hd z (mS w (0) 12 v) H1 → va_S (az z) H0 H1 locs1 → W p l e R s m args below meth c H1 locs1 cells slots Q (F0 m (pc + 3) ls rest)) : W p l e R s m args below meth c H locs cells slots Q (F0 m pc ls (.int v :: .ref (z.2.1 (0)) :: rest)) := by
  obtain ⟨hi, hn, cI, cL, ht, hE, hne⟩ := hz
  exact m_put (C := RX11) (T := TX11) (N := 62) (ci := 11) hx hb hts hin tyX11 tyX11_ok nmX11 hown hK hi hW hS (0) (by rw [hn]; omega) (by rw [hE]; exact eM_0) rfl 12 (by decide) (hts _ hl) (fun _ h => h) rfl (ty := .int) rfl rfl rfl (Nat.le_of_ble_eq_true rfl) (by rw [hE, eM_0]; simp [mS, up2]) hdg kk
theorem get_X11_13 (hx : p.tables.exec = Jvm.exec) (hb : c.code = cc) (hts : ∀ w ∈ Ts, w.before args s = true) (hin : ∀ w ∈ wsX110, w ∈ Ts) (hown : s.vm.findClass own = some m.cls) (hK : ks z s) (hz : IM z) (hW : hd z w H)  (hl : Cond.fieldLink own index "CamStitchModel" "spool" "I" ∈ Ts) (hdg : decode cc pc = .ok (.getfield index, 3))
    (kk : W p l e R s m args below meth c H locs cells slots Q (F0 m (pc + 3) ls (.int (w.1 (0) 13) :: rest))) : W p l e R s m args below meth c H locs cells slots Q (F0 m pc ls (.ref (z.2.1 (0)) :: rest)) := by
  obtain ⟨hi, hn, cI, cL, ht, hE, hne⟩ := hz
  exact m_get (C := RX11) (T := TX11) (N := 62) (ci := 11) hx hb hts hin hown hK hW (0) (by rw [hn]; omega) (by rw [hE]; exact eM_0) rfl 13 (by decide) (hts _ hl) (fun _ h => h) rfl hdg kk
theorem put_X11_13 (hx : p.tables.exec = Jvm.exec) (hb : c.code = cc) (hts : ∀ w ∈ Ts, w.before args s = true) (hin : ∀ w ∈ wsX110, w ∈ Ts) (hown : s.vm.findClass own = some m.cls) (hK : ks z s) (hz : IM z) (hW : hd z w H) (hS : va_S (az z) H0 H locs)  {v : Int32} (hl : Cond.fieldLink own index "CamStitchModel" "spool" "I" ∈ Ts) (hdg : decode cc pc = .ok (.putfield index, 3))
    (kk : ∀ (H1 : Heap) (locs1 : List Loc), hd z (mS w (0) 13 v) H1 → va_S (az z) H0 H1 locs1 → W p l e R s m args below meth c H1 locs1 cells slots Q (F0 m (pc + 3) ls rest)) : W p l e R s m args below meth c H locs cells slots Q (F0 m pc ls (.int v :: .ref (z.2.1 (0)) :: rest)) := by
  obtain ⟨hi, hn, cI, cL, ht, hE, hne⟩ := hz
  exact m_put (C := RX11) (T := TX11) (N := 62) (ci := 11) hx hb hts hin tyX11 tyX11_ok nmX11 hown hK hi hW hS (0) (by rw [hn]; omega) (by rw [hE]; exact eM_0) rfl 13 (by decide) (hts _ hl) (fun _ h => h) rfl (ty := .int) rfl rfl rfl (Nat.le_of_ble_eq_true rfl) (by rw [hE, eM_0]; simp [mS, up2]) hdg kk
theorem get_X11_14 (hx : p.tables.exec = Jvm.exec) (hb : c.code = cc) (hts : ∀ w ∈ Ts, w.before args s = true) (hin : ∀ w ∈ wsX110, w ∈ Ts) (hown : s.vm.findClass own = some m.cls) (hK : ks z s) (hz : IM z) (hW : hd z w H)  (hl : Cond.fieldLink own index "CamStitchModel" "bobbin" "I" ∈ Ts) (hdg : decode cc pc = .ok (.getfield index, 3))
    (kk : W p l e R s m args below meth c H locs cells slots Q (F0 m (pc + 3) ls (.int (w.1 (0) 14) :: rest))) : W p l e R s m args below meth c H locs cells slots Q (F0 m pc ls (.ref (z.2.1 (0)) :: rest)) := by
  obtain ⟨hi, hn, cI, cL, ht, hE, hne⟩ := hz
  exact m_get (C := RX11) (T := TX11) (N := 62) (ci := 11) hx hb hts hin hown hK hW (0) (by rw [hn]; omega) (by rw [hE]; exact eM_0) rfl 14 (by decide) (hts _ hl) (fun _ h => h) rfl hdg kk
theorem put_X11_14 (hx : p.tables.exec = Jvm.exec) (hb : c.code = cc) (hts : ∀ w ∈ Ts, w.before args s = true) (hin : ∀ w ∈ wsX110, w ∈ Ts) (hown : s.vm.findClass own = some m.cls) (hK : ks z s) (hz : IM z) (hW : hd z w H) (hS : va_S (az z) H0 H locs)  {v : Int32} (hl : Cond.fieldLink own index "CamStitchModel" "bobbin" "I" ∈ Ts) (hdg : decode cc pc = .ok (.putfield index, 3))
    (kk : ∀ (H1 : Heap) (locs1 : List Loc), hd z (mS w (0) 14 v) H1 → va_S (az z) H0 H1 locs1 → W p l e R s m args below meth c H1 locs1 cells slots Q (F0 m (pc + 3) ls rest)) : W p l e R s m args below meth c H locs cells slots Q (F0 m pc ls (.int v :: .ref (z.2.1 (0)) :: rest)) := by
  obtain ⟨hi, hn, cI, cL, ht, hE, hne⟩ := hz
  exact m_put (C := RX11) (T := TX11) (N := 62) (ci := 11) hx hb hts hin tyX11 tyX11_ok nmX11 hown hK hi hW hS (0) (by rw [hn]; omega) (by rw [hE]; exact eM_0) rfl 14 (by decide) (hts _ hl) (fun _ h => h) rfl (ty := .int) rfl rfl rfl (Nat.le_of_ble_eq_true rfl) (by rw [hE, eM_0]; simp [mS, up2]) hdg kk
theorem get_X11_15 (hx : p.tables.exec = Jvm.exec) (hb : c.code = cc) (hts : ∀ w ∈ Ts, w.before args s = true) (hin : ∀ w ∈ wsX110, w ∈ Ts) (hown : s.vm.findClass own = some m.cls) (hK : ks z s) (hz : IM z) (hW : hd z w H)  (hl : Cond.fieldLink own index "CamStitchModel" "steps" "I" ∈ Ts) (hdg : decode cc pc = .ok (.getfield index, 3))
    (kk : W p l e R s m args below meth c H locs cells slots Q (F0 m (pc + 3) ls (.int (w.1 (0) 15) :: rest))) : W p l e R s m args below meth c H locs cells slots Q (F0 m pc ls (.ref (z.2.1 (0)) :: rest)) := by
  obtain ⟨hi, hn, cI, cL, ht, hE, hne⟩ := hz
  exact m_get (C := RX11) (T := TX11) (N := 62) (ci := 11) hx hb hts hin hown hK hW (0) (by rw [hn]; omega) (by rw [hE]; exact eM_0) rfl 15 (by decide) (hts _ hl) (fun _ h => h) rfl hdg kk
theorem put_X11_15 (hx : p.tables.exec = Jvm.exec) (hb : c.code = cc) (hts : ∀ w ∈ Ts, w.before args s = true) (hin : ∀ w ∈ wsX110, w ∈ Ts) (hown : s.vm.findClass own = some m.cls) (hK : ks z s) (hz : IM z) (hW : hd z w H) (hS : va_S (az z) H0 H locs)  {v : Int32} (hl : Cond.fieldLink own index "CamStitchModel" "steps" "I" ∈ Ts) (hdg : decode cc pc = .ok (.putfield index, 3))
    (kk : ∀ (H1 : Heap) (locs1 : List Loc), hd z (mS w (0) 15 v) H1 → va_S (az z) H0 H1 locs1 → W p l e R s m args below meth c H1 locs1 cells slots Q (F0 m (pc + 3) ls rest)) : W p l e R s m args below meth c H locs cells slots Q (F0 m pc ls (.int v :: .ref (z.2.1 (0)) :: rest)) := by
  obtain ⟨hi, hn, cI, cL, ht, hE, hne⟩ := hz
  exact m_put (C := RX11) (T := TX11) (N := 62) (ci := 11) hx hb hts hin tyX11 tyX11_ok nmX11 hown hK hi hW hS (0) (by rw [hn]; omega) (by rw [hE]; exact eM_0) rfl 15 (by decide) (hts _ hl) (fun _ h => h) rfl (ty := .int) rfl rfl rfl (Nat.le_of_ble_eq_true rfl) (by rw [hE, eM_0]; simp [mS, up2]) hdg kk
theorem get_X11_16 (hx : p.tables.exec = Jvm.exec) (hb : c.code = cc) (hts : ∀ w ∈ Ts, w.before args s = true) (hin : ∀ w ∈ wsX110, w ∈ Ts) (hown : s.vm.findClass own = some m.cls) (hK : ks z s) (hz : IM z) (hW : hd z w H)  (hl : Cond.fieldLink own index "CamStitchModel" "stepKind" "[I" ∈ Ts) (hdg : decode cc pc = .ok (.getfield index, 3))
    (kk : W p l e R s m args below meth c H locs cells slots Q (F0 m (pc + 3) ls (.ref (z.2.1 (8)) :: rest))) : W p l e R s m args below meth c H locs cells slots Q (F0 m pc ls (.ref (z.2.1 (0)) :: rest)) := by
  obtain ⟨hi, hn, cI, cL, ht, hE, hne⟩ := hz
  exact m_get (C := RX11) (T := TX11) (N := 62) (ci := 11) hx hb hts hin hown hK hW (0) (by rw [hn]; omega) (by rw [hE]; exact eM_0) rfl 16 (by decide) (hts _ hl) (fun _ h => h) rfl hdg kk
theorem get_X11_17 (hx : p.tables.exec = Jvm.exec) (hb : c.code = cc) (hts : ∀ w ∈ Ts, w.before args s = true) (hin : ∀ w ∈ wsX110, w ∈ Ts) (hown : s.vm.findClass own = some m.cls) (hK : ks z s) (hz : IM z) (hW : hd z w H)  (hl : Cond.fieldLink own index "CamStitchModel" "stepN" "[I" ∈ Ts) (hdg : decode cc pc = .ok (.getfield index, 3))
    (kk : W p l e R s m args below meth c H locs cells slots Q (F0 m (pc + 3) ls (.ref (z.2.1 (9)) :: rest))) : W p l e R s m args below meth c H locs cells slots Q (F0 m pc ls (.ref (z.2.1 (0)) :: rest)) := by
  obtain ⟨hi, hn, cI, cL, ht, hE, hne⟩ := hz
  exact m_get (C := RX11) (T := TX11) (N := 62) (ci := 11) hx hb hts hin hown hK hW (0) (by rw [hn]; omega) (by rw [hE]; exact eM_0) rfl 17 (by decide) (hts _ hl) (fun _ h => h) rfl hdg kk
theorem get_X11_18 (hx : p.tables.exec = Jvm.exec) (hb : c.code = cc) (hts : ∀ w ∈ Ts, w.before args s = true) (hin : ∀ w ∈ wsX110, w ∈ Ts) (hown : s.vm.findClass own = some m.cls) (hK : ks z s) (hz : IM z) (hW : hd z w H)  (hl : Cond.fieldLink own index "CamStitchModel" "isSewn" "Z" ∈ Ts) (hdg : decode cc pc = .ok (.getfield index, 3))
    (kk : W p l e R s m args below meth c H locs cells slots Q (F0 m (pc + 3) ls (.int (w.1 (0) 18) :: rest))) : W p l e R s m args below meth c H locs cells slots Q (F0 m pc ls (.ref (z.2.1 (0)) :: rest)) := by
  obtain ⟨hi, hn, cI, cL, ht, hE, hne⟩ := hz
  exact m_get (C := RX11) (T := TX11) (N := 62) (ci := 11) hx hb hts hin hown hK hW (0) (by rw [hn]; omega) (by rw [hE]; exact eM_0) rfl 18 (by decide) (hts _ hl) (fun _ h => h) rfl hdg kk
theorem put_X11_18 (hx : p.tables.exec = Jvm.exec) (hb : c.code = cc) (hts : ∀ w ∈ Ts, w.before args s = true) (hin : ∀ w ∈ wsX110, w ∈ Ts) (hown : s.vm.findClass own = some m.cls) (hK : ks z s) (hz : IM z) (hW : hd z w H) (hS : va_S (az z) H0 H locs)  {v : Int32} (hv : v = 0 ∨ v = 1) (hl : Cond.fieldLink own index "CamStitchModel" "isSewn" "Z" ∈ Ts) (hdg : decode cc pc = .ok (.putfield index, 3))
    (kk : ∀ (H1 : Heap) (locs1 : List Loc), hd z (mS w (0) 18 v) H1 → va_S (az z) H0 H1 locs1 → W p l e R s m args below meth c H1 locs1 cells slots Q (F0 m (pc + 3) ls rest)) : W p l e R s m args below meth c H locs cells slots Q (F0 m pc ls (.int v :: .ref (z.2.1 (0)) :: rest)) := by
  obtain ⟨hi, hn, cI, cL, ht, hE, hne⟩ := hz
  exact m_put (C := RX11) (T := TX11) (N := 62) (ci := 11) hx hb hts hin tyX11 tyX11_ok nmX11 hown hK hi hW hS (0) (by rw [hn]; omega) (by rw [hE]; exact eM_0) rfl 18 (by decide) (hts _ hl) (fun _ h => h) rfl (ty := .boolean) rfl (by rcases hv with rfl | rfl <;> rfl) (by rcases hv with rfl | rfl <;> rfl) (Nat.le_of_ble_eq_true rfl) (by rw [hE, eM_0]; simp [mS, up2]) hdg kk
theorem get_X11_19 (hx : p.tables.exec = Jvm.exec) (hb : c.code = cc) (hts : ∀ w ∈ Ts, w.before args s = true) (hin : ∀ w ∈ wsX110, w ∈ Ts) (hown : s.vm.findClass own = some m.cls) (hK : ks z s) (hz : IM z) (hW : hd z w H)  (hl : Cond.fieldLink own index "CamStitchModel" "seam" "[I" ∈ Ts) (hdg : decode cc pc = .ok (.getfield index, 3))
    (kk : W p l e R s m args below meth c H locs cells slots Q (F0 m (pc + 3) ls (.ref (z.2.1 (10)) :: rest))) : W p l e R s m args below meth c H locs cells slots Q (F0 m pc ls (.ref (z.2.1 (0)) :: rest)) := by
  obtain ⟨hi, hn, cI, cL, ht, hE, hne⟩ := hz
  exact m_get (C := RX11) (T := TX11) (N := 62) (ci := 11) hx hb hts hin hown hK hW (0) (by rw [hn]; omega) (by rw [hE]; exact eM_0) rfl 19 (by decide) (hts _ hl) (fun _ h => h) rfl hdg kk
theorem get_X11_20 (hx : p.tables.exec = Jvm.exec) (hb : c.code = cc) (hts : ∀ w ∈ Ts, w.before args s = true) (hin : ∀ w ∈ wsX110, w ∈ Ts) (hown : s.vm.findClass own = some m.cls) (hK : ks z s) (hz : IM z) (hW : hd z w H)  (hl : Cond.fieldLink own index "CamStitchModel" "endX" "[I" ∈ Ts) (hdg : decode cc pc = .ok (.getfield index, 3))
    (kk : W p l e R s m args below meth c H locs cells slots Q (F0 m (pc + 3) ls (.ref (z.2.1 (11)) :: rest))) : W p l e R s m args below meth c H locs cells slots Q (F0 m pc ls (.ref (z.2.1 (0)) :: rest)) := by
  obtain ⟨hi, hn, cI, cL, ht, hE, hne⟩ := hz
  exact m_get (C := RX11) (T := TX11) (N := 62) (ci := 11) hx hb hts hin hown hK hW (0) (by rw [hn]; omega) (by rw [hE]; exact eM_0) rfl 20 (by decide) (hts _ hl) (fun _ h => h) rfl hdg kk
theorem get_X11_21 (hx : p.tables.exec = Jvm.exec) (hb : c.code = cc) (hts : ∀ w ∈ Ts, w.before args s = true) (hin : ∀ w ∈ wsX110, w ∈ Ts) (hown : s.vm.findClass own = some m.cls) (hK : ks z s) (hz : IM z) (hW : hd z w H)  (hl : Cond.fieldLink own index "CamStitchModel" "endY" "[I" ∈ Ts) (hdg : decode cc pc = .ok (.getfield index, 3))
    (kk : W p l e R s m args below meth c H locs cells slots Q (F0 m (pc + 3) ls (.ref (z.2.1 (12)) :: rest))) : W p l e R s m args below meth c H locs cells slots Q (F0 m pc ls (.ref (z.2.1 (0)) :: rest)) := by
  obtain ⟨hi, hn, cI, cL, ht, hE, hne⟩ := hz
  exact m_get (C := RX11) (T := TX11) (N := 62) (ci := 11) hx hb hts hin hown hK hW (0) (by rw [hn]; omega) (by rw [hE]; exact eM_0) rfl 21 (by decide) (hts _ hl) (fun _ h => h) rfl hdg kk
theorem get_X11_22 (hx : p.tables.exec = Jvm.exec) (hb : c.code = cc) (hts : ∀ w ∈ Ts, w.before args s = true) (hin : ∀ w ∈ wsX110, w ∈ Ts) (hown : s.vm.findClass own = some m.cls) (hK : ks z s) (hz : IM z) (hW : hd z w H)  (hl : Cond.fieldLink own index "CamStitchModel" "notes" "I" ∈ Ts) (hdg : decode cc pc = .ok (.getfield index, 3))
    (kk : W p l e R s m args below meth c H locs cells slots Q (F0 m (pc + 3) ls (.int (w.1 (0) 22) :: rest))) : W p l e R s m args below meth c H locs cells slots Q (F0 m pc ls (.ref (z.2.1 (0)) :: rest)) := by
  obtain ⟨hi, hn, cI, cL, ht, hE, hne⟩ := hz
  exact m_get (C := RX11) (T := TX11) (N := 62) (ci := 11) hx hb hts hin hown hK hW (0) (by rw [hn]; omega) (by rw [hE]; exact eM_0) rfl 22 (by decide) (hts _ hl) (fun _ h => h) rfl hdg kk
theorem put_X11_22 (hx : p.tables.exec = Jvm.exec) (hb : c.code = cc) (hts : ∀ w ∈ Ts, w.before args s = true) (hin : ∀ w ∈ wsX110, w ∈ Ts) (hown : s.vm.findClass own = some m.cls) (hK : ks z s) (hz : IM z) (hW : hd z w H) (hS : va_S (az z) H0 H locs)  {v : Int32} (hl : Cond.fieldLink own index "CamStitchModel" "notes" "I" ∈ Ts) (hdg : decode cc pc = .ok (.putfield index, 3))
    (kk : ∀ (H1 : Heap) (locs1 : List Loc), hd z (mS w (0) 22 v) H1 → va_S (az z) H0 H1 locs1 → W p l e R s m args below meth c H1 locs1 cells slots Q (F0 m (pc + 3) ls rest)) : W p l e R s m args below meth c H locs cells slots Q (F0 m pc ls (.int v :: .ref (z.2.1 (0)) :: rest)) := by
  obtain ⟨hi, hn, cI, cL, ht, hE, hne⟩ := hz
  exact m_put (C := RX11) (T := TX11) (N := 62) (ci := 11) hx hb hts hin tyX11 tyX11_ok nmX11 hown hK hi hW hS (0) (by rw [hn]; omega) (by rw [hE]; exact eM_0) rfl 22 (by decide) (hts _ hl) (fun _ h => h) rfl (ty := .int) rfl rfl rfl (Nat.le_of_ble_eq_true rfl) (by rw [hE, eM_0]; simp [mS, up2]) hdg kk
theorem get_X11_23 (hx : p.tables.exec = Jvm.exec) (hb : c.code = cc) (hts : ∀ w ∈ Ts, w.before args s = true) (hin : ∀ w ∈ wsX110, w ∈ Ts) (hown : s.vm.findClass own = some m.cls) (hK : ks z s) (hz : IM z) (hW : hd z w H)  (hl : Cond.fieldLink own index "CamStitchModel" "noteTrial" "[I" ∈ Ts) (hdg : decode cc pc = .ok (.getfield index, 3))
    (kk : W p l e R s m args below meth c H locs cells slots Q (F0 m (pc + 3) ls (.ref (z.2.1 (13)) :: rest))) : W p l e R s m args below meth c H locs cells slots Q (F0 m pc ls (.ref (z.2.1 (0)) :: rest)) := by
  obtain ⟨hi, hn, cI, cL, ht, hE, hne⟩ := hz
  exact m_get (C := RX11) (T := TX11) (N := 62) (ci := 11) hx hb hts hin hown hK hW (0) (by rw [hn]; omega) (by rw [hE]; exact eM_0) rfl 23 (by decide) (hts _ hl) (fun _ h => h) rfl hdg kk
theorem get_X11_24 (hx : p.tables.exec = Jvm.exec) (hb : c.code = cc) (hts : ∀ w ∈ Ts, w.before args s = true) (hin : ∀ w ∈ wsX110, w ∈ Ts) (hown : s.vm.findClass own = some m.cls) (hK : ks z s) (hz : IM z) (hW : hd z w H)  (hl : Cond.fieldLink own index "CamStitchModel" "noteOutcome" "[I" ∈ Ts) (hdg : decode cc pc = .ok (.getfield index, 3))
    (kk : W p l e R s m args below meth c H locs cells slots Q (F0 m (pc + 3) ls (.ref (z.2.1 (14)) :: rest))) : W p l e R s m args below meth c H locs cells slots Q (F0 m pc ls (.ref (z.2.1 (0)) :: rest)) := by
  obtain ⟨hi, hn, cI, cL, ht, hE, hne⟩ := hz
  exact m_get (C := RX11) (T := TX11) (N := 62) (ci := 11) hx hb hts hin hown hK hW (0) (by rw [hn]; omega) (by rw [hE]; exact eM_0) rfl 24 (by decide) (hts _ hl) (fun _ h => h) rfl hdg kk
theorem get_X11_25 (hx : p.tables.exec = Jvm.exec) (hb : c.code = cc) (hts : ∀ w ∈ Ts, w.before args s = true) (hin : ∀ w ∈ wsX110, w ∈ Ts) (hown : s.vm.findClass own = some m.cls) (hK : ks z s) (hz : IM z) (hW : hd z w H)  (hl : Cond.fieldLink own index "CamStitchModel" "refusals" "I" ∈ Ts) (hdg : decode cc pc = .ok (.getfield index, 3))
    (kk : W p l e R s m args below meth c H locs cells slots Q (F0 m (pc + 3) ls (.int (w.1 (0) 25) :: rest))) : W p l e R s m args below meth c H locs cells slots Q (F0 m pc ls (.ref (z.2.1 (0)) :: rest)) := by
  obtain ⟨hi, hn, cI, cL, ht, hE, hne⟩ := hz
  exact m_get (C := RX11) (T := TX11) (N := 62) (ci := 11) hx hb hts hin hown hK hW (0) (by rw [hn]; omega) (by rw [hE]; exact eM_0) rfl 25 (by decide) (hts _ hl) (fun _ h => h) rfl hdg kk
theorem put_X11_25 (hx : p.tables.exec = Jvm.exec) (hb : c.code = cc) (hts : ∀ w ∈ Ts, w.before args s = true) (hin : ∀ w ∈ wsX110, w ∈ Ts) (hown : s.vm.findClass own = some m.cls) (hK : ks z s) (hz : IM z) (hW : hd z w H) (hS : va_S (az z) H0 H locs)  {v : Int32} (hl : Cond.fieldLink own index "CamStitchModel" "refusals" "I" ∈ Ts) (hdg : decode cc pc = .ok (.putfield index, 3))
    (kk : ∀ (H1 : Heap) (locs1 : List Loc), hd z (mS w (0) 25 v) H1 → va_S (az z) H0 H1 locs1 → W p l e R s m args below meth c H1 locs1 cells slots Q (F0 m (pc + 3) ls rest)) : W p l e R s m args below meth c H locs cells slots Q (F0 m pc ls (.int v :: .ref (z.2.1 (0)) :: rest)) := by
  obtain ⟨hi, hn, cI, cL, ht, hE, hne⟩ := hz
  exact m_put (C := RX11) (T := TX11) (N := 62) (ci := 11) hx hb hts hin tyX11 tyX11_ok nmX11 hown hK hi hW hS (0) (by rw [hn]; omega) (by rw [hE]; exact eM_0) rfl 25 (by decide) (hts _ hl) (fun _ h => h) rfl (ty := .int) rfl rfl rfl (Nat.le_of_ble_eq_true rfl) (by rw [hE, eM_0]; simp [mS, up2]) hdg kk
theorem get_X11_26 (hx : p.tables.exec = Jvm.exec) (hb : c.code = cc) (hts : ∀ w ∈ Ts, w.before args s = true) (hin : ∀ w ∈ wsX110, w ∈ Ts) (hown : s.vm.findClass own = some m.cls) (hK : ks z s) (hz : IM z) (hW : hd z w H)  (hl : Cond.fieldLink own index "CamStitchModel" "sort" "[I" ∈ Ts) (hdg : decode cc pc = .ok (.getfield index, 3))
    (kk : W p l e R s m args below meth c H locs cells slots Q (F0 m (pc + 3) ls (.ref (z.2.1 (15)) :: rest))) : W p l e R s m args below meth c H locs cells slots Q (F0 m pc ls (.ref (z.2.1 (0)) :: rest)) := by
  obtain ⟨hi, hn, cI, cL, ht, hE, hne⟩ := hz
  exact m_get (C := RX11) (T := TX11) (N := 62) (ci := 11) hx hb hts hin hown hK hW (0) (by rw [hn]; omega) (by rw [hE]; exact eM_0) rfl 26 (by decide) (hts _ hl) (fun _ h => h) rfl hdg kk
theorem get_X11_27 (hx : p.tables.exec = Jvm.exec) (hb : c.code = cc) (hts : ∀ w ∈ Ts, w.before args s = true) (hin : ∀ w ∈ wsX110, w ∈ Ts) (hown : s.vm.findClass own = some m.cls) (hK : ks z s) (hz : IM z) (hW : hd z w H)  (hl : Cond.fieldLink own index "CamStitchModel" "size" "[I" ∈ Ts) (hdg : decode cc pc = .ok (.getfield index, 3))
    (kk : W p l e R s m args below meth c H locs cells slots Q (F0 m (pc + 3) ls (.ref (z.2.1 (16)) :: rest))) : W p l e R s m args below meth c H locs cells slots Q (F0 m pc ls (.ref (z.2.1 (0)) :: rest)) := by
  obtain ⟨hi, hn, cI, cL, ht, hE, hne⟩ := hz
  exact m_get (C := RX11) (T := TX11) (N := 62) (ci := 11) hx hb hts hin hown hK hW (0) (by rw [hn]; omega) (by rw [hE]; exact eM_0) rfl 27 (by decide) (hts _ hl) (fun _ h => h) rfl hdg kk
theorem get_X11_28 (hx : p.tables.exec = Jvm.exec) (hb : c.code = cc) (hts : ∀ w ∈ Ts, w.before args s = true) (hin : ∀ w ∈ wsX110, w ∈ Ts) (hown : s.vm.findClass own = some m.cls) (hK : ks z s) (hz : IM z) (hW : hd z w H)  (hl : Cond.fieldLink own index "CamStitchModel" "cells" "[J" ∈ Ts) (hdg : decode cc pc = .ok (.getfield index, 3))
    (kk : W p l e R s m args below meth c H locs cells slots Q (F0 m (pc + 3) ls (.ref (z.2.1 (17)) :: rest))) : W p l e R s m args below meth c H locs cells slots Q (F0 m pc ls (.ref (z.2.1 (0)) :: rest)) := by
  obtain ⟨hi, hn, cI, cL, ht, hE, hne⟩ := hz
  exact m_get (C := RX11) (T := TX11) (N := 62) (ci := 11) hx hb hts hin hown hK hW (0) (by rw [hn]; omega) (by rw [hE]; exact eM_0) rfl 28 (by decide) (hts _ hl) (fun _ h => h) rfl hdg kk
theorem get_X11_29 (hx : p.tables.exec = Jvm.exec) (hb : c.code = cc) (hts : ∀ w ∈ Ts, w.before args s = true) (hin : ∀ w ∈ wsX110, w ∈ Ts) (hown : s.vm.findClass own = some m.cls) (hK : ks z s) (hz : IM z) (hW : hd z w H)  (hl : Cond.fieldLink own index "CamStitchModel" "place" "I" ∈ Ts) (hdg : decode cc pc = .ok (.getfield index, 3))
    (kk : W p l e R s m args below meth c H locs cells slots Q (F0 m (pc + 3) ls (.int (w.1 (0) 29) :: rest))) : W p l e R s m args below meth c H locs cells slots Q (F0 m pc ls (.ref (z.2.1 (0)) :: rest)) := by
  obtain ⟨hi, hn, cI, cL, ht, hE, hne⟩ := hz
  exact m_get (C := RX11) (T := TX11) (N := 62) (ci := 11) hx hb hts hin hown hK hW (0) (by rw [hn]; omega) (by rw [hE]; exact eM_0) rfl 29 (by decide) (hts _ hl) (fun _ h => h) rfl hdg kk
theorem put_X11_29 (hx : p.tables.exec = Jvm.exec) (hb : c.code = cc) (hts : ∀ w ∈ Ts, w.before args s = true) (hin : ∀ w ∈ wsX110, w ∈ Ts) (hown : s.vm.findClass own = some m.cls) (hK : ks z s) (hz : IM z) (hW : hd z w H) (hS : va_S (az z) H0 H locs)  {v : Int32} (hl : Cond.fieldLink own index "CamStitchModel" "place" "I" ∈ Ts) (hdg : decode cc pc = .ok (.putfield index, 3))
    (kk : ∀ (H1 : Heap) (locs1 : List Loc), hd z (mS w (0) 29 v) H1 → va_S (az z) H0 H1 locs1 → W p l e R s m args below meth c H1 locs1 cells slots Q (F0 m (pc + 3) ls rest)) : W p l e R s m args below meth c H locs cells slots Q (F0 m pc ls (.int v :: .ref (z.2.1 (0)) :: rest)) := by
  obtain ⟨hi, hn, cI, cL, ht, hE, hne⟩ := hz
  exact m_put (C := RX11) (T := TX11) (N := 62) (ci := 11) hx hb hts hin tyX11 tyX11_ok nmX11 hown hK hi hW hS (0) (by rw [hn]; omega) (by rw [hE]; exact eM_0) rfl 29 (by decide) (hts _ hl) (fun _ h => h) rfl (ty := .int) rfl rfl rfl (Nat.le_of_ble_eq_true rfl) (by rw [hE, eM_0]; simp [mS, up2]) hdg kk
theorem get_X11_30 (hx : p.tables.exec = Jvm.exec) (hb : c.code = cc) (hts : ∀ w ∈ Ts, w.before args s = true) (hin : ∀ w ∈ wsX110, w ∈ Ts) (hown : s.vm.findClass own = some m.cls) (hK : ks z s) (hz : IM z) (hW : hd z w H)  (hl : Cond.fieldLink own index "CamStitchModel" "last" "I" ∈ Ts) (hdg : decode cc pc = .ok (.getfield index, 3))
    (kk : W p l e R s m args below meth c H locs cells slots Q (F0 m (pc + 3) ls (.int (w.1 (0) 30) :: rest))) : W p l e R s m args below meth c H locs cells slots Q (F0 m pc ls (.ref (z.2.1 (0)) :: rest)) := by
  obtain ⟨hi, hn, cI, cL, ht, hE, hne⟩ := hz
  exact m_get (C := RX11) (T := TX11) (N := 62) (ci := 11) hx hb hts hin hown hK hW (0) (by rw [hn]; omega) (by rw [hE]; exact eM_0) rfl 30 (by decide) (hts _ hl) (fun _ h => h) rfl hdg kk
theorem put_X11_30 (hx : p.tables.exec = Jvm.exec) (hb : c.code = cc) (hts : ∀ w ∈ Ts, w.before args s = true) (hin : ∀ w ∈ wsX110, w ∈ Ts) (hown : s.vm.findClass own = some m.cls) (hK : ks z s) (hz : IM z) (hW : hd z w H) (hS : va_S (az z) H0 H locs)  {v : Int32} (hl : Cond.fieldLink own index "CamStitchModel" "last" "I" ∈ Ts) (hdg : decode cc pc = .ok (.putfield index, 3))
    (kk : ∀ (H1 : Heap) (locs1 : List Loc), hd z (mS w (0) 30 v) H1 → va_S (az z) H0 H1 locs1 → W p l e R s m args below meth c H1 locs1 cells slots Q (F0 m (pc + 3) ls rest)) : W p l e R s m args below meth c H locs cells slots Q (F0 m pc ls (.int v :: .ref (z.2.1 (0)) :: rest)) := by
  obtain ⟨hi, hn, cI, cL, ht, hE, hne⟩ := hz
  exact m_put (C := RX11) (T := TX11) (N := 62) (ci := 11) hx hb hts hin tyX11 tyX11_ok nmX11 hown hK hi hW hS (0) (by rw [hn]; omega) (by rw [hE]; exact eM_0) rfl 30 (by decide) (hts _ hl) (fun _ h => h) rfl (ty := .int) rfl rfl rfl (Nat.le_of_ble_eq_true rfl) (by rw [hE, eM_0]; simp [mS, up2]) hdg kk
theorem get_X11_31 (hx : p.tables.exec = Jvm.exec) (hb : c.code = cc) (hts : ∀ w ∈ Ts, w.before args s = true) (hin : ∀ w ∈ wsX110, w ∈ Ts) (hown : s.vm.findClass own = some m.cls) (hK : ks z s) (hz : IM z) (hW : hd z w H)  (hl : Cond.fieldLink own index "CamStitchModel" "row" "I" ∈ Ts) (hdg : decode cc pc = .ok (.getfield index, 3))
    (kk : W p l e R s m args below meth c H locs cells slots Q (F0 m (pc + 3) ls (.int (w.1 (0) 31) :: rest))) : W p l e R s m args below meth c H locs cells slots Q (F0 m pc ls (.ref (z.2.1 (0)) :: rest)) := by
  obtain ⟨hi, hn, cI, cL, ht, hE, hne⟩ := hz
  exact m_get (C := RX11) (T := TX11) (N := 62) (ci := 11) hx hb hts hin hown hK hW (0) (by rw [hn]; omega) (by rw [hE]; exact eM_0) rfl 31 (by decide) (hts _ hl) (fun _ h => h) rfl hdg kk
theorem put_X11_31 (hx : p.tables.exec = Jvm.exec) (hb : c.code = cc) (hts : ∀ w ∈ Ts, w.before args s = true) (hin : ∀ w ∈ wsX110, w ∈ Ts) (hown : s.vm.findClass own = some m.cls) (hK : ks z s) (hz : IM z) (hW : hd z w H) (hS : va_S (az z) H0 H locs)  {v : Int32} (hl : Cond.fieldLink own index "CamStitchModel" "row" "I" ∈ Ts) (hdg : decode cc pc = .ok (.putfield index, 3))
    (kk : ∀ (H1 : Heap) (locs1 : List Loc), hd z (mS w (0) 31 v) H1 → va_S (az z) H0 H1 locs1 → W p l e R s m args below meth c H1 locs1 cells slots Q (F0 m (pc + 3) ls rest)) : W p l e R s m args below meth c H locs cells slots Q (F0 m pc ls (.int v :: .ref (z.2.1 (0)) :: rest)) := by
  obtain ⟨hi, hn, cI, cL, ht, hE, hne⟩ := hz
  exact m_put (C := RX11) (T := TX11) (N := 62) (ci := 11) hx hb hts hin tyX11 tyX11_ok nmX11 hown hK hi hW hS (0) (by rw [hn]; omega) (by rw [hE]; exact eM_0) rfl 31 (by decide) (hts _ hl) (fun _ h => h) rfl (ty := .int) rfl rfl rfl (Nat.le_of_ble_eq_true rfl) (by rw [hE, eM_0]; simp [mS, up2]) hdg kk
theorem get_X11_32 (hx : p.tables.exec = Jvm.exec) (hb : c.code = cc) (hts : ∀ w ∈ Ts, w.before args s = true) (hin : ∀ w ∈ wsX110, w ∈ Ts) (hown : s.vm.findClass own = some m.cls) (hK : ks z s) (hz : IM z) (hW : hd z w H)  (hl : Cond.fieldLink own index "CamStitchModel" "read" "I" ∈ Ts) (hdg : decode cc pc = .ok (.getfield index, 3))
    (kk : W p l e R s m args below meth c H locs cells slots Q (F0 m (pc + 3) ls (.int (w.1 (0) 32) :: rest))) : W p l e R s m args below meth c H locs cells slots Q (F0 m pc ls (.ref (z.2.1 (0)) :: rest)) := by
  obtain ⟨hi, hn, cI, cL, ht, hE, hne⟩ := hz
  exact m_get (C := RX11) (T := TX11) (N := 62) (ci := 11) hx hb hts hin hown hK hW (0) (by rw [hn]; omega) (by rw [hE]; exact eM_0) rfl 32 (by decide) (hts _ hl) (fun _ h => h) rfl hdg kk
theorem put_X11_32 (hx : p.tables.exec = Jvm.exec) (hb : c.code = cc) (hts : ∀ w ∈ Ts, w.before args s = true) (hin : ∀ w ∈ wsX110, w ∈ Ts) (hown : s.vm.findClass own = some m.cls) (hK : ks z s) (hz : IM z) (hW : hd z w H) (hS : va_S (az z) H0 H locs)  {v : Int32} (hl : Cond.fieldLink own index "CamStitchModel" "read" "I" ∈ Ts) (hdg : decode cc pc = .ok (.putfield index, 3))
    (kk : ∀ (H1 : Heap) (locs1 : List Loc), hd z (mS w (0) 32 v) H1 → va_S (az z) H0 H1 locs1 → W p l e R s m args below meth c H1 locs1 cells slots Q (F0 m (pc + 3) ls rest)) : W p l e R s m args below meth c H locs cells slots Q (F0 m pc ls (.int v :: .ref (z.2.1 (0)) :: rest)) := by
  obtain ⟨hi, hn, cI, cL, ht, hE, hne⟩ := hz
  exact m_put (C := RX11) (T := TX11) (N := 62) (ci := 11) hx hb hts hin tyX11 tyX11_ok nmX11 hown hK hi hW hS (0) (by rw [hn]; omega) (by rw [hE]; exact eM_0) rfl 32 (by decide) (hts _ hl) (fun _ h => h) rfl (ty := .int) rfl rfl rfl (Nat.le_of_ble_eq_true rfl) (by rw [hE, eM_0]; simp [mS, up2]) hdg kk
theorem get_X11_33 (hx : p.tables.exec = Jvm.exec) (hb : c.code = cc) (hts : ∀ w ∈ Ts, w.before args s = true) (hin : ∀ w ∈ wsX110, w ∈ Ts) (hown : s.vm.findClass own = some m.cls) (hK : ks z s) (hz : IM z) (hW : hd z w H)  (hl : Cond.fieldLink own index "CamStitchModel" "originX" "I" ∈ Ts) (hdg : decode cc pc = .ok (.getfield index, 3))
    (kk : W p l e R s m args below meth c H locs cells slots Q (F0 m (pc + 3) ls (.int (w.1 (0) 33) :: rest))) : W p l e R s m args below meth c H locs cells slots Q (F0 m pc ls (.ref (z.2.1 (0)) :: rest)) := by
  obtain ⟨hi, hn, cI, cL, ht, hE, hne⟩ := hz
  exact m_get (C := RX11) (T := TX11) (N := 62) (ci := 11) hx hb hts hin hown hK hW (0) (by rw [hn]; omega) (by rw [hE]; exact eM_0) rfl 33 (by decide) (hts _ hl) (fun _ h => h) rfl hdg kk
theorem put_X11_33 (hx : p.tables.exec = Jvm.exec) (hb : c.code = cc) (hts : ∀ w ∈ Ts, w.before args s = true) (hin : ∀ w ∈ wsX110, w ∈ Ts) (hown : s.vm.findClass own = some m.cls) (hK : ks z s) (hz : IM z) (hW : hd z w H) (hS : va_S (az z) H0 H locs)  {v : Int32} (hl : Cond.fieldLink own index "CamStitchModel" "originX" "I" ∈ Ts) (hdg : decode cc pc = .ok (.putfield index, 3))
    (kk : ∀ (H1 : Heap) (locs1 : List Loc), hd z (mS w (0) 33 v) H1 → va_S (az z) H0 H1 locs1 → W p l e R s m args below meth c H1 locs1 cells slots Q (F0 m (pc + 3) ls rest)) : W p l e R s m args below meth c H locs cells slots Q (F0 m pc ls (.int v :: .ref (z.2.1 (0)) :: rest)) := by
  obtain ⟨hi, hn, cI, cL, ht, hE, hne⟩ := hz
  exact m_put (C := RX11) (T := TX11) (N := 62) (ci := 11) hx hb hts hin tyX11 tyX11_ok nmX11 hown hK hi hW hS (0) (by rw [hn]; omega) (by rw [hE]; exact eM_0) rfl 33 (by decide) (hts _ hl) (fun _ h => h) rfl (ty := .int) rfl rfl rfl (Nat.le_of_ble_eq_true rfl) (by rw [hE, eM_0]; simp [mS, up2]) hdg kk
theorem get_X11_34 (hx : p.tables.exec = Jvm.exec) (hb : c.code = cc) (hts : ∀ w ∈ Ts, w.before args s = true) (hin : ∀ w ∈ wsX110, w ∈ Ts) (hown : s.vm.findClass own = some m.cls) (hK : ks z s) (hz : IM z) (hW : hd z w H)  (hl : Cond.fieldLink own index "CamStitchModel" "originY" "I" ∈ Ts) (hdg : decode cc pc = .ok (.getfield index, 3))
    (kk : W p l e R s m args below meth c H locs cells slots Q (F0 m (pc + 3) ls (.int (w.1 (0) 34) :: rest))) : W p l e R s m args below meth c H locs cells slots Q (F0 m pc ls (.ref (z.2.1 (0)) :: rest)) := by
  obtain ⟨hi, hn, cI, cL, ht, hE, hne⟩ := hz
  exact m_get (C := RX11) (T := TX11) (N := 62) (ci := 11) hx hb hts hin hown hK hW (0) (by rw [hn]; omega) (by rw [hE]; exact eM_0) rfl 34 (by decide) (hts _ hl) (fun _ h => h) rfl hdg kk
theorem put_X11_34 (hx : p.tables.exec = Jvm.exec) (hb : c.code = cc) (hts : ∀ w ∈ Ts, w.before args s = true) (hin : ∀ w ∈ wsX110, w ∈ Ts) (hown : s.vm.findClass own = some m.cls) (hK : ks z s) (hz : IM z) (hW : hd z w H) (hS : va_S (az z) H0 H locs)  {v : Int32} (hl : Cond.fieldLink own index "CamStitchModel" "originY" "I" ∈ Ts) (hdg : decode cc pc = .ok (.putfield index, 3))
    (kk : ∀ (H1 : Heap) (locs1 : List Loc), hd z (mS w (0) 34 v) H1 → va_S (az z) H0 H1 locs1 → W p l e R s m args below meth c H1 locs1 cells slots Q (F0 m (pc + 3) ls rest)) : W p l e R s m args below meth c H locs cells slots Q (F0 m pc ls (.int v :: .ref (z.2.1 (0)) :: rest)) := by
  obtain ⟨hi, hn, cI, cL, ht, hE, hne⟩ := hz
  exact m_put (C := RX11) (T := TX11) (N := 62) (ci := 11) hx hb hts hin tyX11 tyX11_ok nmX11 hown hK hi hW hS (0) (by rw [hn]; omega) (by rw [hE]; exact eM_0) rfl 34 (by decide) (hts _ hl) (fun _ h => h) rfl (ty := .int) rfl rfl rfl (Nat.le_of_ble_eq_true rfl) (by rw [hE, eM_0]; simp [mS, up2]) hdg kk
theorem get_X11_35 (hx : p.tables.exec = Jvm.exec) (hb : c.code = cc) (hts : ∀ w ∈ Ts, w.before args s = true) (hin : ∀ w ∈ wsX110, w ∈ Ts) (hown : s.vm.findClass own = some m.cls) (hK : ks z s) (hz : IM z) (hW : hd z w H)  (hl : Cond.fieldLink own index "CamStitchModel" "isMirrored" "Z" ∈ Ts) (hdg : decode cc pc = .ok (.getfield index, 3))
    (kk : W p l e R s m args below meth c H locs cells slots Q (F0 m (pc + 3) ls (.int (w.1 (0) 35) :: rest))) : W p l e R s m args below meth c H locs cells slots Q (F0 m pc ls (.ref (z.2.1 (0)) :: rest)) := by
  obtain ⟨hi, hn, cI, cL, ht, hE, hne⟩ := hz
  exact m_get (C := RX11) (T := TX11) (N := 62) (ci := 11) hx hb hts hin hown hK hW (0) (by rw [hn]; omega) (by rw [hE]; exact eM_0) rfl 35 (by decide) (hts _ hl) (fun _ h => h) rfl hdg kk
theorem put_X11_35 (hx : p.tables.exec = Jvm.exec) (hb : c.code = cc) (hts : ∀ w ∈ Ts, w.before args s = true) (hin : ∀ w ∈ wsX110, w ∈ Ts) (hown : s.vm.findClass own = some m.cls) (hK : ks z s) (hz : IM z) (hW : hd z w H) (hS : va_S (az z) H0 H locs)  {v : Int32} (hv : v = 0 ∨ v = 1) (hl : Cond.fieldLink own index "CamStitchModel" "isMirrored" "Z" ∈ Ts) (hdg : decode cc pc = .ok (.putfield index, 3))
    (kk : ∀ (H1 : Heap) (locs1 : List Loc), hd z (mS w (0) 35 v) H1 → va_S (az z) H0 H1 locs1 → W p l e R s m args below meth c H1 locs1 cells slots Q (F0 m (pc + 3) ls rest)) : W p l e R s m args below meth c H locs cells slots Q (F0 m pc ls (.int v :: .ref (z.2.1 (0)) :: rest)) := by
  obtain ⟨hi, hn, cI, cL, ht, hE, hne⟩ := hz
  exact m_put (C := RX11) (T := TX11) (N := 62) (ci := 11) hx hb hts hin tyX11 tyX11_ok nmX11 hown hK hi hW hS (0) (by rw [hn]; omega) (by rw [hE]; exact eM_0) rfl 35 (by decide) (hts _ hl) (fun _ h => h) rfl (ty := .boolean) rfl (by rcases hv with rfl | rfl <;> rfl) (by rcases hv with rfl | rfl <;> rfl) (Nat.le_of_ble_eq_true rfl) (by rw [hE, eM_0]; simp [mS, up2]) hdg kk
theorem get_X11_36 (hx : p.tables.exec = Jvm.exec) (hb : c.code = cc) (hts : ∀ w ∈ Ts, w.before args s = true) (hin : ∀ w ∈ wsX110, w ∈ Ts) (hown : s.vm.findClass own = some m.cls) (hK : ks z s) (hz : IM z) (hW : hd z w H)  (hl : Cond.fieldLink own index "CamStitchModel" "hasAdvance" "Z" ∈ Ts) (hdg : decode cc pc = .ok (.getfield index, 3))
    (kk : W p l e R s m args below meth c H locs cells slots Q (F0 m (pc + 3) ls (.int (w.1 (0) 36) :: rest))) : W p l e R s m args below meth c H locs cells slots Q (F0 m pc ls (.ref (z.2.1 (0)) :: rest)) := by
  obtain ⟨hi, hn, cI, cL, ht, hE, hne⟩ := hz
  exact m_get (C := RX11) (T := TX11) (N := 62) (ci := 11) hx hb hts hin hown hK hW (0) (by rw [hn]; omega) (by rw [hE]; exact eM_0) rfl 36 (by decide) (hts _ hl) (fun _ h => h) rfl hdg kk
theorem put_X11_36 (hx : p.tables.exec = Jvm.exec) (hb : c.code = cc) (hts : ∀ w ∈ Ts, w.before args s = true) (hin : ∀ w ∈ wsX110, w ∈ Ts) (hown : s.vm.findClass own = some m.cls) (hK : ks z s) (hz : IM z) (hW : hd z w H) (hS : va_S (az z) H0 H locs)  {v : Int32} (hv : v = 0 ∨ v = 1) (hl : Cond.fieldLink own index "CamStitchModel" "hasAdvance" "Z" ∈ Ts) (hdg : decode cc pc = .ok (.putfield index, 3))
    (kk : ∀ (H1 : Heap) (locs1 : List Loc), hd z (mS w (0) 36 v) H1 → va_S (az z) H0 H1 locs1 → W p l e R s m args below meth c H1 locs1 cells slots Q (F0 m (pc + 3) ls rest)) : W p l e R s m args below meth c H locs cells slots Q (F0 m pc ls (.int v :: .ref (z.2.1 (0)) :: rest)) := by
  obtain ⟨hi, hn, cI, cL, ht, hE, hne⟩ := hz
  exact m_put (C := RX11) (T := TX11) (N := 62) (ci := 11) hx hb hts hin tyX11 tyX11_ok nmX11 hown hK hi hW hS (0) (by rw [hn]; omega) (by rw [hE]; exact eM_0) rfl 36 (by decide) (hts _ hl) (fun _ h => h) rfl (ty := .boolean) rfl (by rcases hv with rfl | rfl <;> rfl) (by rcases hv with rfl | rfl <;> rfl) (Nat.le_of_ble_eq_true rfl) (by rw [hE, eM_0]; simp [mS, up2]) hdg kk
theorem get_X11_37 (hx : p.tables.exec = Jvm.exec) (hb : c.code = cc) (hts : ∀ w ∈ Ts, w.before args s = true) (hin : ∀ w ∈ wsX110, w ∈ Ts) (hown : s.vm.findClass own = some m.cls) (hK : ks z s) (hz : IM z) (hW : hd z w H)  (hl : Cond.fieldLink own index "CamStitchModel" "newAdvance" "I" ∈ Ts) (hdg : decode cc pc = .ok (.getfield index, 3))
    (kk : W p l e R s m args below meth c H locs cells slots Q (F0 m (pc + 3) ls (.int (w.1 (0) 37) :: rest))) : W p l e R s m args below meth c H locs cells slots Q (F0 m pc ls (.ref (z.2.1 (0)) :: rest)) := by
  obtain ⟨hi, hn, cI, cL, ht, hE, hne⟩ := hz
  exact m_get (C := RX11) (T := TX11) (N := 62) (ci := 11) hx hb hts hin hown hK hW (0) (by rw [hn]; omega) (by rw [hE]; exact eM_0) rfl 37 (by decide) (hts _ hl) (fun _ h => h) rfl hdg kk
theorem put_X11_37 (hx : p.tables.exec = Jvm.exec) (hb : c.code = cc) (hts : ∀ w ∈ Ts, w.before args s = true) (hin : ∀ w ∈ wsX110, w ∈ Ts) (hown : s.vm.findClass own = some m.cls) (hK : ks z s) (hz : IM z) (hW : hd z w H) (hS : va_S (az z) H0 H locs)  {v : Int32} (hl : Cond.fieldLink own index "CamStitchModel" "newAdvance" "I" ∈ Ts) (hdg : decode cc pc = .ok (.putfield index, 3))
    (kk : ∀ (H1 : Heap) (locs1 : List Loc), hd z (mS w (0) 37 v) H1 → va_S (az z) H0 H1 locs1 → W p l e R s m args below meth c H1 locs1 cells slots Q (F0 m (pc + 3) ls rest)) : W p l e R s m args below meth c H locs cells slots Q (F0 m pc ls (.int v :: .ref (z.2.1 (0)) :: rest)) := by
  obtain ⟨hi, hn, cI, cL, ht, hE, hne⟩ := hz
  exact m_put (C := RX11) (T := TX11) (N := 62) (ci := 11) hx hb hts hin tyX11 tyX11_ok nmX11 hown hK hi hW hS (0) (by rw [hn]; omega) (by rw [hE]; exact eM_0) rfl 37 (by decide) (hts _ hl) (fun _ h => h) rfl (ty := .int) rfl rfl rfl (Nat.le_of_ble_eq_true rfl) (by rw [hE, eM_0]; simp [mS, up2]) hdg kk
theorem get_X11_38 (hx : p.tables.exec = Jvm.exec) (hb : c.code = cc) (hts : ∀ w ∈ Ts, w.before args s = true) (hin : ∀ w ∈ wsX110, w ∈ Ts) (hown : s.vm.findClass own = some m.cls) (hK : ks z s) (hz : IM z) (hW : hd z w H)  (hl : Cond.fieldLink own index "CamStitchModel" "deep" "I" ∈ Ts) (hdg : decode cc pc = .ok (.getfield index, 3))
    (kk : W p l e R s m args below meth c H locs cells slots Q (F0 m (pc + 3) ls (.int (w.1 (0) 38) :: rest))) : W p l e R s m args below meth c H locs cells slots Q (F0 m pc ls (.ref (z.2.1 (0)) :: rest)) := by
  obtain ⟨hi, hn, cI, cL, ht, hE, hne⟩ := hz
  exact m_get (C := RX11) (T := TX11) (N := 62) (ci := 11) hx hb hts hin hown hK hW (0) (by rw [hn]; omega) (by rw [hE]; exact eM_0) rfl 38 (by decide) (hts _ hl) (fun _ h => h) rfl hdg kk
theorem put_X11_38 (hx : p.tables.exec = Jvm.exec) (hb : c.code = cc) (hts : ∀ w ∈ Ts, w.before args s = true) (hin : ∀ w ∈ wsX110, w ∈ Ts) (hown : s.vm.findClass own = some m.cls) (hK : ks z s) (hz : IM z) (hW : hd z w H) (hS : va_S (az z) H0 H locs)  {v : Int32} (hl : Cond.fieldLink own index "CamStitchModel" "deep" "I" ∈ Ts) (hdg : decode cc pc = .ok (.putfield index, 3))
    (kk : ∀ (H1 : Heap) (locs1 : List Loc), hd z (mS w (0) 38 v) H1 → va_S (az z) H0 H1 locs1 → W p l e R s m args below meth c H1 locs1 cells slots Q (F0 m (pc + 3) ls rest)) : W p l e R s m args below meth c H locs cells slots Q (F0 m pc ls (.int v :: .ref (z.2.1 (0)) :: rest)) := by
  obtain ⟨hi, hn, cI, cL, ht, hE, hne⟩ := hz
  exact m_put (C := RX11) (T := TX11) (N := 62) (ci := 11) hx hb hts hin tyX11 tyX11_ok nmX11 hown hK hi hW hS (0) (by rw [hn]; omega) (by rw [hE]; exact eM_0) rfl 38 (by decide) (hts _ hl) (fun _ h => h) rfl (ty := .int) rfl rfl rfl (Nat.le_of_ble_eq_true rfl) (by rw [hE, eM_0]; simp [mS, up2]) hdg kk
theorem get_X11_39 (hx : p.tables.exec = Jvm.exec) (hb : c.code = cc) (hts : ∀ w ∈ Ts, w.before args s = true) (hin : ∀ w ∈ wsX110, w ∈ Ts) (hown : s.vm.findClass own = some m.cls) (hK : ks z s) (hz : IM z) (hW : hd z w H)  (hl : Cond.fieldLink own index "CamStitchModel" "isEnd" "Z" ∈ Ts) (hdg : decode cc pc = .ok (.getfield index, 3))
    (kk : W p l e R s m args below meth c H locs cells slots Q (F0 m (pc + 3) ls (.int (w.1 (0) 39) :: rest))) : W p l e R s m args below meth c H locs cells slots Q (F0 m pc ls (.ref (z.2.1 (0)) :: rest)) := by
  obtain ⟨hi, hn, cI, cL, ht, hE, hne⟩ := hz
  exact m_get (C := RX11) (T := TX11) (N := 62) (ci := 11) hx hb hts hin hown hK hW (0) (by rw [hn]; omega) (by rw [hE]; exact eM_0) rfl 39 (by decide) (hts _ hl) (fun _ h => h) rfl hdg kk
theorem put_X11_39 (hx : p.tables.exec = Jvm.exec) (hb : c.code = cc) (hts : ∀ w ∈ Ts, w.before args s = true) (hin : ∀ w ∈ wsX110, w ∈ Ts) (hown : s.vm.findClass own = some m.cls) (hK : ks z s) (hz : IM z) (hW : hd z w H) (hS : va_S (az z) H0 H locs)  {v : Int32} (hv : v = 0 ∨ v = 1) (hl : Cond.fieldLink own index "CamStitchModel" "isEnd" "Z" ∈ Ts) (hdg : decode cc pc = .ok (.putfield index, 3))
    (kk : ∀ (H1 : Heap) (locs1 : List Loc), hd z (mS w (0) 39 v) H1 → va_S (az z) H0 H1 locs1 → W p l e R s m args below meth c H1 locs1 cells slots Q (F0 m (pc + 3) ls rest)) : W p l e R s m args below meth c H locs cells slots Q (F0 m pc ls (.int v :: .ref (z.2.1 (0)) :: rest)) := by
  obtain ⟨hi, hn, cI, cL, ht, hE, hne⟩ := hz
  exact m_put (C := RX11) (T := TX11) (N := 62) (ci := 11) hx hb hts hin tyX11 tyX11_ok nmX11 hown hK hi hW hS (0) (by rw [hn]; omega) (by rw [hE]; exact eM_0) rfl 39 (by decide) (hts _ hl) (fun _ h => h) rfl (ty := .boolean) rfl (by rcases hv with rfl | rfl <;> rfl) (by rcases hv with rfl | rfl <;> rfl) (Nat.le_of_ble_eq_true rfl) (by rw [hE, eM_0]; simp [mS, up2]) hdg kk
theorem get_X11_40 (hx : p.tables.exec = Jvm.exec) (hb : c.code = cc) (hts : ∀ w ∈ Ts, w.before args s = true) (hin : ∀ w ∈ wsX110, w ∈ Ts) (hown : s.vm.findClass own = some m.cls) (hK : ks z s) (hz : IM z) (hW : hd z w H)  (hl : Cond.fieldLink own index "CamStitchModel" "newX" "[I" ∈ Ts) (hdg : decode cc pc = .ok (.getfield index, 3))
    (kk : W p l e R s m args below meth c H locs cells slots Q (F0 m (pc + 3) ls (.ref (z.2.1 (18)) :: rest))) : W p l e R s m args below meth c H locs cells slots Q (F0 m pc ls (.ref (z.2.1 (0)) :: rest)) := by
  obtain ⟨hi, hn, cI, cL, ht, hE, hne⟩ := hz
  exact m_get (C := RX11) (T := TX11) (N := 62) (ci := 11) hx hb hts hin hown hK hW (0) (by rw [hn]; omega) (by rw [hE]; exact eM_0) rfl 40 (by decide) (hts _ hl) (fun _ h => h) rfl hdg kk
theorem get_X11_41 (hx : p.tables.exec = Jvm.exec) (hb : c.code = cc) (hts : ∀ w ∈ Ts, w.before args s = true) (hin : ∀ w ∈ wsX110, w ∈ Ts) (hown : s.vm.findClass own = some m.cls) (hK : ks z s) (hz : IM z) (hW : hd z w H)  (hl : Cond.fieldLink own index "CamStitchModel" "newY" "[I" ∈ Ts) (hdg : decode cc pc = .ok (.getfield index, 3))
    (kk : W p l e R s m args below meth c H locs cells slots Q (F0 m (pc + 3) ls (.ref (z.2.1 (19)) :: rest))) : W p l e R s m args below meth c H locs cells slots Q (F0 m pc ls (.ref (z.2.1 (0)) :: rest)) := by
  obtain ⟨hi, hn, cI, cL, ht, hE, hne⟩ := hz
  exact m_get (C := RX11) (T := TX11) (N := 62) (ci := 11) hx hb hts hin hown hK hW (0) (by rw [hn]; omega) (by rw [hE]; exact eM_0) rfl 41 (by decide) (hts _ hl) (fun _ h => h) rfl hdg kk
theorem get_X11_42 (hx : p.tables.exec = Jvm.exec) (hb : c.code = cc) (hts : ∀ w ∈ Ts, w.before args s = true) (hin : ∀ w ∈ wsX110, w ∈ Ts) (hown : s.vm.findClass own = some m.cls) (hK : ks z s) (hz : IM z) (hW : hd z w H)  (hl : Cond.fieldLink own index "CamStitchModel" "loopAt" "[I" ∈ Ts) (hdg : decode cc pc = .ok (.getfield index, 3))
    (kk : W p l e R s m args below meth c H locs cells slots Q (F0 m (pc + 3) ls (.ref (z.2.1 (20)) :: rest))) : W p l e R s m args below meth c H locs cells slots Q (F0 m pc ls (.ref (z.2.1 (0)) :: rest)) := by
  obtain ⟨hi, hn, cI, cL, ht, hE, hne⟩ := hz
  exact m_get (C := RX11) (T := TX11) (N := 62) (ci := 11) hx hb hts hin hown hK hW (0) (by rw [hn]; omega) (by rw [hE]; exact eM_0) rfl 42 (by decide) (hts _ hl) (fun _ h => h) rfl hdg kk
theorem get_X11_43 (hx : p.tables.exec = Jvm.exec) (hb : c.code = cc) (hts : ∀ w ∈ Ts, w.before args s = true) (hin : ∀ w ∈ wsX110, w ∈ Ts) (hown : s.vm.findClass own = some m.cls) (hK : ks z s) (hz : IM z) (hW : hd z w H)  (hl : Cond.fieldLink own index "CamStitchModel" "loopLeft" "[I" ∈ Ts) (hdg : decode cc pc = .ok (.getfield index, 3))
    (kk : W p l e R s m args below meth c H locs cells slots Q (F0 m (pc + 3) ls (.ref (z.2.1 (21)) :: rest))) : W p l e R s m args below meth c H locs cells slots Q (F0 m pc ls (.ref (z.2.1 (0)) :: rest)) := by
  obtain ⟨hi, hn, cI, cL, ht, hE, hne⟩ := hz
  exact m_get (C := RX11) (T := TX11) (N := 62) (ci := 11) hx hb hts hin hown hK hW (0) (by rw [hn]; omega) (by rw [hE]; exact eM_0) rfl 43 (by decide) (hts _ hl) (fun _ h => h) rfl hdg kk
theorem get_X11_44 (hx : p.tables.exec = Jvm.exec) (hb : c.code = cc) (hts : ∀ w ∈ Ts, w.before args s = true) (hin : ∀ w ∈ wsX110, w ∈ Ts) (hown : s.vm.findClass own = some m.cls) (hK : ks z s) (hz : IM z) (hW : hd z w H)  (hl : Cond.fieldLink own index "CamStitchModel" "turnedSwing" "[I" ∈ Ts) (hdg : decode cc pc = .ok (.getfield index, 3))
    (kk : W p l e R s m args below meth c H locs cells slots Q (F0 m (pc + 3) ls (.ref (z.2.1 (22)) :: rest))) : W p l e R s m args below meth c H locs cells slots Q (F0 m pc ls (.ref (z.2.1 (0)) :: rest)) := by
  obtain ⟨hi, hn, cI, cL, ht, hE, hne⟩ := hz
  exact m_get (C := RX11) (T := TX11) (N := 62) (ci := 11) hx hb hts hin hown hK hW (0) (by rw [hn]; omega) (by rw [hE]; exact eM_0) rfl 44 (by decide) (hts _ hl) (fun _ h => h) rfl hdg kk
theorem get_X11_45 (hx : p.tables.exec = Jvm.exec) (hb : c.code = cc) (hts : ∀ w ∈ Ts, w.before args s = true) (hin : ∀ w ∈ wsX110, w ∈ Ts) (hown : s.vm.findClass own = some m.cls) (hK : ks z s) (hz : IM z) (hW : hd z w H)  (hl : Cond.fieldLink own index "CamStitchModel" "turnedFeed" "[I" ∈ Ts) (hdg : decode cc pc = .ok (.getfield index, 3))
    (kk : W p l e R s m args below meth c H locs cells slots Q (F0 m (pc + 3) ls (.ref (z.2.1 (23)) :: rest))) : W p l e R s m args below meth c H locs cells slots Q (F0 m pc ls (.ref (z.2.1 (0)) :: rest)) := by
  obtain ⟨hi, hn, cI, cL, ht, hE, hne⟩ := hz
  exact m_get (C := RX11) (T := TX11) (N := 62) (ci := 11) hx hb hts hin hown hK hW (0) (by rw [hn]; omega) (by rw [hE]; exact eM_0) rfl 45 (by decide) (hts _ hl) (fun _ h => h) rfl hdg kk
theorem get_X11_46 (hx : p.tables.exec = Jvm.exec) (hb : c.code = cc) (hts : ∀ w ∈ Ts, w.before args s = true) (hin : ∀ w ∈ wsX110, w ∈ Ts) (hown : s.vm.findClass own = some m.cls) (hK : ks z s) (hz : IM z) (hW : hd z w H)  (hl : Cond.fieldLink own index "CamStitchModel" "sewn" "I" ∈ Ts) (hdg : decode cc pc = .ok (.getfield index, 3))
    (kk : W p l e R s m args below meth c H locs cells slots Q (F0 m (pc + 3) ls (.int (w.1 (0) 46) :: rest))) : W p l e R s m args below meth c H locs cells slots Q (F0 m pc ls (.ref (z.2.1 (0)) :: rest)) := by
  obtain ⟨hi, hn, cI, cL, ht, hE, hne⟩ := hz
  exact m_get (C := RX11) (T := TX11) (N := 62) (ci := 11) hx hb hts hin hown hK hW (0) (by rw [hn]; omega) (by rw [hE]; exact eM_0) rfl 46 (by decide) (hts _ hl) (fun _ h => h) rfl hdg kk
theorem put_X11_46 (hx : p.tables.exec = Jvm.exec) (hb : c.code = cc) (hts : ∀ w ∈ Ts, w.before args s = true) (hin : ∀ w ∈ wsX110, w ∈ Ts) (hown : s.vm.findClass own = some m.cls) (hK : ks z s) (hz : IM z) (hW : hd z w H) (hS : va_S (az z) H0 H locs)  {v : Int32} (hl : Cond.fieldLink own index "CamStitchModel" "sewn" "I" ∈ Ts) (hdg : decode cc pc = .ok (.putfield index, 3))
    (kk : ∀ (H1 : Heap) (locs1 : List Loc), hd z (mS w (0) 46 v) H1 → va_S (az z) H0 H1 locs1 → W p l e R s m args below meth c H1 locs1 cells slots Q (F0 m (pc + 3) ls rest)) : W p l e R s m args below meth c H locs cells slots Q (F0 m pc ls (.int v :: .ref (z.2.1 (0)) :: rest)) := by
  obtain ⟨hi, hn, cI, cL, ht, hE, hne⟩ := hz
  exact m_put (C := RX11) (T := TX11) (N := 62) (ci := 11) hx hb hts hin tyX11 tyX11_ok nmX11 hown hK hi hW hS (0) (by rw [hn]; omega) (by rw [hE]; exact eM_0) rfl 46 (by decide) (hts _ hl) (fun _ h => h) rfl (ty := .int) rfl rfl rfl (Nat.le_of_ble_eq_true rfl) (by rw [hE, eM_0]; simp [mS, up2]) hdg kk
theorem get_X11_47 (hx : p.tables.exec = Jvm.exec) (hb : c.code = cc) (hts : ∀ w ∈ Ts, w.before args s = true) (hin : ∀ w ∈ wsX110, w ∈ Ts) (hown : s.vm.findClass own = some m.cls) (hK : ks z s) (hz : IM z) (hW : hd z w H)  (hl : Cond.fieldLink own index "CamStitchModel" "x" "I" ∈ Ts) (hdg : decode cc pc = .ok (.getfield index, 3))
    (kk : W p l e R s m args below meth c H locs cells slots Q (F0 m (pc + 3) ls (.int (w.1 (0) 47) :: rest))) : W p l e R s m args below meth c H locs cells slots Q (F0 m pc ls (.ref (z.2.1 (0)) :: rest)) := by
  obtain ⟨hi, hn, cI, cL, ht, hE, hne⟩ := hz
  exact m_get (C := RX11) (T := TX11) (N := 62) (ci := 11) hx hb hts hin hown hK hW (0) (by rw [hn]; omega) (by rw [hE]; exact eM_0) rfl 47 (by decide) (hts _ hl) (fun _ h => h) rfl hdg kk
theorem put_X11_47 (hx : p.tables.exec = Jvm.exec) (hb : c.code = cc) (hts : ∀ w ∈ Ts, w.before args s = true) (hin : ∀ w ∈ wsX110, w ∈ Ts) (hown : s.vm.findClass own = some m.cls) (hK : ks z s) (hz : IM z) (hW : hd z w H) (hS : va_S (az z) H0 H locs)  {v : Int32} (hl : Cond.fieldLink own index "CamStitchModel" "x" "I" ∈ Ts) (hdg : decode cc pc = .ok (.putfield index, 3))
    (kk : ∀ (H1 : Heap) (locs1 : List Loc), hd z (mS w (0) 47 v) H1 → va_S (az z) H0 H1 locs1 → W p l e R s m args below meth c H1 locs1 cells slots Q (F0 m (pc + 3) ls rest)) : W p l e R s m args below meth c H locs cells slots Q (F0 m pc ls (.int v :: .ref (z.2.1 (0)) :: rest)) := by
  obtain ⟨hi, hn, cI, cL, ht, hE, hne⟩ := hz
  exact m_put (C := RX11) (T := TX11) (N := 62) (ci := 11) hx hb hts hin tyX11 tyX11_ok nmX11 hown hK hi hW hS (0) (by rw [hn]; omega) (by rw [hE]; exact eM_0) rfl 47 (by decide) (hts _ hl) (fun _ h => h) rfl (ty := .int) rfl rfl rfl (Nat.le_of_ble_eq_true rfl) (by rw [hE, eM_0]; simp [mS, up2]) hdg kk
theorem get_X11_48 (hx : p.tables.exec = Jvm.exec) (hb : c.code = cc) (hts : ∀ w ∈ Ts, w.before args s = true) (hin : ∀ w ∈ wsX110, w ∈ Ts) (hown : s.vm.findClass own = some m.cls) (hK : ks z s) (hz : IM z) (hW : hd z w H)  (hl : Cond.fieldLink own index "CamStitchModel" "y" "I" ∈ Ts) (hdg : decode cc pc = .ok (.getfield index, 3))
    (kk : W p l e R s m args below meth c H locs cells slots Q (F0 m (pc + 3) ls (.int (w.1 (0) 48) :: rest))) : W p l e R s m args below meth c H locs cells slots Q (F0 m pc ls (.ref (z.2.1 (0)) :: rest)) := by
  obtain ⟨hi, hn, cI, cL, ht, hE, hne⟩ := hz
  exact m_get (C := RX11) (T := TX11) (N := 62) (ci := 11) hx hb hts hin hown hK hW (0) (by rw [hn]; omega) (by rw [hE]; exact eM_0) rfl 48 (by decide) (hts _ hl) (fun _ h => h) rfl hdg kk
theorem put_X11_48 (hx : p.tables.exec = Jvm.exec) (hb : c.code = cc) (hts : ∀ w ∈ Ts, w.before args s = true) (hin : ∀ w ∈ wsX110, w ∈ Ts) (hown : s.vm.findClass own = some m.cls) (hK : ks z s) (hz : IM z) (hW : hd z w H) (hS : va_S (az z) H0 H locs)  {v : Int32} (hl : Cond.fieldLink own index "CamStitchModel" "y" "I" ∈ Ts) (hdg : decode cc pc = .ok (.putfield index, 3))
    (kk : ∀ (H1 : Heap) (locs1 : List Loc), hd z (mS w (0) 48 v) H1 → va_S (az z) H0 H1 locs1 → W p l e R s m args below meth c H1 locs1 cells slots Q (F0 m (pc + 3) ls rest)) : W p l e R s m args below meth c H locs cells slots Q (F0 m pc ls (.int v :: .ref (z.2.1 (0)) :: rest)) := by
  obtain ⟨hi, hn, cI, cL, ht, hE, hne⟩ := hz
  exact m_put (C := RX11) (T := TX11) (N := 62) (ci := 11) hx hb hts hin tyX11 tyX11_ok nmX11 hown hK hi hW hS (0) (by rw [hn]; omega) (by rw [hE]; exact eM_0) rfl 48 (by decide) (hts _ hl) (fun _ h => h) rfl (ty := .int) rfl rfl rfl (Nat.le_of_ble_eq_true rfl) (by rw [hE, eM_0]; simp [mS, up2]) hdg kk
theorem get_X11_49 (hx : p.tables.exec = Jvm.exec) (hb : c.code = cc) (hts : ∀ w ∈ Ts, w.before args s = true) (hin : ∀ w ∈ wsX110, w ∈ Ts) (hown : s.vm.findClass own = some m.cls) (hK : ks z s) (hz : IM z) (hW : hd z w H)  (hl : Cond.fieldLink own index "CamStitchModel" "quarter" "I" ∈ Ts) (hdg : decode cc pc = .ok (.getfield index, 3))
    (kk : W p l e R s m args below meth c H locs cells slots Q (F0 m (pc + 3) ls (.int (w.1 (0) 49) :: rest))) : W p l e R s m args below meth c H locs cells slots Q (F0 m pc ls (.ref (z.2.1 (0)) :: rest)) := by
  obtain ⟨hi, hn, cI, cL, ht, hE, hne⟩ := hz
  exact m_get (C := RX11) (T := TX11) (N := 62) (ci := 11) hx hb hts hin hown hK hW (0) (by rw [hn]; omega) (by rw [hE]; exact eM_0) rfl 49 (by decide) (hts _ hl) (fun _ h => h) rfl hdg kk
theorem put_X11_49 (hx : p.tables.exec = Jvm.exec) (hb : c.code = cc) (hts : ∀ w ∈ Ts, w.before args s = true) (hin : ∀ w ∈ wsX110, w ∈ Ts) (hown : s.vm.findClass own = some m.cls) (hK : ks z s) (hz : IM z) (hW : hd z w H) (hS : va_S (az z) H0 H locs)  {v : Int32} (hl : Cond.fieldLink own index "CamStitchModel" "quarter" "I" ∈ Ts) (hdg : decode cc pc = .ok (.putfield index, 3))
    (kk : ∀ (H1 : Heap) (locs1 : List Loc), hd z (mS w (0) 49 v) H1 → va_S (az z) H0 H1 locs1 → W p l e R s m args below meth c H1 locs1 cells slots Q (F0 m (pc + 3) ls rest)) : W p l e R s m args below meth c H locs cells slots Q (F0 m pc ls (.int v :: .ref (z.2.1 (0)) :: rest)) := by
  obtain ⟨hi, hn, cI, cL, ht, hE, hne⟩ := hz
  exact m_put (C := RX11) (T := TX11) (N := 62) (ci := 11) hx hb hts hin tyX11 tyX11_ok nmX11 hown hK hi hW hS (0) (by rw [hn]; omega) (by rw [hE]; exact eM_0) rfl 49 (by decide) (hts _ hl) (fun _ h => h) rfl (ty := .int) rfl rfl rfl (Nat.le_of_ble_eq_true rfl) (by rw [hE, eM_0]; simp [mS, up2]) hdg kk
theorem get_X11_50 (hx : p.tables.exec = Jvm.exec) (hb : c.code = cc) (hts : ∀ w ∈ Ts, w.before args s = true) (hin : ∀ w ∈ wsX110, w ∈ Ts) (hown : s.vm.findClass own = some m.cls) (hK : ks z s) (hz : IM z) (hW : hd z w H)  (hl : Cond.fieldLink own index "CamStitchModel" "isBack" "Z" ∈ Ts) (hdg : decode cc pc = .ok (.getfield index, 3))
    (kk : W p l e R s m args below meth c H locs cells slots Q (F0 m (pc + 3) ls (.int (w.1 (0) 50) :: rest))) : W p l e R s m args below meth c H locs cells slots Q (F0 m pc ls (.ref (z.2.1 (0)) :: rest)) := by
  obtain ⟨hi, hn, cI, cL, ht, hE, hne⟩ := hz
  exact m_get (C := RX11) (T := TX11) (N := 62) (ci := 11) hx hb hts hin hown hK hW (0) (by rw [hn]; omega) (by rw [hE]; exact eM_0) rfl 50 (by decide) (hts _ hl) (fun _ h => h) rfl hdg kk
theorem put_X11_50 (hx : p.tables.exec = Jvm.exec) (hb : c.code = cc) (hts : ∀ w ∈ Ts, w.before args s = true) (hin : ∀ w ∈ wsX110, w ∈ Ts) (hown : s.vm.findClass own = some m.cls) (hK : ks z s) (hz : IM z) (hW : hd z w H) (hS : va_S (az z) H0 H locs)  {v : Int32} (hv : v = 0 ∨ v = 1) (hl : Cond.fieldLink own index "CamStitchModel" "isBack" "Z" ∈ Ts) (hdg : decode cc pc = .ok (.putfield index, 3))
    (kk : ∀ (H1 : Heap) (locs1 : List Loc), hd z (mS w (0) 50 v) H1 → va_S (az z) H0 H1 locs1 → W p l e R s m args below meth c H1 locs1 cells slots Q (F0 m (pc + 3) ls rest)) : W p l e R s m args below meth c H locs cells slots Q (F0 m pc ls (.int v :: .ref (z.2.1 (0)) :: rest)) := by
  obtain ⟨hi, hn, cI, cL, ht, hE, hne⟩ := hz
  exact m_put (C := RX11) (T := TX11) (N := 62) (ci := 11) hx hb hts hin tyX11 tyX11_ok nmX11 hown hK hi hW hS (0) (by rw [hn]; omega) (by rw [hE]; exact eM_0) rfl 50 (by decide) (hts _ hl) (fun _ h => h) rfl (ty := .boolean) rfl (by rcases hv with rfl | rfl <;> rfl) (by rcases hv with rfl | rfl <;> rfl) (Nat.le_of_ble_eq_true rfl) (by rw [hE, eM_0]; simp [mS, up2]) hdg kk
theorem get_X11_51 (hx : p.tables.exec = Jvm.exec) (hb : c.code = cc) (hts : ∀ w ∈ Ts, w.before args s = true) (hin : ∀ w ∈ wsX110, w ∈ Ts) (hown : s.vm.findClass own = some m.cls) (hK : ks z s) (hz : IM z) (hW : hd z w H)  (hl : Cond.fieldLink own index "CamStitchModel" "needle" "I" ∈ Ts) (hdg : decode cc pc = .ok (.getfield index, 3))
    (kk : W p l e R s m args below meth c H locs cells slots Q (F0 m (pc + 3) ls (.int (w.1 (0) 51) :: rest))) : W p l e R s m args below meth c H locs cells slots Q (F0 m pc ls (.ref (z.2.1 (0)) :: rest)) := by
  obtain ⟨hi, hn, cI, cL, ht, hE, hne⟩ := hz
  exact m_get (C := RX11) (T := TX11) (N := 62) (ci := 11) hx hb hts hin hown hK hW (0) (by rw [hn]; omega) (by rw [hE]; exact eM_0) rfl 51 (by decide) (hts _ hl) (fun _ h => h) rfl hdg kk
theorem put_X11_51 (hx : p.tables.exec = Jvm.exec) (hb : c.code = cc) (hts : ∀ w ∈ Ts, w.before args s = true) (hin : ∀ w ∈ wsX110, w ∈ Ts) (hown : s.vm.findClass own = some m.cls) (hK : ks z s) (hz : IM z) (hW : hd z w H) (hS : va_S (az z) H0 H locs)  {v : Int32} (hl : Cond.fieldLink own index "CamStitchModel" "needle" "I" ∈ Ts) (hdg : decode cc pc = .ok (.putfield index, 3))
    (kk : ∀ (H1 : Heap) (locs1 : List Loc), hd z (mS w (0) 51 v) H1 → va_S (az z) H0 H1 locs1 → W p l e R s m args below meth c H1 locs1 cells slots Q (F0 m (pc + 3) ls rest)) : W p l e R s m args below meth c H locs cells slots Q (F0 m pc ls (.int v :: .ref (z.2.1 (0)) :: rest)) := by
  obtain ⟨hi, hn, cI, cL, ht, hE, hne⟩ := hz
  exact m_put (C := RX11) (T := TX11) (N := 62) (ci := 11) hx hb hts hin tyX11 tyX11_ok nmX11 hown hK hi hW hS (0) (by rw [hn]; omega) (by rw [hE]; exact eM_0) rfl 51 (by decide) (hts _ hl) (fun _ h => h) rfl (ty := .int) rfl rfl rfl (Nat.le_of_ble_eq_true rfl) (by rw [hE, eM_0]; simp [mS, up2]) hdg kk
theorem get_X11_52 (hx : p.tables.exec = Jvm.exec) (hb : c.code = cc) (hts : ∀ w ∈ Ts, w.before args s = true) (hin : ∀ w ∈ wsX110, w ∈ Ts) (hown : s.vm.findClass own = some m.cls) (hK : ks z s) (hz : IM z) (hW : hd z w H)  (hl : Cond.fieldLink own index "CamStitchModel" "next" "I" ∈ Ts) (hdg : decode cc pc = .ok (.getfield index, 3))
    (kk : W p l e R s m args below meth c H locs cells slots Q (F0 m (pc + 3) ls (.int (w.1 (0) 52) :: rest))) : W p l e R s m args below meth c H locs cells slots Q (F0 m pc ls (.ref (z.2.1 (0)) :: rest)) := by
  obtain ⟨hi, hn, cI, cL, ht, hE, hne⟩ := hz
  exact m_get (C := RX11) (T := TX11) (N := 62) (ci := 11) hx hb hts hin hown hK hW (0) (by rw [hn]; omega) (by rw [hE]; exact eM_0) rfl 52 (by decide) (hts _ hl) (fun _ h => h) rfl hdg kk
theorem put_X11_52 (hx : p.tables.exec = Jvm.exec) (hb : c.code = cc) (hts : ∀ w ∈ Ts, w.before args s = true) (hin : ∀ w ∈ wsX110, w ∈ Ts) (hown : s.vm.findClass own = some m.cls) (hK : ks z s) (hz : IM z) (hW : hd z w H) (hS : va_S (az z) H0 H locs)  {v : Int32} (hl : Cond.fieldLink own index "CamStitchModel" "next" "I" ∈ Ts) (hdg : decode cc pc = .ok (.putfield index, 3))
    (kk : ∀ (H1 : Heap) (locs1 : List Loc), hd z (mS w (0) 52 v) H1 → va_S (az z) H0 H1 locs1 → W p l e R s m args below meth c H1 locs1 cells slots Q (F0 m (pc + 3) ls rest)) : W p l e R s m args below meth c H locs cells slots Q (F0 m pc ls (.int v :: .ref (z.2.1 (0)) :: rest)) := by
  obtain ⟨hi, hn, cI, cL, ht, hE, hne⟩ := hz
  exact m_put (C := RX11) (T := TX11) (N := 62) (ci := 11) hx hb hts hin tyX11 tyX11_ok nmX11 hown hK hi hW hS (0) (by rw [hn]; omega) (by rw [hE]; exact eM_0) rfl 52 (by decide) (hts _ hl) (fun _ h => h) rfl (ty := .int) rfl rfl rfl (Nat.le_of_ble_eq_true rfl) (by rw [hE, eM_0]; simp [mS, up2]) hdg kk
theorem get_X11_53 (hx : p.tables.exec = Jvm.exec) (hb : c.code = cc) (hts : ∀ w ∈ Ts, w.before args s = true) (hin : ∀ w ∈ wsX110, w ∈ Ts) (hown : s.vm.findClass own = some m.cls) (hK : ks z s) (hz : IM z) (hW : hd z w H)  (hl : Cond.fieldLink own index "CamStitchModel" "why" "I" ∈ Ts) (hdg : decode cc pc = .ok (.getfield index, 3))
    (kk : W p l e R s m args below meth c H locs cells slots Q (F0 m (pc + 3) ls (.int (w.1 (0) 53) :: rest))) : W p l e R s m args below meth c H locs cells slots Q (F0 m pc ls (.ref (z.2.1 (0)) :: rest)) := by
  obtain ⟨hi, hn, cI, cL, ht, hE, hne⟩ := hz
  exact m_get (C := RX11) (T := TX11) (N := 62) (ci := 11) hx hb hts hin hown hK hW (0) (by rw [hn]; omega) (by rw [hE]; exact eM_0) rfl 53 (by decide) (hts _ hl) (fun _ h => h) rfl hdg kk
theorem put_X11_53 (hx : p.tables.exec = Jvm.exec) (hb : c.code = cc) (hts : ∀ w ∈ Ts, w.before args s = true) (hin : ∀ w ∈ wsX110, w ∈ Ts) (hown : s.vm.findClass own = some m.cls) (hK : ks z s) (hz : IM z) (hW : hd z w H) (hS : va_S (az z) H0 H locs)  {v : Int32} (hl : Cond.fieldLink own index "CamStitchModel" "why" "I" ∈ Ts) (hdg : decode cc pc = .ok (.putfield index, 3))
    (kk : ∀ (H1 : Heap) (locs1 : List Loc), hd z (mS w (0) 53 v) H1 → va_S (az z) H0 H1 locs1 → W p l e R s m args below meth c H1 locs1 cells slots Q (F0 m (pc + 3) ls rest)) : W p l e R s m args below meth c H locs cells slots Q (F0 m pc ls (.int v :: .ref (z.2.1 (0)) :: rest)) := by
  obtain ⟨hi, hn, cI, cL, ht, hE, hne⟩ := hz
  exact m_put (C := RX11) (T := TX11) (N := 62) (ci := 11) hx hb hts hin tyX11 tyX11_ok nmX11 hown hK hi hW hS (0) (by rw [hn]; omega) (by rw [hE]; exact eM_0) rfl 53 (by decide) (hts _ hl) (fun _ h => h) rfl (ty := .int) rfl rfl rfl (Nat.le_of_ble_eq_true rfl) (by rw [hE, eM_0]; simp [mS, up2]) hdg kk
theorem get_X11_54 (hx : p.tables.exec = Jvm.exec) (hb : c.code = cc) (hts : ∀ w ∈ Ts, w.before args s = true) (hin : ∀ w ∈ wsX110, w ∈ Ts) (hown : s.vm.findClass own = some m.cls) (hK : ks z s) (hz : IM z) (hW : hd z w H)  (hl : Cond.fieldLink own index "CamStitchModel" "met" "I" ∈ Ts) (hdg : decode cc pc = .ok (.getfield index, 3))
    (kk : W p l e R s m args below meth c H locs cells slots Q (F0 m (pc + 3) ls (.int (w.1 (0) 54) :: rest))) : W p l e R s m args below meth c H locs cells slots Q (F0 m pc ls (.ref (z.2.1 (0)) :: rest)) := by
  obtain ⟨hi, hn, cI, cL, ht, hE, hne⟩ := hz
  exact m_get (C := RX11) (T := TX11) (N := 62) (ci := 11) hx hb hts hin hown hK hW (0) (by rw [hn]; omega) (by rw [hE]; exact eM_0) rfl 54 (by decide) (hts _ hl) (fun _ h => h) rfl hdg kk
theorem put_X11_54 (hx : p.tables.exec = Jvm.exec) (hb : c.code = cc) (hts : ∀ w ∈ Ts, w.before args s = true) (hin : ∀ w ∈ wsX110, w ∈ Ts) (hown : s.vm.findClass own = some m.cls) (hK : ks z s) (hz : IM z) (hW : hd z w H) (hS : va_S (az z) H0 H locs)  {v : Int32} (hl : Cond.fieldLink own index "CamStitchModel" "met" "I" ∈ Ts) (hdg : decode cc pc = .ok (.putfield index, 3))
    (kk : ∀ (H1 : Heap) (locs1 : List Loc), hd z (mS w (0) 54 v) H1 → va_S (az z) H0 H1 locs1 → W p l e R s m args below meth c H1 locs1 cells slots Q (F0 m (pc + 3) ls rest)) : W p l e R s m args below meth c H locs cells slots Q (F0 m pc ls (.int v :: .ref (z.2.1 (0)) :: rest)) := by
  obtain ⟨hi, hn, cI, cL, ht, hE, hne⟩ := hz
  exact m_put (C := RX11) (T := TX11) (N := 62) (ci := 11) hx hb hts hin tyX11 tyX11_ok nmX11 hown hK hi hW hS (0) (by rw [hn]; omega) (by rw [hE]; exact eM_0) rfl 54 (by decide) (hts _ hl) (fun _ h => h) rfl (ty := .int) rfl rfl rfl (Nat.le_of_ble_eq_true rfl) (by rw [hE, eM_0]; simp [mS, up2]) hdg kk
theorem get_X11_55 (hx : p.tables.exec = Jvm.exec) (hb : c.code = cc) (hts : ∀ w ∈ Ts, w.before args s = true) (hin : ∀ w ∈ wsX110, w ∈ Ts) (hown : s.vm.findClass own = some m.cls) (hK : ks z s) (hz : IM z) (hW : hd z w H)  (hl : Cond.fieldLink own index "CamStitchModel" "upperUsed" "I" ∈ Ts) (hdg : decode cc pc = .ok (.getfield index, 3))
    (kk : W p l e R s m args below meth c H locs cells slots Q (F0 m (pc + 3) ls (.int (w.1 (0) 55) :: rest))) : W p l e R s m args below meth c H locs cells slots Q (F0 m pc ls (.ref (z.2.1 (0)) :: rest)) := by
  obtain ⟨hi, hn, cI, cL, ht, hE, hne⟩ := hz
  exact m_get (C := RX11) (T := TX11) (N := 62) (ci := 11) hx hb hts hin hown hK hW (0) (by rw [hn]; omega) (by rw [hE]; exact eM_0) rfl 55 (by decide) (hts _ hl) (fun _ h => h) rfl hdg kk
theorem put_X11_55 (hx : p.tables.exec = Jvm.exec) (hb : c.code = cc) (hts : ∀ w ∈ Ts, w.before args s = true) (hin : ∀ w ∈ wsX110, w ∈ Ts) (hown : s.vm.findClass own = some m.cls) (hK : ks z s) (hz : IM z) (hW : hd z w H) (hS : va_S (az z) H0 H locs)  {v : Int32} (hl : Cond.fieldLink own index "CamStitchModel" "upperUsed" "I" ∈ Ts) (hdg : decode cc pc = .ok (.putfield index, 3))
    (kk : ∀ (H1 : Heap) (locs1 : List Loc), hd z (mS w (0) 55 v) H1 → va_S (az z) H0 H1 locs1 → W p l e R s m args below meth c H1 locs1 cells slots Q (F0 m (pc + 3) ls rest)) : W p l e R s m args below meth c H locs cells slots Q (F0 m pc ls (.int v :: .ref (z.2.1 (0)) :: rest)) := by
  obtain ⟨hi, hn, cI, cL, ht, hE, hne⟩ := hz
  exact m_put (C := RX11) (T := TX11) (N := 62) (ci := 11) hx hb hts hin tyX11 tyX11_ok nmX11 hown hK hi hW hS (0) (by rw [hn]; omega) (by rw [hE]; exact eM_0) rfl 55 (by decide) (hts _ hl) (fun _ h => h) rfl (ty := .int) rfl rfl rfl (Nat.le_of_ble_eq_true rfl) (by rw [hE, eM_0]; simp [mS, up2]) hdg kk
theorem get_X11_56 (hx : p.tables.exec = Jvm.exec) (hb : c.code = cc) (hts : ∀ w ∈ Ts, w.before args s = true) (hin : ∀ w ∈ wsX110, w ∈ Ts) (hown : s.vm.findClass own = some m.cls) (hK : ks z s) (hz : IM z) (hW : hd z w H)  (hl : Cond.fieldLink own index "CamStitchModel" "lowerUsed" "I" ∈ Ts) (hdg : decode cc pc = .ok (.getfield index, 3))
    (kk : W p l e R s m args below meth c H locs cells slots Q (F0 m (pc + 3) ls (.int (w.1 (0) 56) :: rest))) : W p l e R s m args below meth c H locs cells slots Q (F0 m pc ls (.ref (z.2.1 (0)) :: rest)) := by
  obtain ⟨hi, hn, cI, cL, ht, hE, hne⟩ := hz
  exact m_get (C := RX11) (T := TX11) (N := 62) (ci := 11) hx hb hts hin hown hK hW (0) (by rw [hn]; omega) (by rw [hE]; exact eM_0) rfl 56 (by decide) (hts _ hl) (fun _ h => h) rfl hdg kk
theorem put_X11_56 (hx : p.tables.exec = Jvm.exec) (hb : c.code = cc) (hts : ∀ w ∈ Ts, w.before args s = true) (hin : ∀ w ∈ wsX110, w ∈ Ts) (hown : s.vm.findClass own = some m.cls) (hK : ks z s) (hz : IM z) (hW : hd z w H) (hS : va_S (az z) H0 H locs)  {v : Int32} (hl : Cond.fieldLink own index "CamStitchModel" "lowerUsed" "I" ∈ Ts) (hdg : decode cc pc = .ok (.putfield index, 3))
    (kk : ∀ (H1 : Heap) (locs1 : List Loc), hd z (mS w (0) 56 v) H1 → va_S (az z) H0 H1 locs1 → W p l e R s m args below meth c H1 locs1 cells slots Q (F0 m (pc + 3) ls rest)) : W p l e R s m args below meth c H locs cells slots Q (F0 m pc ls (.int v :: .ref (z.2.1 (0)) :: rest)) := by
  obtain ⟨hi, hn, cI, cL, ht, hE, hne⟩ := hz
  exact m_put (C := RX11) (T := TX11) (N := 62) (ci := 11) hx hb hts hin tyX11 tyX11_ok nmX11 hown hK hi hW hS (0) (by rw [hn]; omega) (by rw [hE]; exact eM_0) rfl 56 (by decide) (hts _ hl) (fun _ h => h) rfl (ty := .int) rfl rfl rfl (Nat.le_of_ble_eq_true rfl) (by rw [hE, eM_0]; simp [mS, up2]) hdg kk
theorem get_X11_57 (hx : p.tables.exec = Jvm.exec) (hb : c.code = cc) (hts : ∀ w ∈ Ts, w.before args s = true) (hin : ∀ w ∈ wsX110, w ∈ Ts) (hown : s.vm.findClass own = some m.cls) (hK : ks z s) (hz : IM z) (hW : hd z w H)  (hl : Cond.fieldLink own index "CamStitchModel" "nameAt" "I" ∈ Ts) (hdg : decode cc pc = .ok (.getfield index, 3))
    (kk : W p l e R s m args below meth c H locs cells slots Q (F0 m (pc + 3) ls (.int (w.1 (0) 57) :: rest))) : W p l e R s m args below meth c H locs cells slots Q (F0 m pc ls (.ref (z.2.1 (0)) :: rest)) := by
  obtain ⟨hi, hn, cI, cL, ht, hE, hne⟩ := hz
  exact m_get (C := RX11) (T := TX11) (N := 62) (ci := 11) hx hb hts hin hown hK hW (0) (by rw [hn]; omega) (by rw [hE]; exact eM_0) rfl 57 (by decide) (hts _ hl) (fun _ h => h) rfl hdg kk
theorem put_X11_57 (hx : p.tables.exec = Jvm.exec) (hb : c.code = cc) (hts : ∀ w ∈ Ts, w.before args s = true) (hin : ∀ w ∈ wsX110, w ∈ Ts) (hown : s.vm.findClass own = some m.cls) (hK : ks z s) (hz : IM z) (hW : hd z w H) (hS : va_S (az z) H0 H locs)  {v : Int32} (hl : Cond.fieldLink own index "CamStitchModel" "nameAt" "I" ∈ Ts) (hdg : decode cc pc = .ok (.putfield index, 3))
    (kk : ∀ (H1 : Heap) (locs1 : List Loc), hd z (mS w (0) 57 v) H1 → va_S (az z) H0 H1 locs1 → W p l e R s m args below meth c H1 locs1 cells slots Q (F0 m (pc + 3) ls rest)) : W p l e R s m args below meth c H locs cells slots Q (F0 m pc ls (.int v :: .ref (z.2.1 (0)) :: rest)) := by
  obtain ⟨hi, hn, cI, cL, ht, hE, hne⟩ := hz
  exact m_put (C := RX11) (T := TX11) (N := 62) (ci := 11) hx hb hts hin tyX11 tyX11_ok nmX11 hown hK hi hW hS (0) (by rw [hn]; omega) (by rw [hE]; exact eM_0) rfl 57 (by decide) (hts _ hl) (fun _ h => h) rfl (ty := .int) rfl rfl rfl (Nat.le_of_ble_eq_true rfl) (by rw [hE, eM_0]; simp [mS, up2]) hdg kk
theorem get_X11_58 (hx : p.tables.exec = Jvm.exec) (hb : c.code = cc) (hts : ∀ w ∈ Ts, w.before args s = true) (hin : ∀ w ∈ wsX110, w ∈ Ts) (hown : s.vm.findClass own = some m.cls) (hK : ks z s) (hz : IM z) (hW : hd z w H)  (hl : Cond.fieldLink own index "CamStitchModel" "leftState" "[I" ∈ Ts) (hdg : decode cc pc = .ok (.getfield index, 3))
    (kk : W p l e R s m args below meth c H locs cells slots Q (F0 m (pc + 3) ls (.ref (z.2.1 (24)) :: rest))) : W p l e R s m args below meth c H locs cells slots Q (F0 m pc ls (.ref (z.2.1 (0)) :: rest)) := by
  obtain ⟨hi, hn, cI, cL, ht, hE, hne⟩ := hz
  exact m_get (C := RX11) (T := TX11) (N := 62) (ci := 11) hx hb hts hin hown hK hW (0) (by rw [hn]; omega) (by rw [hE]; exact eM_0) rfl 58 (by decide) (hts _ hl) (fun _ h => h) rfl hdg kk
theorem get_X11_59 (hx : p.tables.exec = Jvm.exec) (hb : c.code = cc) (hts : ∀ w ∈ Ts, w.before args s = true) (hin : ∀ w ∈ wsX110, w ∈ Ts) (hown : s.vm.findClass own = some m.cls) (hK : ks z s) (hz : IM z) (hW : hd z w H)  (hl : Cond.fieldLink own index "CamStitchModel" "leftMany" "I" ∈ Ts) (hdg : decode cc pc = .ok (.getfield index, 3))
    (kk : W p l e R s m args below meth c H locs cells slots Q (F0 m (pc + 3) ls (.int (w.1 (0) 59) :: rest))) : W p l e R s m args below meth c H locs cells slots Q (F0 m pc ls (.ref (z.2.1 (0)) :: rest)) := by
  obtain ⟨hi, hn, cI, cL, ht, hE, hne⟩ := hz
  exact m_get (C := RX11) (T := TX11) (N := 62) (ci := 11) hx hb hts hin hown hK hW (0) (by rw [hn]; omega) (by rw [hE]; exact eM_0) rfl 59 (by decide) (hts _ hl) (fun _ h => h) rfl hdg kk
theorem put_X11_59 (hx : p.tables.exec = Jvm.exec) (hb : c.code = cc) (hts : ∀ w ∈ Ts, w.before args s = true) (hin : ∀ w ∈ wsX110, w ∈ Ts) (hown : s.vm.findClass own = some m.cls) (hK : ks z s) (hz : IM z) (hW : hd z w H) (hS : va_S (az z) H0 H locs)  {v : Int32} (hl : Cond.fieldLink own index "CamStitchModel" "leftMany" "I" ∈ Ts) (hdg : decode cc pc = .ok (.putfield index, 3))
    (kk : ∀ (H1 : Heap) (locs1 : List Loc), hd z (mS w (0) 59 v) H1 → va_S (az z) H0 H1 locs1 → W p l e R s m args below meth c H1 locs1 cells slots Q (F0 m (pc + 3) ls rest)) : W p l e R s m args below meth c H locs cells slots Q (F0 m pc ls (.int v :: .ref (z.2.1 (0)) :: rest)) := by
  obtain ⟨hi, hn, cI, cL, ht, hE, hne⟩ := hz
  exact m_put (C := RX11) (T := TX11) (N := 62) (ci := 11) hx hb hts hin tyX11 tyX11_ok nmX11 hown hK hi hW hS (0) (by rw [hn]; omega) (by rw [hE]; exact eM_0) rfl 59 (by decide) (hts _ hl) (fun _ h => h) rfl (ty := .int) rfl rfl rfl (Nat.le_of_ble_eq_true rfl) (by rw [hE, eM_0]; simp [mS, up2]) hdg kk
theorem get_X11_60 (hx : p.tables.exec = Jvm.exec) (hb : c.code = cc) (hts : ∀ w ∈ Ts, w.before args s = true) (hin : ∀ w ∈ wsX110, w ∈ Ts) (hown : s.vm.findClass own = some m.cls) (hK : ks z s) (hz : IM z) (hW : hd z w H)  (hl : Cond.fieldLink own index "CamStitchModel" "parted" "[I" ∈ Ts) (hdg : decode cc pc = .ok (.getfield index, 3))
    (kk : W p l e R s m args below meth c H locs cells slots Q (F0 m (pc + 3) ls (.ref (z.2.1 (25)) :: rest))) : W p l e R s m args below meth c H locs cells slots Q (F0 m pc ls (.ref (z.2.1 (0)) :: rest)) := by
  obtain ⟨hi, hn, cI, cL, ht, hE, hne⟩ := hz
  exact m_get (C := RX11) (T := TX11) (N := 62) (ci := 11) hx hb hts hin hown hK hW (0) (by rw [hn]; omega) (by rw [hE]; exact eM_0) rfl 60 (by decide) (hts _ hl) (fun _ h => h) rfl hdg kk
theorem get_X11_61 (hx : p.tables.exec = Jvm.exec) (hb : c.code = cc) (hts : ∀ w ∈ Ts, w.before args s = true) (hin : ∀ w ∈ wsX110, w ∈ Ts) (hown : s.vm.findClass own = some m.cls) (hK : ks z s) (hz : IM z) (hW : hd z w H)  (hl : Cond.fieldLink own index "CamStitchModel" "shifted" "[J" ∈ Ts) (hdg : decode cc pc = .ok (.getfield index, 3))
    (kk : W p l e R s m args below meth c H locs cells slots Q (F0 m (pc + 3) ls (.ref (z.2.1 (26)) :: rest))) : W p l e R s m args below meth c H locs cells slots Q (F0 m pc ls (.ref (z.2.1 (0)) :: rest)) := by
  obtain ⟨hi, hn, cI, cL, ht, hE, hne⟩ := hz
  exact m_get (C := RX11) (T := TX11) (N := 62) (ci := 11) hx hb hts hin hown hK hW (0) (by rw [hn]; omega) (by rw [hE]; exact eM_0) rfl 61 (by decide) (hts _ hl) (fun _ h => h) rfl hdg kk
theorem ld_AI48 (hx : p.tables.exec = Jvm.exec) (hb : c.code = cc) (hK : ks z s) (hz : IC z) (hW : hd z w H) {o : Nat} (hd0 : o < 48 ∧ ¬ o % 3 = 0) {i : Int32} (hin : inb i 48 = true) (hdg : decode cc pc = .ok (.iaload, 1))
    (kk : W p l e R s m args below meth c H locs cells slots Q (F0 m (pc + 1) ls (.int (w.1 (o) i.toNatClampNeg) :: rest))) : W p l e R s m args below meth c H locs cells slots Q (F0 m pc ls (.int i :: .ref (z.2.1 (o)) :: rest)) := by
  obtain ⟨hi, hn, cI, cL, cD, cT, ht, hE, hne⟩ := hz
  exact m_iald hx hb hK hW (o) 0 (by rw [hn]; omega) (by rw [hE]; exact eC_AI48 hd0) (by rw [ht]; rfl) hin hdg kk
theorem st_AI48 (hx : p.tables.exec = Jvm.exec) (hb : c.code = cc) (hK : ks z s) (hz : IC z) (hW : hd z w H) (hS : va_S (az z) H0 H locs) {o : Nat} (hd0 : o < 48 ∧ ¬ o % 3 = 0) {i : Int32} {x : Int32} (hin : inb i 48 = true) (hdg : decode cc pc = .ok (.iastore, 1))
    (kk : ∀ (H1 : Heap) (locs1 : List Loc), hd z (mS w (o) i.toNatClampNeg x) H1 → va_S (az z) H0 H1 locs1 → W p l e R s m args below meth c H1 locs1 cells slots Q (F0 m (pc + 1) ls rest)) : W p l e R s m args below meth c H locs cells slots Q (F0 m pc ls (.int x :: .int i :: .ref (z.2.1 (o)) :: rest)) := by
  obtain ⟨hi, hn, cI, cL, cD, cT, ht, hE, hne⟩ := hz
  exact m_iast hx hb hK hi hW hS (o) 0 (by rw [hn]; omega) (fun w => by rw [hE]; exact eC_AI48 hd0) (by rw [ht]; rfl) hin hdg kk
theorem ld_AI24p (hx : p.tables.exec = Jvm.exec) (hb : c.code = cc) (hK : ks z s) (hz : IC z) (hW : hd z w H) {d : Nat} (hd0 : d < 2) {i : Int32} (hin : inb i 24 = true) (hdg : decode cc pc = .ok (.iaload, 1))
    (kk : W p l e R s m args below meth c H locs cells slots Q (F0 m (pc + 1) ls (.int (w.1 (61+3*d) i.toNatClampNeg) :: rest))) : W p l e R s m args below meth c H locs cells slots Q (F0 m pc ls (.int i :: .ref (z.2.1 (61+3*d)) :: rest)) := by
  obtain ⟨hi, hn, cI, cL, cD, cT, ht, hE, hne⟩ := hz
  exact m_iald hx hb hK hW (61+3*d) 0 (by rw [hn]; omega) (by rw [hE]; exact eC_AI24p hd0) (by rw [ht]; rfl) hin hdg kk
theorem st_AI24p (hx : p.tables.exec = Jvm.exec) (hb : c.code = cc) (hK : ks z s) (hz : IC z) (hW : hd z w H) (hS : va_S (az z) H0 H locs) {d : Nat} (hd0 : d < 2) {i : Int32} {x : Int32} (hin : inb i 24 = true) (hdg : decode cc pc = .ok (.iastore, 1))
    (kk : ∀ (H1 : Heap) (locs1 : List Loc), hd z (mS w (61+3*d) i.toNatClampNeg x) H1 → va_S (az z) H0 H1 locs1 → W p l e R s m args below meth c H1 locs1 cells slots Q (F0 m (pc + 1) ls rest)) : W p l e R s m args below meth c H locs cells slots Q (F0 m pc ls (.int x :: .int i :: .ref (z.2.1 (61+3*d)) :: rest)) := by
  obtain ⟨hi, hn, cI, cL, cD, cT, ht, hE, hne⟩ := hz
  exact m_iast hx hb hK hi hW hS (61+3*d) 0 (by rw [hn]; omega) (fun w => by rw [hE]; exact eC_AI24p hd0) (by rw [ht]; rfl) hin hdg kk
theorem ld_AI24q (hx : p.tables.exec = Jvm.exec) (hb : c.code = cc) (hK : ks z s) (hz : IC z) (hW : hd z w H) {d : Nat} (hd0 : d < 2) {i : Int32} (hin : inb i 24 = true) (hdg : decode cc pc = .ok (.iaload, 1))
    (kk : W p l e R s m args below meth c H locs cells slots Q (F0 m (pc + 1) ls (.int (w.1 (62+3*d) i.toNatClampNeg) :: rest))) : W p l e R s m args below meth c H locs cells slots Q (F0 m pc ls (.int i :: .ref (z.2.1 (62+3*d)) :: rest)) := by
  obtain ⟨hi, hn, cI, cL, cD, cT, ht, hE, hne⟩ := hz
  exact m_iald hx hb hK hW (62+3*d) 0 (by rw [hn]; omega) (by rw [hE]; exact eC_AI24q hd0) (by rw [ht]; rfl) hin hdg kk
theorem st_AI24q (hx : p.tables.exec = Jvm.exec) (hb : c.code = cc) (hK : ks z s) (hz : IC z) (hW : hd z w H) (hS : va_S (az z) H0 H locs) {d : Nat} (hd0 : d < 2) {i : Int32} {x : Int32} (hin : inb i 24 = true) (hdg : decode cc pc = .ok (.iastore, 1))
    (kk : ∀ (H1 : Heap) (locs1 : List Loc), hd z (mS w (62+3*d) i.toNatClampNeg x) H1 → va_S (az z) H0 H1 locs1 → W p l e R s m args below meth c H1 locs1 cells slots Q (F0 m (pc + 1) ls rest)) : W p l e R s m args below meth c H locs cells slots Q (F0 m pc ls (.int x :: .int i :: .ref (z.2.1 (62+3*d)) :: rest)) := by
  obtain ⟨hi, hn, cI, cL, cD, cT, ht, hE, hne⟩ := hz
  exact m_iast hx hb hK hi hW hS (62+3*d) 0 (by rw [hn]; omega) (fun w => by rw [hE]; exact eC_AI24q hd0) (by rw [ht]; rfl) hin hdg kk
theorem ld_AL400 (hx : p.tables.exec = Jvm.exec) (hb : c.code = cc) (hK : ks z s) (hz : IC z) (hW : hd z w H) {d : Nat} (hd0 : d < 6) {i : Int32} (hin : inb i 400 = true) (hdg : decode cc pc = .ok (.laload, 1))
    (kk : W p l e R s m args below meth c H locs cells slots Q (F0 m (pc + 1) ls (.long (w.2 (49+2*d) i.toNatClampNeg) :: rest))) : W p l e R s m args below meth c H locs cells slots Q (F0 m pc ls (.int i :: .ref (z.2.1 (49+2*d)) :: rest)) := by
  obtain ⟨hi, hn, cI, cL, cD, cT, ht, hE, hne⟩ := hz
  exact m_lald hx hb hK hW (49+2*d) 1 (by rw [hn]; omega) (by rw [hE]; exact eC_AL400 hd0) (by rw [ht]; rfl) hin hdg kk
theorem st_AL400 (hx : p.tables.exec = Jvm.exec) (hb : c.code = cc) (hK : ks z s) (hz : IC z) (hW : hd z w H) (hS : va_S (az z) H0 H locs) {d : Nat} (hd0 : d < 6) {i : Int32} {x : Int64} (hin : inb i 400 = true) (hdg : decode cc pc = .ok (.lastore, 1))
    (kk : ∀ (H1 : Heap) (locs1 : List Loc), hd z (mL w (49+2*d) i.toNatClampNeg x) H1 → va_S (az z) H0 H1 locs1 → W p l e R s m args below meth c H1 locs1 cells slots Q (F0 m (pc + 1) ls rest)) : W p l e R s m args below meth c H locs cells slots Q (F0 m pc ls (.long x :: .int i :: .ref (z.2.1 (49+2*d)) :: rest)) := by
  obtain ⟨hi, hn, cI, cL, cD, cT, ht, hE, hne⟩ := hz
  exact m_last hx hb hK hi hW hS (49+2*d) 1 (by rw [hn]; omega) (fun w => by rw [hE]; exact eC_AL400 hd0) (by rw [ht]; rfl) hin hdg kk
theorem ld_A88 (hx : p.tables.exec = Jvm.exec) (hb : c.code = cc) (hK : ks z s) (hz : IC z) (hW : hd z w H)  {i : Int32} (hin : inb i 1 = true) (hdg : decode cc pc = .ok (.laload, 1))
    (kk : W p l e R s m args below meth c H locs cells slots Q (F0 m (pc + 1) ls (.long (w.2 (88) i.toNatClampNeg) :: rest))) : W p l e R s m args below meth c H locs cells slots Q (F0 m pc ls (.int i :: .ref (z.2.1 (88)) :: rest)) := by
  obtain ⟨hi, hn, cI, cL, cD, cT, ht, hE, hne⟩ := hz
  exact m_lald hx hb hK hW (88) 1 (by rw [hn]; omega) (by rw [hE]; exact eC_88) (by rw [ht]; rfl) hin hdg kk
theorem st_A88 (hx : p.tables.exec = Jvm.exec) (hb : c.code = cc) (hK : ks z s) (hz : IC z) (hW : hd z w H) (hS : va_S (az z) H0 H locs)  {i : Int32} {x : Int64} (hin : inb i 1 = true) (hdg : decode cc pc = .ok (.lastore, 1))
    (kk : ∀ (H1 : Heap) (locs1 : List Loc), hd z (mL w (88) i.toNatClampNeg x) H1 → va_S (az z) H0 H1 locs1 → W p l e R s m args below meth c H1 locs1 cells slots Q (F0 m (pc + 1) ls rest)) : W p l e R s m args below meth c H locs cells slots Q (F0 m pc ls (.long x :: .int i :: .ref (z.2.1 (88)) :: rest)) := by
  obtain ⟨hi, hn, cI, cL, cD, cT, ht, hE, hne⟩ := hz
  exact m_last hx hb hK hi hW hS (88) 1 (by rw [hn]; omega) (fun w => by rw [hE]; exact eC_88) (by rw [ht]; rfl) hin hdg kk
theorem ld_A68 (hx : p.tables.exec = Jvm.exec) (hb : c.code = cc) (hK : ks z s) (hz : IC z) (hW : hd z w H)  {i : Int32} (hin : inb i 3 = true) (hdg : decode cc pc = .ok (.iaload, 1))
    (kk : W p l e R s m args below meth c H locs cells slots Q (F0 m (pc + 1) ls (.int (w.1 (68) i.toNatClampNeg) :: rest))) : W p l e R s m args below meth c H locs cells slots Q (F0 m pc ls (.int i :: .ref (z.2.1 (68)) :: rest)) := by
  obtain ⟨hi, hn, cI, cL, cD, cT, ht, hE, hne⟩ := hz
  exact m_iald hx hb hK hW (68) 0 (by rw [hn]; omega) (by rw [hE]; exact eC_68) (by rw [ht]; rfl) hin hdg kk
theorem st_A68 (hx : p.tables.exec = Jvm.exec) (hb : c.code = cc) (hK : ks z s) (hz : IC z) (hW : hd z w H) (hS : va_S (az z) H0 H locs)  {i : Int32} {x : Int32} (hin : inb i 3 = true) (hdg : decode cc pc = .ok (.iastore, 1))
    (kk : ∀ (H1 : Heap) (locs1 : List Loc), hd z (mS w (68) i.toNatClampNeg x) H1 → va_S (az z) H0 H1 locs1 → W p l e R s m args below meth c H1 locs1 cells slots Q (F0 m (pc + 1) ls rest)) : W p l e R s m args below meth c H locs cells slots Q (F0 m pc ls (.int x :: .int i :: .ref (z.2.1 (68)) :: rest)) := by
  obtain ⟨hi, hn, cI, cL, cD, cT, ht, hE, hne⟩ := hz
  exact m_iast hx hb hK hi hW hS (68) 0 (by rw [hn]; omega) (fun w => by rw [hE]; exact eC_68) (by rw [ht]; rfl) hin hdg kk
theorem ld_A69 (hx : p.tables.exec = Jvm.exec) (hb : c.code = cc) (hK : ks z s) (hz : IC z) (hW : hd z w H)  {i : Int32} (hin : inb i 3 = true) (hdg : decode cc pc = .ok (.iaload, 1))
    (kk : W p l e R s m args below meth c H locs cells slots Q (F0 m (pc + 1) ls (.int (w.1 (69) i.toNatClampNeg) :: rest))) : W p l e R s m args below meth c H locs cells slots Q (F0 m pc ls (.int i :: .ref (z.2.1 (69)) :: rest)) := by
  obtain ⟨hi, hn, cI, cL, cD, cT, ht, hE, hne⟩ := hz
  exact m_iald hx hb hK hW (69) 0 (by rw [hn]; omega) (by rw [hE]; exact eC_69) (by rw [ht]; rfl) hin hdg kk
theorem st_A69 (hx : p.tables.exec = Jvm.exec) (hb : c.code = cc) (hK : ks z s) (hz : IC z) (hW : hd z w H) (hS : va_S (az z) H0 H locs)  {i : Int32} {x : Int32} (hin : inb i 3 = true) (hdg : decode cc pc = .ok (.iastore, 1))
    (kk : ∀ (H1 : Heap) (locs1 : List Loc), hd z (mS w (69) i.toNatClampNeg x) H1 → va_S (az z) H0 H1 locs1 → W p l e R s m args below meth c H1 locs1 cells slots Q (F0 m (pc + 1) ls rest)) : W p l e R s m args below meth c H locs cells slots Q (F0 m pc ls (.int x :: .int i :: .ref (z.2.1 (69)) :: rest)) := by
  obtain ⟨hi, hn, cI, cL, cD, cT, ht, hE, hne⟩ := hz
  exact m_iast hx hb hK hi hW hS (69) 0 (by rw [hn]; omega) (fun w => by rw [hE]; exact eC_69) (by rw [ht]; rfl) hin hdg kk
theorem ld_A73 (hx : p.tables.exec = Jvm.exec) (hb : c.code = cc) (hK : ks z s) (hz : IC z) (hW : hd z w H)  {i : Int32} (hin : inb i 8 = true) (hdg : decode cc pc = .ok (.iaload, 1))
    (kk : W p l e R s m args below meth c H locs cells slots Q (F0 m (pc + 1) ls (.int (w.1 (73) i.toNatClampNeg) :: rest))) : W p l e R s m args below meth c H locs cells slots Q (F0 m pc ls (.int i :: .ref (z.2.1 (73)) :: rest)) := by
  obtain ⟨hi, hn, cI, cL, cD, cT, ht, hE, hne⟩ := hz
  exact m_iald hx hb hK hW (73) 0 (by rw [hn]; omega) (by rw [hE]; exact eC_73) (by rw [ht]; rfl) hin hdg kk
theorem st_A73 (hx : p.tables.exec = Jvm.exec) (hb : c.code = cc) (hK : ks z s) (hz : IC z) (hW : hd z w H) (hS : va_S (az z) H0 H locs)  {i : Int32} {x : Int32} (hin : inb i 8 = true) (hdg : decode cc pc = .ok (.iastore, 1))
    (kk : ∀ (H1 : Heap) (locs1 : List Loc), hd z (mS w (73) i.toNatClampNeg x) H1 → va_S (az z) H0 H1 locs1 → W p l e R s m args below meth c H1 locs1 cells slots Q (F0 m (pc + 1) ls rest)) : W p l e R s m args below meth c H locs cells slots Q (F0 m pc ls (.int x :: .int i :: .ref (z.2.1 (73)) :: rest)) := by
  obtain ⟨hi, hn, cI, cL, cD, cT, ht, hE, hne⟩ := hz
  exact m_iast hx hb hK hi hW hS (73) 0 (by rw [hn]; omega) (fun w => by rw [hE]; exact eC_73) (by rw [ht]; rfl) hin hdg kk
theorem ld_A75 (hx : p.tables.exec = Jvm.exec) (hb : c.code = cc) (hK : ks z s) (hz : IC z) (hW : hd z w H)  {i : Int32} (hin : inb i 2 = true) (hdg : decode cc pc = .ok (.iaload, 1))
    (kk : W p l e R s m args below meth c H locs cells slots Q (F0 m (pc + 1) ls (.int (w.1 (75) i.toNatClampNeg) :: rest))) : W p l e R s m args below meth c H locs cells slots Q (F0 m pc ls (.int i :: .ref (z.2.1 (75)) :: rest)) := by
  obtain ⟨hi, hn, cI, cL, cD, cT, ht, hE, hne⟩ := hz
  exact m_iald hx hb hK hW (75) 0 (by rw [hn]; omega) (by rw [hE]; exact eC_75) (by rw [ht]; rfl) hin hdg kk
theorem st_A75 (hx : p.tables.exec = Jvm.exec) (hb : c.code = cc) (hK : ks z s) (hz : IC z) (hW : hd z w H) (hS : va_S (az z) H0 H locs)  {i : Int32} {x : Int32} (hin : inb i 2 = true) (hdg : decode cc pc = .ok (.iastore, 1))
    (kk : ∀ (H1 : Heap) (locs1 : List Loc), hd z (mS w (75) i.toNatClampNeg x) H1 → va_S (az z) H0 H1 locs1 → W p l e R s m args below meth c H1 locs1 cells slots Q (F0 m (pc + 1) ls rest)) : W p l e R s m args below meth c H locs cells slots Q (F0 m pc ls (.int x :: .int i :: .ref (z.2.1 (75)) :: rest)) := by
  obtain ⟨hi, hn, cI, cL, cD, cT, ht, hE, hne⟩ := hz
  exact m_iast hx hb hK hi hW hS (75) 0 (by rw [hn]; omega) (fun w => by rw [hE]; exact eC_75) (by rw [ht]; rfl) hin hdg kk
theorem ld_A77 (hx : p.tables.exec = Jvm.exec) (hb : c.code = cc) (hK : ks z s) (hz : IC z) (hW : hd z w H)  {i : Int32} (hin : inb i 20 = true) (hdg : decode cc pc = .ok (.iaload, 1))
    (kk : W p l e R s m args below meth c H locs cells slots Q (F0 m (pc + 1) ls (.int (w.1 (77) i.toNatClampNeg) :: rest))) : W p l e R s m args below meth c H locs cells slots Q (F0 m pc ls (.int i :: .ref (z.2.1 (77)) :: rest)) := by
  obtain ⟨hi, hn, cI, cL, cD, cT, ht, hE, hne⟩ := hz
  exact m_iald hx hb hK hW (77) 0 (by rw [hn]; omega) (by rw [hE]; exact eC_77) (by rw [ht]; rfl) hin hdg kk
theorem st_A77 (hx : p.tables.exec = Jvm.exec) (hb : c.code = cc) (hK : ks z s) (hz : IC z) (hW : hd z w H) (hS : va_S (az z) H0 H locs)  {i : Int32} {x : Int32} (hin : inb i 20 = true) (hdg : decode cc pc = .ok (.iastore, 1))
    (kk : ∀ (H1 : Heap) (locs1 : List Loc), hd z (mS w (77) i.toNatClampNeg x) H1 → va_S (az z) H0 H1 locs1 → W p l e R s m args below meth c H1 locs1 cells slots Q (F0 m (pc + 1) ls rest)) : W p l e R s m args below meth c H locs cells slots Q (F0 m pc ls (.int x :: .int i :: .ref (z.2.1 (77)) :: rest)) := by
  obtain ⟨hi, hn, cI, cL, cD, cT, ht, hE, hne⟩ := hz
  exact m_iast hx hb hK hi hW hS (77) 0 (by rw [hn]; omega) (fun w => by rw [hE]; exact eC_77) (by rw [ht]; rfl) hin hdg kk
theorem ld_A78 (hx : p.tables.exec = Jvm.exec) (hb : c.code = cc) (hK : ks z s) (hz : IC z) (hW : hd z w H)  {i : Int32} (hin : inb i 20 = true) (hdg : decode cc pc = .ok (.iaload, 1))
    (kk : W p l e R s m args below meth c H locs cells slots Q (F0 m (pc + 1) ls (.int (w.1 (78) i.toNatClampNeg) :: rest))) : W p l e R s m args below meth c H locs cells slots Q (F0 m pc ls (.int i :: .ref (z.2.1 (78)) :: rest)) := by
  obtain ⟨hi, hn, cI, cL, cD, cT, ht, hE, hne⟩ := hz
  exact m_iald hx hb hK hW (78) 0 (by rw [hn]; omega) (by rw [hE]; exact eC_78) (by rw [ht]; rfl) hin hdg kk
theorem st_A78 (hx : p.tables.exec = Jvm.exec) (hb : c.code = cc) (hK : ks z s) (hz : IC z) (hW : hd z w H) (hS : va_S (az z) H0 H locs)  {i : Int32} {x : Int32} (hin : inb i 20 = true) (hdg : decode cc pc = .ok (.iastore, 1))
    (kk : ∀ (H1 : Heap) (locs1 : List Loc), hd z (mS w (78) i.toNatClampNeg x) H1 → va_S (az z) H0 H1 locs1 → W p l e R s m args below meth c H1 locs1 cells slots Q (F0 m (pc + 1) ls rest)) : W p l e R s m args below meth c H locs cells slots Q (F0 m pc ls (.int x :: .int i :: .ref (z.2.1 (78)) :: rest)) := by
  obtain ⟨hi, hn, cI, cL, cD, cT, ht, hE, hne⟩ := hz
  exact m_iast hx hb hK hi hW hS (78) 0 (by rw [hn]; omega) (fun w => by rw [hE]; exact eC_78) (by rw [ht]; rfl) hin hdg kk
theorem ld_A80 (hx : p.tables.exec = Jvm.exec) (hb : c.code = cc) (hK : ks z s) (hz : IC z) (hW : hd z w H)  {i : Int32} (hin : inb i 600 = true) (hdg : decode cc pc = .ok (.iaload, 1))
    (kk : W p l e R s m args below meth c H locs cells slots Q (F0 m (pc + 1) ls (.int (w.1 (80) i.toNatClampNeg) :: rest))) : W p l e R s m args below meth c H locs cells slots Q (F0 m pc ls (.int i :: .ref (z.2.1 (80)) :: rest)) := by
  obtain ⟨hi, hn, cI, cL, cD, cT, ht, hE, hne⟩ := hz
  exact m_iald hx hb hK hW (80) 0 (by rw [hn]; omega) (by rw [hE]; exact eC_80) (by rw [ht]; rfl) hin hdg kk
theorem st_A80 (hx : p.tables.exec = Jvm.exec) (hb : c.code = cc) (hK : ks z s) (hz : IC z) (hW : hd z w H) (hS : va_S (az z) H0 H locs)  {i : Int32} {x : Int32} (hin : inb i 600 = true) (hdg : decode cc pc = .ok (.iastore, 1))
    (kk : ∀ (H1 : Heap) (locs1 : List Loc), hd z (mS w (80) i.toNatClampNeg x) H1 → va_S (az z) H0 H1 locs1 → W p l e R s m args below meth c H1 locs1 cells slots Q (F0 m (pc + 1) ls rest)) : W p l e R s m args below meth c H locs cells slots Q (F0 m pc ls (.int x :: .int i :: .ref (z.2.1 (80)) :: rest)) := by
  obtain ⟨hi, hn, cI, cL, cD, cT, ht, hE, hne⟩ := hz
  exact m_iast hx hb hK hi hW hS (80) 0 (by rw [hn]; omega) (fun w => by rw [hE]; exact eC_80) (by rw [ht]; rfl) hin hdg kk
theorem ld_A81 (hx : p.tables.exec = Jvm.exec) (hb : c.code = cc) (hK : ks z s) (hz : IC z) (hW : hd z w H)  {i : Int32} (hin : inb i 600 = true) (hdg : decode cc pc = .ok (.iaload, 1))
    (kk : W p l e R s m args below meth c H locs cells slots Q (F0 m (pc + 1) ls (.int (w.1 (81) i.toNatClampNeg) :: rest))) : W p l e R s m args below meth c H locs cells slots Q (F0 m pc ls (.int i :: .ref (z.2.1 (81)) :: rest)) := by
  obtain ⟨hi, hn, cI, cL, cD, cT, ht, hE, hne⟩ := hz
  exact m_iald hx hb hK hW (81) 0 (by rw [hn]; omega) (by rw [hE]; exact eC_81) (by rw [ht]; rfl) hin hdg kk
theorem st_A81 (hx : p.tables.exec = Jvm.exec) (hb : c.code = cc) (hK : ks z s) (hz : IC z) (hW : hd z w H) (hS : va_S (az z) H0 H locs)  {i : Int32} {x : Int32} (hin : inb i 600 = true) (hdg : decode cc pc = .ok (.iastore, 1))
    (kk : ∀ (H1 : Heap) (locs1 : List Loc), hd z (mS w (81) i.toNatClampNeg x) H1 → va_S (az z) H0 H1 locs1 → W p l e R s m args below meth c H1 locs1 cells slots Q (F0 m (pc + 1) ls rest)) : W p l e R s m args below meth c H locs cells slots Q (F0 m pc ls (.int x :: .int i :: .ref (z.2.1 (81)) :: rest)) := by
  obtain ⟨hi, hn, cI, cL, cD, cT, ht, hE, hne⟩ := hz
  exact m_iast hx hb hK hi hW hS (81) 0 (by rw [hn]; omega) (fun w => by rw [hE]; exact eC_81) (by rw [ht]; rfl) hin hdg kk
theorem ld_A84 (hx : p.tables.exec = Jvm.exec) (hb : c.code = cc) (hK : ks z s) (hz : IC z) (hW : hd z w H)  {i : Int32} (hin : inb i 24 = true) (hdg : decode cc pc = .ok (.iaload, 1))
    (kk : W p l e R s m args below meth c H locs cells slots Q (F0 m (pc + 1) ls (.int (w.1 (84) i.toNatClampNeg) :: rest))) : W p l e R s m args below meth c H locs cells slots Q (F0 m pc ls (.int i :: .ref (z.2.1 (84)) :: rest)) := by
  obtain ⟨hi, hn, cI, cL, cD, cT, ht, hE, hne⟩ := hz
  exact m_iald hx hb hK hW (84) 0 (by rw [hn]; omega) (by rw [hE]; exact eC_84) (by rw [ht]; rfl) hin hdg kk
theorem st_A84 (hx : p.tables.exec = Jvm.exec) (hb : c.code = cc) (hK : ks z s) (hz : IC z) (hW : hd z w H) (hS : va_S (az z) H0 H locs)  {i : Int32} {x : Int32} (hin : inb i 24 = true) (hdg : decode cc pc = .ok (.iastore, 1))
    (kk : ∀ (H1 : Heap) (locs1 : List Loc), hd z (mS w (84) i.toNatClampNeg x) H1 → va_S (az z) H0 H1 locs1 → W p l e R s m args below meth c H1 locs1 cells slots Q (F0 m (pc + 1) ls rest)) : W p l e R s m args below meth c H locs cells slots Q (F0 m pc ls (.int x :: .int i :: .ref (z.2.1 (84)) :: rest)) := by
  obtain ⟨hi, hn, cI, cL, cD, cT, ht, hE, hne⟩ := hz
  exact m_iast hx hb hK hi hW hS (84) 0 (by rw [hn]; omega) (fun w => by rw [hE]; exact eC_84) (by rw [ht]; rfl) hin hdg kk
theorem ld_A85 (hx : p.tables.exec = Jvm.exec) (hb : c.code = cc) (hK : ks z s) (hz : IC z) (hW : hd z w H)  {i : Int32} (hin : inb i 24 = true) (hdg : decode cc pc = .ok (.iaload, 1))
    (kk : W p l e R s m args below meth c H locs cells slots Q (F0 m (pc + 1) ls (.int (w.1 (85) i.toNatClampNeg) :: rest))) : W p l e R s m args below meth c H locs cells slots Q (F0 m pc ls (.int i :: .ref (z.2.1 (85)) :: rest)) := by
  obtain ⟨hi, hn, cI, cL, cD, cT, ht, hE, hne⟩ := hz
  exact m_iald hx hb hK hW (85) 0 (by rw [hn]; omega) (by rw [hE]; exact eC_85) (by rw [ht]; rfl) hin hdg kk
theorem st_A85 (hx : p.tables.exec = Jvm.exec) (hb : c.code = cc) (hK : ks z s) (hz : IC z) (hW : hd z w H) (hS : va_S (az z) H0 H locs)  {i : Int32} {x : Int32} (hin : inb i 24 = true) (hdg : decode cc pc = .ok (.iastore, 1))
    (kk : ∀ (H1 : Heap) (locs1 : List Loc), hd z (mS w (85) i.toNatClampNeg x) H1 → va_S (az z) H0 H1 locs1 → W p l e R s m args below meth c H1 locs1 cells slots Q (F0 m (pc + 1) ls rest)) : W p l e R s m args below meth c H locs cells slots Q (F0 m pc ls (.int x :: .int i :: .ref (z.2.1 (85)) :: rest)) := by
  obtain ⟨hi, hn, cI, cL, cD, cT, ht, hE, hne⟩ := hz
  exact m_iast hx hb hK hi hW hS (85) 0 (by rw [hn]; omega) (fun w => by rw [hE]; exact eC_85) (by rw [ht]; rfl) hin hdg kk
theorem ld_A86 (hx : p.tables.exec = Jvm.exec) (hb : c.code = cc) (hK : ks z s) (hz : IC z) (hW : hd z w H)  {i : Int32} (hin : inb i 252 = true) (hdg : decode cc pc = .ok (.iaload, 1))
    (kk : W p l e R s m args below meth c H locs cells slots Q (F0 m (pc + 1) ls (.int (w.1 (86) i.toNatClampNeg) :: rest))) : W p l e R s m args below meth c H locs cells slots Q (F0 m pc ls (.int i :: .ref (z.2.1 (86)) :: rest)) := by
  obtain ⟨hi, hn, cI, cL, cD, cT, ht, hE, hne⟩ := hz
  exact m_iald hx hb hK hW (86) 0 (by rw [hn]; omega) (by rw [hE]; exact eC_86) (by rw [ht]; rfl) hin hdg kk
theorem st_A86 (hx : p.tables.exec = Jvm.exec) (hb : c.code = cc) (hK : ks z s) (hz : IC z) (hW : hd z w H) (hS : va_S (az z) H0 H locs)  {i : Int32} {x : Int32} (hin : inb i 252 = true) (hdg : decode cc pc = .ok (.iastore, 1))
    (kk : ∀ (H1 : Heap) (locs1 : List Loc), hd z (mS w (86) i.toNatClampNeg x) H1 → va_S (az z) H0 H1 locs1 → W p l e R s m args below meth c H1 locs1 cells slots Q (F0 m (pc + 1) ls rest)) : W p l e R s m args below meth c H locs cells slots Q (F0 m pc ls (.int x :: .int i :: .ref (z.2.1 (86)) :: rest)) := by
  obtain ⟨hi, hn, cI, cL, cD, cT, ht, hE, hne⟩ := hz
  exact m_iast hx hb hK hi hW hS (86) 0 (by rw [hn]; omega) (fun w => by rw [hE]; exact eC_86) (by rw [ht]; rfl) hin hdg kk
theorem ld_A87 (hx : p.tables.exec = Jvm.exec) (hb : c.code = cc) (hK : ks z s) (hz : IC z) (hW : hd z w H)  {i : Int32} (hin : inb i 252 = true) (hdg : decode cc pc = .ok (.iaload, 1))
    (kk : W p l e R s m args below meth c H locs cells slots Q (F0 m (pc + 1) ls (.int (w.1 (87) i.toNatClampNeg) :: rest))) : W p l e R s m args below meth c H locs cells slots Q (F0 m pc ls (.int i :: .ref (z.2.1 (87)) :: rest)) := by
  obtain ⟨hi, hn, cI, cL, cD, cT, ht, hE, hne⟩ := hz
  exact m_iald hx hb hK hW (87) 0 (by rw [hn]; omega) (by rw [hE]; exact eC_87) (by rw [ht]; rfl) hin hdg kk
theorem st_A87 (hx : p.tables.exec = Jvm.exec) (hb : c.code = cc) (hK : ks z s) (hz : IC z) (hW : hd z w H) (hS : va_S (az z) H0 H locs)  {i : Int32} {x : Int32} (hin : inb i 252 = true) (hdg : decode cc pc = .ok (.iastore, 1))
    (kk : ∀ (H1 : Heap) (locs1 : List Loc), hd z (mS w (87) i.toNatClampNeg x) H1 → va_S (az z) H0 H1 locs1 → W p l e R s m args below meth c H1 locs1 cells slots Q (F0 m (pc + 1) ls rest)) : W p l e R s m args below meth c H locs cells slots Q (F0 m pc ls (.int x :: .int i :: .ref (z.2.1 (87)) :: rest)) := by
  obtain ⟨hi, hn, cI, cL, cD, cT, ht, hE, hne⟩ := hz
  exact m_iast hx hb hK hi hW hS (87) 0 (by rw [hn]; omega) (fun w => by rw [hE]; exact eC_87) (by rw [ht]; rfl) hin hdg kk
theorem ld_M1 (hx : p.tables.exec = Jvm.exec) (hb : c.code = cc) (hK : ks z s) (hz : IM z) (hW : hd z w H)  {i : Int32} (hin : inb i 24 = true) (hdg : decode cc pc = .ok (.iaload, 1))
    (kk : W p l e R s m args below meth c H locs cells slots Q (F0 m (pc + 1) ls (.int (w.1 (1) i.toNatClampNeg) :: rest))) : W p l e R s m args below meth c H locs cells slots Q (F0 m pc ls (.int i :: .ref (z.2.1 (1)) :: rest)) := by
  obtain ⟨hi, hn, cI, cL, ht, hE, hne⟩ := hz
  exact m_iald hx hb hK hW (1) 0 (by rw [hn]; omega) (by rw [hE]; exact eM_1) (by rw [ht]; rfl) hin hdg kk
theorem st_M1 (hx : p.tables.exec = Jvm.exec) (hb : c.code = cc) (hK : ks z s) (hz : IM z) (hW : hd z w H) (hS : va_S (az z) H0 H locs)  {i : Int32} {x : Int32} (hin : inb i 24 = true) (hdg : decode cc pc = .ok (.iastore, 1))
    (kk : ∀ (H1 : Heap) (locs1 : List Loc), hd z (mS w (1) i.toNatClampNeg x) H1 → va_S (az z) H0 H1 locs1 → W p l e R s m args below meth c H1 locs1 cells slots Q (F0 m (pc + 1) ls rest)) : W p l e R s m args below meth c H locs cells slots Q (F0 m pc ls (.int x :: .int i :: .ref (z.2.1 (1)) :: rest)) := by
  obtain ⟨hi, hn, cI, cL, ht, hE, hne⟩ := hz
  exact m_iast hx hb hK hi hW hS (1) 0 (by rw [hn]; omega) (fun w => by rw [hE]; exact eM_1) (by rw [ht]; rfl) hin hdg kk
theorem ld_M2 (hx : p.tables.exec = Jvm.exec) (hb : c.code = cc) (hK : ks z s) (hz : IM z) (hW : hd z w H)  {i : Int32} (hin : inb i 24 = true) (hdg : decode cc pc = .ok (.iaload, 1))
    (kk : W p l e R s m args below meth c H locs cells slots Q (F0 m (pc + 1) ls (.int (w.1 (2) i.toNatClampNeg) :: rest))) : W p l e R s m args below meth c H locs cells slots Q (F0 m pc ls (.int i :: .ref (z.2.1 (2)) :: rest)) := by
  obtain ⟨hi, hn, cI, cL, ht, hE, hne⟩ := hz
  exact m_iald hx hb hK hW (2) 0 (by rw [hn]; omega) (by rw [hE]; exact eM_2) (by rw [ht]; rfl) hin hdg kk
theorem st_M2 (hx : p.tables.exec = Jvm.exec) (hb : c.code = cc) (hK : ks z s) (hz : IM z) (hW : hd z w H) (hS : va_S (az z) H0 H locs)  {i : Int32} {x : Int32} (hin : inb i 24 = true) (hdg : decode cc pc = .ok (.iastore, 1))
    (kk : ∀ (H1 : Heap) (locs1 : List Loc), hd z (mS w (2) i.toNatClampNeg x) H1 → va_S (az z) H0 H1 locs1 → W p l e R s m args below meth c H1 locs1 cells slots Q (F0 m (pc + 1) ls rest)) : W p l e R s m args below meth c H locs cells slots Q (F0 m pc ls (.int x :: .int i :: .ref (z.2.1 (2)) :: rest)) := by
  obtain ⟨hi, hn, cI, cL, ht, hE, hne⟩ := hz
  exact m_iast hx hb hK hi hW hS (2) 0 (by rw [hn]; omega) (fun w => by rw [hE]; exact eM_2) (by rw [ht]; rfl) hin hdg kk
theorem ld_M3 (hx : p.tables.exec = Jvm.exec) (hb : c.code = cc) (hK : ks z s) (hz : IM z) (hW : hd z w H)  {i : Int32} (hin : inb i 15 = true) (hdg : decode cc pc = .ok (.iaload, 1))
    (kk : W p l e R s m args below meth c H locs cells slots Q (F0 m (pc + 1) ls (.int (w.1 (3) i.toNatClampNeg) :: rest))) : W p l e R s m args below meth c H locs cells slots Q (F0 m pc ls (.int i :: .ref (z.2.1 (3)) :: rest)) := by
  obtain ⟨hi, hn, cI, cL, ht, hE, hne⟩ := hz
  exact m_iald hx hb hK hW (3) 0 (by rw [hn]; omega) (by rw [hE]; exact eM_3) (by rw [ht]; rfl) hin hdg kk
theorem st_M3 (hx : p.tables.exec = Jvm.exec) (hb : c.code = cc) (hK : ks z s) (hz : IM z) (hW : hd z w H) (hS : va_S (az z) H0 H locs)  {i : Int32} {x : Int32} (hin : inb i 15 = true) (hdg : decode cc pc = .ok (.iastore, 1))
    (kk : ∀ (H1 : Heap) (locs1 : List Loc), hd z (mS w (3) i.toNatClampNeg x) H1 → va_S (az z) H0 H1 locs1 → W p l e R s m args below meth c H1 locs1 cells slots Q (F0 m (pc + 1) ls rest)) : W p l e R s m args below meth c H locs cells slots Q (F0 m pc ls (.int x :: .int i :: .ref (z.2.1 (3)) :: rest)) := by
  obtain ⟨hi, hn, cI, cL, ht, hE, hne⟩ := hz
  exact m_iast hx hb hK hi hW hS (3) 0 (by rw [hn]; omega) (fun w => by rw [hE]; exact eM_3) (by rw [ht]; rfl) hin hdg kk
theorem ld_M4 (hx : p.tables.exec = Jvm.exec) (hb : c.code = cc) (hK : ks z s) (hz : IM z) (hW : hd z w H)  {i : Int32} (hin : inb i 720 = true) (hdg : decode cc pc = .ok (.iaload, 1))
    (kk : W p l e R s m args below meth c H locs cells slots Q (F0 m (pc + 1) ls (.int (w.1 (4) i.toNatClampNeg) :: rest))) : W p l e R s m args below meth c H locs cells slots Q (F0 m pc ls (.int i :: .ref (z.2.1 (4)) :: rest)) := by
  obtain ⟨hi, hn, cI, cL, ht, hE, hne⟩ := hz
  exact m_iald hx hb hK hW (4) 0 (by rw [hn]; omega) (by rw [hE]; exact eM_4) (by rw [ht]; rfl) hin hdg kk
theorem st_M4 (hx : p.tables.exec = Jvm.exec) (hb : c.code = cc) (hK : ks z s) (hz : IM z) (hW : hd z w H) (hS : va_S (az z) H0 H locs)  {i : Int32} {x : Int32} (hin : inb i 720 = true) (hdg : decode cc pc = .ok (.iastore, 1))
    (kk : ∀ (H1 : Heap) (locs1 : List Loc), hd z (mS w (4) i.toNatClampNeg x) H1 → va_S (az z) H0 H1 locs1 → W p l e R s m args below meth c H1 locs1 cells slots Q (F0 m (pc + 1) ls rest)) : W p l e R s m args below meth c H locs cells slots Q (F0 m pc ls (.int x :: .int i :: .ref (z.2.1 (4)) :: rest)) := by
  obtain ⟨hi, hn, cI, cL, ht, hE, hne⟩ := hz
  exact m_iast hx hb hK hi hW hS (4) 0 (by rw [hn]; omega) (fun w => by rw [hE]; exact eM_4) (by rw [ht]; rfl) hin hdg kk
theorem ld_M5 (hx : p.tables.exec = Jvm.exec) (hb : c.code = cc) (hK : ks z s) (hz : IM z) (hW : hd z w H)  {i : Int32} (hin : inb i 720 = true) (hdg : decode cc pc = .ok (.iaload, 1))
    (kk : W p l e R s m args below meth c H locs cells slots Q (F0 m (pc + 1) ls (.int (w.1 (5) i.toNatClampNeg) :: rest))) : W p l e R s m args below meth c H locs cells slots Q (F0 m pc ls (.int i :: .ref (z.2.1 (5)) :: rest)) := by
  obtain ⟨hi, hn, cI, cL, ht, hE, hne⟩ := hz
  exact m_iald hx hb hK hW (5) 0 (by rw [hn]; omega) (by rw [hE]; exact eM_5) (by rw [ht]; rfl) hin hdg kk
theorem st_M5 (hx : p.tables.exec = Jvm.exec) (hb : c.code = cc) (hK : ks z s) (hz : IM z) (hW : hd z w H) (hS : va_S (az z) H0 H locs)  {i : Int32} {x : Int32} (hin : inb i 720 = true) (hdg : decode cc pc = .ok (.iastore, 1))
    (kk : ∀ (H1 : Heap) (locs1 : List Loc), hd z (mS w (5) i.toNatClampNeg x) H1 → va_S (az z) H0 H1 locs1 → W p l e R s m args below meth c H1 locs1 cells slots Q (F0 m (pc + 1) ls rest)) : W p l e R s m args below meth c H locs cells slots Q (F0 m pc ls (.int x :: .int i :: .ref (z.2.1 (5)) :: rest)) := by
  obtain ⟨hi, hn, cI, cL, ht, hE, hne⟩ := hz
  exact m_iast hx hb hK hi hW hS (5) 0 (by rw [hn]; omega) (fun w => by rw [hE]; exact eM_5) (by rw [ht]; rfl) hin hdg kk
theorem ld_M6 (hx : p.tables.exec = Jvm.exec) (hb : c.code = cc) (hK : ks z s) (hz : IM z) (hW : hd z w H)  {i : Int32} (hin : inb i 8 = true) (hdg : decode cc pc = .ok (.iaload, 1))
    (kk : W p l e R s m args below meth c H locs cells slots Q (F0 m (pc + 1) ls (.int (w.1 (6) i.toNatClampNeg) :: rest))) : W p l e R s m args below meth c H locs cells slots Q (F0 m pc ls (.int i :: .ref (z.2.1 (6)) :: rest)) := by
  obtain ⟨hi, hn, cI, cL, ht, hE, hne⟩ := hz
  exact m_iald hx hb hK hW (6) 0 (by rw [hn]; omega) (by rw [hE]; exact eM_6) (by rw [ht]; rfl) hin hdg kk
theorem st_M6 (hx : p.tables.exec = Jvm.exec) (hb : c.code = cc) (hK : ks z s) (hz : IM z) (hW : hd z w H) (hS : va_S (az z) H0 H locs)  {i : Int32} {x : Int32} (hin : inb i 8 = true) (hdg : decode cc pc = .ok (.iastore, 1))
    (kk : ∀ (H1 : Heap) (locs1 : List Loc), hd z (mS w (6) i.toNatClampNeg x) H1 → va_S (az z) H0 H1 locs1 → W p l e R s m args below meth c H1 locs1 cells slots Q (F0 m (pc + 1) ls rest)) : W p l e R s m args below meth c H locs cells slots Q (F0 m pc ls (.int x :: .int i :: .ref (z.2.1 (6)) :: rest)) := by
  obtain ⟨hi, hn, cI, cL, ht, hE, hne⟩ := hz
  exact m_iast hx hb hK hi hW hS (6) 0 (by rw [hn]; omega) (fun w => by rw [hE]; exact eM_6) (by rw [ht]; rfl) hin hdg kk
theorem ld_M7 (hx : p.tables.exec = Jvm.exec) (hb : c.code = cc) (hK : ks z s) (hz : IM z) (hW : hd z w H)  {i : Int32} (hin : inb i 2 = true) (hdg : decode cc pc = .ok (.iaload, 1))
    (kk : W p l e R s m args below meth c H locs cells slots Q (F0 m (pc + 1) ls (.int (w.1 (7) i.toNatClampNeg) :: rest))) : W p l e R s m args below meth c H locs cells slots Q (F0 m pc ls (.int i :: .ref (z.2.1 (7)) :: rest)) := by
  obtain ⟨hi, hn, cI, cL, ht, hE, hne⟩ := hz
  exact m_iald hx hb hK hW (7) 0 (by rw [hn]; omega) (by rw [hE]; exact eM_7) (by rw [ht]; rfl) hin hdg kk
theorem st_M7 (hx : p.tables.exec = Jvm.exec) (hb : c.code = cc) (hK : ks z s) (hz : IM z) (hW : hd z w H) (hS : va_S (az z) H0 H locs)  {i : Int32} {x : Int32} (hin : inb i 2 = true) (hdg : decode cc pc = .ok (.iastore, 1))
    (kk : ∀ (H1 : Heap) (locs1 : List Loc), hd z (mS w (7) i.toNatClampNeg x) H1 → va_S (az z) H0 H1 locs1 → W p l e R s m args below meth c H1 locs1 cells slots Q (F0 m (pc + 1) ls rest)) : W p l e R s m args below meth c H locs cells slots Q (F0 m pc ls (.int x :: .int i :: .ref (z.2.1 (7)) :: rest)) := by
  obtain ⟨hi, hn, cI, cL, ht, hE, hne⟩ := hz
  exact m_iast hx hb hK hi hW hS (7) 0 (by rw [hn]; omega) (fun w => by rw [hE]; exact eM_7) (by rw [ht]; rfl) hin hdg kk
theorem ld_M8 (hx : p.tables.exec = Jvm.exec) (hb : c.code = cc) (hK : ks z s) (hz : IM z) (hW : hd z w H)  {i : Int32} (hin : inb i 20 = true) (hdg : decode cc pc = .ok (.iaload, 1))
    (kk : W p l e R s m args below meth c H locs cells slots Q (F0 m (pc + 1) ls (.int (w.1 (8) i.toNatClampNeg) :: rest))) : W p l e R s m args below meth c H locs cells slots Q (F0 m pc ls (.int i :: .ref (z.2.1 (8)) :: rest)) := by
  obtain ⟨hi, hn, cI, cL, ht, hE, hne⟩ := hz
  exact m_iald hx hb hK hW (8) 0 (by rw [hn]; omega) (by rw [hE]; exact eM_8) (by rw [ht]; rfl) hin hdg kk
theorem st_M8 (hx : p.tables.exec = Jvm.exec) (hb : c.code = cc) (hK : ks z s) (hz : IM z) (hW : hd z w H) (hS : va_S (az z) H0 H locs)  {i : Int32} {x : Int32} (hin : inb i 20 = true) (hdg : decode cc pc = .ok (.iastore, 1))
    (kk : ∀ (H1 : Heap) (locs1 : List Loc), hd z (mS w (8) i.toNatClampNeg x) H1 → va_S (az z) H0 H1 locs1 → W p l e R s m args below meth c H1 locs1 cells slots Q (F0 m (pc + 1) ls rest)) : W p l e R s m args below meth c H locs cells slots Q (F0 m pc ls (.int x :: .int i :: .ref (z.2.1 (8)) :: rest)) := by
  obtain ⟨hi, hn, cI, cL, ht, hE, hne⟩ := hz
  exact m_iast hx hb hK hi hW hS (8) 0 (by rw [hn]; omega) (fun w => by rw [hE]; exact eM_8) (by rw [ht]; rfl) hin hdg kk
theorem ld_M9 (hx : p.tables.exec = Jvm.exec) (hb : c.code = cc) (hK : ks z s) (hz : IM z) (hW : hd z w H)  {i : Int32} (hin : inb i 20 = true) (hdg : decode cc pc = .ok (.iaload, 1))
    (kk : W p l e R s m args below meth c H locs cells slots Q (F0 m (pc + 1) ls (.int (w.1 (9) i.toNatClampNeg) :: rest))) : W p l e R s m args below meth c H locs cells slots Q (F0 m pc ls (.int i :: .ref (z.2.1 (9)) :: rest)) := by
  obtain ⟨hi, hn, cI, cL, ht, hE, hne⟩ := hz
  exact m_iald hx hb hK hW (9) 0 (by rw [hn]; omega) (by rw [hE]; exact eM_9) (by rw [ht]; rfl) hin hdg kk
theorem st_M9 (hx : p.tables.exec = Jvm.exec) (hb : c.code = cc) (hK : ks z s) (hz : IM z) (hW : hd z w H) (hS : va_S (az z) H0 H locs)  {i : Int32} {x : Int32} (hin : inb i 20 = true) (hdg : decode cc pc = .ok (.iastore, 1))
    (kk : ∀ (H1 : Heap) (locs1 : List Loc), hd z (mS w (9) i.toNatClampNeg x) H1 → va_S (az z) H0 H1 locs1 → W p l e R s m args below meth c H1 locs1 cells slots Q (F0 m (pc + 1) ls rest)) : W p l e R s m args below meth c H locs cells slots Q (F0 m pc ls (.int x :: .int i :: .ref (z.2.1 (9)) :: rest)) := by
  obtain ⟨hi, hn, cI, cL, ht, hE, hne⟩ := hz
  exact m_iast hx hb hK hi hW hS (9) 0 (by rw [hn]; omega) (fun w => by rw [hE]; exact eM_9) (by rw [ht]; rfl) hin hdg kk
theorem ld_M10 (hx : p.tables.exec = Jvm.exec) (hb : c.code = cc) (hK : ks z s) (hz : IM z) (hW : hd z w H)  {i : Int32} (hin : inb i 10 = true) (hdg : decode cc pc = .ok (.iaload, 1))
    (kk : W p l e R s m args below meth c H locs cells slots Q (F0 m (pc + 1) ls (.int (w.1 (10) i.toNatClampNeg) :: rest))) : W p l e R s m args below meth c H locs cells slots Q (F0 m pc ls (.int i :: .ref (z.2.1 (10)) :: rest)) := by
  obtain ⟨hi, hn, cI, cL, ht, hE, hne⟩ := hz
  exact m_iald hx hb hK hW (10) 0 (by rw [hn]; omega) (by rw [hE]; exact eM_10) (by rw [ht]; rfl) hin hdg kk
theorem st_M10 (hx : p.tables.exec = Jvm.exec) (hb : c.code = cc) (hK : ks z s) (hz : IM z) (hW : hd z w H) (hS : va_S (az z) H0 H locs)  {i : Int32} {x : Int32} (hin : inb i 10 = true) (hdg : decode cc pc = .ok (.iastore, 1))
    (kk : ∀ (H1 : Heap) (locs1 : List Loc), hd z (mS w (10) i.toNatClampNeg x) H1 → va_S (az z) H0 H1 locs1 → W p l e R s m args below meth c H1 locs1 cells slots Q (F0 m (pc + 1) ls rest)) : W p l e R s m args below meth c H locs cells slots Q (F0 m pc ls (.int x :: .int i :: .ref (z.2.1 (10)) :: rest)) := by
  obtain ⟨hi, hn, cI, cL, ht, hE, hne⟩ := hz
  exact m_iast hx hb hK hi hW hS (10) 0 (by rw [hn]; omega) (fun w => by rw [hE]; exact eM_10) (by rw [ht]; rfl) hin hdg kk
theorem ld_M11 (hx : p.tables.exec = Jvm.exec) (hb : c.code = cc) (hK : ks z s) (hz : IM z) (hW : hd z w H)  {i : Int32} (hin : inb i 600 = true) (hdg : decode cc pc = .ok (.iaload, 1))
    (kk : W p l e R s m args below meth c H locs cells slots Q (F0 m (pc + 1) ls (.int (w.1 (11) i.toNatClampNeg) :: rest))) : W p l e R s m args below meth c H locs cells slots Q (F0 m pc ls (.int i :: .ref (z.2.1 (11)) :: rest)) := by
  obtain ⟨hi, hn, cI, cL, ht, hE, hne⟩ := hz
  exact m_iald hx hb hK hW (11) 0 (by rw [hn]; omega) (by rw [hE]; exact eM_11) (by rw [ht]; rfl) hin hdg kk
theorem st_M11 (hx : p.tables.exec = Jvm.exec) (hb : c.code = cc) (hK : ks z s) (hz : IM z) (hW : hd z w H) (hS : va_S (az z) H0 H locs)  {i : Int32} {x : Int32} (hin : inb i 600 = true) (hdg : decode cc pc = .ok (.iastore, 1))
    (kk : ∀ (H1 : Heap) (locs1 : List Loc), hd z (mS w (11) i.toNatClampNeg x) H1 → va_S (az z) H0 H1 locs1 → W p l e R s m args below meth c H1 locs1 cells slots Q (F0 m (pc + 1) ls rest)) : W p l e R s m args below meth c H locs cells slots Q (F0 m pc ls (.int x :: .int i :: .ref (z.2.1 (11)) :: rest)) := by
  obtain ⟨hi, hn, cI, cL, ht, hE, hne⟩ := hz
  exact m_iast hx hb hK hi hW hS (11) 0 (by rw [hn]; omega) (fun w => by rw [hE]; exact eM_11) (by rw [ht]; rfl) hin hdg kk
theorem ld_M12 (hx : p.tables.exec = Jvm.exec) (hb : c.code = cc) (hK : ks z s) (hz : IM z) (hW : hd z w H)  {i : Int32} (hin : inb i 600 = true) (hdg : decode cc pc = .ok (.iaload, 1))
    (kk : W p l e R s m args below meth c H locs cells slots Q (F0 m (pc + 1) ls (.int (w.1 (12) i.toNatClampNeg) :: rest))) : W p l e R s m args below meth c H locs cells slots Q (F0 m pc ls (.int i :: .ref (z.2.1 (12)) :: rest)) := by
  obtain ⟨hi, hn, cI, cL, ht, hE, hne⟩ := hz
  exact m_iald hx hb hK hW (12) 0 (by rw [hn]; omega) (by rw [hE]; exact eM_12) (by rw [ht]; rfl) hin hdg kk
theorem st_M12 (hx : p.tables.exec = Jvm.exec) (hb : c.code = cc) (hK : ks z s) (hz : IM z) (hW : hd z w H) (hS : va_S (az z) H0 H locs)  {i : Int32} {x : Int32} (hin : inb i 600 = true) (hdg : decode cc pc = .ok (.iastore, 1))
    (kk : ∀ (H1 : Heap) (locs1 : List Loc), hd z (mS w (12) i.toNatClampNeg x) H1 → va_S (az z) H0 H1 locs1 → W p l e R s m args below meth c H1 locs1 cells slots Q (F0 m (pc + 1) ls rest)) : W p l e R s m args below meth c H locs cells slots Q (F0 m pc ls (.int x :: .int i :: .ref (z.2.1 (12)) :: rest)) := by
  obtain ⟨hi, hn, cI, cL, ht, hE, hne⟩ := hz
  exact m_iast hx hb hK hi hW hS (12) 0 (by rw [hn]; omega) (fun w => by rw [hE]; exact eM_12) (by rw [ht]; rfl) hin hdg kk
theorem ld_M13 (hx : p.tables.exec = Jvm.exec) (hb : c.code = cc) (hK : ks z s) (hz : IM z) (hW : hd z w H)  {i : Int32} (hin : inb i 24 = true) (hdg : decode cc pc = .ok (.iaload, 1))
    (kk : W p l e R s m args below meth c H locs cells slots Q (F0 m (pc + 1) ls (.int (w.1 (13) i.toNatClampNeg) :: rest))) : W p l e R s m args below meth c H locs cells slots Q (F0 m pc ls (.int i :: .ref (z.2.1 (13)) :: rest)) := by
  obtain ⟨hi, hn, cI, cL, ht, hE, hne⟩ := hz
  exact m_iald hx hb hK hW (13) 0 (by rw [hn]; omega) (by rw [hE]; exact eM_13) (by rw [ht]; rfl) hin hdg kk
theorem st_M13 (hx : p.tables.exec = Jvm.exec) (hb : c.code = cc) (hK : ks z s) (hz : IM z) (hW : hd z w H) (hS : va_S (az z) H0 H locs)  {i : Int32} {x : Int32} (hin : inb i 24 = true) (hdg : decode cc pc = .ok (.iastore, 1))
    (kk : ∀ (H1 : Heap) (locs1 : List Loc), hd z (mS w (13) i.toNatClampNeg x) H1 → va_S (az z) H0 H1 locs1 → W p l e R s m args below meth c H1 locs1 cells slots Q (F0 m (pc + 1) ls rest)) : W p l e R s m args below meth c H locs cells slots Q (F0 m pc ls (.int x :: .int i :: .ref (z.2.1 (13)) :: rest)) := by
  obtain ⟨hi, hn, cI, cL, ht, hE, hne⟩ := hz
  exact m_iast hx hb hK hi hW hS (13) 0 (by rw [hn]; omega) (fun w => by rw [hE]; exact eM_13) (by rw [ht]; rfl) hin hdg kk
theorem ld_M14 (hx : p.tables.exec = Jvm.exec) (hb : c.code = cc) (hK : ks z s) (hz : IM z) (hW : hd z w H)  {i : Int32} (hin : inb i 24 = true) (hdg : decode cc pc = .ok (.iaload, 1))
    (kk : W p l e R s m args below meth c H locs cells slots Q (F0 m (pc + 1) ls (.int (w.1 (14) i.toNatClampNeg) :: rest))) : W p l e R s m args below meth c H locs cells slots Q (F0 m pc ls (.int i :: .ref (z.2.1 (14)) :: rest)) := by
  obtain ⟨hi, hn, cI, cL, ht, hE, hne⟩ := hz
  exact m_iald hx hb hK hW (14) 0 (by rw [hn]; omega) (by rw [hE]; exact eM_14) (by rw [ht]; rfl) hin hdg kk
theorem st_M14 (hx : p.tables.exec = Jvm.exec) (hb : c.code = cc) (hK : ks z s) (hz : IM z) (hW : hd z w H) (hS : va_S (az z) H0 H locs)  {i : Int32} {x : Int32} (hin : inb i 24 = true) (hdg : decode cc pc = .ok (.iastore, 1))
    (kk : ∀ (H1 : Heap) (locs1 : List Loc), hd z (mS w (14) i.toNatClampNeg x) H1 → va_S (az z) H0 H1 locs1 → W p l e R s m args below meth c H1 locs1 cells slots Q (F0 m (pc + 1) ls rest)) : W p l e R s m args below meth c H locs cells slots Q (F0 m pc ls (.int x :: .int i :: .ref (z.2.1 (14)) :: rest)) := by
  obtain ⟨hi, hn, cI, cL, ht, hE, hne⟩ := hz
  exact m_iast hx hb hK hi hW hS (14) 0 (by rw [hn]; omega) (fun w => by rw [hE]; exact eM_14) (by rw [ht]; rfl) hin hdg kk
theorem ld_M15 (hx : p.tables.exec = Jvm.exec) (hb : c.code = cc) (hK : ks z s) (hz : IM z) (hW : hd z w H)  {i : Int32} (hin : inb i 6 = true) (hdg : decode cc pc = .ok (.iaload, 1))
    (kk : W p l e R s m args below meth c H locs cells slots Q (F0 m (pc + 1) ls (.int (w.1 (15) i.toNatClampNeg) :: rest))) : W p l e R s m args below meth c H locs cells slots Q (F0 m pc ls (.int i :: .ref (z.2.1 (15)) :: rest)) := by
  obtain ⟨hi, hn, cI, cL, ht, hE, hne⟩ := hz
  exact m_iald hx hb hK hW (15) 0 (by rw [hn]; omega) (by rw [hE]; exact eM_15) (by rw [ht]; rfl) hin hdg kk
theorem st_M15 (hx : p.tables.exec = Jvm.exec) (hb : c.code = cc) (hK : ks z s) (hz : IM z) (hW : hd z w H) (hS : va_S (az z) H0 H locs)  {i : Int32} {x : Int32} (hin : inb i 6 = true) (hdg : decode cc pc = .ok (.iastore, 1))
    (kk : ∀ (H1 : Heap) (locs1 : List Loc), hd z (mS w (15) i.toNatClampNeg x) H1 → va_S (az z) H0 H1 locs1 → W p l e R s m args below meth c H1 locs1 cells slots Q (F0 m (pc + 1) ls rest)) : W p l e R s m args below meth c H locs cells slots Q (F0 m pc ls (.int x :: .int i :: .ref (z.2.1 (15)) :: rest)) := by
  obtain ⟨hi, hn, cI, cL, ht, hE, hne⟩ := hz
  exact m_iast hx hb hK hi hW hS (15) 0 (by rw [hn]; omega) (fun w => by rw [hE]; exact eM_15) (by rw [ht]; rfl) hin hdg kk
theorem ld_M16 (hx : p.tables.exec = Jvm.exec) (hb : c.code = cc) (hK : ks z s) (hz : IM z) (hW : hd z w H)  {i : Int32} (hin : inb i 6 = true) (hdg : decode cc pc = .ok (.iaload, 1))
    (kk : W p l e R s m args below meth c H locs cells slots Q (F0 m (pc + 1) ls (.int (w.1 (16) i.toNatClampNeg) :: rest))) : W p l e R s m args below meth c H locs cells slots Q (F0 m pc ls (.int i :: .ref (z.2.1 (16)) :: rest)) := by
  obtain ⟨hi, hn, cI, cL, ht, hE, hne⟩ := hz
  exact m_iald hx hb hK hW (16) 0 (by rw [hn]; omega) (by rw [hE]; exact eM_16) (by rw [ht]; rfl) hin hdg kk
theorem st_M16 (hx : p.tables.exec = Jvm.exec) (hb : c.code = cc) (hK : ks z s) (hz : IM z) (hW : hd z w H) (hS : va_S (az z) H0 H locs)  {i : Int32} {x : Int32} (hin : inb i 6 = true) (hdg : decode cc pc = .ok (.iastore, 1))
    (kk : ∀ (H1 : Heap) (locs1 : List Loc), hd z (mS w (16) i.toNatClampNeg x) H1 → va_S (az z) H0 H1 locs1 → W p l e R s m args below meth c H1 locs1 cells slots Q (F0 m (pc + 1) ls rest)) : W p l e R s m args below meth c H locs cells slots Q (F0 m pc ls (.int x :: .int i :: .ref (z.2.1 (16)) :: rest)) := by
  obtain ⟨hi, hn, cI, cL, ht, hE, hne⟩ := hz
  exact m_iast hx hb hK hi hW hS (16) 0 (by rw [hn]; omega) (fun w => by rw [hE]; exact eM_16) (by rw [ht]; rfl) hin hdg kk
theorem ld_M17 (hx : p.tables.exec = Jvm.exec) (hb : c.code = cc) (hK : ks z s) (hz : IM z) (hW : hd z w H)  {i : Int32} (hin : inb i 2400 = true) (hdg : decode cc pc = .ok (.laload, 1))
    (kk : W p l e R s m args below meth c H locs cells slots Q (F0 m (pc + 1) ls (.long (w.2 (17) i.toNatClampNeg) :: rest))) : W p l e R s m args below meth c H locs cells slots Q (F0 m pc ls (.int i :: .ref (z.2.1 (17)) :: rest)) := by
  obtain ⟨hi, hn, cI, cL, ht, hE, hne⟩ := hz
  exact m_lald hx hb hK hW (17) 1 (by rw [hn]; omega) (by rw [hE]; exact eM_17) (by rw [ht]; rfl) hin hdg kk
theorem st_M17 (hx : p.tables.exec = Jvm.exec) (hb : c.code = cc) (hK : ks z s) (hz : IM z) (hW : hd z w H) (hS : va_S (az z) H0 H locs)  {i : Int32} {x : Int64} (hin : inb i 2400 = true) (hdg : decode cc pc = .ok (.lastore, 1))
    (kk : ∀ (H1 : Heap) (locs1 : List Loc), hd z (mL w (17) i.toNatClampNeg x) H1 → va_S (az z) H0 H1 locs1 → W p l e R s m args below meth c H1 locs1 cells slots Q (F0 m (pc + 1) ls rest)) : W p l e R s m args below meth c H locs cells slots Q (F0 m pc ls (.long x :: .int i :: .ref (z.2.1 (17)) :: rest)) := by
  obtain ⟨hi, hn, cI, cL, ht, hE, hne⟩ := hz
  exact m_last hx hb hK hi hW hS (17) 1 (by rw [hn]; omega) (fun w => by rw [hE]; exact eM_17) (by rw [ht]; rfl) hin hdg kk
theorem ld_M18 (hx : p.tables.exec = Jvm.exec) (hb : c.code = cc) (hK : ks z s) (hz : IM z) (hW : hd z w H)  {i : Int32} (hin : inb i 24 = true) (hdg : decode cc pc = .ok (.iaload, 1))
    (kk : W p l e R s m args below meth c H locs cells slots Q (F0 m (pc + 1) ls (.int (w.1 (18) i.toNatClampNeg) :: rest))) : W p l e R s m args below meth c H locs cells slots Q (F0 m pc ls (.int i :: .ref (z.2.1 (18)) :: rest)) := by
  obtain ⟨hi, hn, cI, cL, ht, hE, hne⟩ := hz
  exact m_iald hx hb hK hW (18) 0 (by rw [hn]; omega) (by rw [hE]; exact eM_18) (by rw [ht]; rfl) hin hdg kk
theorem st_M18 (hx : p.tables.exec = Jvm.exec) (hb : c.code = cc) (hK : ks z s) (hz : IM z) (hW : hd z w H) (hS : va_S (az z) H0 H locs)  {i : Int32} {x : Int32} (hin : inb i 24 = true) (hdg : decode cc pc = .ok (.iastore, 1))
    (kk : ∀ (H1 : Heap) (locs1 : List Loc), hd z (mS w (18) i.toNatClampNeg x) H1 → va_S (az z) H0 H1 locs1 → W p l e R s m args below meth c H1 locs1 cells slots Q (F0 m (pc + 1) ls rest)) : W p l e R s m args below meth c H locs cells slots Q (F0 m pc ls (.int x :: .int i :: .ref (z.2.1 (18)) :: rest)) := by
  obtain ⟨hi, hn, cI, cL, ht, hE, hne⟩ := hz
  exact m_iast hx hb hK hi hW hS (18) 0 (by rw [hn]; omega) (fun w => by rw [hE]; exact eM_18) (by rw [ht]; rfl) hin hdg kk
theorem ld_M19 (hx : p.tables.exec = Jvm.exec) (hb : c.code = cc) (hK : ks z s) (hz : IM z) (hW : hd z w H)  {i : Int32} (hin : inb i 24 = true) (hdg : decode cc pc = .ok (.iaload, 1))
    (kk : W p l e R s m args below meth c H locs cells slots Q (F0 m (pc + 1) ls (.int (w.1 (19) i.toNatClampNeg) :: rest))) : W p l e R s m args below meth c H locs cells slots Q (F0 m pc ls (.int i :: .ref (z.2.1 (19)) :: rest)) := by
  obtain ⟨hi, hn, cI, cL, ht, hE, hne⟩ := hz
  exact m_iald hx hb hK hW (19) 0 (by rw [hn]; omega) (by rw [hE]; exact eM_19) (by rw [ht]; rfl) hin hdg kk
theorem st_M19 (hx : p.tables.exec = Jvm.exec) (hb : c.code = cc) (hK : ks z s) (hz : IM z) (hW : hd z w H) (hS : va_S (az z) H0 H locs)  {i : Int32} {x : Int32} (hin : inb i 24 = true) (hdg : decode cc pc = .ok (.iastore, 1))
    (kk : ∀ (H1 : Heap) (locs1 : List Loc), hd z (mS w (19) i.toNatClampNeg x) H1 → va_S (az z) H0 H1 locs1 → W p l e R s m args below meth c H1 locs1 cells slots Q (F0 m (pc + 1) ls rest)) : W p l e R s m args below meth c H locs cells slots Q (F0 m pc ls (.int x :: .int i :: .ref (z.2.1 (19)) :: rest)) := by
  obtain ⟨hi, hn, cI, cL, ht, hE, hne⟩ := hz
  exact m_iast hx hb hK hi hW hS (19) 0 (by rw [hn]; omega) (fun w => by rw [hE]; exact eM_19) (by rw [ht]; rfl) hin hdg kk
theorem ld_M20 (hx : p.tables.exec = Jvm.exec) (hb : c.code = cc) (hK : ks z s) (hz : IM z) (hW : hd z w H)  {i : Int32} (hin : inb i 3 = true) (hdg : decode cc pc = .ok (.iaload, 1))
    (kk : W p l e R s m args below meth c H locs cells slots Q (F0 m (pc + 1) ls (.int (w.1 (20) i.toNatClampNeg) :: rest))) : W p l e R s m args below meth c H locs cells slots Q (F0 m pc ls (.int i :: .ref (z.2.1 (20)) :: rest)) := by
  obtain ⟨hi, hn, cI, cL, ht, hE, hne⟩ := hz
  exact m_iald hx hb hK hW (20) 0 (by rw [hn]; omega) (by rw [hE]; exact eM_20) (by rw [ht]; rfl) hin hdg kk
theorem st_M20 (hx : p.tables.exec = Jvm.exec) (hb : c.code = cc) (hK : ks z s) (hz : IM z) (hW : hd z w H) (hS : va_S (az z) H0 H locs)  {i : Int32} {x : Int32} (hin : inb i 3 = true) (hdg : decode cc pc = .ok (.iastore, 1))
    (kk : ∀ (H1 : Heap) (locs1 : List Loc), hd z (mS w (20) i.toNatClampNeg x) H1 → va_S (az z) H0 H1 locs1 → W p l e R s m args below meth c H1 locs1 cells slots Q (F0 m (pc + 1) ls rest)) : W p l e R s m args below meth c H locs cells slots Q (F0 m pc ls (.int x :: .int i :: .ref (z.2.1 (20)) :: rest)) := by
  obtain ⟨hi, hn, cI, cL, ht, hE, hne⟩ := hz
  exact m_iast hx hb hK hi hW hS (20) 0 (by rw [hn]; omega) (fun w => by rw [hE]; exact eM_20) (by rw [ht]; rfl) hin hdg kk
theorem ld_M21 (hx : p.tables.exec = Jvm.exec) (hb : c.code = cc) (hK : ks z s) (hz : IM z) (hW : hd z w H)  {i : Int32} (hin : inb i 3 = true) (hdg : decode cc pc = .ok (.iaload, 1))
    (kk : W p l e R s m args below meth c H locs cells slots Q (F0 m (pc + 1) ls (.int (w.1 (21) i.toNatClampNeg) :: rest))) : W p l e R s m args below meth c H locs cells slots Q (F0 m pc ls (.int i :: .ref (z.2.1 (21)) :: rest)) := by
  obtain ⟨hi, hn, cI, cL, ht, hE, hne⟩ := hz
  exact m_iald hx hb hK hW (21) 0 (by rw [hn]; omega) (by rw [hE]; exact eM_21) (by rw [ht]; rfl) hin hdg kk
theorem st_M21 (hx : p.tables.exec = Jvm.exec) (hb : c.code = cc) (hK : ks z s) (hz : IM z) (hW : hd z w H) (hS : va_S (az z) H0 H locs)  {i : Int32} {x : Int32} (hin : inb i 3 = true) (hdg : decode cc pc = .ok (.iastore, 1))
    (kk : ∀ (H1 : Heap) (locs1 : List Loc), hd z (mS w (21) i.toNatClampNeg x) H1 → va_S (az z) H0 H1 locs1 → W p l e R s m args below meth c H1 locs1 cells slots Q (F0 m (pc + 1) ls rest)) : W p l e R s m args below meth c H locs cells slots Q (F0 m pc ls (.int x :: .int i :: .ref (z.2.1 (21)) :: rest)) := by
  obtain ⟨hi, hn, cI, cL, ht, hE, hne⟩ := hz
  exact m_iast hx hb hK hi hW hS (21) 0 (by rw [hn]; omega) (fun w => by rw [hE]; exact eM_21) (by rw [ht]; rfl) hin hdg kk
theorem ld_M22 (hx : p.tables.exec = Jvm.exec) (hb : c.code = cc) (hK : ks z s) (hz : IM z) (hW : hd z w H)  {i : Int32} (hin : inb i 48 = true) (hdg : decode cc pc = .ok (.iaload, 1))
    (kk : W p l e R s m args below meth c H locs cells slots Q (F0 m (pc + 1) ls (.int (w.1 (22) i.toNatClampNeg) :: rest))) : W p l e R s m args below meth c H locs cells slots Q (F0 m pc ls (.int i :: .ref (z.2.1 (22)) :: rest)) := by
  obtain ⟨hi, hn, cI, cL, ht, hE, hne⟩ := hz
  exact m_iald hx hb hK hW (22) 0 (by rw [hn]; omega) (by rw [hE]; exact eM_22) (by rw [ht]; rfl) hin hdg kk
theorem st_M22 (hx : p.tables.exec = Jvm.exec) (hb : c.code = cc) (hK : ks z s) (hz : IM z) (hW : hd z w H) (hS : va_S (az z) H0 H locs)  {i : Int32} {x : Int32} (hin : inb i 48 = true) (hdg : decode cc pc = .ok (.iastore, 1))
    (kk : ∀ (H1 : Heap) (locs1 : List Loc), hd z (mS w (22) i.toNatClampNeg x) H1 → va_S (az z) H0 H1 locs1 → W p l e R s m args below meth c H1 locs1 cells slots Q (F0 m (pc + 1) ls rest)) : W p l e R s m args below meth c H locs cells slots Q (F0 m pc ls (.int x :: .int i :: .ref (z.2.1 (22)) :: rest)) := by
  obtain ⟨hi, hn, cI, cL, ht, hE, hne⟩ := hz
  exact m_iast hx hb hK hi hW hS (22) 0 (by rw [hn]; omega) (fun w => by rw [hE]; exact eM_22) (by rw [ht]; rfl) hin hdg kk
theorem ld_M23 (hx : p.tables.exec = Jvm.exec) (hb : c.code = cc) (hK : ks z s) (hz : IM z) (hW : hd z w H)  {i : Int32} (hin : inb i 48 = true) (hdg : decode cc pc = .ok (.iaload, 1))
    (kk : W p l e R s m args below meth c H locs cells slots Q (F0 m (pc + 1) ls (.int (w.1 (23) i.toNatClampNeg) :: rest))) : W p l e R s m args below meth c H locs cells slots Q (F0 m pc ls (.int i :: .ref (z.2.1 (23)) :: rest)) := by
  obtain ⟨hi, hn, cI, cL, ht, hE, hne⟩ := hz
  exact m_iald hx hb hK hW (23) 0 (by rw [hn]; omega) (by rw [hE]; exact eM_23) (by rw [ht]; rfl) hin hdg kk
theorem st_M23 (hx : p.tables.exec = Jvm.exec) (hb : c.code = cc) (hK : ks z s) (hz : IM z) (hW : hd z w H) (hS : va_S (az z) H0 H locs)  {i : Int32} {x : Int32} (hin : inb i 48 = true) (hdg : decode cc pc = .ok (.iastore, 1))
    (kk : ∀ (H1 : Heap) (locs1 : List Loc), hd z (mS w (23) i.toNatClampNeg x) H1 → va_S (az z) H0 H1 locs1 → W p l e R s m args below meth c H1 locs1 cells slots Q (F0 m (pc + 1) ls rest)) : W p l e R s m args below meth c H locs cells slots Q (F0 m pc ls (.int x :: .int i :: .ref (z.2.1 (23)) :: rest)) := by
  obtain ⟨hi, hn, cI, cL, ht, hE, hne⟩ := hz
  exact m_iast hx hb hK hi hW hS (23) 0 (by rw [hn]; omega) (fun w => by rw [hE]; exact eM_23) (by rw [ht]; rfl) hin hdg kk
theorem ld_M24 (hx : p.tables.exec = Jvm.exec) (hb : c.code = cc) (hK : ks z s) (hz : IM z) (hW : hd z w H)  {i : Int32} (hin : inb i 2772 = true) (hdg : decode cc pc = .ok (.iaload, 1))
    (kk : W p l e R s m args below meth c H locs cells slots Q (F0 m (pc + 1) ls (.int (w.1 (24) i.toNatClampNeg) :: rest))) : W p l e R s m args below meth c H locs cells slots Q (F0 m pc ls (.int i :: .ref (z.2.1 (24)) :: rest)) := by
  obtain ⟨hi, hn, cI, cL, ht, hE, hne⟩ := hz
  exact m_iald hx hb hK hW (24) 0 (by rw [hn]; omega) (by rw [hE]; exact eM_24) (by rw [ht]; rfl) hin hdg kk
theorem st_M24 (hx : p.tables.exec = Jvm.exec) (hb : c.code = cc) (hK : ks z s) (hz : IM z) (hW : hd z w H) (hS : va_S (az z) H0 H locs)  {i : Int32} {x : Int32} (hin : inb i 2772 = true) (hdg : decode cc pc = .ok (.iastore, 1))
    (kk : ∀ (H1 : Heap) (locs1 : List Loc), hd z (mS w (24) i.toNatClampNeg x) H1 → va_S (az z) H0 H1 locs1 → W p l e R s m args below meth c H1 locs1 cells slots Q (F0 m (pc + 1) ls rest)) : W p l e R s m args below meth c H locs cells slots Q (F0 m pc ls (.int x :: .int i :: .ref (z.2.1 (24)) :: rest)) := by
  obtain ⟨hi, hn, cI, cL, ht, hE, hne⟩ := hz
  exact m_iast hx hb hK hi hW hS (24) 0 (by rw [hn]; omega) (fun w => by rw [hE]; exact eM_24) (by rw [ht]; rfl) hin hdg kk
theorem ld_M25 (hx : p.tables.exec = Jvm.exec) (hb : c.code = cc) (hK : ks z s) (hz : IM z) (hW : hd z w H)  {i : Int32} (hin : inb i 5 = true) (hdg : decode cc pc = .ok (.iaload, 1))
    (kk : W p l e R s m args below meth c H locs cells slots Q (F0 m (pc + 1) ls (.int (w.1 (25) i.toNatClampNeg) :: rest))) : W p l e R s m args below meth c H locs cells slots Q (F0 m pc ls (.int i :: .ref (z.2.1 (25)) :: rest)) := by
  obtain ⟨hi, hn, cI, cL, ht, hE, hne⟩ := hz
  exact m_iald hx hb hK hW (25) 0 (by rw [hn]; omega) (by rw [hE]; exact eM_25) (by rw [ht]; rfl) hin hdg kk
theorem st_M25 (hx : p.tables.exec = Jvm.exec) (hb : c.code = cc) (hK : ks z s) (hz : IM z) (hW : hd z w H) (hS : va_S (az z) H0 H locs)  {i : Int32} {x : Int32} (hin : inb i 5 = true) (hdg : decode cc pc = .ok (.iastore, 1))
    (kk : ∀ (H1 : Heap) (locs1 : List Loc), hd z (mS w (25) i.toNatClampNeg x) H1 → va_S (az z) H0 H1 locs1 → W p l e R s m args below meth c H1 locs1 cells slots Q (F0 m (pc + 1) ls rest)) : W p l e R s m args below meth c H locs cells slots Q (F0 m pc ls (.int x :: .int i :: .ref (z.2.1 (25)) :: rest)) := by
  obtain ⟨hi, hn, cI, cL, ht, hE, hne⟩ := hz
  exact m_iast hx hb hK hi hW hS (25) 0 (by rw [hn]; omega) (fun w => by rw [hE]; exact eM_25) (by rw [ht]; rfl) hin hdg kk
theorem ld_M26 (hx : p.tables.exec = Jvm.exec) (hb : c.code = cc) (hK : ks z s) (hz : IM z) (hW : hd z w H)  {i : Int32} (hin : inb i 400 = true) (hdg : decode cc pc = .ok (.laload, 1))
    (kk : W p l e R s m args below meth c H locs cells slots Q (F0 m (pc + 1) ls (.long (w.2 (26) i.toNatClampNeg) :: rest))) : W p l e R s m args below meth c H locs cells slots Q (F0 m pc ls (.int i :: .ref (z.2.1 (26)) :: rest)) := by
  obtain ⟨hi, hn, cI, cL, ht, hE, hne⟩ := hz
  exact m_lald hx hb hK hW (26) 1 (by rw [hn]; omega) (by rw [hE]; exact eM_26) (by rw [ht]; rfl) hin hdg kk
theorem st_M26 (hx : p.tables.exec = Jvm.exec) (hb : c.code = cc) (hK : ks z s) (hz : IM z) (hW : hd z w H) (hS : va_S (az z) H0 H locs)  {i : Int32} {x : Int64} (hin : inb i 400 = true) (hdg : decode cc pc = .ok (.lastore, 1))
    (kk : ∀ (H1 : Heap) (locs1 : List Loc), hd z (mL w (26) i.toNatClampNeg x) H1 → va_S (az z) H0 H1 locs1 → W p l e R s m args below meth c H1 locs1 cells slots Q (F0 m (pc + 1) ls rest)) : W p l e R s m args below meth c H locs cells slots Q (F0 m pc ls (.long x :: .int i :: .ref (z.2.1 (26)) :: rest)) := by
  obtain ⟨hi, hn, cI, cL, ht, hE, hne⟩ := hz
  exact m_last hx hb hK hi hW hS (26) 1 (by rw [hn]; omega) (fun w => by rw [hE]; exact eM_26) (by rw [ht]; rfl) hin hdg kk
theorem ld_AD (hx : p.tables.exec = Jvm.exec) (hb : c.code = cc) (hK : ks z s) (hz : IC z) (hW : hd z w H) {i : Int32} (hin : inb i 8 = true) (hdg : decode cc pc = .ok (.aaload, 1))
    (kk : W p l e R s m args below meth c H locs cells slots Q (F0 m (pc + 1) ls (.ref (z.2.1 (3*i.toNatClampNeg)) :: rest))) : W p l e R s m args below meth c H locs cells slots Q (F0 m pc ls (.int i :: .ref (z.2.1 70) :: rest)) := by
  obtain ⟨hi, hn, cI, cL, cD, cT, ht, hE, hne⟩ := hz
  exact m_aald hx hb hK hW 70 2 (by rw [hn]; omega) (f := fun j => 3*j) (by rw [hE]; exact eC_70) (by rw [ht]; rfl) hin hdg kk
theorem ld_AT (hx : p.tables.exec = Jvm.exec) (hb : c.code = cc) (hK : ks z s) (hz : IC z) (hW : hd z w H) {i : Int32} (hin : inb i 6 = true) (hdg : decode cc pc = .ok (.aaload, 1))
    (kk : W p l e R s m args below meth c H locs cells slots Q (F0 m (pc + 1) ls (.ref (z.2.1 (48+2*i.toNatClampNeg)) :: rest))) : W p l e R s m args below meth c H locs cells slots Q (F0 m pc ls (.int i :: .ref (z.2.1 71) :: rest)) := by
  obtain ⟨hi, hn, cI, cL, cD, cT, ht, hE, hne⟩ := hz
  exact m_aald hx hb hK hW 71 3 (by rw [hn]; omega) (f := fun j => 48+2*j) (by rw [hE]; exact eC_71) (by rw [ht]; rfl) hin hdg kk
theorem len_AL400 (hx : p.tables.exec = Jvm.exec) (hb : c.code = cc) (hK : ks z s) (hz : IC z) (hW : hd z w H) {d : Nat} (hd0 : d < 6) (hdg : decode cc pc = .ok (.arraylength, 1))
    (kk : W p l e R s m args below meth c H locs cells slots Q (F0 m (pc + 1) ls (.int 400 :: rest))) : W p l e R s m args below meth c H locs cells slots Q (F0 m pc ls (.ref (z.2.1 (49+2*d)) :: rest)) := by
  obtain ⟨hi, hn, cI, cL, cD, cT, ht, hE, hne⟩ := hz
  exact m_ialen hx hb hK hW (49+2*d) 1 (by rw [hn]; omega) (by rw [hE]; exact eC_AL400 hd0) (by rw [ht]; rfl) (show Int32.ofNat 400 = 400 by decide) hdg kk
theorem cp_AI48 (hx : p.tables.exec = Jvm.exec) (hb : c.code = cc) (hml : c.maxLocals = ls.size) (hown : s.vm.findClass own = some m.cls) (hlink : (Cond.methodLink own index arraycopyName).before args s = true) (hnat : (Cond.native arraycopyName).before args s = true) (hstat : (Cond.static arraycopyName).before args s = true) (hini : (Cond.initialized "java/lang/System").before args s = true) (hK : ks z s) (hz : IC z) (hW : hd z w H) (hS : va_S (az z) H0 H locs) {a b : Nat} (ha : a < 48 ∧ ¬ a % 3 = 0) (hb0 : b < 48 ∧ ¬ b % 3 = 0) {sp dp n : Int32} (hg : cpk sp dp n 48 = true) (hframes : 1 ≤ R.frames) (hlocals : (rest.map fun v => v.category).sum + (nativeFrameWords "java/lang/System" "arraycopy" 5 + 11) ≤ R.locals) (hdg : decode cc pc = .ok (.invokestatic index, 3))
    (kk : ∀ (H1 : Heap) (locs1 : List Loc), hd z (mC w (a) (b) sp.toNatClampNeg dp.toNatClampNeg n.toNatClampNeg) H1 → va_S (az z) H0 H1 locs1 → W p l e R s m args below meth c H1 locs1 cells slots Q (F0 m (pc + 3) ls rest)) : W p l e R s m args below meth c H locs cells slots Q (F0 m pc ls (.int n :: .int dp :: .ref (z.2.1 (b)) :: .int sp :: .ref (z.2.1 (a)) :: rest)) := by
  obtain ⟨hi, hn, cI, cL, cD, cT, ht, hE, hne⟩ := hz
  obtain ⟨g1, g2, g3, g4, g5⟩ := cpk_s hg
  refine va_copyi hx hb hml hown hlink hnat hstat hini hK.1 hW (zw_D hi w) hS (a) (b) 0 0 (zw_at (by rw [hn]; omega) (by rw [hE]; exact eC_AI48 ha)) (zw_at (by rw [hn]; omega) (by rw [hE]; exact eC_AI48 hb0)) (by rw [ht]; rfl) (by rw [ht]; rfl) rfl g1 g2 g3 g4 g5 (fun _ _ => rfl) hframes hlocals hdg (fun H1 locs1 hP _ hS1 => kk H1 locs1 ?_ hS1)
  rw [zw_set (w := w) (w' := mC w (a) (b) sp.toNatClampNeg dp.toNatClampNeg n.toNatClampNeg) (by rw [hE, eC_AI48 hb0, mC_s]) (fun o' h => hi.2 _ _ o' (mC_o h) rfl)] at hP
  exact hP
theorem cp_AI24p (hx : p.tables.exec = Jvm.exec) (hb : c.code = cc) (hml : c.maxLocals = ls.size) (hown : s.vm.findClass own = some m.cls) (hlink : (Cond.methodLink own index arraycopyName).before args s = true) (hnat : (Cond.native arraycopyName).before args s = true) (hstat : (Cond.static arraycopyName).before args s = true) (hini : (Cond.initialized "java/lang/System").before args s = true) (hK : ks z s) (hz : IC z) (hW : hd z w H) (hS : va_S (az z) H0 H locs) {a b : Nat} (ha : a < 2) (hb0 : b < 2) {sp dp n : Int32} (hg : cpk sp dp n 24 = true) (hframes : 1 ≤ R.frames) (hlocals : (rest.map fun v => v.category).sum + (nativeFrameWords "java/lang/System" "arraycopy" 5 + 11) ≤ R.locals) (hdg : decode cc pc = .ok (.invokestatic index, 3))
    (kk : ∀ (H1 : Heap) (locs1 : List Loc), hd z (mC w (61+3*a) (61+3*b) sp.toNatClampNeg dp.toNatClampNeg n.toNatClampNeg) H1 → va_S (az z) H0 H1 locs1 → W p l e R s m args below meth c H1 locs1 cells slots Q (F0 m (pc + 3) ls rest)) : W p l e R s m args below meth c H locs cells slots Q (F0 m pc ls (.int n :: .int dp :: .ref (z.2.1 (61+3*b)) :: .int sp :: .ref (z.2.1 (61+3*a)) :: rest)) := by
  obtain ⟨hi, hn, cI, cL, cD, cT, ht, hE, hne⟩ := hz
  obtain ⟨g1, g2, g3, g4, g5⟩ := cpk_s hg
  refine va_copyi hx hb hml hown hlink hnat hstat hini hK.1 hW (zw_D hi w) hS (61+3*a) (61+3*b) 0 0 (zw_at (by rw [hn]; omega) (by rw [hE]; exact eC_AI24p ha)) (zw_at (by rw [hn]; omega) (by rw [hE]; exact eC_AI24p hb0)) (by rw [ht]; rfl) (by rw [ht]; rfl) rfl g1 g2 g3 g4 g5 (fun _ _ => rfl) hframes hlocals hdg (fun H1 locs1 hP _ hS1 => kk H1 locs1 ?_ hS1)
  rw [zw_set (w := w) (w' := mC w (61+3*a) (61+3*b) sp.toNatClampNeg dp.toNatClampNeg n.toNatClampNeg) (by rw [hE, eC_AI24p hb0, mC_s]) (fun o' h => hi.2 _ _ o' (mC_o h) rfl)] at hP
  exact hP
theorem cp_AI24q (hx : p.tables.exec = Jvm.exec) (hb : c.code = cc) (hml : c.maxLocals = ls.size) (hown : s.vm.findClass own = some m.cls) (hlink : (Cond.methodLink own index arraycopyName).before args s = true) (hnat : (Cond.native arraycopyName).before args s = true) (hstat : (Cond.static arraycopyName).before args s = true) (hini : (Cond.initialized "java/lang/System").before args s = true) (hK : ks z s) (hz : IC z) (hW : hd z w H) (hS : va_S (az z) H0 H locs) {a b : Nat} (ha : a < 2) (hb0 : b < 2) {sp dp n : Int32} (hg : cpk sp dp n 24 = true) (hframes : 1 ≤ R.frames) (hlocals : (rest.map fun v => v.category).sum + (nativeFrameWords "java/lang/System" "arraycopy" 5 + 11) ≤ R.locals) (hdg : decode cc pc = .ok (.invokestatic index, 3))
    (kk : ∀ (H1 : Heap) (locs1 : List Loc), hd z (mC w (62+3*a) (62+3*b) sp.toNatClampNeg dp.toNatClampNeg n.toNatClampNeg) H1 → va_S (az z) H0 H1 locs1 → W p l e R s m args below meth c H1 locs1 cells slots Q (F0 m (pc + 3) ls rest)) : W p l e R s m args below meth c H locs cells slots Q (F0 m pc ls (.int n :: .int dp :: .ref (z.2.1 (62+3*b)) :: .int sp :: .ref (z.2.1 (62+3*a)) :: rest)) := by
  obtain ⟨hi, hn, cI, cL, cD, cT, ht, hE, hne⟩ := hz
  obtain ⟨g1, g2, g3, g4, g5⟩ := cpk_s hg
  refine va_copyi hx hb hml hown hlink hnat hstat hini hK.1 hW (zw_D hi w) hS (62+3*a) (62+3*b) 0 0 (zw_at (by rw [hn]; omega) (by rw [hE]; exact eC_AI24q ha)) (zw_at (by rw [hn]; omega) (by rw [hE]; exact eC_AI24q hb0)) (by rw [ht]; rfl) (by rw [ht]; rfl) rfl g1 g2 g3 g4 g5 (fun _ _ => rfl) hframes hlocals hdg (fun H1 locs1 hP _ hS1 => kk H1 locs1 ?_ hS1)
  rw [zw_set (w := w) (w' := mC w (62+3*a) (62+3*b) sp.toNatClampNeg dp.toNatClampNeg n.toNatClampNeg) (by rw [hE, eC_AI24q hb0, mC_s]) (fun o' h => hi.2 _ _ o' (mC_o h) rfl)] at hP
  exact hP
theorem cp_AL400 (hx : p.tables.exec = Jvm.exec) (hb : c.code = cc) (hml : c.maxLocals = ls.size) (hown : s.vm.findClass own = some m.cls) (hlink : (Cond.methodLink own index arraycopyName).before args s = true) (hnat : (Cond.native arraycopyName).before args s = true) (hstat : (Cond.static arraycopyName).before args s = true) (hini : (Cond.initialized "java/lang/System").before args s = true) (hK : ks z s) (hz : IC z) (hW : hd z w H) (hS : va_S (az z) H0 H locs) {a b : Nat} (ha : a < 6) (hb0 : b < 6) {sp dp n : Int32} (hg : cpk sp dp n 400 = true) (hframes : 1 ≤ R.frames) (hlocals : (rest.map fun v => v.category).sum + (nativeFrameWords "java/lang/System" "arraycopy" 5 + 11) ≤ R.locals) (hdg : decode cc pc = .ok (.invokestatic index, 3))
    (kk : ∀ (H1 : Heap) (locs1 : List Loc), hd z (mD w (49+2*a) (49+2*b) sp.toNatClampNeg dp.toNatClampNeg n.toNatClampNeg) H1 → va_S (az z) H0 H1 locs1 → W p l e R s m args below meth c H1 locs1 cells slots Q (F0 m (pc + 3) ls rest)) : W p l e R s m args below meth c H locs cells slots Q (F0 m pc ls (.int n :: .int dp :: .ref (z.2.1 (49+2*b)) :: .int sp :: .ref (z.2.1 (49+2*a)) :: rest)) := by
  obtain ⟨hi, hn, cI, cL, cD, cT, ht, hE, hne⟩ := hz
  obtain ⟨g1, g2, g3, g4, g5⟩ := cpk_s hg
  refine va_copyl hx hb hml hown hlink hnat hstat hini hK.1 hW (zw_D hi w) hS (49+2*a) (49+2*b) 1 1 (zw_at (by rw [hn]; omega) (by rw [hE]; exact eC_AL400 ha)) (zw_at (by rw [hn]; omega) (by rw [hE]; exact eC_AL400 hb0)) (by rw [ht]; rfl) (by rw [ht]; rfl) rfl g1 g2 g3 g4 g5 (fun _ _ => rfl) hframes hlocals hdg (fun H1 locs1 hP _ hS1 => kk H1 locs1 ?_ hS1)
  rw [zw_set (w := w) (w' := mD w (49+2*a) (49+2*b) sp.toNatClampNeg dp.toNatClampNeg n.toNatClampNeg) (by rw [hE, eC_AL400 hb0, mD_s]) (fun o' h => hi.2 _ _ o' rfl (mD_o h))] at hP
  exact hP
theorem nz_3 (hK : ks z s) (hz : IC z) : va_Nw (.methodLinkNest RX3 58 yX10_isWithin "CamStitch") s := by
  obtain ⟨hi, hn, cI, cL, cD, cT, ht, hE, hne⟩ := hz
  exact hK.2 (RX3, 58, yX10_isWithin, "CamStitch") (by rw [hne]; simp [nestC])
theorem nz_4 (hK : ks z s) (hz : IC z) : va_Nw (.methodLinkNest RX4 18 yX10_isShelf "CamStitch") s := by
  obtain ⟨hi, hn, cI, cL, cD, cT, ht, hE, hne⟩ := hz
  exact hK.2 (RX4, 18, yX10_isShelf, "CamStitch") (by rw [hne]; simp [nestC])
theorem nz_5 (hK : ks z s) (hz : IC z) : va_Nw (.methodLinkNest RX5 31 yX10_isWithin "CamStitch") s := by
  obtain ⟨hi, hn, cI, cL, cD, cT, ht, hE, hne⟩ := hz
  exact hK.2 (RX5, 31, yX10_isWithin, "CamStitch") (by rw [hne]; simp [nestC])
theorem nz_6 (hK : ks z s) (hz : IC z) : va_Nw (.methodLinkNest RX6 80 yX10_isWithin "CamStitch") s := by
  obtain ⟨hi, hn, cI, cL, cD, cT, ht, hE, hne⟩ := hz
  exact hK.2 (RX6, 80, yX10_isWithin, "CamStitch") (by rw [hne]; simp [nestC])
end RZ
