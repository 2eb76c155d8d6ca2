/-! ===== the class's memory w and the reference's memory v: when they stand for the same ===== -/
theorem i_lt {a b : Int32} : a < b ↔ a.toInt < b.toInt := Int32.lt_iff_toInt_lt
theorem i_le {a b : Int32} : a ≤ b ↔ a.toInt ≤ b.toInt := Int32.le_iff_toInt_le
theorem i_eq {a b : Int32} : a = b ↔ a.toInt = b.toInt := Int32.toInt_inj.symm
theorem i_rng (x : Int32) : -2147483648 ≤ x.toInt ∧ x.toInt < 2147483648 := ⟨Int32.le_toInt x, Int32.toInt_lt x⟩
theorem i_bm {z : Int} (h1 : -2147483648 ≤ z) (h2 : z < 2147483648) : z.bmod (2 ^ 32) = z := by
  rw [Int.bmod_def]; split <;> omega
theorem i_add {x y : Int32} (h1 : -2147483648 ≤ x.toInt + y.toInt) (h2 : x.toInt + y.toInt < 2147483648) : (x + y).toInt = x.toInt + y.toInt := by
  rw [Int32.toInt_add]; exact i_bm h1 h2
theorem i_sub {x y : Int32} (h1 : -2147483648 ≤ x.toInt - y.toInt) (h2 : x.toInt - y.toInt < 2147483648) : (x - y).toInt = x.toInt - y.toInt := by
  rw [Int32.toInt_sub]; exact i_bm h1 h2
theorem i_mul {x y : Int32} (h1 : -2147483648 ≤ x.toInt * y.toInt) (h2 : x.toInt * y.toInt < 2147483648) : (x * y).toInt = x.toInt * y.toInt := by
  rw [Int32.toInt_mul]; exact i_bm h1 h2
theorem i_neg {x : Int32} (h : x.toInt ≠ -2147483648) : (-x).toInt = -x.toInt := by
  have := i_rng x
  rw [Int32.toInt_neg]; exact i_bm (by omega) (by omega)
/-- a number that isn't below 0, as a natural one -/
theorem i_nat {x : Int32} {N : Nat} (h1 : 0 ≤ x.toInt) (h2 : x.toInt < N) (hN : N ≤ 2147483648) : ∃ k : Nat, k < N ∧ x = nI k := by
  refine ⟨x.toInt.toNat, by omega, ?_⟩
  rw [i_eq, nI_toInt (by omega)]; omega
theorem inb_nI {n N : Nat} (h : n < N) (hN : N ≤ 2147483648) : inb (nI n) N = true := vp_inb (vp_in_iff.mpr ⟨by rw [nI_toInt (by omega)]; omega, by rw [nI_toInt (by omega)]; omega⟩)
theorem mS_at {w : Mem} {o j a b : Nat} {x : Int32} : (mS w o j x).1 a b = if a = o ∧ b = j then x else w.1 a b := rfl
theorem mS_at2 {w : Mem} {o j : Nat} {x : Int32} : (mS w o j x).2 = w.2 := rfl
theorem mL_at {w : Mem} {o j a b : Nat} {x : Int64} : (mL w o j x).2 a b = if a = o ∧ b = j then x else w.2 a b := rfl
theorem mL_at1 {w : Mem} {o j : Nat} {x : Int64} : (mL w o j x).1 = w.1 := rfl
theorem mS_ne {w : Mem} {o j a b : Nat} {x : Int32} (h : a ≠ o) : (mS w o j x).1 a b = w.1 a b := by rw [mS_at, if_neg (fun q => h q.1)]
theorem mS_nj {w : Mem} {o j a b : Nat} {x : Int32} (h : b ≠ j) : (mS w o j x).1 a b = w.1 a b := by rw [mS_at, if_neg (fun q => h q.2)]
theorem mS_eq {w : Mem} {o j : Nat} {x : Int32} : (mS w o j x).1 o j = x := by rw [mS_at, if_pos ⟨rfl, rfl⟩]
theorem mL_ne {w : Mem} {o j a b : Nat} {x : Int64} (h : a ≠ o) : (mL w o j x).2 a b = w.2 a b := by rw [mL_at, if_neg (fun q => h q.1)]
theorem mL_eq {w : Mem} {o j : Nat} {x : Int64} : (mL w o j x).2 o j = x := by rw [mL_at, if_pos ⟨rfl, rfl⟩]
/-- within n of 0 -/
def ir (n : Int) (x : Int32) : Prop := -n ≤ x.toInt ∧ x.toInt ≤ n
def ib (a b : Int) (x : Int32) : Prop := a ≤ x.toInt ∧ x.toInt ≤ b
def RD (w v : Mem) : Prop := ∀ d, d < 15 → ∃ n : Nat, n ≤ 48 ∧ w.1 (3*d) 2 = nI n ∧ v.1 3 d = nI n ∧ ∀ j, j < n → w.1 (3*d+1) j = v.1 4 (48*d+j) ∧ w.1 (3*d+2) j = v.1 5 (48*d+j) ∧ ir 12 (v.1 4 (48*d+j)) ∧ ir 12 (v.1 5 (48*d+j))
def RP (w v : Mem) : Prop := ∃ n : Nat, n ≤ 24 ∧ w.1 60 2 = nI n ∧ v.1 0 1 = nI n ∧ (0 < n → w.1 60 3 = v.1 0 4 ∧ ir 100 (v.1 0 4)) ∧ ∀ j, j < n → w.1 61 j = v.1 1 j ∧ w.1 62 j = v.1 2 j ∧ ir 12 (v.1 1 j) ∧ ir 100 (v.1 2 j)
def RH (w v : Mem) : Prop := ∃ n : Nat, n ≤ 8 ∧ w.1 72 1 = nI n ∧ v.1 0 8 = nI n ∧ ∀ j, j < n → w.1 73 j = v.1 6 j ∧ ib 1 999 (v.1 6 j)
def RB (w v : Mem) : Prop := (w.1 75 0 = v.1 7 0 ∧ ib 0 60 (v.1 7 0)) ∧ (w.1 75 1 = v.1 7 1 ∧ ib 0 60 (v.1 7 1)) ∧ (w.1 74 1 = v.1 0 11 ∧ ib 1 99 (v.1 0 11)) ∧ (w.1 74 2 = v.1 0 12 ∧ ib 1 99 (v.1 0 12)) ∧ (w.1 74 3 = v.1 0 13 ∧ ib 0 1000000 (v.1 0 13)) ∧ (w.1 74 4 = v.1 0 14 ∧ ib 0 1000000 (v.1 0 14))
def stepOk (k n : Int32) : Prop := (k = 0 ∧ ib 0 7 n) ∨ (k = 1 ∧ ib 1 200 n) ∨ (k = 2 ∧ ib 1 3 n) ∨ (k = 3 ∧ n = 0)
def RJ (w v : Mem) : Prop := ∃ n : Nat, n ≤ 20 ∧ w.1 76 2 = nI n ∧ v.1 0 15 = nI n ∧ ∀ j, j < n → w.1 77 j = v.1 8 j ∧ w.1 78 j = v.1 9 j ∧ stepOk (v.1 8 j) (v.1 9 j)
/-- how many of the first n places were there before -/
def wasB (x y : Nat → Int32) (i : Nat) : Bool := (decide (x i = 0) && decide (y i = 0)) || (List.range i).any (fun k => decide (x k = x i) && decide (y k = y i))
def metN (x y : Nat → Int32) : Nat → Nat
  | 0 => 0
  | n + 1 => metN x y n + (if wasB x y n then 1 else 0)
def RS (w v : Mem) : Prop := w.1 79 2 = v.1 0 18 ∧ ((v.1 0 18 = 0 ∧ w.1 79 3 = 0) ∨ (v.1 0 18 = 1 ∧ ∃ n : Nat, n ≤ 600 ∧ w.1 79 3 = nI n ∧ v.1 10 0 = nI n ∧ w.1 79 4 = v.1 10 1 ∧ w.1 79 5 = v.1 10 2 ∧ w.1 79 6 = v.1 10 3 ∧ w.1 79 7 = v.1 10 4 ∧ (v.1 10 4 = 0 ∨ v.1 10 4 = 1) ∧ w.1 79 8 = v.1 10 5 ∧ v.1 10 6 = nI (metN (v.1 11) (v.1 12) n) ∧ w.1 79 9 = v.1 10 7 ∧ w.1 79 10 = v.1 10 8 ∧ w.1 79 11 = v.1 10 9 ∧ ∀ j, j < n → w.1 80 j = v.1 11 j ∧ w.1 81 j = v.1 12 j))
def RF (w v : Mem) : Prop := ∃ n : Nat, n ≤ 24 ∧ w.1 83 2 = nI n ∧ v.1 0 22 = nI n ∧ ∀ j, j < n → w.1 84 j = v.1 13 j ∧ w.1 85 j = v.1 14 j ∧ ib 0 324 (v.1 13 j) ∧ ib 0 4 (v.1 14 j)
def RR (w v : Mem) : Prop := w.1 66 12 = v.1 0 25
def RT (w v : Mem) : Prop := ∀ t, t < 6 → (∃ s : Nat, s ≤ 5 ∧ w.1 (48+2*t) 2 = nI s ∧ v.1 15 t = nI s ∧ (s = 5 → ¬ v.1 3 (8+t) = 0)) ∧ (∃ n : Nat, n ≤ 400 ∧ w.1 (48+2*t) 3 = nI n ∧ v.1 16 t = nI n) ∧ ∀ j, j < 400 → w.2 (49+2*t) j = v.2 17 (400*t+j)
def Rel (w v : Mem) : Prop := RD w v ∧ RP w v ∧ RH w v ∧ RB w v ∧ RJ w v ∧ RS w v ∧ RF w v ∧ RR w v ∧ RT w v
/-! what leaves a part alone -/
theorem RD_c {w v w' v' : Mem} (h : RD w v) (h1 : ∀ o, o < 45 → w'.1 o = w.1 o) (h3 : v'.1 3 = v.1 3) (h4 : v'.1 4 = v.1 4) (h5 : v'.1 5 = v.1 5) : RD w' v' := by
  intro d hd
  obtain ⟨n, a⟩ := h d hd
  refine ⟨n, ?_⟩
  rw [h1 (3*d) (by omega), h1 (3*d+1) (by omega), h1 (3*d+2) (by omega), h3, h4, h5]
  exact a
theorem RP_c {w v w' v' : Mem} (h : RP w v) (h0 : w'.1 60 = w.1 60) (h1 : w'.1 61 = w.1 61) (h2 : w'.1 62 = w.1 62) (k0 : v'.1 0 1 = v.1 0 1) (k4 : v'.1 0 4 = v.1 0 4) (k1 : v'.1 1 = v.1 1) (k2 : v'.1 2 = v.1 2) : RP w' v' := by
  unfold RP; rw [h0, h1, h2, k0, k4, k1, k2]; exact h
theorem RH_c {w v w' v' : Mem} (h : RH w v) (h0 : w'.1 72 1 = w.1 72 1) (h1 : w'.1 73 = w.1 73) (k0 : v'.1 0 8 = v.1 0 8) (k1 : v'.1 6 = v.1 6) : RH w' v' := by
  unfold RH; rw [h0, h1, k0, k1]; exact h
theorem RB_c {w v w' v' : Mem} (h : RB w v) (h0 : w'.1 75 = w.1 75) (h1 : w'.1 74 = w.1 74) (k0 : v'.1 7 = v.1 7) (k1 : v'.1 0 11 = v.1 0 11) (k2 : v'.1 0 12 = v.1 0 12) (k3 : v'.1 0 13 = v.1 0 13) (k4 : v'.1 0 14 = v.1 0 14) : RB w' v' := by
  unfold RB; rw [h0, h1, k0, k1, k2, k3, k4]; exact h
theorem RJ_c {w v w' v' : Mem} (h : RJ w v) (h0 : w'.1 76 2 = w.1 76 2) (h1 : w'.1 77 = w.1 77) (h2 : w'.1 78 = w.1 78) (k0 : v'.1 0 15 = v.1 0 15) (k1 : v'.1 8 = v.1 8) (k2 : v'.1 9 = v.1 9) : RJ w' v' := by
  unfold RJ; rw [h0, h1, h2, k0, k1, k2]; exact h
theorem RS_c {w v w' v' : Mem} (h : RS w v) (h0 : w'.1 79 = w.1 79) (h1 : w'.1 80 = w.1 80) (h2 : w'.1 81 = w.1 81) (k0 : v'.1 0 18 = v.1 0 18) (k1 : v'.1 10 = v.1 10) (k2 : v'.1 11 = v.1 11) (k3 : v'.1 12 = v.1 12) : RS w' v' := by
  unfold RS; rw [h0, h1, h2, k0, k1, k2, k3]; exact h
theorem RF_c {w v w' v' : Mem} (h : RF w v) (h0 : w'.1 83 2 = w.1 83 2) (h1 : w'.1 84 = w.1 84) (h2 : w'.1 85 = w.1 85) (k0 : v'.1 0 22 = v.1 0 22) (k1 : v'.1 13 = v.1 13) (k2 : v'.1 14 = v.1 14) : RF w' v' := by
  unfold RF; rw [h0, h1, h2, k0, k1, k2]; exact h
theorem RR_c {w v w' v' : Mem} (h : RR w v) (h0 : w'.1 66 12 = w.1 66 12) (k0 : v'.1 0 25 = v.1 0 25) : RR w' v' := by
  unfold RR; rw [h0, k0]; exact h
theorem RT_c {w v w' v' : Mem} (h : RT w v) (h1 : ∀ o, 48 ≤ o → o < 60 → w'.1 o = w.1 o) (h2 : ∀ o, 48 ≤ o → o < 60 → w'.2 o = w.2 o) (k3 : v'.1 3 = v.1 3) (k15 : v'.1 15 = v.1 15) (k16 : v'.1 16 = v.1 16) (k17 : v'.2 17 = v.2 17) : RT w' v' := by
  intro t ht
  have a := h t ht
  rw [h1 (48+2*t) (by omega) (by omega), h2 (49+2*t) (by omega) (by omega), k3, k15, k16, k17]
  exact a
/-! the calls that need no more than their text -/
theorem step_13 {w v : Mem} (h : Rel w v) : ∃ r w' v', f_X10_sideless w = some (r, w') ∧ f_X11_sideless v = some (r, v') ∧ Rel w' v' := by
  obtain ⟨hD, hP, ⟨n, hn, h1, h2, h3⟩, hB, hJ, hS, hF, hR, hT⟩ := h
  refine ⟨nI n, mS w 72 1 0, mS v 0 8 0, by simp only [f_X10_sideless, lt, h1], by simp only [f_X11_sideless, lt, h2], ?_, ?_, ?_, ?_, ?_, ?_, ?_, ?_, ?_⟩
  · exact RD_c hD (fun o ho => mS_o (by omega)) (mS_o (by omega)) (mS_o (by omega)) (mS_o (by omega))
  · exact RP_c hP (mS_o (by omega)) (mS_o (by omega)) (mS_o (by omega)) (mS_nj (by omega)) (mS_nj (by omega)) (mS_o (by omega)) (mS_o (by omega))
  · exact ⟨0, by omega, mS_eq, mS_eq, fun j hj => by omega⟩
  · exact RB_c hB (mS_o (by omega)) (mS_o (by omega)) (mS_o (by omega)) (mS_nj (by omega)) (mS_nj (by omega)) (mS_nj (by omega)) (mS_nj (by omega))
  · exact RJ_c hJ (mS_ne (by omega)) (mS_o (by omega)) (mS_o (by omega)) (mS_nj (by omega)) (mS_o (by omega)) (mS_o (by omega))
  · exact RS_c hS (mS_o (by omega)) (mS_o (by omega)) (mS_o (by omega)) (mS_nj (by omega)) (mS_o (by omega)) (mS_o (by omega)) (mS_o (by omega))
  · exact RF_c hF (mS_ne (by omega)) (mS_o (by omega)) (mS_o (by omega)) (mS_nj (by omega)) (mS_o (by omega)) (mS_o (by omega))
  · exact RR_c hR (mS_ne (by omega)) (mS_nj (by omega))
  · exact RT_c hT (fun o _ _ => mS_o (by omega)) (fun o _ _ => rfl) (mS_o (by omega)) (mS_o (by omega)) (mS_o (by omega)) rfl
