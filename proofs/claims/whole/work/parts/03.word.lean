/-! ===== the memory: what the ints and the longs of numbered objects hold; a layout says what each object is ===== -/
abbrev Mem : Type := (Nat → Nat → Int32) × (Nat → Nat → Int64)
def up2 {α : Type} (f : Nat → Nat → α) (o j : Nat) (v : α) : Nat → Nat → α := fun a b => if a = o ∧ b = j then v else f a b
def mS (w : Mem) (o j : Nat) (v : Int32) : Mem := (up2 w.1 o j v, w.2)
def mL (w : Mem) (o j : Nat) (v : Int64) : Mem := (w.1, up2 w.2 o j v)
def mC (w : Mem) (a b sp dp n : Nat) : Mem := (fun o => if o = b then va_cpy (w.1 a) (w.1 b) sp dp n else w.1 o, w.2)
def mD (w : Mem) (a b sp dp n : Nat) : Mem := (w.1, fun o => if o = b then va_cpy (w.2 a) (w.2 b) sp dp n else w.2 o)
theorem mS_o {w : Mem} {o j o' : Nat} {v : Int32} (h : o' ≠ o) : (mS w o j v).1 o' = w.1 o' := by
  funext b; simp [mS, up2, h]
theorem mS_s {w : Mem} {o j : Nat} {v : Int32} : (mS w o j v).1 o = upd (w.1 o) j v := by
  funext b; simp [mS, up2, upd]
theorem mS_2 {w : Mem} {o j : Nat} {v : Int32} : (mS w o j v).2 = w.2 := rfl
theorem mL_o {w : Mem} {o j o' : Nat} {v : Int64} (h : o' ≠ o) : (mL w o j v).2 o' = w.2 o' := by
  funext b; simp [mL, up2, h]
theorem mL_s {w : Mem} {o j : Nat} {v : Int64} : (mL w o j v).2 o = vp_updL (w.2 o) j v := by
  funext b; simp [mL, up2, vp_updL]
theorem mL_1 {w : Mem} {o j : Nat} {v : Int64} : (mL w o j v).1 = w.1 := rfl
theorem mC_o {w : Mem} {a b sp dp n o' : Nat} (h : o' ≠ b) : (mC w a b sp dp n).1 o' = w.1 o' := by simp [mC, h]
theorem mC_s {w : Mem} {a b sp dp n : Nat} : (mC w a b sp dp n).1 b = va_cpy (w.1 a) (w.1 b) sp dp n := by simp [mC]
theorem mC_2 {w : Mem} {a b sp dp n : Nat} : (mC w a b sp dp n).2 = w.2 := rfl
theorem mD_o {w : Mem} {a b sp dp n o' : Nat} (h : o' ≠ b) : (mD w a b sp dp n).2 o' = w.2 o' := by simp [mD, h]
theorem mD_s {w : Mem} {a b sp dp n : Nat} : (mD w a b sp dp n).2 b = va_cpy (w.2 a) (w.2 b) sp dp n := by simp [mD]
theorem mD_1 {w : Mem} {a b sp dp n : Nat} : (mD w a b sp dp n).1 = w.1 := rfl
/-! the words of the functional programs: a name, a guard, a call -/
def lt {α β : Type} (e : α) (K : α → β) : β := K e
def gd {α : Type} (c : Prop) [Decidable c] (A : Option α) : Option α := if c then A else none
def bd {α β : Type} (o : Option α) (K : α → Option β) : Option β := match o with
  | none => none
  | some x => K x
def b2 {α γ β : Type} (o : Option (α × γ)) (K : α → γ → Option β) : Option β := match o with
  | none => none
  | some x => K x.1 x.2
def inb (i : Int32) (n : Nat) : Bool := decide (¬ i < 0) && decide (i.toNatClampNeg < n)
def FU : Nat := 2000000
theorem inb_vp {i : Int32} {n : Nat} (h : inb i n = true) : vp_in i n := by
  simp only [inb, Bool.and_eq_true, decide_eq_true_eq] at h
  rintro (q | q)
  · exact h.1 q
  · omega
theorem vp_inb {i : Int32} {n : Nat} (h : vp_in i n) : inb i n = true := by
  simp only [inb, Bool.and_eq_true, decide_eq_true_eq]
  exact ⟨fun q => h (Or.inl q), Nat.not_le.mp fun q => h (Or.inr q)⟩
theorem inb_lt {i : Int32} {n : Nat} (h : inb i n = true) : i.toNatClampNeg < n := by
  simp only [inb, Bool.and_eq_true, decide_eq_true_eq] at h
  exact h.2
theorem of_lt {α β : Type} {K : α → β} {e x : α} {r : β} (h : x = e) (hf : lt e K = r) : K x = r := by subst h; exact hf
theorem of_gd {α : Type} {c : Prop} [Decidable c] {A : Option α} {r : α} (hf : gd c A = some r) : c ∧ A = some r := by
  unfold gd at hf
  split at hf
  · exact ⟨by assumption, hf⟩
  · cases hf
theorem of_bd {α β : Type} {o : Option α} {K : α → Option β} {r : β} (hf : bd o K = some r) : ∃ x, o = some x ∧ K x = some r := by
  cases o with
  | none => cases hf
  | some x => exact ⟨x, rfl, hf⟩
theorem of_b2 {α γ β : Type} {o : Option (α × γ)} {K : α → γ → Option β} {r : β} (hf : b2 o K = some r) : ∃ x y, o = some (x, y) ∧ K x y = some r := by
  cases o with
  | none => cases hf
  | some x => exact ⟨x.1, x.2, rfl, hf⟩
theorem of_t {α : Type} {c : Prop} [Decidable c] {A B r : α} (h : c) (hf : (if c then A else B) = r) : A = r := by rw [if_pos h] at hf; exact hf
theorem of_f {α : Type} {c : Prop} [Decidable c] {A B r : α} (h : ¬ c) (hf : (if c then A else B) = r) : B = r := by rw [if_neg h] at hf; exact hf
theorem gd_t {α : Type} {c : Prop} [Decidable c] {A : Option α} (h : c) : gd c A = A := if_pos h
theorem bd_s {α β : Type} {x : α} {K : α → Option β} : bd (some x) K = K x := rfl
theorem b2_s {α γ β : Type} {x : α} {y : γ} {K : α → γ → Option β} : b2 (some (x, y)) K = K x y := rfl
def tp2 {t0 t1 δ : Type} (x : t0 × t1) (K : t0 → t1 → δ) : δ := K x.1 x.2
theorem of_tp2 {t0 t1 δ : Type} {a0 : t0} {a1 : t1} {K : t0 → t1 → δ} {r : δ} (h : tp2 (a0, a1) K = r) : K a0 a1 = r := h
def tp3 {t0 t1 t2 δ : Type} (x : t0 × t1 × t2) (K : t0 → t1 → t2 → δ) : δ := K x.1 x.2.1 x.2.2
theorem of_tp3 {t0 t1 t2 δ : Type} {a0 : t0} {a1 : t1} {a2 : t2} {K : t0 → t1 → t2 → δ} {r : δ} (h : tp3 (a0, a1, a2) K = r) : K a0 a1 a2 = r := h
def tp4 {t0 t1 t2 t3 δ : Type} (x : t0 × t1 × t2 × t3) (K : t0 → t1 → t2 → t3 → δ) : δ := K x.1 x.2.1 x.2.2.1 x.2.2.2
theorem of_tp4 {t0 t1 t2 t3 δ : Type} {a0 : t0} {a1 : t1} {a2 : t2} {a3 : t3} {K : t0 → t1 → t2 → t3 → δ} {r : δ} (h : tp4 (a0, a1, a2, a3) K = r) : K a0 a1 a2 a3 = r := h
def tp5 {t0 t1 t2 t3 t4 δ : Type} (x : t0 × t1 × t2 × t3 × t4) (K : t0 → t1 → t2 → t3 → t4 → δ) : δ := K x.1 x.2.1 x.2.2.1 x.2.2.2.1 x.2.2.2.2
theorem of_tp5 {t0 t1 t2 t3 t4 δ : Type} {a0 : t0} {a1 : t1} {a2 : t2} {a3 : t3} {a4 : t4} {K : t0 → t1 → t2 → t3 → t4 → δ} {r : δ} (h : tp5 (a0, a1, a2, a3, a4) K = r) : K a0 a1 a2 a3 a4 = r := h
def tp6 {t0 t1 t2 t3 t4 t5 δ : Type} (x : t0 × t1 × t2 × t3 × t4 × t5) (K : t0 → t1 → t2 → t3 → t4 → t5 → δ) : δ := K x.1 x.2.1 x.2.2.1 x.2.2.2.1 x.2.2.2.2.1 x.2.2.2.2.2
theorem of_tp6 {t0 t1 t2 t3 t4 t5 δ : Type} {a0 : t0} {a1 : t1} {a2 : t2} {a3 : t3} {a4 : t4} {a5 : t5} {K : t0 → t1 → t2 → t3 → t4 → t5 → δ} {r : δ} (h : tp6 (a0, a1, a2, a3, a4, a5) K = r) : K a0 a1 a2 a3 a4 a5 = r := h
def tp7 {t0 t1 t2 t3 t4 t5 t6 δ : Type} (x : t0 × t1 × t2 × t3 × t4 × t5 × t6) (K : t0 → t1 → t2 → t3 → t4 → t5 → t6 → δ) : δ := K x.1 x.2.1 x.2.2.1 x.2.2.2.1 x.2.2.2.2.1 x.2.2.2.2.2.1 x.2.2.2.2.2.2
theorem of_tp7 {t0 t1 t2 t3 t4 t5 t6 δ : Type} {a0 : t0} {a1 : t1} {a2 : t2} {a3 : t3} {a4 : t4} {a5 : t5} {a6 : t6} {K : t0 → t1 → t2 → t3 → t4 → t5 → t6 → δ} {r : δ} (h : tp7 (a0, a1, a2, a3, a4, a5, a6) K = r) : K a0 a1 a2 a3 a4 a5 a6 = r := h
theorem of_j1 {t0 δ : Type} {k e : t0 → δ} (ek : k = e) {a0 : t0} {r : δ} (h : k a0 = r) : e a0 = r := by subst ek; exact h
theorem of_j2 {t0 t1 δ : Type} {k e : t0 → t1 → δ} (ek : k = e) {a0 : t0} {a1 : t1} {r : δ} (h : k a0 a1 = r) : e a0 a1 = r := by subst ek; exact h
theorem of_j3 {t0 t1 t2 δ : Type} {k e : t0 → t1 → t2 → δ} (ek : k = e) {a0 : t0} {a1 : t1} {a2 : t2} {r : δ} (h : k a0 a1 a2 = r) : e a0 a1 a2 = r := by subst ek; exact h
theorem of_j4 {t0 t1 t2 t3 δ : Type} {k e : t0 → t1 → t2 → t3 → δ} (ek : k = e) {a0 : t0} {a1 : t1} {a2 : t2} {a3 : t3} {r : δ} (h : k a0 a1 a2 a3 = r) : e a0 a1 a2 a3 = r := by subst ek; exact h
theorem of_j5 {t0 t1 t2 t3 t4 δ : Type} {k e : t0 → t1 → t2 → t3 → t4 → δ} (ek : k = e) {a0 : t0} {a1 : t1} {a2 : t2} {a3 : t3} {a4 : t4} {r : δ} (h : k a0 a1 a2 a3 a4 = r) : e a0 a1 a2 a3 a4 = r := by subst ek; exact h
theorem of_j6 {t0 t1 t2 t3 t4 t5 δ : Type} {k e : t0 → t1 → t2 → t3 → t4 → t5 → δ} (ek : k = e) {a0 : t0} {a1 : t1} {a2 : t2} {a3 : t3} {a4 : t4} {a5 : t5} {r : δ} (h : k a0 a1 a2 a3 a4 a5 = r) : e a0 a1 a2 a3 a4 a5 = r := by subst ek; exact h
theorem of_j7 {t0 t1 t2 t3 t4 t5 t6 δ : Type} {k e : t0 → t1 → t2 → t3 → t4 → t5 → t6 → δ} (ek : k = e) {a0 : t0} {a1 : t1} {a2 : t2} {a3 : t3} {a4 : t4} {a5 : t5} {a6 : t6} {r : δ} (h : k a0 a1 a2 a3 a4 a5 a6 = r) : e a0 a1 a2 a3 a4 a5 a6 = r := by subst ek; exact h
theorem of_lz {α β : Type} {K : α → β} {e : α} {r : β} (hf : lt e K = r) : ∃ k, k = e ∧ K k = r := ⟨e, rfl, hf⟩
def sm {ρ α δ : Type} (e : Sum ρ α) (R : ρ → δ) (K : α → Option δ) : Option δ := match e with
  | .inl r => some (R r)
  | .inr x => K x
def sn {ρ δ : Type} (e : Sum ρ Unit) (R : ρ → δ) : Option δ := match e with
  | .inl r => some (R r)
  | .inr _ => none
theorem of_sr {ρ α δ : Type} {x : α} {R : ρ → δ} {K : α → Option δ} {r : Option δ} (h : sm (.inr x) R K = r) : K x = r := h
def irm (x y : Int32) : Int32 := x - x / y * y
def imax (x y : Int32) : Int32 := if x < y then y else x
def imin (x y : Int32) : Int32 := if y < x then y else x
def iabs (x : Int32) : Int32 := if 0 ≤ x then x else 0 - x
def bz (v : Int32) : Bool := decide (v = 0) || decide (v = 1)
theorem bz_s {v : Int32} (h : bz v = true) : v = 0 ∨ v = 1 := by
  simpa only [bz, Bool.or_eq_true, decide_eq_true_eq] using h
theorem bz_n {v : Int32} (h : bz v = true) : narrow .boolean (.int v) = .int v := by
  rcases bz_s h with rfl | rfl <;> rfl
theorem p48_1 {d : Nat} (h : d < 16) : 3*d+1 < 48 ∧ ¬ (3*d+1) % 3 = 0 := ⟨by omega, by omega⟩
theorem p48_2 {d : Nat} (h : d < 16) : 3*d+2 < 48 ∧ ¬ (3*d+2) % 3 = 0 := ⟨by omega, by omega⟩
theorem p9_d {d : Nat} (h : d < 6) : 8+d < 16 := by omega
theorem p8_16 {d : Nat} (h : d < 8) : d < 16 := by omega
/-! a layout: the tables' numbers, the addresses, what an object is, how many, the arrays' classes, the nest mates' words -/
def cpk (sp dp n : Int32) (N : Nat) : Bool := decide (¬ sp < 0) && (decide (¬ dp < 0) && (decide (¬ n < 0) && (decide (sp.toNatClampNeg + n.toNatClampNeg ≤ N) && decide (dp.toNatClampNeg + n.toNatClampNeg ≤ N))))
theorem cpk_s {sp dp n : Int32} {N : Nat} (h : cpk sp dp n N = true) : (¬ sp < 0) ∧ (¬ dp < 0) ∧ (¬ n < 0) ∧ sp.toNatClampNeg + n.toNatClampNeg ≤ N ∧ dp.toNatClampNeg + n.toNatClampNeg ≤ N := by
  simpa only [cpk, Bool.and_eq_true, decide_eq_true_eq] using h
