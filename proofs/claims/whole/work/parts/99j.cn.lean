/-! ===== the two layouts at the law's start (99j) ===== -/
def adO (ad : Nat → Nat) (q : Nat) : Nat → Nat := fun o => if o = 88 then q else ad o
theorem adO_n {ad : Nat → Nat} {q o : Nat} (h : o ≠ 88) : adO ad q o = ad o := if_neg h
theorem adO_s {ad : Nat → Nat} {q : Nat} : adO ad q 88 = q := if_pos rfl
theorem eC_ad {ad : Nat → Nat} {q : Nat} {cI cL cD cT : ClassId} {w : Mem} {o : Nat} (h : o < 88) (h71 : o ≠ 71) : eC (adO ad q) cI cL cD cT w o = eC ad cI cL cD cT w o := by
  by_cases a : o < 48
  · unfold eC
    rw [if_pos a, if_pos a]
    by_cases c : o % 3 = 0
    · rw [if_pos c, if_pos c, adO_n (by omega), adO_n (by omega)]
    · rw [if_neg c, if_neg c]
  by_cases a1 : o < 60
  · unfold eC
    rw [if_neg a, if_neg a, if_pos a1, if_pos a1]
    by_cases c : o % 2 = 0
    · rw [if_pos c, if_pos c, adO_n (by omega), adO_n (by omega)]
    · rw [if_neg c, if_neg c]
  by_cases a2 : o < 66
  · unfold eC
    rw [if_neg a, if_neg a, if_neg a1, if_neg a1, if_pos a2, if_pos a2]
    by_cases c : o % 3 = 0
    · rw [if_pos c, if_pos c, adO_n (by omega), adO_n (by omega)]
    · rw [if_neg c, if_neg c]
  by_cases a3 : o = 70
  · subst a3
    rw [eC_70, eC_70]
    have : (fun j => some (adO ad q (3 * j))) = fun j => some (ad (3 * j)) := by
      funext j; rw [adO_n (by omega)]
    rw [this]
  rcases (show o = 66 ∨ o = 67 ∨ o = 68 ∨ o = 69 ∨ o = 72 ∨ o = 73 ∨ o = 74 ∨ o = 75 ∨ o = 76 ∨ o = 77 ∨ o = 78 ∨ o = 79 ∨ o = 80 ∨ o = 81 ∨ o = 82 ∨ o = 83 ∨ o = 84 ∨ o = 85 ∨ o = 86 ∨ o = 87 by omega) with rfl | rfl | rfl | rfl | rfl | rfl | rfl | rfl | rfl | rfl | rfl | rfl | rfl | rfl | rfl | rfl | rfl | rfl | rfl | rfl <;> rfl
theorem eC_iz {ad : Nat → Nat} {cI cL cD cT : ClassId} {w w' : Mem} {o : Nat} (h1 : w.1 o = w'.1 o) (h2 : w.2 o = w'.2 o) : eC ad cI cL cD cT w o = eC ad cI cL cD cT w' o := by
  unfold eC
  split
  · rw [h1]
  split
  · rw [h1, h2]
  split
  · rw [h1]
  split <;> simp only [h1, h2]
theorem eM_iz {ad : Nat → Nat} {cI cL : ClassId} {w w' : Mem} {o : Nat} (h1 : w.1 o = w'.1 o) (h2 : w.2 o = w'.2 o) : eM ad cI cL w o = eM ad cI cL w' o := by
  unfold eM
  split <;> simp only [h1, h2]
/-- the reference's memory at its start -/
def W0M : Mem := (fun o j => if o = 0 then (if j = 11 then 20 else if j = 12 then 20 else if j = 13 then 100000 else if j = 14 then 5000 else 0) else if o = 7 then upd (upd (fun _ => 0) 0 4) 1 0 j else 0, fun _ _ => 0)
set_option maxHeartbeats 4000000 in
set_option maxRecDepth 100000 in
theorem oM_e (cI cL : ClassId) (h0 : Nat) (u : Nat × Nat × Nat × Nat × Nat × Nat × Nat × Nat × Nat × Nat × Nat × Nat × Nat × Nat × Nat × Nat × Nat × Nat × Nat × Nat × Nat × Nat × Nat × Nat × Nat × Nat) : ∃ ad : Nat → Nat, ad 0 = h0 ∧ oX11 cI cL h0 u.1 u.2.1 u.2.2.1 u.2.2.2.1 u.2.2.2.2.1 u.2.2.2.2.2.1 u.2.2.2.2.2.2.1 u.2.2.2.2.2.2.2.1 u.2.2.2.2.2.2.2.2.1 u.2.2.2.2.2.2.2.2.2.1 u.2.2.2.2.2.2.2.2.2.2.1 u.2.2.2.2.2.2.2.2.2.2.2.1 u.2.2.2.2.2.2.2.2.2.2.2.2.1 u.2.2.2.2.2.2.2.2.2.2.2.2.2.1 u.2.2.2.2.2.2.2.2.2.2.2.2.2.2.1 u.2.2.2.2.2.2.2.2.2.2.2.2.2.2.2.1 u.2.2.2.2.2.2.2.2.2.2.2.2.2.2.2.2.1 u.2.2.2.2.2.2.2.2.2.2.2.2.2.2.2.2.2.1 u.2.2.2.2.2.2.2.2.2.2.2.2.2.2.2.2.2.2.1 u.2.2.2.2.2.2.2.2.2.2.2.2.2.2.2.2.2.2.2.1 u.2.2.2.2.2.2.2.2.2.2.2.2.2.2.2.2.2.2.2.2.1 u.2.2.2.2.2.2.2.2.2.2.2.2.2.2.2.2.2.2.2.2.2.1 u.2.2.2.2.2.2.2.2.2.2.2.2.2.2.2.2.2.2.2.2.2.2.1 u.2.2.2.2.2.2.2.2.2.2.2.2.2.2.2.2.2.2.2.2.2.2.2.1 u.2.2.2.2.2.2.2.2.2.2.2.2.2.2.2.2.2.2.2.2.2.2.2.2.1 u.2.2.2.2.2.2.2.2.2.2.2.2.2.2.2.2.2.2.2.2.2.2.2.2.2 = (List.range 27).map (fun o => (ad o, eM ad cI cL W0M o)) := ⟨fun o => [h0, u.1, u.2.1, u.2.2.1, u.2.2.2.1, u.2.2.2.2.1, u.2.2.2.2.2.1, u.2.2.2.2.2.2.1, u.2.2.2.2.2.2.2.1, u.2.2.2.2.2.2.2.2.1, u.2.2.2.2.2.2.2.2.2.1, u.2.2.2.2.2.2.2.2.2.2.1, u.2.2.2.2.2.2.2.2.2.2.2.1, u.2.2.2.2.2.2.2.2.2.2.2.2.1, u.2.2.2.2.2.2.2.2.2.2.2.2.2.1, u.2.2.2.2.2.2.2.2.2.2.2.2.2.2.1, u.2.2.2.2.2.2.2.2.2.2.2.2.2.2.2.1, u.2.2.2.2.2.2.2.2.2.2.2.2.2.2.2.2.1, u.2.2.2.2.2.2.2.2.2.2.2.2.2.2.2.2.2.1, u.2.2.2.2.2.2.2.2.2.2.2.2.2.2.2.2.2.2.1, u.2.2.2.2.2.2.2.2.2.2.2.2.2.2.2.2.2.2.2.1, u.2.2.2.2.2.2.2.2.2.2.2.2.2.2.2.2.2.2.2.2.1, u.2.2.2.2.2.2.2.2.2.2.2.2.2.2.2.2.2.2.2.2.2.1, u.2.2.2.2.2.2.2.2.2.2.2.2.2.2.2.2.2.2.2.2.2.2.1, u.2.2.2.2.2.2.2.2.2.2.2.2.2.2.2.2.2.2.2.2.2.2.2.1, u.2.2.2.2.2.2.2.2.2.2.2.2.2.2.2.2.2.2.2.2.2.2.2.2.1, u.2.2.2.2.2.2.2.2.2.2.2.2.2.2.2.2.2.2.2.2.2.2.2.2.2].getD o 0, rfl, rfl⟩
