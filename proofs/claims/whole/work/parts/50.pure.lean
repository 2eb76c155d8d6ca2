/-! ===== the hem measured (50: by wip/gen/p50.txt and fr.py) ===== -/
theorem can_e {w v : Mem} (hD : RD w v) {r : Int32} (e : f_X11_lengthOf 14 v = some r) (hr : v.1 3 14 = 0 → r = 0) : f_X11_canHem v = some (if r.toInt ≤ 0 then 0 else 1) := by
  obtain ⟨n, hn, e1, e2, e3⟩ := hD 14 (by omega)
  have e4 := nI_toInt (n := n) (by omega)
  have z14 : (14 : Int32).toNatClampNeg = 14 := rfl
  unfold f_X11_canHem
  rw [gd_t (show inb 14 15 = true by decide), z14, lt_e, e2]
  by_cases n0 : n = 0
  · subst n0
    rw [if_pos (show nI 0 ≤ 0 by decide), hr e2, if_pos (by decide)]
  rw [if_neg (show ¬ nI n ≤ 0 by rw [i_le, e4]; simp; omega), e, bd_s, lt_e]
  by_cases c : r.toInt ≤ 0
  · rw [if_pos (show r ≤ 0 by rw [i_le]; simpa using c), if_pos c]; rfl
  · rw [if_neg (show ¬ r ≤ 0 by rw [i_le]; simpa using c), if_neg c]; rfl
