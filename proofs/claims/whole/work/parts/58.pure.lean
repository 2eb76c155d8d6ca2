/-! ===== 8 makes (58: by wip/gen/p58.txt and fr.py) ===== -/
theorem mkC_s {w v : Mem} {n N k j m : Nat} {px py : Nat → Int32} {ad y b : Int32} (hp : PT w v n px py ad) (hN : N ≤ 48) (eN : w.1 42 2 = nI N) (hj : j < N) (hk : k ≤ n) : f_X1_firstMissed_L15 w 14 0 (m + 1) (nI k) y b (nI j) = if k < n ∧ w.1 43 j = px k ∧ y + w.1 44 j = py k then f_X1_firstMissed_L15 w 14 0 m (nI (k + 1)) (y + w.1 44 j) 1 (nI (j + 1)) else f_X1_firstMissed_L15 w 14 0 m (nI k) (y + w.1 44 j) 0 (nI (j + 1)) := by
  obtain ⟨e1, e2, e3, e4, hn, h1, h2⟩ := hp
  have e1' : w.1 (60+3*0) 2 = nI n := e1
  have eN' : w.1 (3*14) 2 = nI N := eN
  rw [f_X1_firstMissed_L15_s, eN', if_neg (by rw [nI_leI (by omega) (by omega)]; omega), gd_t (inb_nI (by omega) (by omega)), e1']
  simp only [lt_e]
  rw [nI_clamp (n := j) (by omega), nI_1, nI_1]
  by_cases c : k < n
  · obtain ⟨f1, f2, f3, f4, f5, f6⟩ := h2 k c
    have f1' : w.1 (61+3*0) k = px k := f1
    have f3' : w.1 (62+3*0) k = py k := f3
    rw [if_neg (by rw [nI_leI (by omega) (by omega)]; omega), gd_t (inb_nI (by omega) (by omega)), nI_clamp (n := k) (by omega), f1', f3']
    show (if (if w.1 43 j = px k then (if y + w.1 44 j = py k then (1 : Int32) else 0) else 0) = 0 then f_X1_firstMissed_L15 w 14 0 m (nI k) (y + w.1 44 j) (if w.1 43 j = px k then (if y + w.1 44 j = py k then (1 : Int32) else 0) else 0) (nI (j + 1)) else f_X1_firstMissed_L15 w 14 0 m (nI (k + 1)) (y + w.1 44 j) (if w.1 43 j = px k then (if y + w.1 44 j = py k then (1 : Int32) else 0) else 0) (nI (j + 1))) = _
    by_cases d1 : w.1 43 j = px k
    · by_cases d2 : y + w.1 44 j = py k
      · rw [if_pos d1, if_pos d2, if_neg one_ne, if_pos ⟨c, d1, d2⟩]
      · rw [if_pos d1, if_neg d2, if_pos rfl, if_neg (fun q => d2 q.2.2)]
    · rw [if_neg d1, if_pos rfl, if_neg (fun q => d1 q.2.1)]
  · rw [if_pos (by rw [nI_leI (by omega) (by omega)]; omega), if_pos trivial, if_neg (fun q => c q.1)]
theorem mkM_s {w v : Mem} {n N k j m : Nat} {px py : Nat → Int32} {ad y : Int32} (hp : PT w v n px py ad) (hN : N ≤ 48) (hj : j < N) (hk : k ≤ n) : f_X11_makes_L40 v (nI N) (m + 1) (nI k) y (nI j) = if k < n ∧ v.1 4 (672 + j) = px k ∧ y + v.1 5 (672 + j) = py k then f_X11_makes_L40 v (nI N) m (nI (k + 1)) (y + v.1 5 (672 + j)) (nI (j + 1)) else if k = n ∧ j + 1 = N ∧ v.1 4 (672 + j) = px 0 ∧ y + v.1 5 (672 + j) = py 0 + ad then some (.inl 9999) else f_X11_makes_L40 v (nI N) m (nI k) (y + v.1 5 (672 + j)) (nI (j + 1)) := by
  obtain ⟨e1, e2, e3, e4, hn, h1, h2⟩ := hp
  obtain ⟨a1, a2, a3, a4, a5, a6⟩ := h2 0 (by omega)
  rw [f_X11_makes_L40_s, if_neg (by rw [nI_leI (by omega) (by omega)]; omega)]
  simp only [lt_e]
  rw [i672, gd_t (inb_nI (by omega) (by omega)), nI_clamp (n := 672 + j) (by omega), e2, z0, a2, a4, e4, nI_1, nI_1, nI_pr (by omega)]
  have tail : (if nI k = nI n then
          (if nI j = nI (N - 1) then
            if v.1 4 (672 + j) = px 0 then
              if y + v.1 5 (672 + j) = py 0 + ad then
                (some (.inl 9999))
              else
                f_X11_makes_L40 v (nI N) m (nI k) (y + v.1 5 (672 + j)) (nI (j + 1))
            else
              f_X11_makes_L40 v (nI N) m (nI k) (y + v.1 5 (672 + j)) (nI (j + 1))
          else
            f_X11_makes_L40 v (nI N) m (nI k) (y + v.1 5 (672 + j)) (nI (j + 1)))
        else
          f_X11_makes_L40 v (nI N) m (nI k) (y + v.1 5 (672 + j)) (nI (j + 1))) = if k = n ∧ j + 1 = N ∧ v.1 4 (672 + j) = px 0 ∧ y + v.1 5 (672 + j) = py 0 + ad then some (.inl 9999) else f_X11_makes_L40 v (nI N) m (nI k) (y + v.1 5 (672 + j)) (nI (j + 1)) := by
    by_cases d1 : k = n
    · rw [if_pos (by rw [d1])]
      by_cases d2 : j + 1 = N
      · rw [if_pos (by rw [show j = N - 1 by omega])]
        by_cases d3 : v.1 4 (672 + j) = px 0
        · rw [if_pos d3]
          by_cases d4 : y + v.1 5 (672 + j) = py 0 + ad
          · rw [if_pos d4, if_pos ⟨d1, d2, d3, d4⟩]
          · rw [if_neg d4, if_neg (fun q => d4 q.2.2.2)]
        · rw [if_neg d3, if_neg (fun q => d3 q.2.2.1)]
      · rw [if_neg (by rw [nI_eq (by omega) (by omega)]; omega), if_neg (fun q => d2 q.2.1)]
    · rw [if_neg (by rw [nI_eq (by omega) (by omega)]; omega), if_neg (fun q => d1 q.1)]
  by_cases c : k < n
  · obtain ⟨f1, f2, f3, f4, f5, f6⟩ := h2 k c
    rw [if_neg (by rw [nI_leI (by omega) (by omega)]; omega), gd_t (inb_nI (by omega) (by omega)), nI_clamp (n := k) (by omega), f2, f4, tail]
    by_cases d1 : v.1 4 (672 + j) = px k
    · by_cases d2 : y + v.1 5 (672 + j) = py k
      · rw [if_pos d1, if_pos d2, if_pos ⟨c, d1, d2⟩]
      · rw [if_pos d1, if_neg d2, if_neg (show ¬ (k < n ∧ v.1 4 (672 + j) = px k ∧ y + v.1 5 (672 + j) = py k) from fun q => d2 q.2.2)]
    · rw [if_neg d1, if_neg (show ¬ (k < n ∧ v.1 4 (672 + j) = px k ∧ y + v.1 5 (672 + j) = py k) from fun q => d1 q.2.1)]
  · rw [if_pos (by rw [nI_leI (by omega) (by omega)]; omega), tail, if_neg (show ¬ (k < n ∧ v.1 4 (672 + j) = px k ∧ y + v.1 5 (672 + j) = py k) from fun q => c q.1)]
theorem makes_L {w v : Mem} {n N : Nat} {px py : Nat → Int32} {ad : Int32} (hp : PT w v n px py ad) (hN : 1 ≤ N ∧ N ≤ 48) (eN : w.1 42 2 = nI N) (eR : ∀ j, j < N → w.1 43 j = v.1 4 (672+j) ∧ w.1 44 j = v.1 5 (672+j)) : ∀ (q j k m m' : Nat) (y b : Int32), j + q + 1 = N → q + 1 < m → q + 1 < m' → k ≤ n → ∃ (k' : Nat) (y' b' : Int32), k' ≤ n ∧ f_X1_firstMissed_L15 w 14 0 m (nI k) y b (nI j) = some (nI k', y', b') ∧ f_X11_makes_L40 v (nI N) m' (nI k) y (nI j) = some (if k' = n ∧ b' = 0 ∧ w.1 43 (N - 1) = px 0 ∧ y' = py 0 + ad then .inl 9999 else .inr (nI k')) ∧ (b' = 0 ∨ b' = 1) := by
  intro q
  induction q with
  | zero =>
    intro j k m m' y b hj k1 k2 hk
    obtain ⟨m, rfl⟩ : ∃ q, m = q + 2 := ⟨m - 2, by omega⟩
    obtain ⟨m', rfl⟩ : ∃ q, m' = q + 2 := ⟨m' - 2, by omega⟩
    obtain ⟨r1, r2⟩ := eR j (by omega)
    have eN' : w.1 (3*14) 2 = nI N := eN
    have endC : ∀ (k : Nat) (y b : Int32), f_X1_firstMissed_L15 w 14 0 (m + 1) (nI k) y b (nI (j + 1)) = some (nI k, y, b) := fun k y b => by
      rw [f_X1_firstMissed_L15_s, eN', if_pos (by rw [nI_leI (by omega) (by omega)]; omega)]
    have endM : ∀ (k : Nat) (y : Int32), f_X11_makes_L40 v (nI N) (m' + 1) (nI k) y (nI (j + 1)) = some (.inr (nI k)) := fun k y => by
      rw [f_X11_makes_L40_s, if_pos (by rw [nI_leI (by omega) (by omega)]; omega)]
    rw [mkC_s (m := m + 1) hp hN.2 eN (by omega) hk, mkM_s (m := m' + 1) hp hN.2 (by omega) hk, ← r1, ← r2]
    by_cases c : k < n ∧ w.1 43 j = px k ∧ y + w.1 44 j = py k
    · rw [if_pos c, if_pos c, endC, endM]
      refine ⟨k + 1, _, 1, by omega, rfl, ?_, Or.inr rfl⟩
      rw [if_neg (fun z => one_ne z.2.1)]
    · rw [if_neg c, if_neg c, endC, endM]
      refine ⟨k, _, 0, hk, rfl, ?_, Or.inl rfl⟩
      rw [show N - 1 = j by omega]
      by_cases d : k = n ∧ j + 1 = N ∧ w.1 43 j = px 0 ∧ y + w.1 44 j = py 0 + ad
      · rw [if_pos d, if_pos ⟨d.1, rfl, d.2.2⟩]
      · rw [if_neg d, if_neg (fun z => d ⟨z.1, by omega, z.2.2⟩)]
  | succ q ih =>
    intro j k m m' y b hj k1 k2 hk
    obtain ⟨m, rfl⟩ : ∃ q, m = q + 1 := ⟨m - 1, by omega⟩
    obtain ⟨m', rfl⟩ : ∃ q, m' = q + 1 := ⟨m' - 1, by omega⟩
    obtain ⟨r1, r2⟩ := eR j (by omega)
    rw [mkC_s (m := m) hp hN.2 eN (by omega) hk, mkM_s (m := m') hp hN.2 (by omega) hk, ← r1, ← r2]
    by_cases c : k < n ∧ w.1 43 j = px k ∧ y + w.1 44 j = py k
    · rw [if_pos c, if_pos c]
      exact ih (j + 1) (k + 1) m m' _ 1 (by omega) (by omega) (by omega) (by omega)
    · rw [if_neg c, if_neg c, if_neg (fun z => absurd z.2.1 (by omega))]
      exact ih (j + 1) k m m' _ 0 (by omega) (by omega) (by omega) hk
theorem step_8 {w v : Mem} (h : Rel w v) : ∃ r, f_X10_makes w = some r ∧ f_X11_makes v = some r := by
  obtain ⟨hD, hP, hH, hB, hJ, hS, hF, hR, hT⟩ := h
  unfold f_X10_makes f_X11_makes
  by_cases n0 : v.1 0 1 = 0
  · obtain ⟨n, hn, e1, e2, _⟩ := hP
    rw [if_pos n0, if_pos (show w.1 (60+3*0) 2 = 0 by rw [← n0, e2]; exact e1)]
    exact ⟨-3, rfl, rfl⟩
  obtain ⟨n, hp⟩ := PT_of hP n0
  have e1' : w.1 (60+3*0) 2 = nI n := hp.1
  have n0' : ¬ w.1 (60+3*0) 2 = 0 := by rw [e1']; rw [hp.2.1] at n0; exact n0
  have hn := hp.2.2.2.2.1
  obtain ⟨N, hN, d1, d2, d3⟩ := hD 14 (by omega)
  rw [if_neg n0, if_neg n0', gd_t g14, z14, d1, d2]
  simp only [lt_e]
  by_cases N0 : N = 0
  · subst N0
    rw [if_pos (show nI 0 = 0 by decide), if_pos (show nI 0 = 0 by decide)]
    exact ⟨-3, rfl, rfl⟩
  have nn : ¬ nI N = 0 := nz (n := N) (by omega) (by omega)
  rw [if_neg nn, if_neg nn]
  unfold f_X1_firstMissed f_X1_needle
  simp only [lt_e]
  obtain ⟨a1, a2, a3, a4, a5, a6⟩ := hp.2.2.2.2.2.2 0 (by omega)
  have a1' : w.1 (61+3*0) 0 = v.1 1 0 := a1
  have a3' : w.1 (62+3*0) 0 = v.1 2 0 := a3
  have e3' : w.1 (60+3*0) 3 = v.1 0 4 := hp.2.2.1
  obtain ⟨k', y', b', q1, q2, q3, q4⟩ := makes_L (N := N) hp (by omega) d1 (fun j hj => ⟨(d3 j hj).1, (d3 j hj).2.1⟩) (N - 1) 0 1 FU FU (v.1 2 0) 0 (by omega) (by unfold FU; omega) (by unfold FU; omega) (by omega)
  rw [gd_t g24, gd_t g24, z0, a3', a1', e1', e3', show f_X1_firstMissed_L15 w 14 0 FU 1 (v.1 2 0) 0 0 = f_X1_firstMissed_L15 w 14 0 FU (nI 1) (v.1 2 0) 0 (nI 0) from rfl, q2, show f_X11_makes_L40 v (nI N) FU 1 (v.1 2 0) 0 = f_X11_makes_L40 v (nI N) FU (nI 1) (v.1 2 0) (nI 0) from rfl, q3, bd_s, bd_s]
  simp only [tp3]
  have kn : ∀ a b : Nat, a ≤ 24 → b ≤ 25 → (nI b ≤ nI a ↔ b ≤ a) := fun a b p q => nI_leI (by omega) (by omega)
  by_cases c : k' < n
  · rw [if_pos (by rw [nI_ltI (by omega) (by omega)]; exact c), bd_s, if_pos (by rw [kn n k' (by omega) (by omega)]; omega), if_neg (fun z => absurd z.1 (by omega))]
    exact ⟨_, rfl, rfl⟩
  obtain rfl : k' = n := by omega
  rw [if_neg (by rw [nI_ltI (by omega) (by omega)]; omega)]
  have lw : ¬ nI (k' + 1) ≤ nI k' := by rw [kn k' (k' + 1) (by omega) (by omega)]; omega
  have lr : nI k' ≤ nI k' := by rw [kn k' k' (by omega) (by omega)]; omega
  have nd : 1 ≤ N := by omega
  have sw : w.1 43 (N - 1) = w.1 (3*14+1) (N - 1) := rfl
  rcases q4 with b0 | b1
  · subst b0
    rw [if_pos rfl, d1]
    simp only [nI_pr (show 0 < N by omega), nI_clamp (show N - 1 < 2147483648 by omega)]
    by_cases e : w.1 43 (N - 1) = v.1 1 0
    · by_cases f : y' = v.1 2 0 + v.1 0 4
      · refine ⟨9999, ?_, by rw [if_pos ⟨trivial, trivial, e, f⟩]; rfl⟩
        rw [sw] at e
        rw [if_neg (show ¬ nI N ≤ 0 by rw [show (0 : Int32) = nI 0 from rfl, nI_leI (by omega) (by omega)]; omega), gd_t (inb_nI (by omega) (by omega)), bd_s, bd_s, if_pos e, if_pos f, if_neg one_ne, nI_1, if_neg lw]
      · refine ⟨nI k', ?_, by rw [if_neg (fun z => f z.2.2.2)]; rfl⟩
        rw [sw] at e
        rw [if_neg (show ¬ nI N ≤ 0 by rw [show (0 : Int32) = nI 0 from rfl, nI_leI (by omega) (by omega)]; omega), gd_t (inb_nI (by omega) (by omega)), bd_s, bd_s, if_pos e, if_neg f, if_pos rfl, if_pos lr]
    · refine ⟨nI k', ?_, by rw [if_neg (fun z => e z.2.2.1)]; rfl⟩
      rw [sw] at e
      rw [if_neg (show ¬ nI N ≤ 0 by rw [show (0 : Int32) = nI 0 from rfl, nI_leI (by omega) (by omega)]; omega), gd_t (inb_nI (by omega) (by omega)), bd_s, bd_s, if_neg e, if_pos rfl, if_pos lr]
  · subst b1
    rw [if_neg one_ne, bd_s, if_pos lr, if_neg (fun z => one_ne z.2.1)]
    exact ⟨_, rfl, rfl⟩
