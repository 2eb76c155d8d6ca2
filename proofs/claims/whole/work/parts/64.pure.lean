/-! ===== 30 names, 31 name, 32 wear (64: by wip/gen/p64.txt and fr.py) ===== -/
theorem L18_u (t : Nat) (wear x4 s : Int32) (q : Nat) (W : Mem) : f_X7_find_L18 t wear x4 s (q + 3) 1 W = bd (f_X7_find_L27 t wear x4 s 1 FU 0 W) fun ex => sm ex (fun ret => .inl ret) fun w1 => bd (f_X7_find_L27 t wear x4 s (-1) FU 0 w1) fun ex => sm ex (fun ret => .inl ret) fun w2 => some (.inr w2) := by
  rw [f_X7_find_L18_s, if_neg (by decide)]
  congr 1
theorem L21_u (x1 x2 x3 s : Int32) (q : Nat) (x4 : Int32) (W : Mem) : f_X11_namesOf_L21 x1 x2 x3 s (q + 3) x4 0 W = bd (f_X11_namesOf_L30 x1 x2 x3 s 0 FU x4 0 W) fun ex => tp2 ex fun n1 w1 => bd (f_X11_namesOf_L30 x1 x2 x3 s 1 FU n1 0 w1) fun ex => tp2 ex fun n2 w2 => some (n2, w2) := by
  rw [f_X11_namesOf_L21_s, if_neg (by decide)]
  congr 1
def csN (v : Mem) (t T : Nat) (Ns : Nat → Nat) (wear : Int32) (s : Nat) : Nat := cntN (PB v t T Ns wear 1 s) 0 (Ns s) + cntN (PB v t T Ns wear (-1) s) 0 (Ns s)
theorem refS {w v : Mem} {t T : Nat} {Ns : Nat → Nat} (h : NMH w v t T Ns) {s : Nat} (hs : s < 8) (wear x3 y : Int32) {i : Nat} (hi : x3 = nI i) (hi2 : i < 2147483648) {n : Nat} (hn : i < n) (hn2 : n ≤ 900) : f_X11_namesOf_L21 (nI t) wear x3 (nI s) FU (nI n) 0 (My v y) = some (nI (n + csN v t T Ns wear s), My v y) := by
  have b1 := (h.2.2.2.2.2 s hs).1
  have c1 := cntN_le (PB v t T Ns wear 1 s) (Ns s) 0
  have a := refD h (Or.inl rfl) hs wear x3 y hi hi2 (Ns s) 0 n FU (by omega) (by unfold FU; omega) hn (by omega)
  have b := refD h (Or.inr rfl) hs wear x3 y hi hi2 (Ns s) 0 (n + cntN (PB v t T Ns wear 1 s) 0 (Ns s)) FU (by omega) (by unfold FU; omega) (by omega) (by omega)
  rw [show FU = 1999997 + 3 from rfl, L21_u]
  rw [show f_X11_namesOf_L30 (nI t) wear x3 (nI s) 0 FU (nI n) 0 (My v y) = f_X11_namesOf_L30 (nI t) wear x3 (nI s) (nI (wq 1)) FU (nI n) (nI 0) (My v y) from rfl, a, bd_s, tp2_s]
  rw [show f_X11_namesOf_L30 (nI t) wear x3 (nI s) 1 FU (nI (n + cntN (PB v t T Ns wear 1 s) 0 (Ns s))) 0 (My v y) = f_X11_namesOf_L30 (nI t) wear x3 (nI s) (nI (wq (-1))) FU (nI (n + cntN (PB v t T Ns wear 1 s) 0 (Ns s))) (nI 0) (My v y) from rfl, b, bd_s, tp2_s, Nat.add_assoc]
  rfl
theorem simS {w v : Mem} {t T : Nat} {Ns : Nat → Nat} (h : NMH w v t T Ns) {s : Nat} (hs : s < 8) (wear x4 : Int32) (hx : x4 = -1 ∨ ∃ i : Nat, i < 2147483648 ∧ x4 = nI i) {n : Nat} (hn : n ≤ 800) (hi : ∀ i : Nat, x4 = nI i → i < 2147483648 → n ≤ i) : OUT w v x4 n (csN v t T Ns wear s) (f_X7_find_L18 t wear x4 (nI s) FU 1 (Cn w n)) (f_X11_namesOf_L21 (nI t) wear x4 (nI s) FU (nI n) 0 (My v (-1))) := by
  have b1 := (h.2.2.2.2.2 s hs).1
  have c1 := cntN_le (PB v t T Ns wear 1 s) (Ns s) 0
  have A := simA h (Or.inl rfl) hs wear x4 hx (Ns s) 0 n FU FU (by omega) (by unfold FU; omega) (by unfold FU; omega) (by omega) hi
  rw [show FU = 1999997 + 3 from rfl, L21_u, L18_u]
  rw [show f_X11_namesOf_L30 (nI t) wear x4 (nI s) 0 FU (nI n) 0 (My v (-1)) = f_X11_namesOf_L30 (nI t) wear x4 (nI s) (nI (wq 1)) FU (nI n) (nI 0) (My v (-1)) from rfl, show f_X7_find_L27 t wear x4 (nI s) 1 FU 0 (Cn w n) = f_X7_find_L27 t wear x4 (nI s) (wyI 1) FU (nI 0) (Cn w n) from rfl]
  rcases A with ⟨a1, a2, a3⟩ | ⟨i, c, a1, a2, a3, a4, a5, a6⟩
  · have B := simA h (Or.inr rfl) hs wear x4 hx (Ns s) 0 (n + cntN (PB v t T Ns wear 1 s) 0 (Ns s)) FU FU (by omega) (by unfold FU; omega) (by unfold FU; omega) (by omega) a3
    rw [a1, a2, bd_s, bd_s, tp2_s]
    simp only [sm]
    rw [show f_X11_namesOf_L30 (nI t) wear x4 (nI s) 1 FU (nI (n + cntN (PB v t T Ns wear 1 s) 0 (Ns s))) 0 (My v (-1)) = f_X11_namesOf_L30 (nI t) wear x4 (nI s) (nI (wq (-1))) FU (nI (n + cntN (PB v t T Ns wear 1 s) 0 (Ns s))) (nI 0) (My v (-1)) from rfl, show f_X7_find_L27 t wear x4 (nI s) (-1) FU 0 (Cn w (n + cntN (PB v t T Ns wear 1 s) 0 (Ns s))) = f_X7_find_L27 t wear x4 (nI s) (wyI (-1)) FU (nI 0) (Cn w (n + cntN (PB v t T Ns wear 1 s) 0 (Ns s))) from rfl]
    have ee : n + csN v t T Ns wear s = n + cntN (PB v t T Ns wear 1 s) 0 (Ns s) + cntN (PB v t T Ns wear (-1) s) 0 (Ns s) := by unfold csN; omega
    unfold OUT
    rw [ee]
    rcases B with ⟨b1, b2, b3⟩ | ⟨i, c, b1, b2, b3, b4, b5, b6⟩
    · rw [b1, b2]; exact Or.inl ⟨rfl, rfl, b3⟩
    · rw [b5, b6]; exact Or.inr ⟨i, c, b1, b2, b3, b4, rfl, rfl⟩
  · rw [a5, a6, bd_s, bd_s, tp2_s]
    have b := refD h (Or.inr rfl) hs wear x4 c a3 a2 (Ns s) 0 (n + cntN (PB v t T Ns wear 1 s) 0 (Ns s)) FU (by omega) (by unfold FU; omega) (by omega) (by omega)
    rw [show f_X11_namesOf_L30 (nI t) wear x4 (nI s) 1 FU (nI (n + cntN (PB v t T Ns wear 1 s) 0 (Ns s))) 0 (My v c) = f_X11_namesOf_L30 (nI t) wear x4 (nI s) (nI (wq (-1))) FU (nI (n + cntN (PB v t T Ns wear 1 s) 0 (Ns s))) (nI 0) (My v c) from rfl, b, bd_s, tp2_s, Nat.add_assoc]
    exact Or.inr ⟨i, c, by unfold csN; omega, a2, a3, a4, rfl, rfl⟩
theorem csN_le {w v : Mem} {t T : Nat} {Ns : Nat → Nat} (h : NMH w v t T Ns) (wear : Int32) {s : Nat} (hs : s < 8) : csN v t T Ns wear s ≤ 96 := by
  have b1 := (h.2.2.2.2.2 s hs).1
  have c1 := cntN_le (PB v t T Ns wear 1 s) (Ns s) 0
  have c2 := cntN_le (PB v t T Ns wear (-1) s) (Ns s) 0
  unfold csN; omega
theorem refT {w v : Mem} {t T : Nat} {Ns : Nat → Nat} (h : NMH w v t T Ns) (wear x3 y : Int32) {i : Nat} (hi : x3 = nI i) (hi2 : i < 2147483648) : ∀ (k s n m : Nat), s + k = 8 → k < m → i < n → n ≤ 96 * s → f_X11_namesOf_L11 (nI t) wear x3 m (nI n) (nI s) (My v y) = some (nI (n + sumS (csN v t T Ns wear) s k), My v y) := by
  intro k
  induction k with
  | zero =>
    intro s n m hs hm hn hn2
    obtain ⟨m, rfl⟩ : ∃ q, m = q + 1 := ⟨m - 1, by omega⟩
    rw [f_X11_namesOf_L11_s, if_pos (by rw [nI_lit 8, nI_leI (by omega) (by omega)]; omega)]; rfl
  | succ k ih =>
    intro s n m hs hm hn hn2
    obtain ⟨m, rfl⟩ : ∃ q, m = q + 1 := ⟨m - 1, by omega⟩
    have cl := csN_le h wear (s := s) (by omega)
    rw [f_X11_namesOf_L11_s, if_neg (by rw [nI_lit 8, nI_leI (by omega) (by omega)]; omega), refS h (by omega) wear x3 y hi hi2 hn (by omega), bd_s, tp2_s, lt_e, nI_s, ih (s + 1) _ m (by omega) (by omega) (by omega) (by omega), Nat.add_assoc]
    rfl
theorem simT {w v : Mem} {t T : Nat} {Ns : Nat → Nat} (h : NMH w v t T Ns) (wear x4 : Int32) (hx : x4 = -1 ∨ ∃ i : Nat, i < 2147483648 ∧ x4 = nI i) : ∀ (k s n m m' : Nat), s + k = 8 → k < m → k < m' → n ≤ 96 * s → (∀ i : Nat, x4 = nI i → i < 2147483648 → n ≤ i) → OUT w v x4 n (sumS (csN v t T Ns wear) s k) (f_X7_find_L8 t wear x4 m (nI s) (Cn w n)) (f_X11_namesOf_L11 (nI t) wear x4 m' (nI n) (nI s) (My v (-1))) := by
  intro k
  induction k with
  | zero =>
    intro s n m m' hs hm hm' hn hi
    obtain ⟨m, rfl⟩ : ∃ q, m = q + 1 := ⟨m - 1, by omega⟩
    obtain ⟨m', rfl⟩ : ∃ q, m' = q + 1 := ⟨m' - 1, by omega⟩
    refine Or.inl ⟨?_, ?_, fun i p q => hi i p q⟩
    · rw [f_X7_find_L8_s, if_pos (by rw [nI_lit 8, nI_leI (by omega) (by omega)]; omega)]; rfl
    · rw [f_X11_namesOf_L11_s, if_pos (by rw [nI_lit 8, nI_leI (by omega) (by omega)]; omega)]; rfl
  | succ k ih =>
    intro s n m m' hs hm hm' hn hi
    obtain ⟨m, rfl⟩ : ∃ q, m = q + 1 := ⟨m - 1, by omega⟩
    obtain ⟨m', rfl⟩ : ∃ q, m' = q + 1 := ⟨m' - 1, by omega⟩
    have cl := csN_le h wear (s := s) (by omega)
    have S := simS h (s := s) (by omega) wear x4 hx (n := n) (by omega) hi
    rw [f_X7_find_L8_s, f_X11_namesOf_L11_s, if_neg (show ¬ 8 ≤ nI s by rw [nI_lit 8, nI_leI (by omega) (by omega)]; omega), if_neg (show ¬ 8 ≤ nI s by rw [nI_lit 8, nI_leI (by omega) (by omega)]; omega)]
    have ee : n + sumS (csN v t T Ns wear) s (k + 1) = n + csN v t T Ns wear s + sumS (csN v t T Ns wear) (s + 1) k := by
      show n + (csN v t T Ns wear s + sumS (csN v t T Ns wear) (s + 1) k) = _
      omega
    rcases S with ⟨a1, a2, a3⟩ | ⟨i, c, a1, a2, a3, a4, a5, a6⟩
    · rw [a1, a2, bd_s, bd_s, tp2_s]
      simp only [sm, lt_e]
      rw [nI_s]
      have g := ih (s + 1) (n + csN v t T Ns wear s) m m' (by omega) (by omega) (by omega) (by omega) a3
      unfold OUT at g ⊢
      rw [ee]
      exact g
    · rw [a5, a6, bd_s, bd_s, tp2_s, lt_e, nI_s, refT h wear x4 c a3 a2 k (s + 1) _ m' (by omega) (by omega) a1 (by omega), ← ee]
      exact Or.inr ⟨i, c, by omega, a2, a3, a4, rfl, rfl⟩
theorem find_e {w v : Mem} {t T : Nat} {Ns : Nat → Nat} (h : NMH w v t T Ns) (wear x4 : Int32) (hx : x4 = -1 ∨ ∃ i : Nat, i < 2147483648 ∧ x4 = nI i) : ((f_X7_find t wear x4 w = some (-1, Cn w (sumS (csN v t T Ns wear) 0 8)) ∧ f_X11_namesOf (nI t) wear x4 v = some (nI (sumS (csN v t T Ns wear) 0 8), My v (-1)) ∧ ∀ i : Nat, x4 = nI i → i < 2147483648 → sumS (csN v t T Ns wear) 0 8 ≤ i) ∨ (∃ (i : Nat) (c : Int32), i < sumS (csN v t T Ns wear) 0 8 ∧ i < 2147483648 ∧ x4 = nI i ∧ 0 ≤ c.toInt ∧ f_X7_find t wear x4 w = some (c, Cn w i) ∧ f_X11_namesOf (nI t) wear x4 v = some (nI (sumS (csN v t T Ns wear) 0 8), My v c))) ∧ sumS (csN v t T Ns wear) 0 8 ≤ 768 := by
  have b : sumS (csN v t T Ns wear) 0 8 ≤ 768 := by
    have c := fun s (hs : s < 8) => csN_le h wear hs
    have c0 := c 0 (by omega)
    have c1 := c 1 (by omega)
    have c2 := c 2 (by omega)
    have c3 := c 3 (by omega)
    have c4 := c 4 (by omega)
    have c5 := c 5 (by omega)
    have c6 := c 6 (by omega)
    have c7 := c 7 (by omega)
    simp only [sumS, Nat.reduceAdd]
    omega
  refine ⟨?_, b⟩
  have S := simT h wear x4 hx 8 0 0 FU FU (by omega) (by unfold FU; omega) (by unfold FU; omega) (by omega) (fun _ _ _ => Nat.zero_le _)
  have ez : 0 + sumS (csN v t T Ns wear) 0 8 = sumS (csN v t T Ns wear) 0 8 := Nat.zero_add _
  unfold f_X7_find f_X11_namesOf
  simp only [lt_e]
  rw [show mS w 82 0 0 = Cn w 0 from rfl, show mS v 0 57 (-1) = My v (-1) from rfl, show f_X7_find_L8 t wear x4 FU 0 (Cn w 0) = f_X7_find_L8 t wear x4 FU (nI 0) (Cn w 0) from rfl, show f_X11_namesOf_L11 (nI t) wear x4 FU 0 0 (My v (-1)) = f_X11_namesOf_L11 (nI t) wear x4 FU (nI 0) (nI 0) (My v (-1)) from rfl]
  unfold OUT at S
  rw [ez] at S
  rcases S with ⟨a1, a2, a3⟩ | ⟨i, c, a1, a2, a3, a4, a5, a6⟩
  · rw [a1, a2]; exact Or.inl ⟨rfl, rfl, a3⟩
  · rw [a5, a6]; exact Or.inr ⟨i, c, a1, a2, a3, a4, rfl, rfl⟩
theorem Rel_Cn {w v : Mem} (h : Rel w v) (n : Nat) : Rel (Cn w n) v := by
  unfold Cn
  obtain ⟨hD, hP, hH, hB, hJ, hS, hF, hR, hT⟩ := h
  refine ⟨?_, ?_, ?_, ?_, ?_, ?_, ?_, ?_, ?_⟩
  · exact RD_c hD (fun o ho => by first | rfl | simp (disch := omega) only [mS_o, mC_o]) (by first | rfl | simp [mS_o, mC_o] | simp (disch := omega) only [mS_o, mC_o]) (by first | rfl | simp [mS_o, mC_o] | simp (disch := omega) only [mS_o, mC_o]) (by first | rfl | simp [mS_o, mC_o] | simp (disch := omega) only [mS_o, mC_o])
  · exact RP_c hP (by first | rfl | simp [mS_o, mC_o] | simp (disch := omega) only [mS_o, mC_o]) (by first | rfl | simp [mS_o, mC_o] | simp (disch := omega) only [mS_o, mC_o]) (by first | rfl | simp [mS_o, mC_o] | simp (disch := omega) only [mS_o, mC_o]) (by first | rfl | (simp [mS_at]; done) | simp (disch := omega) only [mS_ne]) (by first | rfl | (simp [mS_at]; done) | simp (disch := omega) only [mS_ne]) (by first | rfl | simp [mS_o, mC_o] | simp (disch := omega) only [mS_o, mC_o]) (by first | rfl | simp [mS_o, mC_o] | simp (disch := omega) only [mS_o, mC_o])
  · exact RH_c hH (by first | rfl | (simp [mS_at]; done) | simp (disch := omega) only [mS_ne]) (by first | rfl | simp [mS_o, mC_o] | simp (disch := omega) only [mS_o, mC_o]) (by first | rfl | (simp [mS_at]; done) | simp (disch := omega) only [mS_ne]) (by first | rfl | simp [mS_o, mC_o] | simp (disch := omega) only [mS_o, mC_o])
  · exact RB_c hB (by first | rfl | simp [mS_o, mC_o] | simp (disch := omega) only [mS_o, mC_o]) (by first | rfl | simp [mS_o, mC_o] | simp (disch := omega) only [mS_o, mC_o]) (by first | rfl | simp [mS_o, mC_o] | simp (disch := omega) only [mS_o, mC_o]) (by first | rfl | (simp [mS_at]; done) | simp (disch := omega) only [mS_ne]) (by first | rfl | (simp [mS_at]; done) | simp (disch := omega) only [mS_ne]) (by first | rfl | (simp [mS_at]; done) | simp (disch := omega) only [mS_ne]) (by first | rfl | (simp [mS_at]; done) | simp (disch := omega) only [mS_ne])
  · exact RJ_c hJ (by first | rfl | (simp [mS_at]; done) | simp (disch := omega) only [mS_ne]) (by first | rfl | simp [mS_o, mC_o] | simp (disch := omega) only [mS_o, mC_o]) (by first | rfl | simp [mS_o, mC_o] | simp (disch := omega) only [mS_o, mC_o]) (by first | rfl | (simp [mS_at]; done) | simp (disch := omega) only [mS_ne]) (by first | rfl | simp [mS_o, mC_o] | simp (disch := omega) only [mS_o, mC_o]) (by first | rfl | simp [mS_o, mC_o] | simp (disch := omega) only [mS_o, mC_o])
  · exact RS_c hS (by first | rfl | simp [mS_o, mC_o] | simp (disch := omega) only [mS_o, mC_o]) (by first | rfl | simp [mS_o, mC_o] | simp (disch := omega) only [mS_o, mC_o]) (by first | rfl | simp [mS_o, mC_o] | simp (disch := omega) only [mS_o, mC_o]) (by first | rfl | (simp [mS_at]; done) | simp (disch := omega) only [mS_ne]) (by first | rfl | simp [mS_o, mC_o] | simp (disch := omega) only [mS_o, mC_o]) (by first | rfl | simp [mS_o, mC_o] | simp (disch := omega) only [mS_o, mC_o]) (by first | rfl | simp [mS_o, mC_o] | simp (disch := omega) only [mS_o, mC_o])
  · exact RF_c hF (by first | rfl | (simp [mS_at]; done) | simp (disch := omega) only [mS_ne]) (by first | rfl | simp [mS_o, mC_o] | simp (disch := omega) only [mS_o, mC_o]) (by first | rfl | simp [mS_o, mC_o] | simp (disch := omega) only [mS_o, mC_o]) (by first | rfl | (simp [mS_at]; done) | simp (disch := omega) only [mS_ne]) (by first | rfl | simp [mS_o, mC_o] | simp (disch := omega) only [mS_o, mC_o]) (by first | rfl | simp [mS_o, mC_o] | simp (disch := omega) only [mS_o, mC_o])
  · exact RR_c hR (by first | rfl | (simp [mS_at]; done) | simp (disch := omega) only [mS_ne]) (by first | rfl | (simp [mS_at]; done) | simp (disch := omega) only [mS_ne])
  · exact RT_c hT (fun o h1 h2 => by first | rfl | simp (disch := omega) only [mS_o, mC_o]) (fun o h1 h2 => by first | rfl | simp (disch := omega) only [mL_o, mD_o, mS_at2, mC_2]) (by first | rfl | simp [mS_o, mC_o] | simp (disch := omega) only [mS_o, mC_o]) (by first | rfl | simp [mS_o, mC_o] | simp (disch := omega) only [mS_o, mC_o]) (by first | rfl | simp [mS_o, mC_o] | simp (disch := omega) only [mS_o, mC_o]) (by first | rfl | simp [mL_o, mD_o, mS_at2, mC_2])
theorem Rel_My {w v : Mem} (h : Rel w v) (y : Int32) : Rel w (My v y) := by
  unfold My
  obtain ⟨hD, hP, hH, hB, hJ, hS, hF, hR, hT⟩ := h
  refine ⟨?_, ?_, ?_, ?_, ?_, ?_, ?_, ?_, ?_⟩
  · exact RD_c hD (fun o ho => by first | rfl | simp (disch := omega) only [mS_o, mC_o]) (by first | rfl | simp [mS_o, mC_o] | simp (disch := omega) only [mS_o, mC_o]) (by first | rfl | simp [mS_o, mC_o] | simp (disch := omega) only [mS_o, mC_o]) (by first | rfl | simp [mS_o, mC_o] | simp (disch := omega) only [mS_o, mC_o])
  · exact RP_c hP (by first | rfl | simp [mS_o, mC_o] | simp (disch := omega) only [mS_o, mC_o]) (by first | rfl | simp [mS_o, mC_o] | simp (disch := omega) only [mS_o, mC_o]) (by first | rfl | simp [mS_o, mC_o] | simp (disch := omega) only [mS_o, mC_o]) (by first | rfl | (simp [mS_at]; done) | simp (disch := omega) only [mS_ne]) (by first | rfl | (simp [mS_at]; done) | simp (disch := omega) only [mS_ne]) (by first | rfl | simp [mS_o, mC_o] | simp (disch := omega) only [mS_o, mC_o]) (by first | rfl | simp [mS_o, mC_o] | simp (disch := omega) only [mS_o, mC_o])
  · exact RH_c hH (by first | rfl | (simp [mS_at]; done) | simp (disch := omega) only [mS_ne]) (by first | rfl | simp [mS_o, mC_o] | simp (disch := omega) only [mS_o, mC_o]) (by first | rfl | (simp [mS_at]; done) | simp (disch := omega) only [mS_ne]) (by first | rfl | simp [mS_o, mC_o] | simp (disch := omega) only [mS_o, mC_o])
  · exact RB_c hB (by first | rfl | simp [mS_o, mC_o] | simp (disch := omega) only [mS_o, mC_o]) (by first | rfl | simp [mS_o, mC_o] | simp (disch := omega) only [mS_o, mC_o]) (by first | rfl | simp [mS_o, mC_o] | simp (disch := omega) only [mS_o, mC_o]) (by first | rfl | (simp [mS_at]; done) | simp (disch := omega) only [mS_ne]) (by first | rfl | (simp [mS_at]; done) | simp (disch := omega) only [mS_ne]) (by first | rfl | (simp [mS_at]; done) | simp (disch := omega) only [mS_ne]) (by first | rfl | (simp [mS_at]; done) | simp (disch := omega) only [mS_ne])
  · exact RJ_c hJ (by first | rfl | (simp [mS_at]; done) | simp (disch := omega) only [mS_ne]) (by first | rfl | simp [mS_o, mC_o] | simp (disch := omega) only [mS_o, mC_o]) (by first | rfl | simp [mS_o, mC_o] | simp (disch := omega) only [mS_o, mC_o]) (by first | rfl | (simp [mS_at]; done) | simp (disch := omega) only [mS_ne]) (by first | rfl | simp [mS_o, mC_o] | simp (disch := omega) only [mS_o, mC_o]) (by first | rfl | simp [mS_o, mC_o] | simp (disch := omega) only [mS_o, mC_o])
  · exact RS_c hS (by first | rfl | simp [mS_o, mC_o] | simp (disch := omega) only [mS_o, mC_o]) (by first | rfl | simp [mS_o, mC_o] | simp (disch := omega) only [mS_o, mC_o]) (by first | rfl | simp [mS_o, mC_o] | simp (disch := omega) only [mS_o, mC_o]) (by first | rfl | (simp [mS_at]; done) | simp (disch := omega) only [mS_ne]) (by first | rfl | simp [mS_o, mC_o] | simp (disch := omega) only [mS_o, mC_o]) (by first | rfl | simp [mS_o, mC_o] | simp (disch := omega) only [mS_o, mC_o]) (by first | rfl | simp [mS_o, mC_o] | simp (disch := omega) only [mS_o, mC_o])
  · exact RF_c hF (by first | rfl | (simp [mS_at]; done) | simp (disch := omega) only [mS_ne]) (by first | rfl | simp [mS_o, mC_o] | simp (disch := omega) only [mS_o, mC_o]) (by first | rfl | simp [mS_o, mC_o] | simp (disch := omega) only [mS_o, mC_o]) (by first | rfl | (simp [mS_at]; done) | simp (disch := omega) only [mS_ne]) (by first | rfl | simp [mS_o, mC_o] | simp (disch := omega) only [mS_o, mC_o]) (by first | rfl | simp [mS_o, mC_o] | simp (disch := omega) only [mS_o, mC_o])
  · exact RR_c hR (by first | rfl | (simp [mS_at]; done) | simp (disch := omega) only [mS_ne]) (by first | rfl | (simp [mS_at]; done) | simp (disch := omega) only [mS_ne])
  · exact RT_c hT (fun o h1 h2 => by first | rfl | simp (disch := omega) only [mS_o, mC_o]) (fun o h1 h2 => by first | rfl | simp (disch := omega) only [mL_o, mD_o, mS_at2, mC_2]) (by first | rfl | simp [mS_o, mC_o] | simp (disch := omega) only [mS_o, mC_o]) (by first | rfl | simp [mS_o, mC_o] | simp (disch := omega) only [mS_o, mC_o]) (by first | rfl | simp [mS_o, mC_o] | simp (disch := omega) only [mS_o, mC_o]) (by first | rfl | simp [mL_o, mD_o, mS_at2, mC_2])
theorem NMH_of {w v : Mem} (h : Rel w v) {t T : Nat} (ht : t < 6) (hT : T ≤ 48) (b1 : w.1 (48+2*t) 3 = nI T) (b2 : v.1 16 t = nI T) : NMH w v t T (fun s => (v.1 3 s).toNatClampNeg) := by
  obtain ⟨_, _, c⟩ := h.2.2.2.2.2.2.2.2 t ht
  refine ⟨ht, hT, b1, b2, c, fun s hs => ?_⟩
  obtain ⟨n, hn, e1, e2, e3⟩ := h.1 s (by omega)
  have en : (v.1 3 s).toNatClampNeg = n := by rw [e2, nI_clamp (by omega)]
  simp only [en]
  exact ⟨hn, e1, e2, fun j hj => (e3 j hj).1⟩
theorem rim_e {w v : Mem} (h : Rel w v) (x1 x2 : Int32) : (∃ t T Ns, NMH w v t T Ns ∧ x1 = nI t ∧ f_X10_againstRim x1 x2 w = some 0 ∧ f_X11_in x2 0 6 = some 1 ∧ f_X11_lacksRim x1 1 v = some (0, v)) ∨ (∃ r w' v' g, ¬ r = 0 ∧ f_X10_againstRim x1 x2 w = some r ∧ f_X10_counted r w = some (r, w') ∧ f_X11_in x2 0 6 = some g ∧ (g = 0 ∨ g = 1) ∧ f_X11_lacksRim x1 g v = some (r, v') ∧ Rel w' v') := by
  unfold f_X10_againstRim f_X11_lacksRim
  rw [tpm_eq]
  rcases in_c x2 0 6 with ⟨q, k1⟩ | ⟨q, k1⟩
  rotate_left
  · refine Or.inr ⟨-1, w, v, 0, by decide, ?_, ref_N w (by decide), q, Or.inl rfl, ?_, h⟩
    · by_cases c : x2 < 0
      · rw [if_pos c]
      · rw [if_neg c, if_neg (by rw [i_lt] at c; rw [i_le]; simp at c k1 ⊢; omega)]
    · rcases in_c x1 0 5 with ⟨p, _⟩ | ⟨p, _⟩
      · rw [p, bd_s, if_neg one_ne, if_pos rfl]
      · rw [p, bd_s, if_pos rfl]
  simp at k1
  rw [if_neg (nle_n k1.1), if_pos (show x2 ≤ 6 by rw [i_le]; simp; omega), q]
  rcases in_c x1 0 5 with ⟨p, k2⟩ | ⟨p, k2⟩
  rotate_left
  · refine Or.inr ⟨-1, w, v, 1, by decide, ?_, ref_N w (by decide), rfl, Or.inr rfl, by rw [p, bd_s, if_pos rfl], h⟩
    unfold f_X10_againstSort
    rw [tp_eq, p, bd_s, if_pos rfl]; rfl
  simp at k2
  obtain ⟨t, ht, rfl⟩ := i_nat (x := x1) (N := 6) (by omega) (by omega) (by omega)
  obtain ⟨⟨s, hs, a1, a2, a3⟩, ⟨T, hT, b1, b2⟩, c⟩ := h.2.2.2.2.2.2.2.2 t ht
  rw [ag_e ht hs a1, bd_s, p, gd_t (inb_nI ht (by omega))]
  simp only [bd_s, lt_e]
  rw [if_neg one_ne, if_neg one_ne, gd_t (inb_nI ht (by omega)), nI_clamp (n := t) (by omega), a2, b1, b2]
  by_cases s0 : s = 0
  · subst s0
    rw [if_pos rfl, if_neg (show ¬ (-11 : Int32) = 0 by decide), if_pos (show nI 0 = 0 by decide), ref_M]
    exact Or.inr ⟨-11, _, _, 1, by decide, rfl, ref_C w (by decide), rfl, Or.inr rfl, rfl, Rel_ref h⟩
  rw [if_neg s0, if_neg (nz (n := s) (by omega) (by omega))]
  by_cases s1 : s = 1
  rotate_left
  · have ns1 : ¬ nI s = 1 := nI_ne (a := s) (b := 1) (by omega) (by omega) s1
    rw [if_neg ns1, if_neg (show ¬ (-12 : Int32) = 0 by decide), if_neg ns1, ref_M]
    exact Or.inr ⟨-12, _, _, 1, by decide, rfl, ref_C w (by decide), rfl, Or.inr rfl, rfl, Rel_ref h⟩
  subst s1
  rw [if_pos (show nI 1 = 1 by decide), if_pos rfl, if_pos (show nI 1 = 1 by decide)]
  by_cases d : 1 ≤ T ∧ T ≤ 48
  · have i1 : f_X11_in (nI T) 1 48 = some 1 := in_t (by rw [nI_toInt (by omega)]; simp; omega)
    rw [i1, bd_s, if_neg one_ne, if_neg (show ¬ nI T < 1 by rw [nI_lit 1, nI_ltI (by omega) (by omega)]; omega), if_pos (show nI T ≤ 48 by rw [nI_lit 48, nI_leI (by omega) (by omega)]; omega)]
    exact Or.inl ⟨t, T, _, NMH_of h ht d.2 b1 b2, rfl, by first | rfl | trivial, by first | rfl | trivial, by first | rfl | trivial⟩
  · have i0 : f_X11_in (nI T) 1 48 = some 0 := in_f (by rw [nI_toInt (by omega)]; simp; omega)
    rw [i0, bd_s, if_pos rfl]
    refine Or.inr ⟨-4, w, v, 1, by decide, ?_, ref_N w (by decide), rfl, Or.inr rfl, rfl, h⟩
    by_cases e : T < 1
    · rw [if_pos (show nI T < 1 by rw [nI_lit 1, nI_ltI (by omega) (by omega)]; exact e)]
    · rw [if_neg (show ¬ nI T < 1 by rw [nI_lit 1, nI_ltI (by omega) (by omega)]; exact e), if_neg (show ¬ nI T ≤ 48 by rw [nI_lit 48, nI_leI (by omega) (by omega)]; omega)]
theorem no1 {i : Nat} (h : i < 2147483648) : ¬ (-1 : Int32) = nI i := fun q => by
  rw [i_eq, nI_toInt h] at q; simp at q
theorem step_30 {w v : Mem} (h : Rel w v) (x1 x2 : Int32) : ∃ r w' v', f_X10_names x1 x2 w = some (r, w') ∧ f_X11_names x1 x2 v = some (r, v') ∧ Rel w' v' := by
  unfold f_X10_names f_X11_names
  rcases rim_e h x1 x2 with ⟨t, T, Ns, hn, rfl, a1, a2, a3⟩ | ⟨r, w', v', g, r0, a1, a2, a3, a4, a5, a6⟩
  · rw [a1, a2, bd_s, bd_s, a3, b2_s, if_pos rfl, if_pos rfl, gd_t (inb_nI hn.1 (by omega)), nI_clamp (by have := hn.1; omega)]
    obtain ⟨F, _⟩ := find_e hn x2 (-1) (Or.inl rfl)
    rcases F with ⟨f1, f2, f3⟩ | ⟨i, c, _, f2, f3, _⟩
    · rw [f1, f2, b2_s, b2_s, show (Cn w (sumS (csN v t T Ns x2) 0 8)).1 82 0 = nI (sumS (csN v t T Ns x2) 0 8) from mS_eq]
      exact ⟨_, _, _, rfl, rfl, Rel_My (Rel_Cn h _) _⟩
    · exact absurd f3 (no1 f2)
  · rw [a1, a3, bd_s, bd_s, a5, b2_s, if_neg r0, if_neg r0, a2, b2_s]
    exact ⟨r, w', v', rfl, rfl, a6⟩
theorem step_31 {w v : Mem} (h : Rel w v) (x1 x2 x3 : Int32) : ∃ r w' v', f_X10_name x1 x2 x3 w = some (r, w') ∧ f_X11_name x1 x2 x3 v = some (r, v') ∧ Rel w' v' := by
  unfold f_X10_name f_X11_name
  by_cases c : 0 ≤ x3
  rotate_left
  · rw [if_neg c]
    have c' : x3 < 0 := by rw [i_lt]; rw [i_le] at c; omega
    have lk : f_X11_lacksRim x1 0 v = some (-1, v) := by
      unfold f_X11_lacksRim
      rw [tpm_eq]
      rcases in_c x1 0 5 with ⟨p, _⟩ | ⟨p, _⟩
      · rw [p, bd_s, if_neg one_ne, if_pos rfl]
      · rw [p, bd_s, if_pos rfl]
    refine ⟨-1, w, v, rfl, ?_, h⟩
    rcases in_c x2 0 6 with ⟨p, _⟩ | ⟨p, _⟩
    · rw [p, bd_s, lt_e, if_neg one_ne, if_pos c', lk]; rfl
    · rw [p, bd_s, lt_e, if_pos rfl, lk]; rfl
  rw [if_pos c]
  have c' : ¬ x3 < 0 := by rw [i_lt]; rw [i_le] at c; omega
  rcases rim_e h x1 x2 with ⟨t, T, Ns, hn, rfl, a1, a2, a3⟩ | ⟨r, w', v', g, r0, a1, a2, a3, a4, a5, a6⟩
  · rw [a1, a2, bd_s, bd_s, lt_e, if_neg one_ne, if_neg c', a3, b2_s, if_pos rfl, if_pos rfl, gd_t (inb_nI hn.1 (by omega)), nI_clamp (by have := hn.1; omega)]
    rw [i_le] at c
    have r3 := i_rng x3
    obtain ⟨i, hi, rfl⟩ := i_nat (x := x3) (N := 2147483648) (by simpa using c) (by omega) (by omega)
    obtain ⟨F, fb⟩ := find_e hn x2 (nI i) (Or.inr ⟨i, hi, rfl⟩)
    rcases F with ⟨f1, f2, f3⟩ | ⟨i2, c2, f0, f2, f3, f4, f5, f6⟩
    · have := f3 i rfl hi
      rw [f1, f2, b2_s, b2_s, ref_N _ (by decide), b2_s, lt_e, if_pos (by rw [nI_leI (by omega) (by omega)]; exact this)]
      exact ⟨_, _, _, rfl, rfl, Rel_My (Rel_Cn h _) _⟩
    · have ei : i = i2 := (nI_eq (by omega) (by omega)).mp f3
      rw [f5, f6, b2_s, b2_s, ref_N _ (by omega), b2_s, lt_e, if_neg (by rw [nI_leI (by omega) (by omega)]; omega), show (My v c2).1 0 57 = c2 from mS_eq]
      exact ⟨_, _, _, rfl, rfl, Rel_My (Rel_Cn h _) _⟩
  · have sg : (if g = 0 then (0 : Int32) else (if x3 < 0 then 0 else 1)) = g := by
      rcases a4 with rfl | rfl
      · rfl
      · rw [if_neg one_ne, if_neg c']
    rw [a1, a3, bd_s, bd_s, lt_e, sg, a5, b2_s, if_neg r0, if_neg r0, a2, b2_s]
    exact ⟨r, w', v', rfl, rfl, a6⟩
theorem NMH_c {w v : Mem} {t T : Nat} {Ns : Nat → Nat} (h : NMH w v t T Ns) (n : Nat) (y : Int32) : NMH (Cn w n) (My v y) t T Ns := by
  obtain ⟨h1, h2, h3, h4, h5, h6⟩ := h
  refine ⟨h1, h2, ?_, ?_, h5, fun s hs => ?_⟩
  · unfold Cn; rw [mS_ne (by omega)]; exact h3
  · unfold My; rw [mS_ne (by decide)]; exact h4
  · obtain ⟨b1, b2, b3, b4⟩ := h6 s hs
    refine ⟨b1, ?_, ?_, fun j hj => ?_⟩
    · unfold Cn; rw [mS_ne (by omega)]; exact b2
    · unfold My; rw [mS_ne (by decide)]; exact b3
    · unfold Cn My; rw [mS_ne (by omega), mS_ne (by decide)]; exact b4 j hj
theorem wear_L {t T : Nat} {Ns : Nat → Nat} : ∀ (k i m m' : Nat) (w v : Mem), Rel w v → NMH w v t T Ns → i + k = 7 → k < m → k < m' → ∃ w' v', Rel w' v' ∧ ((f_X10_wear_L19 (nI t) m (nI i) w = some (.inr w') ∧ f_X11_wear_L15 (nI t) m' (nI i) v = some (.inr v')) ∨ ∃ r, f_X10_wear_L19 (nI t) m (nI i) w = some (.inl (r, w')) ∧ f_X11_wear_L15 (nI t) m' (nI i) v = some (.inl (r, v'))) := by
  intro k
  induction k with
  | zero =>
    intro i m m' w v h hn hi hm hm'
    obtain ⟨m, rfl⟩ : ∃ q, m = q + 1 := ⟨m - 1, by omega⟩
    obtain ⟨m', rfl⟩ : ∃ q, m' = q + 1 := ⟨m' - 1, by omega⟩
    refine ⟨w, v, h, Or.inl ⟨?_, ?_⟩⟩
    · rw [f_X10_wear_L19_s, if_pos (by rw [nI_lit 6, nI_ltI (by omega) (by omega)]; omega)]
    · rw [f_X11_wear_L15_s, if_pos (by rw [nI_lit 6, nI_ltI (by omega) (by omega)]; omega)]
  | succ k ih =>
    intro i m m' w v h hn hi hm hm'
    obtain ⟨m, rfl⟩ : ∃ q, m = q + 1 := ⟨m - 1, by omega⟩
    obtain ⟨m', rfl⟩ : ∃ q, m' = q + 1 := ⟨m' - 1, by omega⟩
    have ht := hn.1
    obtain ⟨F, fb⟩ := find_e hn (nI i) 0 (Or.inr ⟨0, by omega, rfl⟩)
    obtain ⟨G, _⟩ := find_e hn (nI i) (-1) (Or.inl rfl)
    have g6 : ¬ 6 < nI i := by rw [nI_lit 6, nI_ltI (by omega) (by omega)]; omega
    have M : f_X11_wear_L15 (nI t) (m' + 1) (nI i) v = if sumS (csN v t T Ns (nI i)) 0 8 = 0 then f_X11_wear_L15 (nI t) m' (nI (i + 1)) (My v (-1)) else some (.inl (nI i, My v (-1))) := by
      rcases G with ⟨f1, f2, f3⟩ | ⟨i2, c, _, f2, f3, _⟩
      · rw [f_X11_wear_L15_s, if_neg g6, f2, b2_s, lt_e, nI_s]
        by_cases c : sumS (csN v t T Ns (nI i)) 0 8 = 0
        · rw [if_pos c, if_pos (by rw [c]; decide)]
        · rw [if_neg c, if_neg (by rw [show (0 : Int32) = nI 0 from rfl, nI_leI (by omega) (by omega)]; omega)]
      · exact absurd f3 (no1 f2)
    rw [M, f_X10_wear_L19_s, if_neg g6, gd_t (inb_nI ht (by omega)), nI_clamp (n := t) (by omega)]
    rcases F with ⟨f1, f2, f3⟩ | ⟨i2, c2, f0, f2, f3, f4, f5, f6⟩
    · have z := f3 0 rfl (by omega)
      rw [f1, b2_s, if_pos rfl, if_pos (by omega), lt_e, nI_s]
      exact ih (i + 1) m m' _ _ (Rel_My (Rel_Cn h _) _) (NMH_c hn _ _) (by omega) (by omega) (by omega)
    · rw [f5, b2_s, if_neg (fun z => by rw [z] at f4; exact absurd f4 (by decide)), if_neg (by omega)]
      exact ⟨_, _, Rel_My (Rel_Cn h _) _, Or.inr ⟨nI i, rfl, rfl⟩⟩
theorem step_32 {w v : Mem} (h : Rel w v) (x1 : Int32) : ∃ r w' v', f_X10_wear x1 w = some (r, w') ∧ f_X11_wear x1 v = some (r, v') ∧ Rel w' v' := by
  unfold f_X10_wear f_X11_wear
  have i0 : f_X11_in 0 0 6 = some 1 := by decide
  rcases rim_e h x1 0 with ⟨t, T, Ns, hn, rfl, a1, a2, a3⟩ | ⟨r, w', v', g, r0, a1, a2, a3, a4, a5, a6⟩
  · rw [a1, bd_s, a3, b2_s, if_pos rfl, if_pos rfl]
    obtain ⟨w', v', p1, p2⟩ := wear_L 7 0 FU FU w v h hn (by omega) (by unfold FU; omega) (by unfold FU; omega)
    rw [show f_X10_wear_L19 (nI t) FU 0 w = f_X10_wear_L19 (nI t) FU (nI 0) w from rfl, show f_X11_wear_L15 (nI t) FU 0 v = f_X11_wear_L15 (nI t) FU (nI 0) v from rfl]
    rcases p2 with ⟨q1, q2⟩ | ⟨r, q1, q2⟩
    · rw [q1, q2]; exact ⟨-4, w', v', rfl, rfl, p1⟩
    · rw [q1, q2]; exact ⟨r, w', v', rfl, rfl, p1⟩
  · rw [i0] at a3
    obtain rfl : (1 : Int32) = g := Option.some.inj a3
    rw [a1, bd_s, a5, b2_s, if_neg r0, if_neg r0, a2, b2_s]
    exact ⟨r, w', v', rfl, rfl, a6⟩
