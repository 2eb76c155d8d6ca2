/-! ===== 4 make (57: by wip/gen/p57.txt and fr.py) ===== -/
def MK (c : Nat) (w v : Mem) : Prop := w.1 42 2 = nI c ∧ ∀ j, j < c → w.1 43 j = v.1 4 (672+j) ∧ w.1 44 j = v.1 5 (672+j) ∧ ir 12 (v.1 4 (672+j)) ∧ ir 12 (v.1 5 (672+j))
def FRm (w v w' v' : Mem) : Prop := (∀ o, o ≠ 42 → o ≠ 43 → o ≠ 44 → w'.1 o = w.1 o) ∧ w'.2 = w.2 ∧ (∀ o, o ≠ 4 → o ≠ 5 → v'.1 o = v.1 o) ∧ v'.2 = v.2 ∧ ∀ x, x < 672 → v'.1 4 x = v.1 4 x ∧ v'.1 5 x = v.1 5 x
theorem FRm_t {w v w' v' w2 v2 : Mem} (a : FRm w v w' v') (b : FRm w' v' w2 v2) : FRm w v w2 v2 := by
  obtain ⟨a1, a2, a3, a4, a5⟩ := a
  obtain ⟨b1, b2, b3, b4, b5⟩ := b
  exact ⟨fun o p q r => by rw [b1 o p q r, a1 o p q r], by rw [b2, a2], fun o p q => by rw [b3 o p q, a3 o p q], by rw [b4, a4], fun x hx => ⟨by rw [(b5 x hx).1, (a5 x hx).1], by rw [(b5 x hx).2, (a5 x hx).2]⟩⟩
theorem PT_c {w v w' v' : Mem} {n : Nat} {px py : Nat → Int32} {ad : Int32} (h : PT w v n px py ad) (f : FRm w v w' v') : PT w' v' n px py ad := by
  obtain ⟨a1, a2, a3, a4, a5⟩ := f
  unfold PT at *
  rw [a1 60 (by decide) (by decide) (by decide), a1 61 (by decide) (by decide) (by decide), a1 62 (by decide) (by decide) (by decide), a3 0 (by decide) (by decide), a3 1 (by decide) (by decide), a3 2 (by decide) (by decide)]
  exact h
theorem mid (D : Int) {P t : Nat} (h1 : 1 ≤ t) (h2 : t ≤ P) : (0 ≤ D → 0 ≤ D * t / P ∧ D * t / P ≤ D) ∧ (D ≤ 0 → D ≤ D * t / P ∧ D * t / P ≤ 0) := by
  have hP : (0 : Int) < P := by omega
  constructor
  · intro h
    have a := Int.mul_le_mul_of_nonneg_left (a := (t : Int)) (b := P) (c := D) (by omega) h
    refine ⟨Int.ediv_nonneg (Int.mul_nonneg h (by omega)) (by omega), ?_⟩
    refine Int.le_of_lt_add_one ?_
    rw [Int.ediv_lt_iff_lt_mul hP, Int.add_mul, Int.one_mul]
    omega
  · intro h
    have a := Int.mul_le_mul_of_nonneg_left (a := (t : Int)) (b := P) (c := -D) (by omega) (by omega)
    have b := Int.mul_nonneg (a := -D) (b := (t : Int)) (by omega) (by omega)
    rw [Int.neg_mul, Int.neg_mul] at a
    rw [Int.neg_mul] at b
    refine ⟨?_, ?_⟩
    · rw [Int.le_ediv_iff_mul_le hP]; omega
    · refine Int.le_of_lt_add_one ?_
      rw [Int.ediv_lt_iff_lt_mul hP, Int.add_mul, Int.one_mul]
      omega
theorem way_L {n k P f : Nat} {px py : Nat → Int32} {ad : Int32} {c : Nat} (hk : k < n) (hP : 1 ≤ P) (hc : c + P ≤ 48) (hf : f ≤ 12) (hY : (nxY n py ad k - py k).toInt.natAbs ≤ P * f) : ∀ (q e m m' : Nat) (w v : Mem) (st : Int32), PT w v n px py ad → MK (c + e) w v → e + q = P → q < m → q < m' → st.toInt = (nxY n py ad k - py k).toInt * (e : Int) / P → ∃ w' v', f_X1_addWay_L34 14 0 (nI k) (nI P) (nxX n px k - px k) (nxY n py ad k - py k) m st (nI (e + 1)) w = some w' ∧ f_X11_make_L105 (nI k) (nI P) m' (nI (672 + (c + e))) st (nI (e + 1)) v = some (nI (672 + (c + P)), v') ∧ MK (c + P) w' v' ∧ FRm w v w' v' := by
  intro q
  induction q with
  | zero =>
    intro e m m' w v st hp hm he k1 k2 hs
    obtain ⟨m, rfl⟩ : ∃ q, m = q + 1 := ⟨m - 1, by omega⟩
    obtain ⟨m', rfl⟩ : ∃ q, m' = q + 1 := ⟨m' - 1, by omega⟩
    obtain rfl : e = P := by omega
    refine ⟨w, v, ?_, ?_, hm, fun _ _ _ _ => rfl, rfl, fun _ _ _ => rfl, rfl, fun _ _ => ⟨rfl, rfl⟩⟩
    · rw [f_X1_addWay_L34_s, if_pos (by rw [nI_ltI (by omega) (by omega)]; omega)]
    · rw [f_X11_make_L105_s, if_pos (by rw [nI_ltI (by omega) (by omega)]; omega)]
  | succ q ih =>
    intro e m m' w v st hp hm he k1 k2 hs
    obtain ⟨m, rfl⟩ : ∃ q, m = q + 1 := ⟨m - 1, by omega⟩
    obtain ⟨m', rfl⟩ : ∃ q, m' = q + 1 := ⟨m' - 1, by omega⟩
    obtain ⟨bx, bY⟩ := nx_b hp hk
    obtain ⟨x1, x2⟩ := nextX_e hp hk
    obtain ⟨y1, y2⟩ := nextY_e hp hk
    have hp0 := hp
    obtain ⟨e1, e2, e3, e4, hn, h1, h2⟩ := hp
    obtain ⟨f1, f2, f3, f4, f5, f6⟩ := h2 k hk
    obtain ⟨c1, c2⟩ := hm
    have c1' : w.1 (3*14) 2 = nI (c + e) := c1
    have f1' : w.1 (61+3*0) k = px k := f1
    unfold ir at bx bY f5 f6
    have dx : (nxX n px k - px k).toInt = (nxX n px k).toInt - (px k).toInt := i_sub (by omega) (by omega)
    have dy : (nxY n py ad k - py k).toInt = (nxY n py ad k).toInt - (py k).toInt := i_sub (by omega) (by omega)
    have te : (nI (e + 1)).toInt = ((e + 1 : Nat) : Int) := nI_toInt (by omega)
    have tP : (nI P).toInt = (P : Int) := nI_toInt (by omega)
    have bnd : ∀ (D : Int), -400 ≤ D → D ≤ 400 → -20000 ≤ D * ((e + 1 : Nat) : Int) ∧ D * ((e + 1 : Nat) : Int) ≤ 20000 := by
      intro D d1 d2
      have a := Int.mul_le_mul_of_nonneg_right (a := D) (b := 400) (c := ((e + 1 : Nat) : Int)) d2 (by omega)
      have b := Int.mul_le_mul_of_nonneg_right (a := -400) (b := D) (c := ((e + 1 : Nat) : Int)) d1 (by omega)
      omega
    have b1 := bnd (nxX n px k - px k).toInt (by omega) (by omega)
    have b2' := bnd (nxY n py ad k - py k).toInt (by omega) (by omega)
    have px1 : ((nxX n px k - px k) * nI (e + 1)).toInt = (nxX n px k - px k).toInt * ((e + 1 : Nat) : Int) := by
      rw [i_mul (by rw [te]; omega) (by rw [te]; omega), te]
    have py1 : ((nxY n py ad k - py k) * nI (e + 1)).toInt = (nxY n py ad k - py k).toInt * ((e + 1 : Nat) : Int) := by
      rw [i_mul (by rw [te]; omega) (by rw [te]; omega), te]
    obtain ⟨rx, rx1, rx2, rx3⟩ := flo (x := (nxX n px k - px k) * nI (e + 1)) (y := nI P) (by rw [tP]; omega) (by rw [px1]; omega)
    obtain ⟨ry, ry1, ry2, ry3⟩ := flo (x := (nxY n py ad k - py k) * nI (e + 1)) (y := nI P) (by rw [tP]; omega) (by rw [py1]; omega)
    rw [px1, tP] at rx3
    rw [py1, tP] at ry3
    obtain ⟨m1, m2⟩ := mid (nxX n px k - px k).toInt (t := e + 1) (P := P) (by omega) (by omega)
    rw [← rx3] at m1 m2
    have sw : ir 12 (px k + rx) := by
      unfold ir
      rcases Int.le_total 0 (nxX n px k - px k).toInt with z | z
      · have := m1 z
        rw [i_add (by omega) (by omega)]; omega
      · have := m2 z
        rw [i_add (by omega) (by omega)]; omega
    have dl := dif_le (nxY n py ad k - py k).toInt hP e
    obtain ⟨g1, g2, g3, g4⟩ := chg_b (nxY n py ad k - py k).toInt hP
    have gf : chg (nxY n py ad k - py k).toInt P ≤ 12 := by
      refine Int.le_of_lt_add_one (Int.lt_of_mul_lt_mul_left (a := (P : Int)) ?_ (by omega))
      have := Nat.mul_le_mul_left P hf
      rw [Int.mul_add, Int.mul_one]
      omega
    have fd : ry.toInt - st.toInt = dif (nxY n py ad k - py k).toInt P e := by rw [ry3, hs]; rfl
    have fdd : (ry - st).toInt = dif (nxY n py ad k - py k).toInt P e := by rw [i_sub (by omega) (by omega), fd]
    have fe1 : ir 12 (ry - st) := by unfold ir; omega
    have F1 : FRm w v (mS (mS (mS w 43 (c + e) (px k + rx)) 44 (c + e) (ry - st)) 42 2 (nI (c + (e + 1)))) (mS (mS v 4 (672 + (c + e)) (px k + rx)) 5 (672 + (c + e)) (ry - st)) := by
      refine ⟨fun o p q r => ?_, rfl, fun o p q => ?_, rfl, fun x hx => ⟨?_, ?_⟩⟩
      · rw [mS_o p, mS_o r, mS_o q]
      · rw [mS_o q, mS_o p]
      · rw [mS_ne (by decide), mS_nj (by omega)]
      · rw [mS_nj (by omega), mS_ne (by decide)]
    have M1 : MK (c + (e + 1)) (mS (mS (mS w 43 (c + e) (px k + rx)) 44 (c + e) (ry - st)) 42 2 (nI (c + (e + 1)))) (mS (mS v 4 (672 + (c + e)) (px k + rx)) 5 (672 + (c + e)) (ry - st)) := by
      refine ⟨mS_eq, fun j hj => ?_⟩
      rw [mS_ne (show (43 : Nat) ≠ 42 by decide), mS_ne (show (43 : Nat) ≠ 44 by decide), mS_ne (show (44 : Nat) ≠ 42 by decide), mS_ne (show (4 : Nat) ≠ 5 by decide)]
      by_cases z : j = c + e
      · subst z
        rw [mS_eq, mS_eq, mS_eq, mS_eq]
        exact ⟨rfl, rfl, sw, fe1⟩
      · rw [mS_nj z, mS_nj z, mS_ne (show (44 : Nat) ≠ 43 by decide), mS_nj (by omega), mS_nj (by omega), mS_ne (show (5 : Nat) ≠ 4 by decide)]
        exact c2 j (by omega)
    obtain ⟨w', v', r1, r2, r3, r4⟩ := ih (e + 1) m m' _ _ ry (PT_c hp0 F1) M1 (by omega) (by omega) (by omega) ry3
    refine ⟨w', v', ?_, ?_, r3, FRm_t F1 r4⟩
    · rw [f_X1_addWay_L34_s, if_neg (by rw [nI_ltI (by omega) (by omega)]; omega), c1', if_neg (by rw [nI_lit 48, nI_leI (by omega) (by omega)]; omega)]
      simp only [lt_e]
      rw [ry2, bd_s, rx2, bd_s, gd_t (inb_nI (by omega) (by omega)), nI_clamp (n := k) (by omega), nI_clamp (n := c + e) (by omega), f1', mS_ne (a := 3*14) (o := 3*14+1) (by decide), c1', gd_t (inb_nI (by omega) (by omega)), nI_clamp (n := c + e) (by omega), mS_ne (a := 3*14) (o := 3*14+2) (by decide), mS_ne (a := 3*14) (o := 3*14+1) (by decide), c1', nI_1, nI_1]
      exact r1
    · rw [f_X11_make_L105_s, if_neg (by rw [nI_ltI (by omega) (by omega)]; omega)]
      simp only [lt_e]
      rw [y2, bd_s, gd_t (inb_nI (by omega) (by omega)), nI_clamp (n := k) (by omega), f4, ry1, bd_s, x2, bd_s, f2, rx1, bd_s, gd_t (inb_nI (by omega) (by omega)), nI_clamp (n := 672 + (c + e)) (by omega), nI_1, nI_1]
      exact r2
def sumP (g : Nat → Nat) : Nat → Nat
  | 0 => 0
  | k + 1 => sumP g k + g k
theorem sumP_le {g : Nat → Nat} : ∀ (q k : Nat), sumP g k ≤ sumP g (k + q)
  | 0, k => Nat.le_refl _
  | q + 1, k => Nat.le_trans (sumP_le q k) (Nat.le_add_right _ _)
def Pk (n : Nat) (px py : Nat → Int32) (ad : Int32) (s f k : Nat) : Nat := pN ((nxX n px k - px k).toInt.natAbs) ((nxY n py ad k - py k).toInt.natAbs) s f
theorem Pk_e {w v : Mem} {n : Nat} {px py : Nat → Int32} {ad : Int32} (h : PT w v n px py ad) {k s f : Nat} (hk : k < n) (hs : 1 ≤ s ∧ s ≤ 12) (hf : 1 ≤ f ∧ f ≤ 12) : 1 ≤ Pk n px py ad s f k ∧ Pk n px py ad s f k ≤ 300 ∧ f_X1_parts 0 (nI k) (nI s) (nI f) w = some (nI (Pk n px py ad s f k)) ∧ f_X11_parts (nI k) (nI s) (nI f) v = some (nI (Pk n px py ad s f k)) ∧ ((nxY n py ad k - py k).toInt.natAbs) ≤ Pk n px py ad s f k * f := by
  obtain ⟨P, p1, p2, p3, p4, p5, p6⟩ := parts_e h hk hs hf
  have e : Pk n px py ad s f k = P := p5.symm
  rw [e]
  exact ⟨p1, p2, p3, p4, p6⟩
theorem sumP_b {w v : Mem} {n : Nat} {px py : Nat → Int32} {ad : Int32} (h : PT w v n px py ad) {s f : Nat} (hs : 1 ≤ s ∧ s ≤ 12) (hf : 1 ≤ f ∧ f ≤ 12) : ∀ k, k ≤ n → sumP (Pk n px py ad s f) k ≤ 300 * k
  | 0, _ => Nat.le_refl _
  | k + 1, hk => by
    have a := sumP_b h hs hf k (by omega)
    have b := (Pk_e h (k := k) (by omega) hs hf).2.1
    show sumP (Pk n px py ad s f) k + Pk n px py ad s f k ≤ 300 * (k + 1)
    omega
theorem sum_L {w v : Mem} {n : Nat} {px py : Nat → Int32} {ad : Int32} (h : PT w v n px py ad) {s f : Nat} (hs : 1 ≤ s ∧ s ≤ 12) (hf : 1 ≤ f ∧ f ≤ 12) : ∀ (q k m m' : Nat), k + q = n → q < m → q < m' → f_X1_becomesMadeFrom_L6 w 0 (nI s) (nI f) m (nI (sumP (Pk n px py ad s f) k)) (nI k) = some (nI (sumP (Pk n px py ad s f) n)) ∧ f_X11_make_L37 v (nI s) (nI f) m' (nI (sumP (Pk n px py ad s f) k)) (nI k) = some (nI (sumP (Pk n px py ad s f) n)) := by
  have e1 : w.1 (60+3*0) 2 = nI n := h.1
  have e2 := h.2.1
  have hn := h.2.2.2.2.1
  intro q
  induction q with
  | zero =>
    intro k m m' hk k1 k2
    obtain ⟨m, rfl⟩ : ∃ q, m = q + 1 := ⟨m - 1, by omega⟩
    obtain ⟨m', rfl⟩ : ∃ q, m' = q + 1 := ⟨m' - 1, by omega⟩
    obtain rfl : k = n := by omega
    constructor
    · rw [f_X1_becomesMadeFrom_L6_s, e1, if_pos (by rw [nI_leI (by omega) (by omega)]; omega)]
    · rw [f_X11_make_L37_s, e2, if_pos (by rw [nI_leI (by omega) (by omega)]; omega)]
  | succ q ih =>
    intro k m m' hk k1 k2
    obtain ⟨m, rfl⟩ : ∃ q, m = q + 1 := ⟨m - 1, by omega⟩
    obtain ⟨m', rfl⟩ : ∃ q, m' = q + 1 := ⟨m' - 1, by omega⟩
    obtain ⟨p1, p2, p3, p4, p5⟩ := Pk_e h (k := k) (by omega) hs hf
    obtain ⟨a, b⟩ := ih (k + 1) m m' (by omega) (by omega) (by omega)
    have ea : sumP (Pk n px py ad s f) (k + 1) = sumP (Pk n px py ad s f) k + Pk n px py ad s f k := rfl
    rw [ea] at a b
    constructor
    · rw [f_X1_becomesMadeFrom_L6_s, e1, if_neg (by rw [nI_leI (by omega) (by omega)]; omega), p3, bd_s]
      simp only [lt_e]
      rw [nI_add, nI_1]; exact a
    · rw [f_X11_make_L37_s, e2, if_neg (by rw [nI_leI (by omega) (by omega)]; omega), p4, bd_s]
      simp only [lt_e]
      rw [nI_add, nI_1]; exact b
theorem ways_L {n : Nat} {px py : Nat → Int32} {ad : Int32} {s f : Nat} (hs : 1 ≤ s ∧ s ≤ 12) (hf : 1 ≤ f ∧ f ≤ 12) (hall : sumP (Pk n px py ad s f) n ≤ 48) : ∀ (q k m m' : Nat) (w v : Mem), PT w v n px py ad → MK (sumP (Pk n px py ad s f) k) w v → k + q = n → q < m → q < m' → ∃ w' v', f_X1_becomesMadeFrom_L51 14 0 (nI s) (nI f) m (nI k) w = some w' ∧ f_X11_make_L80 (nI s) (nI f) m' (nI (672 + sumP (Pk n px py ad s f) k)) (nI k) v = some v' ∧ MK (sumP (Pk n px py ad s f) n) w' v' ∧ FRm w v w' v' := by
  intro q
  induction q with
  | zero =>
    intro k m m' w v hp hm hk k1 k2
    have e1 : w.1 (60+3*0) 2 = nI n := hp.1
    have e2 := hp.2.1
    have hn := hp.2.2.2.2.1
    obtain ⟨m, rfl⟩ : ∃ q, m = q + 1 := ⟨m - 1, by omega⟩
    obtain ⟨m', rfl⟩ : ∃ q, m' = q + 1 := ⟨m' - 1, by omega⟩
    obtain rfl : k = n := by omega
    refine ⟨w, v, ?_, ?_, hm, fun _ _ _ _ => rfl, rfl, fun _ _ _ => rfl, rfl, fun _ _ => ⟨rfl, rfl⟩⟩
    · rw [f_X1_becomesMadeFrom_L51_s, e1, if_pos (by rw [nI_leI (by omega) (by omega)]; omega)]
    · rw [f_X11_make_L80_s, e2, if_pos (by rw [nI_leI (by omega) (by omega)]; omega)]
  | succ q ih =>
    intro k m m' w v hp hm hk k1 k2
    have e1 : w.1 (60+3*0) 2 = nI n := hp.1
    have e2 := hp.2.1
    have hn := hp.2.2.2.2.1
    obtain ⟨m, rfl⟩ : ∃ q, m = q + 1 := ⟨m - 1, by omega⟩
    obtain ⟨m', rfl⟩ : ∃ q, m' = q + 1 := ⟨m' - 1, by omega⟩
    obtain ⟨p1, p2, p3, p4, p5⟩ := Pk_e hp (k := k) (by omega) hs hf
    obtain ⟨x1, x2⟩ := nextX_e hp (k := k) (by omega)
    obtain ⟨y1, y2⟩ := nextY_e hp (k := k) (by omega)
    obtain ⟨f1, f2, f3, f4, f5, f6⟩ := hp.2.2.2.2.2.2 k (by omega)
    have f1' : w.1 (61+3*0) k = px k := f1
    have f3' : w.1 (62+3*0) k = py k := f3
    have ea : sumP (Pk n px py ad s f) (k + 1) = sumP (Pk n px py ad s f) k + Pk n px py ad s f k := rfl
    have le : sumP (Pk n px py ad s f) (k + 1) ≤ 48 := by
      have := sumP_le (g := Pk n px py ad s f) q (k + 1)
      rw [show k + 1 + q = n by omega] at this; omega
    have fu : Pk n px py ad s f k < FU := by unfold FU; omega
    obtain ⟨w1, v1, r1, r2, r3, r4⟩ := way_L (c := sumP (Pk n px py ad s f) k) (P := Pk n px py ad s f k) (f := f) (show k < n by omega) p1 (by omega) hf.2 p5 (Pk n px py ad s f k) 0 FU FU w v 0 hp hm (by omega) fu fu (by simp)
    obtain ⟨w2, v2, s1, s2, s3, s4⟩ := ih (k + 1) m m' w1 v1 (PT_c hp r4) (by rw [ea]; exact r3) (by omega) (by omega) (by omega)
    refine ⟨w2, v2, ?_, ?_, s3, FRm_t r4 s4⟩
    · rw [f_X1_becomesMadeFrom_L51_s, e1, if_neg (by rw [nI_leI (by omega) (by omega)]; omega), p3, bd_s]
      unfold f_X1_addWay
      simp only [lt_e]
      rw [x1, bd_s, gd_t (inb_nI (by omega) (by omega)), nI_clamp (n := k) (by omega), f1', y1, bd_s, f3', show f_X1_addWay_L34 14 0 (nI k) (nI (Pk n px py ad s f k)) (nxX n px k - px k) (nxY n py ad k - py k) FU 0 1 w = f_X1_addWay_L34 14 0 (nI k) (nI (Pk n px py ad s f k)) (nxX n px k - px k) (nxY n py ad k - py k) FU 0 (nI (0 + 1)) w from rfl, r1, bd_s, bd_s, nI_1]
      exact s1
    · rw [f_X11_make_L80_s, e2, if_neg (by rw [nI_leI (by omega) (by omega)]; omega), p4, bd_s]
      simp only [lt_e]
      rw [show f_X11_make_L105 (nI k) (nI (Pk n px py ad s f k)) FU (nI (672 + sumP (Pk n px py ad s f) k)) 0 1 v = f_X11_make_L105 (nI k) (nI (Pk n px py ad s f k)) FU (nI (672 + (sumP (Pk n px py ad s f) k + 0))) 0 (nI (0 + 1)) v from rfl, r2, bd_s]
      simp only [tp2, nI_1]
      rw [← ea]
      exact s2
theorem step_4 {w v : Mem} (h : Rel w v) (x1 x2 : Int32) : ∃ r w' v', f_X10_make x1 x2 w = some (r, w') ∧ f_X11_make x1 x2 v = some (r, v') ∧ Rel w' v' := by
  have h0 := h
  obtain ⟨hD, hP, hH, hB, hJ, hS, hF, hR, hT⟩ := h
  unfold f_X10_make f_X11_make
  rcases in_c x1 1 12 with ⟨q1, a1⟩ | ⟨q1, a1⟩
  rotate_left
  · rw [q1, bd_s, if_pos rfl]
    refine ⟨-1, w, v, ?_, rfl, h0⟩
    by_cases c : x1 < 1
    · rw [if_pos c]
    · rw [if_neg c, if_pos (by rw [i_lt] at c ⊢; simp at c a1 ⊢; omega)]
  have b1 : ¬ x1 < 1 := by rw [i_lt]; simp at a1 ⊢; omega
  have b2 : ¬ 12 < x1 := by rw [i_lt]; simp at a1 ⊢; omega
  rw [q1, bd_s, if_neg one_ne, if_neg b1, if_neg b2]
  rcases in_c x2 1 12 with ⟨q2, a2⟩ | ⟨q2, a2⟩
  rotate_left
  · rw [q2, bd_s, if_pos rfl]
    refine ⟨-1, w, v, ?_, rfl, h0⟩
    by_cases c : x2 < 1
    · rw [if_pos c]
    · rw [if_neg c, if_neg (by rw [i_lt] at c; rw [i_le]; simp at c a2 ⊢; omega)]
  have b3 : ¬ x2 < 1 := by rw [i_lt]; simp at a2 ⊢; omega
  have b4 : x2 ≤ 12 := by rw [i_le]; simp at a2 ⊢; omega
  rw [q2, bd_s, if_neg one_ne, if_neg b3, if_pos b4]
  simp at a1 a2
  obtain ⟨s, hs, rfl⟩ := i_nat (x := x1) (N := 13) (by omega) (by omega) (by omega)
  obtain ⟨f, hf, rfl⟩ := i_nat (x := x2) (N := 13) (by omega) (by omega) (by omega)
  rw [nI_toInt (by omega)] at a1 a2
  have hs' : 1 ≤ s ∧ s ≤ 12 := by omega
  have hf' : 1 ≤ f ∧ f ≤ 12 := by omega
  by_cases n0 : v.1 0 1 = 0
  · obtain ⟨n, hn, e1, e2, _⟩ := hP
    rw [if_pos n0, if_pos (show w.1 (60+3*0) 2 = 0 by rw [← n0, e2]; exact e1)]
    exact ⟨-3, w, v, rfl, rfl, h0⟩
  obtain ⟨n, hp⟩ := PT_of hP n0
  have n0' : ¬ w.1 (60+3*0) 2 = 0 := by
    have e1 : w.1 (60+3*0) 2 = nI n := hp.1
    rw [e1]; rw [hp.2.1] at n0; exact n0
  rw [if_neg n0, if_neg n0']
  have hn := hp.2.2.2.2.1
  have sb := sumP_b hp hs' hf' n (Nat.le_refl _)
  obtain ⟨t1, t2⟩ := sum_L hp hs' hf' n 0 FU FU (by omega) (by unfold FU; omega) (by unfold FU; omega)
  unfold f_X1_becomesMadeFrom
  rw [show f_X1_becomesMadeFrom_L6 w 0 (nI s) (nI f) FU 0 0 = f_X1_becomesMadeFrom_L6 w 0 (nI s) (nI f) FU (nI (sumP (Pk n (v.1 1) (v.1 2) (v.1 0 4) s f) 0)) (nI 0) from rfl, t1, bd_s, show f_X11_make_L37 v (nI s) (nI f) FU 0 0 = f_X11_make_L37 v (nI s) (nI f) FU (nI (sumP (Pk n (v.1 1) (v.1 2) (v.1 0 4) s f) 0)) (nI 0) from rfl, t2, bd_s]
  by_cases c : sumP (Pk n (v.1 1) (v.1 2) (v.1 0 4) s f) n ≤ 48
  rotate_left
  · have c' : ¬ nI (sumP (Pk n (v.1 1) (v.1 2) (v.1 0 4) s f) n) ≤ 48 := by rw [nI_lit 48, nI_leI (by omega) (by omega)]; exact c
    rw [if_neg c', if_neg c', b2_s]
    exact ⟨-2, w, v, rfl, rfl, h0⟩
  have c' : nI (sumP (Pk n (v.1 1) (v.1 2) (v.1 0 4) s f) n) ≤ 48 := by rw [nI_lit 48, nI_leI (by omega) (by omega)]; exact c
  rw [if_pos c', if_pos c']
  have F0 : FRm w v (mS w 42 2 0) v := ⟨fun o p q r => mS_o p, rfl, fun _ _ _ => rfl, rfl, fun _ _ => ⟨rfl, rfl⟩⟩
  obtain ⟨w', v', r1, r2, r3, r4⟩ := ways_L hs' hf' c n 0 FU FU (mS w 42 2 0) v (PT_c hp F0) ⟨mS_eq, fun j hj => absurd hj (Nat.not_lt_zero _)⟩ (by omega) (by unfold FU; omega) (by unfold FU; omega)
  obtain ⟨g1, g2, g3, g4, g5⟩ := FRm_t F0 r4
  simp only [lt_e]
  rw [show f_X1_becomesMadeFrom_L51 14 0 (nI s) (nI f) FU 0 (mS w (3*14) 2 0) = f_X1_becomesMadeFrom_L51 14 0 (nI s) (nI f) FU (nI 0) (mS w 42 2 0) from rfl, r1, bd_s, b2_s, if_neg one_ne, show f_X11_make_L80 (nI s) (nI f) FU 672 0 v = f_X11_make_L80 (nI s) (nI f) FU (nI (672 + sumP (Pk n (v.1 1) (v.1 2) (v.1 0 4) s f) 0)) (nI 0) v from rfl, r2, bd_s, gd_t g14, z14, show w'.1 (3*14) 2 = nI (sumP (Pk n (v.1 1) (v.1 2) (v.1 0 4) s f) n) from r3.1]
  have k0 : (mS v' 3 14 (nI (sumP (Pk n (v.1 1) (v.1 2) (v.1 0 4) s f) n))).1 0 = v.1 0 := by rw [mS_o (by decide), g3 0 (by decide) (by decide)]
  have kk : ∀ o, o ≠ 3 → o ≠ 4 → o ≠ 5 → (mS v' 3 14 (nI (sumP (Pk n (v.1 1) (v.1 2) (v.1 0 4) s f) n))).1 o = v.1 o := fun o p q r => by rw [mS_o p, g3 o q r]
  have ww : ∀ o, 45 ≤ o → w'.1 o = w.1 o := fun o p => g1 o (by omega) (by omega) (by omega)
  refine ⟨_, w', _, rfl, rfl, ?_, ?_, ?_, ?_, ?_, ?_, ?_, ?_, ?_⟩
  · intro d hd
    by_cases q : d = 14
    · subst q
      refine ⟨_, c, r3.1, mS_eq, fun j hj => ?_⟩
      rw [mS_ne (show (4 : Nat) ≠ 3 by decide), mS_ne (show (5 : Nat) ≠ 3 by decide)]
      exact r3.2 j hj
    · obtain ⟨m, hm, e1, e2, e3⟩ := hD d hd
      refine ⟨m, hm, by rw [g1 _ (by omega) (by omega) (by omega)]; exact e1, by rw [mS_nj q, g3 3 (by decide) (by decide)]; exact e2, fun j hj => ?_⟩
      rw [g1 _ (by omega) (by omega) (by omega), g1 _ (by omega) (by omega) (by omega), mS_ne (show (4 : Nat) ≠ 3 by decide), mS_ne (show (5 : Nat) ≠ 3 by decide), (g5 (48*d+j) (by omega)).1, (g5 (48*d+j) (by omega)).2]
      exact e3 j hj
  · exact RP_c hP (ww _ (by omega)) (ww _ (by omega)) (ww _ (by omega)) (by rw [k0]) (by rw [k0]) (kk _ (by decide) (by decide) (by decide)) (kk _ (by decide) (by decide) (by decide))
  · exact RH_c hH (by rw [ww 72 (by omega)]) (ww _ (by omega)) (by rw [k0]) (kk _ (by decide) (by decide) (by decide))
  · exact RB_c hB (ww _ (by omega)) (ww _ (by omega)) (kk _ (by decide) (by decide) (by decide)) (by rw [k0]) (by rw [k0]) (by rw [k0]) (by rw [k0])
  · exact RJ_c hJ (by rw [ww 76 (by omega)]) (ww _ (by omega)) (ww _ (by omega)) (by rw [k0]) (kk _ (by decide) (by decide) (by decide)) (kk _ (by decide) (by decide) (by decide))
  · exact RS_c hS (ww _ (by omega)) (ww _ (by omega)) (ww _ (by omega)) (by rw [k0]) (kk _ (by decide) (by decide) (by decide)) (kk _ (by decide) (by decide) (by decide)) (kk _ (by decide) (by decide) (by decide))
  · exact RF_c hF (by rw [ww 83 (by omega)]) (ww _ (by omega)) (ww _ (by omega)) (by rw [k0]) (kk _ (by decide) (by decide) (by decide)) (kk _ (by decide) (by decide) (by decide))
  · exact RR_c hR (by rw [ww 66 (by omega)]) (by rw [k0])
  · refine RT_d hT (fun o a b => ww o (by omega)) (fun o a b => by rw [g2]) (fun t ht => ?_) (kk _ (by decide) (by decide) (by decide)) (kk _ (by decide) (by decide) (by decide)) (by rw [mS_at2, g4])
    rw [mS_nj (by omega), g3 3 (by decide) (by decide)]
