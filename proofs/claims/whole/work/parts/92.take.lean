/-! T3: what is taken from the text -/
def OKF (c m : MI) : Prop := c 4 8 = 0 ∧ m 24 15 = 0 ∧ c 4 9 = m 24 16
def FL (c m : MI) : Prop := ∃ e, 1 ≤ e ∧ e ≤ 5 ∧ c 4 8 = nI e ∧ m 24 15 = nI e ∧ c 4 9 = m 24 16
theorem NX.rd {n : Nat} {L : ML} {c m : MI} (h : NX n L c m) : ∃ j, RD n j c m := by
  obtain ⟨s, j, t, h1, _⟩ := h; exact ⟨j, h1⟩
theorem NX.n4 {n : Nat} {L : ML} {c m : MI} (h : NX n L c m) : c 4 4 ≠ 4 := by
  obtain ⟨s, j, t, h1, h2, h3, h4, h5, h6, h7, _⟩ := h
  rw [h5]
  exact fun z => by have := (nI_eq (a := t) (b := 4) (by omega) (by decide)).mp z; omega
theorem NX.ty {n : Nat} {L : ML} {c m : MI} (h : NX n L c m) : m 24 11 = c 4 4 := by
  obtain ⟨s, j, t, h1, h2, h3, h4, h5, h6, h7, _⟩ := h
  rw [h5, h6]
theorem NX.at {n : Nat} {L : ML} {c m : MI} (h : NX n L c m) : m 24 12 = c 4 5 := by
  obtain ⟨s, j, t, h1, h2, h3, h4, h5, h6, h7, _⟩ := h
  rw [h3, h4]
theorem NX.t2 {n : Nat} {L : ML} {c m : MI} (h : NX n L c m) (h2 : c 4 4 = 2) : ∃ v, v ≤ 99999 ∧ (c 4 6 = nI v ∨ c 4 6 = -nI v) ∧ m 24 14 = c 4 6 := by
  obtain ⟨s, j, t, h1, _, h3, h4, h5, h6, h7, h8, h9, h10, h11⟩ := h
  rw [h5] at h2
  exact h10 ((nI_eq (a := t) (b := 2) (by omega) (by decide)).mp h2)
theorem NX.t3 {n : Nat} {L : ML} {c m : MI} (h : NX n L c m) (h2 : c 4 4 = 3) : m 24 14 = c 4 6 := by
  obtain ⟨s, j, t, h1, _, h3, h4, h5, h6, h7, h8, h9, h10, h11⟩ := h
  rw [h5] at h2
  exact (h11 ((nI_eq (a := t) (b := 3) (by omega) (by decide)).mp h2)).1
theorem NX.t3s {n : Nat} {L : ML} {c m : MI} (h : NX n L c m) (h2 : c 4 4 = 3) : c 4 6 = 59 ∨ c 4 6 = 60 ∨ c 4 6 = 62 := by
  obtain ⟨s, j, t, h1, _, h3, h4, h5, h6, h7, h8, h9, h10, h11⟩ := h
  rw [h5] at h2
  exact (h11 ((nI_eq (a := t) (b := 3) (by omega) (by decide)).mp h2)).2
theorem NX.t1 {n : Nat} {L : ML} {c m : MI} (h : NX n L c m) (h2 : c 4 4 = 1) : ∃ s W, WW n s L m W := by
  obtain ⟨s, j, t, h1, _, h3, h4, h5, h6, h7, h8, h9, h10, h11⟩ := h
  rw [h5] at h2
  obtain ⟨W, hW⟩ := (h9 ((nI_eq (a := t) (b := 1) (by omega) (by decide)).mp h2)).w h1.1 h4
  exact ⟨s, W, hW⟩
theorem num_rng {v : Nat} {x : Int32} (hv : v ≤ 99999) (h : x = nI v ∨ x = -nI v) : ¬ x < -99999 ∧ x ≤ 99999 := by
  have e : (nI v).toInt = (v : Int) := nI_toInt (by omega)
  rcases h with rfl | rfl
  · rw [Int32.lt_iff_toInt_lt, Int32.le_iff_toInt_le, e]
    exact ⟨fun z => by have : (v : Int) < -99999 := z; omega, show (v : Int) ≤ 99999 by omega⟩
  · have e2 : (-nI v).toInt = -(v : Int) := by
      rw [Int32.toInt_neg, e]
      exact Int.bmod_eq_of_le (by omega) (by omega)
    rw [Int32.lt_iff_toInt_lt, Int32.le_iff_toInt_le, e2]
    exact ⟨fun z => by have : -(v : Int) < -99999 := z; omega, show -(v : Int) ≤ 99999 by omega⟩
section P25
variable {N n i : Nat} {pb : Nat} {L Lr : ML} {c m : MI}
theorem refC {x : Int32} (h : c 4 4 ≠ 4) : F_X8_refuse 4 x c L (GRf pb) = some (false, uI (uI c 4 8 x) 4 9 (c 4 5)) := by
  have e : ∀ v, uI c 4 8 v 4 5 = c 4 5 := fun v => uI_at (by omega)
  simp only [F_X8_refuse, ck_4, if_true, if_neg h, wre, b1e, e]
theorem refC4 {x : Int32} (h : c 4 4 = 4) : F_X8_refuse 4 x c L (GRf pb) = some (false, c) := by
  simp only [F_X8_refuse, ck_4, if_true, h, b1e]
theorem wrM {x y : Int32} (h : m 24 15 = 0) : F_X12_wrong 24 x y m L (GRf pb) = some (uI (uI m 24 15 x) 24 16 y) := by
  simp only [F_X12_wrong, ck_24, if_true, h, wre]
theorem wrM1 {x y : Int32} (h : m 24 15 ≠ 0) : F_X12_wrong 24 x y m L (GRf pb) = some m := by
  simp only [F_X12_wrong, ck_24, if_true, if_neg h]
theorem FL.ne (h : FL c m) : m 24 15 ≠ 0 := by
  obtain ⟨e, h1, h2, h3, h4, h5⟩ := h
  rw [h4]; exact nI_ne0 (by omega) (by omega)
theorem FL.nle (h : FL c m) : ¬ m 24 15 ≤ 0 := by
  obtain ⟨e, h1, h2, h3, h4, h5⟩ := h
  rw [h4]; exact nI_ge (a := 0) (by omega) (by omega)
/-- after a fault the reference reads no more -/
theorem FL.nx (h : FL c m) : F_X12_next N 24 m Lr (GRf pb) = some (false, m) := by
  simp only [F_X12_next, ck_24, if_true, if_neg h.nle]
theorem FL.of {e : Nat} {x y : Int32} (h1 : 1 ≤ e) (h2 : e ≤ 5) (h : x = y) : FL (uI (uI c 4 8 (nI e)) 4 9 x) (uI (uI m 24 15 (nI e)) 24 16 y) := by
  refine ⟨e, h1, h2, ?_, ?_, ?_⟩
  · rw [uI_at (by omega), uI_same]
  · rw [uI_at (by omega), uI_same]
  · rw [uI_same, uI_same, h]
theorem nx_ok (hN : 5000 ≤ N) (h : RD n i c m) (ho : OKF c m) :
    ∃ r c' L' m', F_X8_next N 4 c L (GRf pb) = some (c', L') ∧ F_X12_next N 24 m Lr (GRf pb) = some (r, m') ∧ A4 c c' ∧ AL L L' ∧ A24 m m' ∧
      ((r = true ∧ NX n L' c' m' ∧ OKF c' m') ∨ (r = false ∧ c' 4 4 = 4 ∧ FL c' m')) := by
  obtain ⟨r, c', L', m', e1, e2, e3, e4, e5, e6⟩ := next_ok (L := L) (Lr := Lr) (pb := pb) hN h ho.2.1
  refine ⟨r, c', L', m', e1, e2, e3, e4, e5, ?_⟩
  rcases e6 with ⟨k1, k2, k3, k4, k5⟩ | ⟨k1, k2⟩
  · refine Or.inl ⟨k1, k2, by rw [k3]; exact ho.1, ?_, by rw [k4, k5]; exact ho.2.2⟩
    obtain ⟨_, _, _, _, _, _, _, _, _, _, z, _⟩ := k2
    exact z
  · exact Or.inr ⟨k1, k2.1, 1, Nat.le_refl _, by omega, k2.2.1, k2.2.2.1, k2.2.2.2⟩
theorem tn_ok (hN : 5000 ≤ N) (h : RD n i c m) (ho : OKF c m) :
    ∃ c' L' m' v, A4 c c' ∧ AL L L' ∧ A24 m m' ∧ F_X12_number N 24 (-99999) 99999 m Lr (GRf pb) = some (v, m') ∧
      ((F_X8_takeNumber N 4 c L (GRf pb) = some (true, c', L') ∧ NX n L' c' m' ∧ OKF c' m' ∧ v = c' 4 6 ∧ m' 24 14 = c' 4 6) ∨ (F_X8_takeNumber N 4 c L (GRf pb) = some (false, c', L') ∧ FL c' m')) := by
  obtain ⟨r, c', L', m', e1, e2, e3, e4, e5, e6⟩ := nx_ok (L := L) (Lr := Lr) (pb := pb) hN h ho
  rcases e6 with ⟨rfl, k2, k3⟩ | ⟨rfl, k2, k3⟩
  · by_cases q : c' 4 4 = 2
    · obtain ⟨v, v1, v2, v3⟩ := k2.t2 q
      obtain ⟨g1, g2⟩ := num_rng v1 v2
      refine ⟨c', L', m', c' 4 6, e3, e4, e5, ?_, Or.inl ⟨?_, k2, k3, rfl, v3⟩⟩
      · simp only [F_X12_number, ck_24, if_true, e2, b2e, b2t, if_false, k2.ty, if_pos q, v3, if_neg g1, if_pos g2, b1e]
      · simp only [F_X8_takeNumber, ck_4, if_true, e1, b2e, if_pos q]
    · refine ⟨uI (uI c' 4 8 2) 4 9 (c' 4 5), L', uI (uI m' 24 15 2) 24 16 (m' 24 12), uI (uI m' 24 15 2) 24 16 (m' 24 12) 24 14, (e3.u (by omega)).u (by omega), e4, (e5.u (by omega)).u (by omega), ?_, Or.inr ⟨?_, FL.of (e := 2) (by omega) (by omega) k2.at.symm⟩⟩
      · simp only [F_X12_number, ck_24, if_true, e2, b2e, b2t, if_false, k2.ty, if_neg q, wrM k3.2.1, b1e]
      · simp only [F_X8_takeNumber, ck_4, if_true, e1, b2e, if_neg q, refC k2.n4, b2f]
  · have q : ¬ c' 4 4 = 2 := by rw [k2]; decide
    refine ⟨c', L', m', 0, e3, e4, e5, ?_, Or.inr ⟨?_, k3⟩⟩
    · simp only [F_X12_number, ck_24, if_true, e2, b2e, b2f]
    · simp only [F_X8_takeNumber, ck_4, if_true, e1, b2e, if_neg q, refC4 k2, b2f]
theorem tr_ok (lo hi : Int32) (hN : 5000 ≤ N) (h : RD n i c m) (ho : OKF c m) :
    ∃ c' L' m' v, A4 c c' ∧ AL L L' ∧ A24 m m' ∧ F_X12_number N 24 lo hi m Lr (GRf pb) = some (v, m') ∧
      ((F_X8_takeNumber_ N 4 lo hi c L (GRf pb) = some (true, c', L') ∧ NX n L' c' m' ∧ OKF c' m' ∧ v = c' 4 6 ∧ m' 24 14 = c' 4 6 ∧ ¬ c' 4 6 < lo ∧ ¬ hi < c' 4 6) ∨ (F_X8_takeNumber_ N 4 lo hi c L (GRf pb) = some (false, c', L') ∧ FL c' m')) := by
  obtain ⟨r, c', L', m', e1, e2, e3, e4, e5, e6⟩ := nx_ok (L := L) (Lr := Lr) (pb := pb) hN h ho
  rcases e6 with ⟨rfl, k2, k3⟩ | ⟨rfl, k2, k3⟩
  · by_cases q : c' 4 4 = 2
    · obtain ⟨v, v1, v2, v3⟩ := k2.t2 q
      have bad : ∀ z : inV (c' 4 6) lo hi = false, F_X8_takeNumber_ N 4 lo hi c L (GRf pb) = some (false, uI (uI c' 4 8 5) 4 9 (c' 4 5), L') := fun z => by
        simp only [F_X8_takeNumber_, ck_4, if_true, e1, b2e, if_pos q, inC_val, z, b1e, b2f, refC k2.n4]
      by_cases g1 : c' 4 6 < lo
      · refine ⟨uI (uI c' 4 8 5) 4 9 (c' 4 5), L', uI (uI m' 24 15 5) 24 16 (m' 24 12), uI (uI m' 24 15 5) 24 16 (m' 24 12) 24 14, (e3.u (by omega)).u (by omega), e4, (e5.u (by omega)).u (by omega), ?_, Or.inr ⟨bad (by unfold inV; rw [if_pos g1]), FL.of (e := 5) (by omega) (by omega) k2.at.symm⟩⟩
        simp only [F_X12_number, ck_24, if_true, e2, b2e, b2t, if_false, k2.ty, if_pos q, v3, if_pos g1, wrM k3.2.1, b1e]
      · by_cases g2 : hi < c' 4 6
        · refine ⟨uI (uI c' 4 8 5) 4 9 (c' 4 5), L', uI (uI m' 24 15 5) 24 16 (m' 24 12), uI (uI m' 24 15 5) 24 16 (m' 24 12) 24 14, (e3.u (by omega)).u (by omega), e4, (e5.u (by omega)).u (by omega), ?_, Or.inr ⟨bad (by unfold inV; rw [if_neg g1, if_pos g2]), FL.of (e := 5) (by omega) (by omega) k2.at.symm⟩⟩
          simp only [F_X12_number, ck_24, if_true, e2, b2e, b2t, if_false, k2.ty, if_pos q, v3, if_neg g1, if_neg (Int32.not_le.mpr g2), wrM k3.2.1, b1e]
        · refine ⟨c', L', m', c' 4 6, e3, e4, e5, ?_, Or.inl ⟨?_, k2, k3, rfl, v3, g1, g2⟩⟩
          · simp only [F_X12_number, ck_24, if_true, e2, b2e, b2t, if_false, k2.ty, if_pos q, v3, if_neg g1, if_pos (Int32.not_lt.mp g2), b1e]
          · have z : inV (c' 4 6) lo hi = true := by unfold inV; rw [if_neg g1, if_neg g2]
            simp only [F_X8_takeNumber_, ck_4, if_true, e1, b2e, if_pos q, inC_val, z, b1e, b2t, if_false]
    · refine ⟨uI (uI c' 4 8 2) 4 9 (c' 4 5), L', uI (uI m' 24 15 2) 24 16 (m' 24 12), uI (uI m' 24 15 2) 24 16 (m' 24 12) 24 14, (e3.u (by omega)).u (by omega), e4, (e5.u (by omega)).u (by omega), ?_, Or.inr ⟨?_, FL.of (e := 2) (by omega) (by omega) k2.at.symm⟩⟩
      · simp only [F_X12_number, ck_24, if_true, e2, b2e, b2t, if_false, k2.ty, if_neg q, wrM k3.2.1, b1e]
      · simp only [F_X8_takeNumber_, ck_4, if_true, e1, b2e, if_neg q, refC k2.n4]
  · have q : ¬ c' 4 4 = 2 := by rw [k2]; decide
    refine ⟨c', L', m', 0, e3, e4, e5, ?_, Or.inr ⟨?_, k3⟩⟩
    · simp only [F_X12_number, ck_24, if_true, e2, b2e, b2f]
    · simp only [F_X8_takeNumber_, ck_4, if_true, e1, b2e, if_neg q, refC4 k2]
theorem ts_ok (x : Int32) (hN : 5000 ≤ N) (h : RD n i c m) (ho : OKF c m) :
    ∃ c' L' m', A4 c c' ∧ AL L L' ∧ A24 m m' ∧ F_X12_sign N 24 x m Lr (GRf pb) = some m' ∧
      ((F_X8_takeSign N 4 x c L (GRf pb) = some (true, c', L') ∧ NX n L' c' m' ∧ OKF c' m') ∨ (F_X8_takeSign N 4 x c L (GRf pb) = some (false, c', L') ∧ FL c' m')) := by
  obtain ⟨r, c', L', m', e1, e2, e3, e4, e5, e6⟩ := nx_ok (L := L) (Lr := Lr) (pb := pb) hN h ho
  rcases e6 with ⟨rfl, k2, k3⟩ | ⟨rfl, k2, k3⟩
  · by_cases q : c' 4 4 = 3
    · have v3 := k2.t3 q
      by_cases p : c' 4 6 = x
      · refine ⟨c', L', m', e3, e4, e5, ?_, Or.inl ⟨?_, k2, k3⟩⟩
        · simp only [F_X12_sign, ck_24, if_true, e2, b2e, b2t, if_false, k2.ty, if_pos q, v3, if_pos p]
        · simp only [F_X8_takeSign, F_X8_isSign, ck_4, if_true, e1, b2e, if_pos q, if_pos p, b1e, b2t, if_false]
      · refine ⟨uI (uI c' 4 8 2) 4 9 (c' 4 5), L', uI (uI m' 24 15 2) 24 16 (m' 24 12), (e3.u (by omega)).u (by omega), e4, (e5.u (by omega)).u (by omega), ?_, Or.inr ⟨?_, FL.of (e := 2) (by omega) (by omega) k2.at.symm⟩⟩
        · simp only [F_X12_sign, ck_24, if_true, e2, b2e, b2t, if_false, k2.ty, if_pos q, v3, if_neg p, wrM k3.2.1, b1e]
        · simp only [F_X8_takeSign, F_X8_isSign, ck_4, if_true, e1, b2e, if_pos q, if_neg p, b1e, b2f, refC k2.n4]
    · refine ⟨uI (uI c' 4 8 2) 4 9 (c' 4 5), L', uI (uI m' 24 15 2) 24 16 (m' 24 12), (e3.u (by omega)).u (by omega), e4, (e5.u (by omega)).u (by omega), ?_, Or.inr ⟨?_, FL.of (e := 2) (by omega) (by omega) k2.at.symm⟩⟩
      · simp only [F_X12_sign, ck_24, if_true, e2, b2e, b2t, if_false, k2.ty, if_neg q, wrM k3.2.1, b1e]
      · simp only [F_X8_takeSign, F_X8_isSign, ck_4, if_true, e1, b2e, if_neg q, b1e, b2f, refC k2.n4]
  · have q : ¬ c' 4 4 = 3 := by rw [k2]; decide
    refine ⟨c', L', m', e3, e4, e5, ?_, Or.inr ⟨?_, k3⟩⟩
    · simp only [F_X12_sign, ck_24, if_true, e2, b2e, b2f]
    · simp only [F_X8_takeSign, F_X8_isSign, ck_4, if_true, e1, b2e, if_neg q, b1e, refC4 k2, b2f]
theorem sg_fl (x : Int32) (h : FL c m) : F_X12_sign N 24 x m Lr (GRf pb) = some m := by
  simp only [F_X12_sign, ck_24, if_true, h.nx, b2e, b2f]
theorem nr_fl (lo hi : Int32) (h : FL c m) : F_X12_number N 24 lo hi m Lr (GRf pb) = some (0, m) := by
  simp only [F_X12_number, ck_24, if_true, h.nx, b2e, b2f]
end P25
