/-! T3: the first unit that ..; the wish of an axis -/
def fd (p : Nat → Bool) : Nat → Int32 → Int32
  | 0, y => y
  | i + 1, y => fd p i (cond (p i) (nI i) y)
theorem fd_none {p : Nat → Bool} : ∀ (n : Nat) (y : Int32), (∀ i, i < n → p i = false) → fd p n y = y := by
  intro n
  induction n with
  | zero => intro y _; rfl
  | succ n ih =>
    intro y h
    rw [fd, h n (by omega), cond_false]
    exact ih y (fun i hi => h i (by omega))
theorem fd_some {p : Nat → Bool} {j : Nat} (hp : p j = true) (hl : ∀ i, i < j → p i = false) : ∀ (n : Nat) (y : Int32), j < n → fd p n y = nI j := by
  intro n
  induction n with
  | zero => intro y h; omega
  | succ n ih =>
    intro y h
    rw [fd]
    by_cases q : j = n
    · subst q
      rw [hp, cond_true]
      exact fd_none _ _ hl
    · exact ih _ (by omega)
theorem down1 {f : Nat → Nat → Int32 → Option Int32} {p : Nat → Bool} (n : Nat) (he : ∀ k y, f (k + 1) 0 y = some y) (hs : ∀ k i y, i < n → f (k + 1) (i + 1) y = f k i (cond (p i) (nI i) y)) : ∀ (i k : Nat) (y : Int32), i ≤ n → i < k → f k i y = some (fd p i y) := by
  intro i
  induction i with
  | zero =>
    intro k y _ hk
    obtain ⟨k, rfl⟩ : ∃ z, k = z + 1 := ⟨k - 1, by omega⟩
    exact he k y
  | succ i ih =>
    intro k y hi hk
    obtain ⟨k, rfl⟩ : ∃ z, k = z + 1 := ⟨k - 1, by omega⟩
    rw [hs k i y (by omega), fd]
    exact ih k _ (by omega) (by omega)
theorem find1 {f : Nat → Nat → Option (Sum Int32 Unit)} {p : Nat → Bool} {g : Nat → Int32} (n : Nat) (he : ∀ k, f (k + 1) n = some (.inr ())) (h0 : ∀ k i, i < n → p i = false → f (k + 1) i = f k (i + 1)) (h1 : ∀ k i, i < n → p i = true → f (k + 1) i = some (.inl (g i))) : ∀ (d i k : Nat), i + d = n → d < k → ((∀ j, i ≤ j → j < n → p j = false) ∧ f k i = some (.inr ())) ∨ ∃ j, i ≤ j ∧ j < n ∧ p j = true ∧ (∀ z, i ≤ z → z < j → p z = false) ∧ f k i = some (.inl (g j)) := by
  intro d
  induction d with
  | zero =>
    intro i k hi hk
    obtain ⟨k, rfl⟩ : ∃ z, k = z + 1 := ⟨k - 1, by omega⟩
    have : i = n := by omega
    subst this
    exact Or.inl ⟨fun j h1 h2 => by omega, he k⟩
  | succ d ih =>
    intro i k hi hk
    obtain ⟨k, rfl⟩ : ∃ z, k = z + 1 := ⟨k - 1, by omega⟩
    cases e : p i with
    | true => exact Or.inr ⟨i, Nat.le_refl _, by omega, e, fun z a b => by omega, h1 k i (by omega) e⟩
    | false =>
      have hk1 : f (k + 1) i = f k (i + 1) := h0 k i (by omega) e
      rw [hk1]
      rcases ih (i + 1) k (by omega) (by omega) with ⟨a, b⟩ | ⟨j, a, b, c, d, e2⟩
      · refine Or.inl ⟨fun j h1 h2 => ?_, b⟩
        by_cases q : j = i
        · subst q; exact e
        · exact a j (by omega) h2
      · refine Or.inr ⟨j, by omega, b, c, fun z h1 h2 => ?_, e2⟩
        by_cases q : z = i
        · subst q; exact e
        · exact d z (by omega) h2
theorem bsl {α β γ : Type} (a : α) (g1 : α → Option γ) (g2 : β → Option γ) : bsm (some (.inl a)) g1 g2 = g1 a := (Eq.refl _).trans rfl
theorem bsr {α β γ : Type} (a : β) (g1 : α → Option γ) (g2 : β → Option γ) : bsm (some (.inr a)) g1 g2 = g2 a := (Eq.refl _).trans rfl
theorem nI_m (j : Nat) : nI j + (-1) = nI j - 1 := (Int32.sub_eq_add_neg _ _).symm
theorem nI_m0 : (nI 0 - 1 < 0) = True := eq_true (by decide)
section P4
variable {N n : Nat} {cd : Nat → Nat} {pb : Nat} {L : ML} {t s0 B D : Nat} {c m : MI}
def pO (cd : Nat → Nat) (X : Nat → Int32) (l : Nat) (y : Int32) (i : Nat) : Bool := isL (cd i) l && (isL (cd i) 6 && decide (X (65 * i + 22) = 1)) && (decide (y < 0) || decide (X (65 * i + 35) = y))
theorem firstOn_val {l : Nat} {y : Int32} (hN : 5000 ≤ N) (h : RC n cd pb L t s0 B D c m) (hl : l < 29) : F_X12_firstOn N 24 (nI l) y m L (GRf pb) = some (fd (pO cd (m 37) l y) n (-1)) := by
  have hn := h.n20
  have key := down1 (f := fun k i z => LF_X12_firstOn_10 N k 24 (nI l) y z (nI i - 1) m L (GRf pb)) (p := pO cd (m 37) l y) n ?_ ?_ n N (-1) (by omega) (by omega)
  · simp only [F_X12_firstOn, ck_24, if_true, wre, h.nm]
    rw [key]
    rfl
  · intro k z
    simp only [LF_X12_firstOn_10, nI_m0, if_true]
  · intro k i z hi
    have hu := h.lt20 hi
    have z0 : (nI i < 0) = False := eq_false (nI_pos (by omega))
    have f1 : F_X12_isA N 24 (nI i) (nI l) m L (GRf pb) = _ := h.isA (l := l) (by omega) hi hl
    have onm := h.onM (show 6 ≤ N by omega) hi
    unfold pO
    cases el : isL (cd i) l with
    | false => simp only [LF_X12_firstOn_10, nI_pred, z0, if_false, f1, el, b1e, b2f, if_true, wre, nI_m, Bool.false_and, cond_false]
    | true =>
      cases eo : (isL (cd i) 6 && decide (m 37 (65 * i + 22) = 1)) with
      | false => simp only [LF_X12_firstOn_10, nI_pred, z0, if_false, f1, el, b1e, b2t, b2f, if_true, wre, nI_m, onm, eo, Bool.true_and, Bool.false_and, cond_false]
      | true =>
        by_cases ey : y < 0
        · simp only [LF_X12_firstOn_10, nI_pred, z0, if_false, f1, el, b1e, b2t, b2f, if_true, wre, nI_m, onm, eo, Bool.true_and, if_pos ey, decide_eq_true ey, Bool.true_or, cond_true]
        · by_cases ex : m 37 (65 * i + 35) = y
          · simp only [LF_X12_firstOn_10, nI_pred, z0, if_false, f1, el, b1e, b2t, b2f, if_true, wre, nI_m, onm, eo, Bool.true_and, if_neg ey, decide_eq_false ey, Bool.false_or, gt_35 hu, if_pos ex, decide_eq_true ex, cond_true]
          · simp only [LF_X12_firstOn_10, nI_pred, z0, if_false, f1, el, b1e, b2t, b2f, if_true, wre, nI_m, onm, eo, Bool.true_and, if_neg ey, decide_eq_false ey, Bool.false_or, gt_35 hu, if_neg ex, decide_eq_false ex, cond_false]
theorem i126 : ∀ c, c < 29 → isL c 12 = true → isL c 6 = true := by decide
theorem i106 : ∀ c, c < 29 → isL c 10 = true → isL c 6 = true := by decide
theorem sun_ok (hN : 5000 ≤ N) (h : RC n cd pb L t s0 B D c m) : ∃ e z, F_X7_sunError N 12 c L (GRf pb) = some e ∧ F_X12_firstOn N 24 12 (-1) m L (GRf pb) = some z ∧ ((z = -1 ∧ e = 200) ∨ ∃ j, j < n ∧ z = nI j ∧ e = if m 37 (65 * j + 32) = 9999 then 200 else m 37 (65 * j + 32)) := by
  have hn := h.n20
  have e1 := firstOn_val (l := 12) (y := -1) hN h (by decide)
  have key := find1 (f := fun k i => LF_X7_sunError_2 N k 12 (nI i) c L (GRf pb)) (p := pO cd (m 37) 12 (-1)) (g := fun j => if m 37 (65 * j + 32) = 9999 then 200 else m 37 (65 * j + 32)) n ?_ ?_ ?_ n 0 N (by omega) (by omega)
  · rcases key with ⟨a, b⟩ | ⟨j, -, a2, a3, a4, b⟩
    · refine ⟨200, _, ?_, e1, Or.inl ⟨fd_none _ _ (fun i hi => a i (by omega) hi), rfl⟩⟩
      have b : LF_X7_sunError_2 N N 12 0 c L (GRf pb) = _ := b
      simp only [F_X7_sunError, ck_12, if_true, b, bsr]
    · refine ⟨_, _, ?_, e1, Or.inr ⟨j, a2, fd_some a3 (fun i hi => a4 i (by omega) hi) n _ a2, rfl⟩⟩
      have b : LF_X7_sunError_2 N N 12 0 c L (GRf pb) = _ := b
      simp only [F_X7_sunError, ck_12, if_true, b, bsl]
  · intro k
    simp only [LF_X7_sunError_2, rf_12_0, bse, h.size, b1e, nle h.n20, if_true]
  · intro k i hi ep
    have hu := h.lt20 hi
    have hu' : i ≤ 20 := by omega
    have on : F_X9_isOn (U i) 12 c L (GRf pb) = _ := h.on (l := 12) hi (by decide) (by decide)
    have eo : (isL (cd i) 12 && decide (m 37 (65 * i + 22) = 1)) = false := by
      have z := i126 _ (h.cd29 hi)
      unfold pO at ep
      cases q : isL (cd i) 12 with
      | false => rfl
      | true =>
        rw [q, z q, show decide ((-1 : Int32) < 0) = true by decide, Bool.true_or, Bool.and_true, Bool.true_and, Bool.true_and] at ep
        rw [ep]; rfl
    simp only [LF_X7_sunError_2, rf_12_0, bse, h.size, b1e, nlt hi h.n20, if_false, h.at hi, ck_U hu', if_true, on, eo, b2f, wre, nI_1]
  · intro k i hi ep
    have hu := h.lt20 hi
    have hu' : i ≤ 20 := by omega
    have on : F_X9_isOn (U i) 12 c L (GRf pb) = _ := h.on (l := 12) hi (by decide) (by decide)
    have eo : (isL (cd i) 12 && decide (m 37 (65 * i + 22) = 1)) = true := by
      unfold pO at ep
      rw [Bool.and_eq_true, Bool.and_eq_true, Bool.and_eq_true] at ep
      rw [ep.1.1, ep.1.2.2]; rfl
    have p32 := h.pt (k := 32) hi (by decide) (by decide) (by decide) (by decide) (by decide)
    by_cases q : m 37 (65 * i + 32) = 9999
    · simp only [LF_X7_sunError_2, rf_12_0, bse, h.size, b1e, nlt hi h.n20, if_false, h.at hi, ck_U hu', if_true, on, eo, b2t, rf_U0 hu', rp_32 hu', p32, if_pos q]
    · simp only [LF_X7_sunError_2, rf_12_0, bse, h.size, b1e, nlt hi h.n20, if_false, h.at hi, ck_U hu', if_true, on, eo, b2t, rf_U0 hu', rp_32 hu', p32, if_neg q]
theorem rate_ok {x : Nat} (hN : 5000 ≤ N) (h : RC n cd pb L t s0 B D c m) (hx : x < 3) : ∃ e z, F_X7_measuredRate N 12 (nI x) c L (GRf pb) = some e ∧ F_X12_firstOn N 24 10 (nI x) m L (GRf pb) = some z ∧ ((z = -1 ∧ e = 0) ∨ ∃ j, j < n ∧ z = nI j ∧ e = m 37 (65 * j + 32)) := by
  have hn := h.n20
  have e1 := firstOn_val (l := 10) (y := nI x) hN h (by decide)
  have y0 : decide (nI x < 0) = false := decide_eq_false (nI_pos (by omega))
  have key := find1 (f := fun k i => LF_X7_measuredRate_2 N k 12 (nI x) (nI i) c L (GRf pb)) (p := pO cd (m 37) 10 (nI x)) (g := fun j => m 37 (65 * j + 32)) n ?_ ?_ ?_ n 0 N (by omega) (by omega)
  · rcases key with ⟨a, b⟩ | ⟨j, -, a2, a3, a4, b⟩
    · refine ⟨0, _, ?_, e1, Or.inl ⟨fd_none _ _ (fun i hi => a i (by omega) hi), rfl⟩⟩
      have b : LF_X7_measuredRate_2 N N 12 (nI x) 0 c L (GRf pb) = _ := b
      simp only [F_X7_measuredRate, ck_12, if_true, b, bsr]
    · refine ⟨_, _, ?_, e1, Or.inr ⟨j, a2, fd_some a3 (fun i hi => a4 i (by omega) hi) n _ a2, rfl⟩⟩
      have b : LF_X7_measuredRate_2 N N 12 (nI x) 0 c L (GRf pb) = _ := b
      simp only [F_X7_measuredRate, ck_12, if_true, b, bsl]
  · intro k
    simp only [LF_X7_measuredRate_2, rf_12_0, bse, h.size, b1e, nle h.n20, if_true]
  · intro k i hi ep
    have hu := h.lt20 hi
    have hu' : i ≤ 20 := by omega
    have on : F_X9_isOn (U i) 10 c L (GRf pb) = _ := h.on (l := 10) hi (by decide) (by decide)
    have p35 := h.pt (k := 35) hi (by decide) (by decide) (by decide) (by decide) (by decide)
    unfold pO at ep
    rw [y0, Bool.false_or] at ep
    cases q : isL (cd i) 10 with
    | false => simp only [LF_X7_measuredRate_2, rf_12_0, bse, h.size, b1e, nlt hi h.n20, if_false, h.at hi, ck_U hu', if_true, on, q, Bool.false_and, b2f, wre, nI_1]
    | true =>
      rw [q, i106 _ (h.cd29 hi) q, Bool.true_and, Bool.true_and] at ep
      cases q2 : decide (m 37 (65 * i + 22) = 1) with
      | false => simp only [LF_X7_measuredRate_2, rf_12_0, bse, h.size, b1e, nlt hi h.n20, if_false, h.at hi, ck_U hu', if_true, on, q, q2, Bool.true_and, b2f, wre, nI_1]
      | true =>
        rw [q2, Bool.true_and] at ep
        simp only [LF_X7_measuredRate_2, rf_12_0, bse, h.size, b1e, nlt hi h.n20, if_false, h.at hi, ck_U hu', if_true, on, q, q2, Bool.true_and, b2t, rf_U0 hu', rp_35 hu', p35, if_neg (of_decide_eq_false ep), wre, nI_1]
  · intro k i hi ep
    have hu := h.lt20 hi
    have hu' : i ≤ 20 := by omega
    have on : F_X9_isOn (U i) 10 c L (GRf pb) = _ := h.on (l := 10) hi (by decide) (by decide)
    have p35 := h.pt (k := 35) hi (by decide) (by decide) (by decide) (by decide) (by decide)
    have p32 := h.pt (k := 32) hi (by decide) (by decide) (by decide) (by decide) (by decide)
    unfold pO at ep
    rw [y0, Bool.false_or, Bool.and_eq_true, Bool.and_eq_true, Bool.and_eq_true] at ep
    simp only [LF_X7_measuredRate_2, rf_12_0, bse, h.size, b1e, nlt hi h.n20, if_false, h.at hi, ck_U hu', if_true, on, ep.1.1, ep.1.2.2, Bool.true_and, b2t, rf_U0 hu', rp_35 hu', p35, if_pos (of_decide_eq_true ep.2), rp_32 hu', p32]
theorem x3 {x : Nat} (hx : x < 3) : (nI x < 0) = False ∧ (Int32.ofNat 3 ≤ nI x) = False := ⟨eq_false (nI_pos (by omega)), eq_false (nI_ge (b := 3) hx (by decide))⟩
theorem angC {x : Nat} (hx : x < 3) : F_X7_angle 12 (nI x) c L (GRf pb) = some (c 13 x) := by
  simp only [F_X7_angle, ck_12, if_true, (x3 hx).1, if_false, rf_12_1, bse, ln_13, (x3 hx).2, ri_nI ln_13 hx (show 3 < 2 ^ 31 by decide)]
theorem ratC {x : Nat} (hx : x < 3) : F_X7_rate 12 (nI x) c L (GRf pb) = some (c 14 x) := by
  simp only [F_X7_rate, ck_12, if_true, (x3 hx).1, if_false, rf_12_2, bse, ln_14, (x3 hx).2, ri_nI ln_14 hx (show 3 < 2 ^ 31 by decide)]
theorem aimC {x : Nat} (hx : x < 3) : F_X7_aim 12 (nI x) c L (GRf pb) = some (c 15 x) := by
  simp only [F_X7_aim, ck_12, if_true, (x3 hx).1, if_false, rf_12_3, bse, ln_15, (x3 hx).2, ri_nI ln_15 hx (show 3 < 2 ^ 31 by decide)]
theorem spdC {x : Nat} {v : Int32} (hx : x < 3) : F_X7_speedUp 12 (nI x) v c L (GRf pb) = some (uI c 14 x (c 14 x + v)) := by
  simp only [F_X7_speedUp, ck_12, if_true, (x3 hx).1, if_false, rf_12_2, bse, ln_14, (x3 hx).2, ri_nI ln_14 hx (show 3 < 2 ^ 31 by decide), wi_nI ln_14 hx (show 3 < 2 ^ 31 by decide)]
theorem wish_ok {x : Nat} (hN : 5000 ≤ N) (h : RC n cd pb L t s0 B D c m) (hx : x < 3) (hm : m 24 35 = 1 ∨ m 24 35 = 2) : ∃ v2 v4, F_X7_error N 12 (nI x) (m 24 35) c L (GRf pb) = some v2 ∧ F_X7_measuredRate N 12 (nI x) c L (GRf pb) = some v4 ∧ F_X12_wish N 24 (nI x) m L (GRf pb) = some (lmt (v2 / 16 - 2 * v4) (-30) 30) := by
  obtain ⟨r, z, r1, r2, r3⟩ := rate_ok hN h hx
  have an := h.ang hx
  have am := h.aim hx
  have tail : ∀ w : Int32, (bn1 (F_X12_firstOn N 24 10 (nI x) m L (GRf pb)) fun v33 => bn1 (if v33 = (-1 : Int32) then some (0 : Int32) else bn1 (F_X12_get 24 v33 32 m L (GRf pb)) fun v39 => some v39) fun s35 => bn1 (F_X12_limit (w / 16 - 2 * s35) (-30) 30 m L (GRf pb)) fun v41 => some v41) = some (lmt (w / 16 - 2 * r) (-30) 30) := by
    intro w
    have lim : ∀ y, F_X12_limit y (-30) 30 m L (GRf pb) = some (lmt y (-30) 30) := fun y => limM_val
    rcases r3 with ⟨rfl, rfl⟩ | ⟨j, hj, rfl, rfl⟩
    · simp only [r2, b1e, m1_m1, if_true, lim]
    · have hj20 := h.lt20 hj
      simp only [r2, b1e, nI_m1 (show j < 2 ^ 31 by omega), if_false, gt_32 hj20, lim]
  rcases hm with hm | hm
  · refine ⟨ofv (m 43 x) (m 45 x), r, ?_, r1, ?_⟩
    rotate_left
    · have t1 := tail (ofv (m 43 x) (m 45 x))
      simp only [F_X12_wish, ck_24, if_true, rf_24_36, bse, ri_nI ln_43 hx (show 3 < 2 ^ 31 by decide), hm, if_pos (rfl : (1 : Int32) = 1), rf_24_38, ri_nI ln_45 hx (show 3 < 2 ^ 31 by decide), b1e, offM_val, if_neg (show ¬ (1 : Int32) = 2 by decide)]
      exact t1
    · simp only [F_X7_error, ck_12, if_true, hm, if_pos (rfl : (1 : Int32) = 1), angC hx, aimC hx, b1e, offC_val, an, am]
  · have h21 : ¬ (2 : Int32) = 1 := by decide
    by_cases q : x = 0
    · subst q
      obtain ⟨e, z2, s1, s2, s3⟩ := sun_ok hN h
      refine ⟨e, r, ?_, r1, ?_⟩
      · simp only [F_X7_error, ck_12, if_true, hm, if_neg h21, if_pos (show nI 0 = 0 from rfl), s1, b1e]
      · have t1 := tail e
        rcases s3 with ⟨rfl, rfl⟩ | ⟨j, hj, rfl, rfl⟩
        · simp only [F_X12_wish, ck_24, if_true, rf_24_36, bse, ri_nI ln_43 hx (show 3 < 2 ^ 31 by decide), hm, if_neg h21, b1e, offM_val, if_pos (rfl : (2 : Int32) = 2), if_pos (show nI 0 = 0 from rfl), s2, m1_m1]
          exact t1
        · have hj20 := h.lt20 hj
          by_cases q9 : m 37 (65 * j + 32) = 9999
          · rw [if_pos q9] at t1 ⊢
            simp only [F_X12_wish, ck_24, if_true, rf_24_36, bse, ri_nI ln_43 hx (show 3 < 2 ^ 31 by decide), hm, if_neg h21, b1e, offM_val, if_pos (rfl : (2 : Int32) = 2), if_pos (show nI 0 = 0 from rfl), s2, nI_m1 (show j < 2 ^ 31 by omega), if_false, gt_32 hj20, if_pos q9]
            exact t1
          · rw [if_neg q9] at t1 ⊢
            simp only [F_X12_wish, ck_24, if_true, rf_24_36, bse, ri_nI ln_43 hx (show 3 < 2 ^ 31 by decide), hm, if_neg h21, b1e, offM_val, if_pos (rfl : (2 : Int32) = 2), if_pos (show nI 0 = 0 from rfl), s2, nI_m1 (show j < 2 ^ 31 by omega), if_false, gt_32 hj20, if_neg q9]
            exact t1
    · have q' : ¬ nI x = 0 := nI_ne0 (by omega) (by omega)
      refine ⟨ofv (m 43 x) 0, r, ?_, r1, ?_⟩
      rotate_left
      · have t1 := tail (ofv (m 43 x) 0)
        simp only [F_X12_wish, ck_24, if_true, rf_24_36, bse, ri_nI ln_43 hx (show 3 < 2 ^ 31 by decide), hm, if_neg h21, b1e, offM_val, if_pos (rfl : (2 : Int32) = 2), if_neg q']
        exact t1
      · simp only [F_X7_error, ck_12, if_true, hm, if_neg h21, if_neg q', angC hx, b1e, offC_val, an]
end P4
