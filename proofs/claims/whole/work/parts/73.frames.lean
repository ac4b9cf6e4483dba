/-! T3: frames -/
theorem find2 {α : Type} {f : Nat → Nat → Option α} {p : Nat → Bool} {E : Option α} {G : Nat → Option α} (n : Nat) (he : ∀ k, f (k + 1) n = E) (h0 : ∀ k i, i < n → p i = false → f (k + 1) i = f k (i + 1)) (h1 : ∀ k i, i < n → p i = true → f (k + 1) i = G i) : ∀ (d i k : Nat), i + d = n → d < k → ((∀ j, i ≤ j → j < n → p j = false) ∧ f k i = E) ∨ ∃ j, i ≤ j ∧ j < n ∧ p j = true ∧ (∀ z, i ≤ z → z < j → p z = false) ∧ f k i = G j := by
  intro d
  induction d with
  | zero =>
    intro i k hi hk
    obtain ⟨k, rfl⟩ : ∃ z, k = z + 1 := ⟨k - 1, by omega⟩
    have : i = n := by omega
    subst this
    exact Or.inl ⟨fun j h1 h2 => by omega, he k⟩
  | succ d ih =>
    intro i k hi hk
    obtain ⟨k, rfl⟩ : ∃ z, k = z + 1 := ⟨k - 1, by omega⟩
    cases e : p i with
    | true => exact Or.inr ⟨i, Nat.le_refl _, by omega, e, fun z a b => by omega, h1 k i (by omega) e⟩
    | false =>
      have hk1 : f (k + 1) i = f k (i + 1) := h0 k i (by omega) e
      rw [hk1]
      rcases ih (i + 1) k (by omega) (by omega) with ⟨a, b⟩ | ⟨j, a, b, c, d, e2⟩
      · refine Or.inl ⟨fun j h1 h2 => ?_, b⟩
        by_cases q : j = i
        · subst q; exact e
        · exact a j (by omega) h2
      · refine Or.inr ⟨j, by omega, b, c, fun z h1 h2 => ?_, e2⟩
        by_cases q : z = i
        · subst q; exact e
        · exact d z (by omega) h2
def lvS (cd : Nat → Nat) (X : Nat → Int32) : Nat → Int32
  | 0 => 0
  | i + 1 => cond (isL (cd i) 2) (lvS cd X i + X (65 * i + 10)) (lvS cd X i)
def rmS (cd : Nat → Nat) (X : Nat → Int32) : Nat → Int32
  | 0 => 0
  | i + 1 => cond (isL (cd i) 2) (rmS cd X i + X (65 * i + 9)) (rmS cd X i)
def cbS (X : Nat → Int32) : Nat → Int32
  | 0 => 0
  | i + 1 => cbS X i + cond (decide (X (65 * i + 63) = 0)) 0 1
def coS (cd : Nat → Nat) (X : Nat → Int32) : Nat → Int32
  | 0 => 0
  | i + 1 => coS cd X i + cond (isL (cd i) 6 && decide (X (65 * i + 22) = 1)) 1 0
def chV (cd : Nat → Nat) (X : Nat → Int32) (n : Nat) : Int32 := if rmS cd X n = 0 then 0 else 100 * lvS cd X n / rmS cd X n
def stp (x : Int32) : Int32 := if x < 128 then x * 2 else iR (x * 2) 256 ^^^ 7
def itp : Nat → Int32 → Int32
  | 0, x => x
  | k + 1, x => stp (itp k x)
def crc (g : Nat → Int32) : Nat → Int32
  | 0 => 0
  | k + 1 => itp 8 (crc g k ^^^ g k)
theorem crc_congr {g g' : Nat → Int32} : ∀ n, (∀ k, k < n → g k = g' k) → crc g n = crc g' n := by
  intro n
  induction n with
  | zero => intro _; rfl
  | succ n ih =>
    intro h
    rw [crc, crc, ih (fun k hk => h k (by omega)), h n (by omega)]
theorem is0 : ∀ c, c < 29 → isL c 0 = true := by decide
section P7
variable {N n : Nat} {cd : Nat → Nat} {pb : Nat} {L : ML} {t s0 B D : Nat} {c m : MI}
theorem valC {u k : Nat} (hu : u ≤ 20) (hk : k < 65) : F_X9_value (U u) (nI k) c L (GRf pb) = some (c (U u + 1) k) := by
  have z0 : (nI k < 0) = False := eq_false (nI_pos (by omega))
  have z1 : (Int32.ofNat 65 ≤ nI k) = False := eq_false (nI_ge (b := 65) hk (by decide))
  simp only [F_X9_value, ck_U hu, if_true, z0, if_false, rf_U0 hu, bse, ln_U1 hu, z1, ri_nI (ln_U1 hu) hk (show 65 < 2 ^ 31 by decide)]
theorem rmS_nn (h : RC n cd pb L t s0 B D c m) : ∀ i, i ≤ n → nn (rmS cd (m 37) i) (2000 * i) := by
  intro i
  induction i with
  | zero => intro _; exact ⟨0, by omega, rfl⟩
  | succ i ih =>
    intro hi
    obtain ⟨k, k1, k2⟩ := ih (by omega)
    obtain ⟨r, r1, r2⟩ := (h.si (show i < n by omega)).1
    have r2 : m 37 (65 * i + 9) = nI r := r2
    rw [rmS, k2, r2]
    cases isL (cd i) 2 with
    | true => exact ⟨k + r, by omega, nI_add _ _⟩
    | false => exact ⟨k, by omega, rfl⟩
theorem chargeC (hN : 5000 ≤ N) (h : RC n cd pb L t s0 B D c m) : F_X2_charge N 10 c L (GRf pb) = some (chV cd (m 37) n) := by
  have hn := h.n20
  obtain ⟨r, e1, e2⟩ := loop1 (f := fun k i (z : Int32 × Int32) => LF_X2_charge_6 N k 10 z.1 z.2 (nI i) c L (GRf pb)) (R := fun i z => z = (lvS cd (m 37) i, rmS cd (m 37) i)) (Q := fun z => z = (lvS cd (m 37) n, rmS cd (m 37) n)) n (by
    intro k a ha
    exact ⟨a, by simp only [LF_X2_charge_6, rf_10_0, bse, h.size, b1e, nle h.n20, if_true], ha⟩) (by
    intro k i a hi ha
    subst ha
    have hu := h.lt20 hi
    have hu' : i ≤ 20 := by omega
    have is2 : F_X9_is (U i) 2 c L (GRf pb) = _ := h.is (l := 2) hi (by decide)
    have p10 := h.pt (k := 10) hi (by decide) (by decide) (by decide) (by decide) (by decide)
    have p9 := h.pt (k := 9) hi (by decide) (by decide) (by decide) (by decide) (by decide)
    refine ⟨_, ?_, rfl⟩
    cases e : isL (cd i) 2 <;> simp only [LF_X2_charge_6, rf_10_0, bse, h.size, b1e, b2e, nlt hi h.n20, if_false, if_true, h.at hi, ck_U hu', is2, e, b2t, b2f, rf_U0 hu', rp_10 hu', rp_9 hu', p10, p9, wre, nI_1, lvS, rmS, cond_true, cond_false]) n 0 N (0, 0) (by omega) (by omega) rfl
  have e1 : LF_X2_charge_6 N N 10 0 0 0 c L (GRf pb) = some r := e1
  have e2 : r = (lvS cd (m 37) n, rmS cd (m 37) n) := e2
  subst e2
  obtain ⟨k, k1, k2⟩ := rmS_nn h n (Nat.le_refl _)
  unfold chV
  rw [k2] at e1 ⊢
  by_cases q : k = 0
  · subst q
    simp only [F_X2_charge, ck_10, if_true, e1, b1e, if_pos (show nI 0 ≤ 0 by decide), if_pos (show nI 0 = 0 from rfl)]
  · simp only [F_X2_charge, ck_10, if_true, e1, b1e, if_neg (nI_nle (n := k) (by omega) (by omega)), if_neg (nI_ne0 (n := k) (by omega) (by omega))]
theorem chargeM (hN : 5000 ≤ N) (h : RC n cd pb L t s0 B D c m) : F_X12_charge N 24 m L (GRf pb) = some (chV cd (m 37) n) := by
  have hn := h.n20
  obtain ⟨r, e1, e2⟩ := loop1 (f := fun k i (z : Int32 × Int32) => LF_X12_charge_6 N k 24 z.1 z.2 (nI i) m L (GRf pb)) (R := fun i z => z = (lvS cd (m 37) i, rmS cd (m 37) i)) (Q := fun z => z = (lvS cd (m 37) n, rmS cd (m 37) n)) n (by
    intro k a ha
    exact ⟨a, by simp only [LF_X12_charge_6, h.nm, nle h.n20, if_true], ha⟩) (by
    intro k i a hi ha
    subst ha
    have hu := h.lt20 hi
    have ia2 : F_X12_isA N 24 (nI i) 2 m L (GRf pb) = _ := h.isA (l := 2) (by omega) hi (by decide)
    refine ⟨_, ?_, rfl⟩
    cases e : isL (cd i) 2 <;> simp only [LF_X12_charge_6, h.nm, b1e, b2e, nlt hi h.n20, if_false, if_true, ia2, e, b2t, b2f, gt_10 hu, gt_9 hu, wre, nI_1, lvS, rmS, cond_true, cond_false]) n 0 N (0, 0) (by omega) (by omega) rfl
  have e1 : LF_X12_charge_6 N N 24 0 0 0 m L (GRf pb) = some r := e1
  have e2 : r = (lvS cd (m 37) n, rmS cd (m 37) n) := e2
  subst e2
  unfold chV
  by_cases q : rmS cd (m 37) n = 0
  · simp only [F_X12_charge, ck_24, if_true, e1, b1e, if_pos q]
  · simp only [F_X12_charge, ck_24, if_true, e1, b1e, if_neg q]
theorem brkC (hN : 5000 ≤ N) (h : RC n cd pb L t s0 B D c m) : F_X2_countWith N 10 0 63 c L (GRf pb) = some (cbS (m 37) n) := by
  have hn := h.n20
  obtain ⟨r, e1, e2⟩ := loop1 (f := fun k i (z : Int32) => LF_X2_countWith_5 N k 10 0 63 z (nI i) c L (GRf pb)) (R := fun i z => z = cbS (m 37) i) (Q := fun z => z = cbS (m 37) n) n (by
    intro k a ha
    exact ⟨a, by simp only [LF_X2_countWith_5, rf_10_0, bse, h.size, b1e, nle h.n20, if_true], ha⟩) (by
    intro k i a hi ha
    subst ha
    have hu := h.lt20 hi
    have hu' : i ≤ 20 := by omega
    have is0 : F_X9_is (U i) 0 c L (GRf pb) = some true := (h.is (l := 0) hi (by decide)).trans (congrArg some (is0 _ (h.cd29 hi)))
    have p63 := h.pt (k := 63) hi (by decide) (by decide) (by decide) (by decide) (by decide)
    have v63 : F_X9_value (U i) 63 c L (GRf pb) = _ := valC (k := 63) hu' (by decide)
    refine ⟨_, ?_, rfl⟩
    rcases h.bk hi with e | e
    · have z1 : ((0 : Int32) = 1) = False := eq_false (by decide)
      simp only [LF_X2_countWith_5, rf_10_0, bse, h.size, b1e, nlt hi h.n20, if_false, if_true, h.at hi, ck_U hu', is0, b2t, v63, p63, e, z1, wre, nI_1, cbS, decide_true, cond_true, Int32.add_zero]
    · have z1 : ((1 : Int32) = 1) = True := eq_true rfl
      have z2 : decide ((1 : Int32) = 0) = false := by decide
      simp only [LF_X2_countWith_5, rf_10_0, bse, h.size, b1e, nlt hi h.n20, if_false, if_true, h.at hi, ck_U hu', is0, b2t, v63, p63, e, z1, wre, nI_1, cbS, z2, cond_false]) n 0 N 0 (by omega) (by omega) rfl
  have e1 : LF_X2_countWith_5 N N 10 0 63 0 0 c L (GRf pb) = some r := e1
  have e2 : r = cbS (m 37) n := e2
  simp only [F_X2_countWith, ck_10, if_true, e1, b1e, e2]
theorem onnC (hN : 5000 ≤ N) (h : RC n cd pb L t s0 B D c m) : F_X2_countWith N 10 6 22 c L (GRf pb) = some (coS cd (m 37) n) := by
  have hn := h.n20
  obtain ⟨r, e1, e2⟩ := loop1 (f := fun k i (z : Int32) => LF_X2_countWith_5 N k 10 6 22 z (nI i) c L (GRf pb)) (R := fun i z => z = coS cd (m 37) i) (Q := fun z => z = coS cd (m 37) n) n (by
    intro k a ha
    exact ⟨a, by simp only [LF_X2_countWith_5, rf_10_0, bse, h.size, b1e, nle h.n20, if_true], ha⟩) (by
    intro k i a hi ha
    subst ha
    have hu := h.lt20 hi
    have hu' : i ≤ 20 := by omega
    have is6 : F_X9_is (U i) 6 c L (GRf pb) = _ := h.is (l := 6) hi (by decide)
    have v22 : F_X9_value (U i) 22 c L (GRf pb) = _ := valC (k := 22) hu' (by decide)
    refine ⟨_, ?_, rfl⟩
    cases e : isL (cd i) 6 with
    | false => simp only [LF_X2_countWith_5, rf_10_0, bse, h.size, b1e, nlt hi h.n20, if_false, if_true, h.at hi, ck_U hu', is6, e, b2f, wre, nI_1, coS, Bool.false_and, cond_false, Int32.add_zero]
    | true =>
      have p22 := h.p22 hi e
      by_cases q : m 37 (65 * i + 22) = 1
      · simp only [LF_X2_countWith_5, rf_10_0, bse, h.size, b1e, nlt hi h.n20, if_false, if_true, h.at hi, ck_U hu', is6, e, b2t, v22, p22, if_pos q, wre, nI_1, coS, Bool.true_and, decide_eq_true q, cond_true]
      · simp only [LF_X2_countWith_5, rf_10_0, bse, h.size, b1e, nlt hi h.n20, if_false, if_true, h.at hi, ck_U hu', is6, e, b2t, v22, p22, if_neg q, wre, nI_1, coS, Bool.true_and, decide_eq_false q, cond_false, Int32.add_zero]) n 0 N 0 (by omega) (by omega) rfl
  have e1 : LF_X2_countWith_5 N N 10 6 22 0 0 c L (GRf pb) = some r := e1
  have e2 : r = coS cd (m 37) n := e2
  simp only [F_X2_countWith, ck_10, if_true, e1, b1e, e2]
theorem brkM (hN : 5000 ≤ N) (h : RC n cd pb L t s0 B D c m) : F_X12_howMany N 24 1 m L (GRf pb) = some (cbS (m 37) n) := by
  have hn := h.n20
  obtain ⟨r, e1, e2⟩ := loop1 (f := fun k i (z : Int32) => LF_X12_howMany_4 N k 24 1 z (nI i) m L (GRf pb)) (R := fun i z => z = cbS (m 37) i) (Q := fun z => z = cbS (m 37) n) n (by
    intro k a ha
    exact ⟨a, by simp only [LF_X12_howMany_4, h.nm, nle h.n20, if_true], ha⟩) (by
    intro k i a hi ha
    subst ha
    have whm := h.whM hi
    refine ⟨_, ?_, rfl⟩
    cases e : decide (m 37 (65 * i + 63) = 0) <;> simp only [LF_X12_howMany_4, h.nm, b1e, nlt hi h.n20, if_false, if_true, one0, whm, e, b2t, b2f, wre, nI_1, cbS, cond_true, cond_false]) n 0 N 0 (by omega) (by omega) rfl
  have e1 : LF_X12_howMany_4 N N 24 1 0 0 m L (GRf pb) = some r := e1
  have e2 : r = cbS (m 37) n := e2
  simp only [F_X12_howMany, ck_24, if_true, e1, b1e, e2]
theorem onnM (hN : 5000 ≤ N) (h : RC n cd pb L t s0 B D c m) : F_X12_howMany N 24 0 m L (GRf pb) = some (coS cd (m 37) n) := by
  have hn := h.n20
  obtain ⟨r, e1, e2⟩ := loop1 (f := fun k i (z : Int32) => LF_X12_howMany_4 N k 24 0 z (nI i) m L (GRf pb)) (R := fun i z => z = coS cd (m 37) i) (Q := fun z => z = coS cd (m 37) n) n (by
    intro k a ha
    exact ⟨a, by simp only [LF_X12_howMany_4, h.nm, nle h.n20, if_true], ha⟩) (by
    intro k i a hi ha
    subst ha
    have onm := h.onM (show 6 ≤ N by omega) hi
    refine ⟨_, ?_, rfl⟩
    cases e : (isL (cd i) 6 && decide (m 37 (65 * i + 22) = 1)) <;> simp only [LF_X12_howMany_4, h.nm, b1e, nlt hi h.n20, if_false, if_true, zer0, onm, e, b2t, b2f, wre, nI_1, coS, cond_true, cond_false]) n 0 N 0 (by omega) (by omega) rfl
  have e1 : LF_X12_howMany_4 N N 24 0 0 0 m L (GRf pb) = some r := e1
  have e2 : r = coS cd (m 37) n := e2
  simp only [F_X12_howMany, ck_24, if_true, e1, b1e, e2]
theorem z8 {j : Nat} (hj : j < 8) : ((8 : Int32) ≤ nI j) = False := eq_false (nI_ge (b := 8) hj (by decide))
theorem innC (hN : 5000 ≤ N) (x y1 y3 : Int32) : LF_X2_checkOf_30 N N 10 y1 x y3 (nI 0) c L (GRf pb) = some (itp 8 x) := by
  obtain ⟨r, e1, e2⟩ := loop1 (f := fun k i (z : Int32) => LF_X2_checkOf_30 N k 10 y1 z y3 (nI i) c L (GRf pb)) (R := fun i z => z = itp i x) (Q := fun z => z = itp 8 x) 8 (by
    intro k a ha
    exact ⟨a, by simp only [LF_X2_checkOf_30, if_pos (show (8 : Int32) ≤ nI 8 by decide)], ha⟩) (by
    intro k i a hi ha
    subst ha
    refine ⟨_, ?_, rfl⟩
    by_cases q : itp i x < 128
    · simp only [LF_X2_checkOf_30, z8 hi, if_false, if_pos q, b1e, wre, nI_1, itp, stp]
    · simp only [LF_X2_checkOf_30, z8 hi, if_false, if_neg q, b1e, wre, nI_1, itp, stp]) 8 0 N x (by omega) (by omega) rfl
  have e2 : r = itp 8 x := e2
  rw [← e2]; exact e1
theorem innM (hN : 5000 ≤ N) (x y2 : Int32) : LF_X12_check_21 N N 24 x y2 (nI 0) m L (GRf pb) = some (itp 8 x) := by
  obtain ⟨r, e1, e2⟩ := loop1 (f := fun k i (z : Int32) => LF_X12_check_21 N k 24 z y2 (nI i) m L (GRf pb)) (R := fun i z => z = itp i x) (Q := fun z => z = itp 8 x) 8 (by
    intro k a ha
    exact ⟨a, by simp only [LF_X12_check_21, if_pos (show (8 : Int32) ≤ nI 8 by decide)], ha⟩) (by
    intro k i a hi ha
    subst ha
    refine ⟨_, ?_, rfl⟩
    have mc : (2 : Int32) * itp i x = itp i x * 2 := Int32.mul_comm _ _
    by_cases q : itp i x < 128
    · simp only [LF_X12_check_21, z8 hi, if_false, if_pos q, b1e, wre, nI_1, itp, stp, mc]
    · simp only [LF_X12_check_21, z8 hi, if_false, if_neg q, b1e, wre, nI_1, itp, stp, mc]) 8 0 N x (by omega) (by omega) rfl
  have e2 : r = itp 8 x := e2
  rw [← e2]; exact e1
theorem crcC (hN : 5000 ≤ N) : F_X2_checkOf N 10 11 c L (GRf pb) = some (crc (c 11) 11) := by
  obtain ⟨r, e1, e2⟩ := loop1 (f := fun k i (z : Int32) => LF_X2_checkOf_4 N k 10 11 z (nI i) c L (GRf pb)) (R := fun i z => z = crc (c 11) i) (Q := fun z => z = crc (c 11) 11) 11 (by
    intro k a ha
    exact ⟨a, by simp only [LF_X2_checkOf_4, if_pos (show (11 : Int32) ≤ nI 11 by decide)], ha⟩) (by
    intro k i a hi ha
    subst ha
    have z11 : ((11 : Int32) ≤ nI i) = False := eq_false (nI_ge (b := 11) hi (by decide))
    have z12 : (Int32.ofNat 12 ≤ nI i) = False := eq_false (nI_ge (b := 12) (by omega) (by decide))
    have inn : ∀ x, LF_X2_checkOf_30 N N 10 11 x (nI i) 0 c L (GRf pb) = some (itp 8 x) := fun x => innC hN x 11 (nI i)
    exact ⟨itp 8 (crc (c 11) i ^^^ c 11 i), by simp only [LF_X2_checkOf_4, z11, if_false, rf_10_4, bse, ln_11, z12, ri_nI ln_11 (show i < 12 by omega) (show 12 < 2 ^ 31 by decide), wre, inn, b1e, nI_1], rfl⟩) 11 0 N 0 (by omega) (by omega) rfl
  have e1 : LF_X2_checkOf_4 N N 10 11 0 0 c L (GRf pb) = some r := e1
  have e2 : r = crc (c 11) 11 := e2
  simp only [F_X2_checkOf, ck_10, if_true, e1, b1e, e2]
theorem crcM (hN : 5000 ≤ N) : F_X12_check N 24 m L (GRf pb) = some (crc (m 56) 11) := by
  obtain ⟨r, e1, e2⟩ := loop1 (f := fun k i (z : Int32) => LF_X12_check_4 N k 24 z (nI i) m L (GRf pb)) (R := fun i z => z = crc (m 56) i) (Q := fun z => z = crc (m 56) 11) 11 (by
    intro k a ha
    exact ⟨a, by simp only [LF_X12_check_4, if_pos (show (11 : Int32) ≤ nI 11 by decide)], ha⟩) (by
    intro k i a hi ha
    subst ha
    have z11 : ((11 : Int32) ≤ nI i) = False := eq_false (nI_ge (b := 11) hi (by decide))
    have inn : ∀ x, LF_X12_check_21 N N 24 x (nI i) 0 m L (GRf pb) = some (itp 8 x) := fun x => innM hN x (nI i)
    exact ⟨itp 8 (crc (m 56) i ^^^ m 56 i), by simp only [LF_X12_check_4, z11, if_false, rf_24_63, bse, ri_nI ln_56 (show i < 12 by omega) (show 12 < 2 ^ 31 by decide), wre, inn, b1e, nI_1], rfl⟩) 11 0 N 0 (by omega) (by omega) rfl
  have e1 : LF_X12_check_4 N N 24 0 0 m L (GRf pb) = some r := e1
  have e2 : r = crc (m 56) 11 := e2
  simp only [F_X12_check, ck_24, if_true, e1, b1e, e2]
theorem w11_0 {I : MI} {v : Int32} : wi I 11 (0 : Int32) v = some (uI I 11 0 v) := wi_nI (k := 0) ln_11 (by decide) (by decide)
theorem w56_0 {I : MI} {v : Int32} : wi I 56 (0 : Int32) v = some (uI I 56 0 v) := wi_nI (k := 0) ln_56 (by decide) (by decide)
theorem w11_1 {I : MI} {v : Int32} : wi I 11 (1 : Int32) v = some (uI I 11 1 v) := wi_nI (k := 1) ln_11 (by decide) (by decide)
theorem w56_1 {I : MI} {v : Int32} : wi I 56 (1 : Int32) v = some (uI I 56 1 v) := wi_nI (k := 1) ln_56 (by decide) (by decide)
theorem w11_2 {I : MI} {v : Int32} : wi I 11 (2 : Int32) v = some (uI I 11 2 v) := wi_nI (k := 2) ln_11 (by decide) (by decide)
theorem w56_2 {I : MI} {v : Int32} : wi I 56 (2 : Int32) v = some (uI I 56 2 v) := wi_nI (k := 2) ln_56 (by decide) (by decide)
theorem w11_3 {I : MI} {v : Int32} : wi I 11 (3 : Int32) v = some (uI I 11 3 v) := wi_nI (k := 3) ln_11 (by decide) (by decide)
theorem w56_3 {I : MI} {v : Int32} : wi I 56 (3 : Int32) v = some (uI I 56 3 v) := wi_nI (k := 3) ln_56 (by decide) (by decide)
theorem w11_4 {I : MI} {v : Int32} : wi I 11 (4 : Int32) v = some (uI I 11 4 v) := wi_nI (k := 4) ln_11 (by decide) (by decide)
theorem w56_4 {I : MI} {v : Int32} : wi I 56 (4 : Int32) v = some (uI I 56 4 v) := wi_nI (k := 4) ln_56 (by decide) (by decide)
theorem w11_5 {I : MI} {v : Int32} : wi I 11 (5 : Int32) v = some (uI I 11 5 v) := wi_nI (k := 5) ln_11 (by decide) (by decide)
theorem w56_5 {I : MI} {v : Int32} : wi I 56 (5 : Int32) v = some (uI I 56 5 v) := wi_nI (k := 5) ln_56 (by decide) (by decide)
theorem w11_6 {I : MI} {v : Int32} : wi I 11 (6 : Int32) v = some (uI I 11 6 v) := wi_nI (k := 6) ln_11 (by decide) (by decide)
theorem w56_6 {I : MI} {v : Int32} : wi I 56 (6 : Int32) v = some (uI I 56 6 v) := wi_nI (k := 6) ln_56 (by decide) (by decide)
theorem w11_7 {I : MI} {v : Int32} : wi I 11 (7 : Int32) v = some (uI I 11 7 v) := wi_nI (k := 7) ln_11 (by decide) (by decide)
theorem w56_7 {I : MI} {v : Int32} : wi I 56 (7 : Int32) v = some (uI I 56 7 v) := wi_nI (k := 7) ln_56 (by decide) (by decide)
theorem w11_8 {I : MI} {v : Int32} : wi I 11 (8 : Int32) v = some (uI I 11 8 v) := wi_nI (k := 8) ln_11 (by decide) (by decide)
theorem w56_8 {I : MI} {v : Int32} : wi I 56 (8 : Int32) v = some (uI I 56 8 v) := wi_nI (k := 8) ln_56 (by decide) (by decide)
theorem w11_9 {I : MI} {v : Int32} : wi I 11 (9 : Int32) v = some (uI I 11 9 v) := wi_nI (k := 9) ln_11 (by decide) (by decide)
theorem w56_9 {I : MI} {v : Int32} : wi I 56 (9 : Int32) v = some (uI I 56 9 v) := wi_nI (k := 9) ln_56 (by decide) (by decide)
theorem w11_10 {I : MI} {v : Int32} : wi I 11 (10 : Int32) v = some (uI I 11 10 v) := wi_nI (k := 10) ln_11 (by decide) (by decide)
theorem w56_10 {I : MI} {v : Int32} : wi I 56 (10 : Int32) v = some (uI I 56 10 v) := wi_nI (k := 10) ln_56 (by decide) (by decide)
theorem w11_11 {I : MI} {v : Int32} : wi I 11 (11 : Int32) v = some (uI I 11 11 v) := wi_nI (k := 11) ln_11 (by decide) (by decide)
theorem w56_11 {I : MI} {v : Int32} : wi I 56 (11 : Int32) v = some (uI I 56 11 v) := wi_nI (k := 11) ln_56 (by decide) (by decide)
def fil (I : MI) (a : Nat) (v0 v1 v2 v3 v4 v5 v6 v7 v8 v9 v10 : Int32) : MI := uI (uI (uI (uI (uI (uI (uI (uI (uI (uI (uI I a 0 v0) a 1 v1) a 2 v2) a 3 v3) a 4 v4) a 5 v5) a 6 v6) a 7 v7) a 8 v8) a 9 v9) a 10 v10
theorem fil_at {I J : MI} {a b : Nat} {v0 v1 v2 v3 v4 v5 v6 v7 v8 v9 v10 : Int32} : ∀ k, k < 11 → fil I a v0 v1 v2 v3 v4 v5 v6 v7 v8 v9 v10 a k = fil J b v0 v1 v2 v3 v4 v5 v6 v7 v8 v9 v10 b k := by
  intro k hk
  have : k = 0 ∨ k = 1 ∨ k = 2 ∨ k = 3 ∨ k = 4 ∨ k = 5 ∨ k = 6 ∨ k = 7 ∨ k = 8 ∨ k = 9 ∨ k = 10 := by omega
  unfold fil uI
  rcases this with rfl | rfl | rfl | rfl | rfl | rfl | rfl | rfl | rfl | rfl | rfl <;> simp
theorem fil_out {I : MI} {a : Nat} {v0 v1 v2 v3 v4 v5 v6 v7 v8 v9 v10 : Int32} {o p : Nat} (h : o ≠ a) : fil I a v0 v1 v2 v3 v4 v5 v6 v7 v8 v9 v10 o p = I o p := by
  unfold fil
  rw [uI_at (fun z => h z.1), uI_at (fun z => h z.1), uI_at (fun z => h z.1), uI_at (fun z => h z.1), uI_at (fun z => h z.1), uI_at (fun z => h z.1), uI_at (fun z => h z.1), uI_at (fun z => h z.1), uI_at (fun z => h z.1), uI_at (fun z => h z.1), uI_at (fun z => h z.1)]
theorem fill_ok (hN : 5000 ≤ N) (h : RC n cd pb L t s0 B D c m) : ∃ v0 v1 v2 v3 v4 v5 v6 v7 v8 v9 v10, F_X2_fillFrame N 10 (nI t) c L (GRf pb) = some (uI (fil c 11 v0 v1 v2 v3 v4 v5 v6 v7 v8 v9 v10) 11 11 (crc (fil c 11 v0 v1 v2 v3 v4 v5 v6 v7 v8 v9 v10 11) 11)) ∧ ∀ (k1 : t % 25 = 24), F_X12_frames N 24 m L (GRf pb) = (bn1 (LF_X12_frames_159 N N 24 (-1) (nI n - 1) (uI (fil m 56 v0 v1 v2 v3 v4 v5 v6 v7 v8 v9 v10) 56 11 (crc (fil m 56 v0 v1 v2 v3 v4 v5 v6 v7 v8 v9 v10 56) 11)) L (GRf pb)) fun z43 =>
    if z43 = (-1 : Int32) then
      wr (uI (uI (fil m 56 v0 v1 v2 v3 v4 v5 v6 v7 v8 v9 v10) 56 11 (crc (fil m 56 v0 v1 v2 v3 v4 v5 v6 v7 v8 v9 v10 56) 11)) 24 42 (m 24 42 + (1 : Int32))) fun (I55 : MI) =>
      some (I55)
    else
      bn1 (LF_X12_frames_212 N N 24 z43 (0 : Int32) (uI (fil m 56 v0 v1 v2 v3 v4 v5 v6 v7 v8 v9 v10) 56 11 (crc (fil m 56 v0 v1 v2 v3 v4 v5 v6 v7 v8 v9 v10 56) 11)) L (GRf pb)) fun z52 =>
      wr (uI z52 24 41 ((z52 24 41) + (1 : Int32))) fun (I54 : MI) =>
      some (I54)) := by
  have ht := h.tlt
  refine ⟨165, nI (t / 256 % 256), nI (t % 256), m 24 35, chV cd (m 37) n, m 24 47, m 43 0 / 16, m 43 1 / 16, m 43 2 / 16, cbS (m 37) n, coS cd (m 37) n, ?_, ?_⟩
  · have co : ∀ c1, (∀ o p, o ≠ 11 → c1 o p = c o p) → RC n cd pb L t s0 B D c1 m := fun c1 z => h.cOut (fun o p z1 _ => z o p z1)
    have f1 : nI t / 256 = nI (t / 256) := pk_div (d := 256) (by omega) (by decide) (by decide)
    have f2 : ∀ (I : MI), F_J9_floorMod_7cf53 (nI (t / 256)) 256 I L (GRf pb) = some (nI (t / 256 % 256)) := fun I => by
      rw [fm_val (by decide)]; exact congrArg some (md_nI (d := 256) (by omega) (by decide) (by decide))
    have f3 : ∀ (I : MI), F_J9_floorMod_7cf53 (nI t) 256 I L (GRf pb) = some (nI (t % 256)) := fun I => by
      rw [fm_val (by decide)]; exact congrArg some (md_nI (d := 256) (by omega) (by decide) (by decide))
    have u11 : ∀ (I : MI) j v p, uI I 11 j v 10 p = I 10 p := fun I j v p => uI_at (by omega)
    have s7 : c 10 7 = m 24 35 := h.sc (o := 10) (p := 7) (b := 35) (by decide)
    have s8 : c 10 8 = m 24 47 := h.sc (o := 10) (p := 8) (b := 47) (by decide)
    have a0 : ∀ (I : MI), F_X7_angle 12 0 I L (GRf pb) = some (I 13 0) := fun I => angC (x := 0) (by decide)
    have a1 : ∀ (I : MI), F_X7_angle 12 1 I L (GRf pb) = some (I 13 1) := fun I => angC (x := 1) (by decide)
    have a2 : ∀ (I : MI), F_X7_angle 12 2 I L (GRf pb) = some (I 13 2) := fun I => angC (x := 2) (by decide)
    have u13 : ∀ (I : MI) j v p, uI I 11 j v 13 p = I 13 p := fun I j v p => uI_at (by omega)
    have g0 := h.ang (j := 0) (by decide)
    have g1 := h.ang (j := 1) (by decide)
    have g2 := h.ang (j := 2) (by decide)
    have cg : ∀ c1, (∀ o p, o ≠ 11 → c1 o p = c o p) → F_X2_charge N 10 c1 L (GRf pb) = some (chV cd (m 37) n) := fun c1 z => chargeC hN (co c1 z)
    have bk : ∀ c1, (∀ o p, o ≠ 11 → c1 o p = c o p) → F_X2_countWith N 10 0 63 c1 L (GRf pb) = some (cbS (m 37) n) := fun c1 z => brkC hN (co c1 z)
    have onn : ∀ c1, (∀ o p, o ≠ 11 → c1 o p = c o p) → F_X2_countWith N 10 6 22 c1 L (GRf pb) = some (coS cd (m 37) n) := fun c1 z => onnC hN (co c1 z)
    simp only [F_X2_fillFrame, ck_10, if_true, rf_10_4, bse, w11_0, f1, f2, f3, b1e, w11_1, w11_2, w11_3, u11, s7]
    rw [cg _ (by intro o p ho; repeat rw [uI_at (fun z => ho z.1)])]
    simp only [b1e, w11_4, bse, w11_5, u11, s8, rf_10_1, a0, a1, a2, u13, g0, g1, g2, w11_6, w11_7, w11_8]
    rw [bk _ (by intro o p ho; repeat rw [uI_at (fun z => ho z.1)])]
    simp only [b1e, w11_9, bse]
    rw [onn _ (by intro o p ho; repeat rw [uI_at (fun z => ho z.1)])]
    simp only [b1e, w11_10, bse, crcC hN, w11_11]
    rfl
  · intro k1
    have mo : ∀ m1, (∀ o p, o ≠ 56 → m1 o p = m o p) → RC n cd pb L t s0 B D c m1 := fun m1 z => h.mOut (fun o p _ _ _ z1 => z o p z1)
    have x37 : ∀ m1 : MI, (∀ o p, o ≠ 56 → m1 o p = m o p) → m1 37 = m 37 := fun m1 z => funext fun p => z 37 p (by decide)
    have f1 : nI t / 256 = nI (t / 256) := pk_div (d := 256) (by omega) (by decide) (by decide)
    have f2 : iR (nI (t / 256)) 256 = nI (t / 256 % 256) := iR_nI (d := 256) (by omega) (by decide) (by decide)
    have f3 : iR (nI t) 256 = nI (t % 256) := iR_nI (d := 256) (by omega) (by decide) (by decide)
    have f4 : iR (nI t) 25 = 24 := by
      have := iR_nI (a := t) (d := 25) (by omega) (by decide) (by decide)
      rw [k1] at this; exact this
    have u24 : ∀ (I : MI) j v p, uI I 56 j v 24 p = I 24 p := fun I j v p => uI_at (by omega)
    have cg : ∀ m1, (∀ o p, o ≠ 56 → m1 o p = m o p) → F_X12_charge N 24 m1 L (GRf pb) = some (chV cd (m 37) n) := fun c1 z => by rw [chargeM hN (mo c1 z), x37 c1 z]
    have bk : ∀ m1, (∀ o p, o ≠ 56 → m1 o p = m o p) → F_X12_howMany N 24 1 m1 L (GRf pb) = some (cbS (m 37) n) := fun c1 z => by rw [brkM hN (mo c1 z), x37 c1 z]
    have onn : ∀ m1, (∀ o p, o ≠ 56 → m1 o p = m o p) → F_X12_howMany N 24 0 m1 L (GRf pb) = some (coS cd (m 37) n) := fun c1 z => by rw [onnM hN (mo c1 z), x37 c1 z]
    have st86 : ∀ (k j : Nat) (I : MI), j < 3 → LF_X12_frames_86 N (k + 1) 24 (nI j) I L (GRf pb) = LF_X12_frames_86 N k 24 (nI (j + 1)) (uI I 56 (6 + j) (I 43 j / 16)) L (GRf pb) := by
      intro k j I hj
      have z3 : ((3 : Int32) ≤ nI j) = False := eq_false (nI_ge (b := 3) hj (by decide))
      have z6 : (6 : Int32) + nI j = nI (6 + j) := nI_add 6 j
      simp only [LF_X12_frames_86, z3, if_false, rf_24_63, bse, rf_24_36, ri_nI ln_43 hj (show 3 < 2 ^ 31 by decide), z6, wi_nI ln_56 (show 6 + j < 12 by omega) (show 12 < 2 ^ 31 by decide), wre, nI_1]
    have e86 : ∀ I : MI, LF_X12_frames_86 N N 24 0 I L (GRf pb) = some (uI (uI (uI I 56 6 (I 43 0 / 16)) 56 7 (I 43 1 / 16)) 56 8 (I 43 2 / 16)) := by
      intro I
      obtain ⟨k, hk⟩ : ∃ z, N = z + 4 := ⟨N - 4, by omega⟩
      have a1 := st86 (k + 3) 0 I (by decide)
      have a2 := st86 (k + 2) 1 (uI I 56 (6 + 0) (I 43 0 / 16)) (by decide)
      have a3 := st86 (k + 1) 2 (uI (uI I 56 (6 + 0) (I 43 0 / 16)) 56 (6 + 1) (I 43 1 / 16)) (by decide)
      have a4 : ∀ I : MI, LF_X12_frames_86 N (k + 1) 24 (nI 3) I L (GRf pb) = some I := fun I => by simp only [LF_X12_frames_86, if_pos (show (3 : Int32) ≤ nI 3 by decide)]
      have b1 : LF_X12_frames_86 N N 24 0 I L (GRf pb) = LF_X12_frames_86 N (k + 3 + 1) 24 (nI 0) I L (GRf pb) := by
        rw [show k + 3 + 1 = N by omega]; rfl
      rw [b1, a1]
      refine a2.trans ?_
      refine a3.trans ?_
      exact a4 _
    have u43 : ∀ (I : MI) j v p, uI I 56 j v 43 p = I 43 p := fun I j v p => uI_at (by omega)
    simp only [F_X12_frames, ck_24, if_true, h.tick, if_pos f4, rf_24_63, bse, w56_0, u24, f1, f2, f3, w56_1, w56_2, w56_3]
    rw [cg _ (by intro o p ho; repeat rw [uI_at (fun z => ho z.1)])]
    simp only [b1e, w56_4, bse, w56_5, u24, e86, u43]
    rw [bk _ (by intro o p ho; repeat rw [uI_at (fun z => ho z.1)])]
    simp only [b1e, w56_9, bse]
    rw [onn _ (by intro o p ho; repeat rw [uI_at (fun z => ho z.1)])]
    simp only [b1e, w56_10, bse, crcM hN, w56_11, u24, h.nm]
    rfl
def pF (cd : Nat → Nat) (X : Nat → Int32) (i : Nat) : Bool := isL (cd i) 5 && (decide (X (65 * i + 63) = 0) && decide (vN (X (65 * i + 10)) + 12 ≤ vN (X (65 * i + 9))))
theorem i5 : ∀ c, c < 29 → isL c 5 = true → c = 5 := by decide
theorem pick_ok (hN : 5000 ≤ N) (h : RC n cd pb L t s0 B D c m) : LF_X12_frames_159 N N 24 (-1) (nI n - 1) m L (GRf pb) = some (fd (pF cd (m 37)) n (-1)) := by
  have hn := h.n20
  refine down1 (f := fun k i z => LF_X12_frames_159 N k 24 z (nI i - 1) m L (GRf pb)) (p := pF cd (m 37)) n ?_ ?_ n N (-1) (by omega) (by omega)
  · intro k z
    simp only [LF_X12_frames_159, nI_m0, if_true]
  · intro k i z hi
    have hu := h.lt20 hi
    have z0 : (nI i < 0) = False := eq_false (nI_pos (by omega))
    have ia5 : F_X12_isA N 24 (nI i) 5 m L (GRf pb) = _ := h.isA (l := 5) (by omega) hi (by decide)
    unfold pF
    cases e5 : isL (cd i) 5 with
    | false => simp only [LF_X12_frames_159, nI_pred, z0, if_false, ia5, e5, b1e, b2f, if_true, wre, nI_m, Bool.false_and, cond_false]
    | true =>
      obtain ⟨l, r, g1, g2, g3, g4, g5, g6, g7⟩ := room_ok (q := 12) h hi (i5 _ (h.cd29 hi) e5) (by decide)
      have g7 : F_X12_hasRoom 24 (nI i) 12 m L (GRf pb) = _ := g7
      rw [g3, g4, vN, vN, nI_clamp (by omega), nI_clamp (by omega)]
      cases e : (decide (m 37 (65 * i + 63) = 0) && decide (l + 12 ≤ r)) <;> simp only [LF_X12_frames_159, nI_pred, z0, if_false, ia5, e5, b1e, b2f, b2t, if_true, wre, nI_m, Bool.true_and, g7, e, cond_true, cond_false]
theorem put_ok {u l r : Nat} (hN : 5000 ≤ N) (h : RC n cd pb L t s0 B D c m) (hu : u < n) (h5 : cd u = 5) (hl : m 37 (65 * u + 10) = nI l) (hr : m 37 (65 * u + 9) = nI r) (hq : l + 12 ≤ r) (hr2 : r ≤ 2000) (hf : ∀ k, k < 12 → c 11 k = m 56 k) : Sm (LF_X2_keepFrame_47 N N 10 (U u) (nI 0) c L (GRf pb)) (LF_X12_frames_212 N N 24 (nI u) (nI 0) m L (GRf pb)) (RC n cd pb L t s0 B D) := by
  refine loop2 (f := fun k j I => LF_X2_keepFrame_47 N k 10 (U u) (nI j) I L (GRf pb)) (g := fun k j I => LF_X12_frames_212 N k 24 (nI u) (nI j) I L (GRf pb)) (R := fun j a b => RC n cd pb L t s0 B D a b ∧ b 37 (65 * u + 10) = nI (l + j) ∧ b 37 (65 * u + 9) = nI r ∧ ∀ k, k < 12 → a 11 k = b 56 k) 12 ?_ ?_ 12 0 N N c m (by omega) (by omega) (by omega) ⟨h, hl, hr, hf⟩
  · intro k j a b ⟨h, _⟩
    have z : (Int32.ofNat 12 ≤ nI 12) = True := eq_true (by decide)
    have z' : ((12 : Int32) ≤ nI 12) = True := eq_true (by decide)
    refine ⟨a, b, ?_, ?_, h⟩ <;> simp only [LF_X2_keepFrame_47, LF_X12_frames_212, rf_10_4, bse, ln_11, z, z', if_true]
  · intro k k2 j a b hj ⟨h, h1, h2, h3⟩
    have z : (Int32.ofNat 12 ≤ nI j) = False := eq_false (nI_ge (b := 12) hj (by decide))
    have z' : ((12 : Int32) ≤ nI j) = False := eq_false (nI_ge (b := 12) hj (by decide))
    obtain ⟨c', m', e1, e2, hc, g1, g2, g3, g4⟩ := keep_ok (x := b 56 j) h hu h5 h1 h2 (by omega) hr2
    refine ⟨c', m', ?_, ?_, hc, g1, by rw [g2 _ (by omega)]; exact h2, fun k hk => by rw [g4, g3 _ _ (by decide) (by decide)]; exact h3 k hk⟩
    · simp only [LF_X2_keepFrame_47, rf_10_4, bse, ln_11, z, if_false, ri_nI ln_11 hj (show 12 < 2 ^ 31 by decide), h3 j hj, e1, b1e, wre, nI_1]
    · simp only [LF_X12_frames_212, z', if_false, rf_24_63, bse, ri_nI ln_56 hj (show 12 < 2 ^ 31 by decide), e2, b1e, wre, nI_1]
theorem frames_ok (hN : 5000 ≤ N) (h : RC n cd pb L t s0 B D c m) (h25 : t % 25 = 24) : Sm (F_X2_keepFrame N 10 (nI t) c L (GRf pb)) (F_X12_frames N 24 m L (GRf pb)) (RC n cd pb L t s0 B D) := by
  have hn := h.n20
  obtain ⟨v0, v1, v2, v3, v4, v5, v6, v7, v8, v9, v10, f1, f2⟩ := fill_ok hN h
  have f2 := f2 h25
  have oc : ∀ o p, o ≠ 11 → uI (fil c 11 v0 v1 v2 v3 v4 v5 v6 v7 v8 v9 v10) 11 11 (crc (fil c 11 v0 v1 v2 v3 v4 v5 v6 v7 v8 v9 v10 11) 11) o p = c o p := fun o p z => by rw [uI_at (fun q => z q.1), fil_out z]
  have om : ∀ o p, o ≠ 56 → uI (fil m 56 v0 v1 v2 v3 v4 v5 v6 v7 v8 v9 v10) 56 11 (crc (fil m 56 v0 v1 v2 v3 v4 v5 v6 v7 v8 v9 v10 56) 11) o p = m o p := fun o p z => by rw [uI_at (fun q => z q.1), fil_out z]
  have eq : ∀ k, k < 12 → uI (fil c 11 v0 v1 v2 v3 v4 v5 v6 v7 v8 v9 v10) 11 11 (crc (fil c 11 v0 v1 v2 v3 v4 v5 v6 v7 v8 v9 v10 11) 11) 11 k = uI (fil m 56 v0 v1 v2 v3 v4 v5 v6 v7 v8 v9 v10) 56 11 (crc (fil m 56 v0 v1 v2 v3 v4 v5 v6 v7 v8 v9 v10 56) 11) 56 k := by
    intro k hk
    by_cases q : k = 11
    · subst q
      rw [uI_same, uI_same]
      exact crc_congr 11 (fun k hk => fil_at k hk)
    · rw [uI_at (by omega), uI_at (by omega)]
      exact fil_at k (by omega)
  generalize uI (fil c 11 v0 v1 v2 v3 v4 v5 v6 v7 v8 v9 v10) 11 11 (crc (fil c 11 v0 v1 v2 v3 v4 v5 v6 v7 v8 v9 v10 11) 11) = c1 at *
  generalize uI (fil m 56 v0 v1 v2 v3 v4 v5 v6 v7 v8 v9 v10) 56 11 (crc (fil m 56 v0 v1 v2 v3 v4 v5 v6 v7 v8 v9 v10 56) 11) = m1 at *
  have h1 : RC n cd pb L t s0 B D c m1 := h.mOut (fun o p _ _ _ z => om o p z)
  have x1 : m1 37 = m 37 := funext fun p => om 37 p (by decide)
  have pk := pick_ok hN h1
  rw [x1] at pk
  have key := find2 (f := fun k i => LF_X2_keepFrame_2 N k 10 (nI t) (nI i) c L (GRf pb)) (p := pF cd (m 37)) (E := some (.inr c)) (G := fun i => bn1 (LF_X2_keepFrame_47 N N 10 (U i) 0 c1 L (GRf pb)) fun z24 => some (.inl (uI z24 10 9 (z24 10 9 + 1)))) n ?_ ?_ ?_ n 0 N (by omega) (by omega)
  · rcases key with ⟨a, b⟩ | ⟨j, -, a2, a3, a4, b⟩
    · have b : LF_X2_keepFrame_2 N N 10 (nI t) 0 c L (GRf pb) = _ := b
      rw [fd_none _ _ (fun i hi => a i (by omega) hi)] at pk
      have e : c 10 10 = m1 24 42 := h1.sc (o := 10) (p := 10) (b := 42) (by decide)
      have hr := h1.scal (o := 10) (p := 10) (b := 42) (v := c 10 10 + 1) (w := m 24 42 + 1) (by decide) (by decide) (by rw [e, om 24 42 (by decide)])
      refine ⟨_, _, ?_, ?_, hr⟩
      · simp only [F_X2_keepFrame, ck_10, if_true, b, bsr, wre]
      · rw [f2, pk]
        simp only [b1e, m1_m1, if_true, wre]
    · have b : LF_X2_keepFrame_2 N N 10 (nI t) 0 c L (GRf pb) = _ := b
      rw [fd_some a3 (fun i hi => a4 i (by omega) hi) n _ a2] at pk
      unfold pF at a3
      rw [Bool.and_eq_true, Bool.and_eq_true] at a3
      have h5 := i5 _ (h.cd29 a2) a3.1
      have h2 : RC n cd pb L t s0 B D c1 m1 := h1.cOut (fun o p z _ => oc o p z)
      obtain ⟨l, r, g1, g2, g3, g4, g5, g6, g7⟩ := room_ok (q := 12) h2 a2 h5 (by decide)
      have rm : l + 12 ≤ r := by
        have z := of_decide_eq_true a3.2.2
        rw [← x1, g3, g4, vN, vN, nI_clamp (by omega), nI_clamp (by omega)] at z
        exact z
      obtain ⟨c3, m3, y1, y2, h3⟩ := put_ok hN h2 a2 h5 g3 g4 rm g2 eq
      have y1 : LF_X2_keepFrame_47 N N 10 (U j) 0 c1 L (GRf pb) = some c3 := y1
      have y2 : LF_X12_frames_212 N N 24 (nI j) 0 m1 L (GRf pb) = some m3 := y2
      have e : c3 10 9 = m3 24 41 := h3.sc (o := 10) (p := 9) (b := 41) (by decide)
      have hr := h3.scal (o := 10) (p := 9) (b := 41) (v := c3 10 9 + 1) (w := m3 24 41 + 1) (by decide) (by decide) (by rw [e])
      have hj20 := h.lt20 a2
      refine ⟨_, _, ?_, ?_, hr⟩
      · rw [y1, b1e] at b
        simp only [F_X2_keepFrame, ck_10, if_true, b, bsl]
      · rw [f2, pk]
        simp only [b1e, nI_m1 (show j < 2 ^ 31 by omega), if_false, y2, wre]
  · intro k
    simp only [LF_X2_keepFrame_2, rf_10_0, bse, h.size, b1e, nle h.n20, if_true]
  all_goals
    intro k i hi ep
    have hu := h.lt20 hi
    have hu' : i ≤ 20 := by omega
    have wh5 : F_X9_isWhole (U i) 5 c L (GRf pb) = _ := h.wh (l := 5) hi (by decide)
    unfold pF at ep
    cases e5 : isL (cd i) 5 with
    | false =>
      first
      | (rw [e5] at ep; exact Bool.noConfusion (show false = true from ep))
      | simp only [LF_X2_keepFrame_2, rf_10_0, bse, h.size, b1e, nlt hi h.n20, if_false, if_true, h.at hi, ck_U hu', wh5, e5, Bool.false_and, b2f, wre, nI_1]
    | true =>
      obtain ⟨l, r, g1, g2, g3, g4, g5, g6, g7⟩ := room_ok (q := 12) h hi (i5 _ (h.cd29 hi) e5) (by decide)
      have g6 : F_X9_hasRoomFor (U i) 12 c L (GRf pb) = _ := g6
      rw [g3, g4, vN, vN, nI_clamp (by omega), nI_clamp (by omega), e5, Bool.true_and] at ep
      cases e63 : decide (m 37 (65 * i + 63) = 0) with
      | false =>
        first
        | (rw [e63] at ep; exact Bool.noConfusion (show false = true from ep))
        | simp only [LF_X2_keepFrame_2, rf_10_0, bse, h.size, b1e, nlt hi h.n20, if_false, if_true, h.at hi, ck_U hu', wh5, e5, e63, Bool.true_and, b2f, wre, nI_1]
      | true =>
        rw [e63, Bool.true_and] at ep
        simp only [LF_X2_keepFrame_2, rf_10_0, bse, h.size, b1e, nlt hi h.n20, if_false, if_true, h.at hi, ck_U hu', wh5, e5, e63, Bool.true_and, b2t, b2f, wre, nI_1, g6, ep, f1]
theorem frames_no (h : RC n cd pb L t s0 B D c m) (h25 : t % 25 ≠ 24) : F_X12_frames N 24 m L (GRf pb) = some m := by
  have ht := h.tlt
  have f4 : ¬ iR (nI t) 25 = 24 := by
    have e := iR_nI (a := t) (d := 25) (by omega) (by decide) (by decide)
    intro z
    have e2 : nI (t % 25) = nI 24 := by rw [← e]; exact z
    exact h25 ((nI_eq (by omega) (by decide)).mp e2)
  simp only [F_X12_frames, ck_24, if_true, h.tick, if_neg f4]
end P7
