/-! T3: which numbers fit a kind -/
def fitB (k : Nat) (m : MI) (f : Nat) (v : Int32) : Bool := match f with
  | 1 => inV v 1 2000
  | 2 => inV v 20 2000
  | 3 => inV v 1 8
  | 4 => inV v 1 50
  | 5 => inV v 0 (nI k - 1)
  | 6 => inV v 0 (nI k - 1) && decide (m 32 (vN v) = 4)
  | 7 => inV v 0 (nI k - 1) && decide (m 32 (vN v) = 5)
  | 8 => inV v (-300) 900
  | 9 => inV v 0 2
  | 10 => inV v 1 40
  | 11 => inV v 1 200
  | 12 => inV v 0 3
  | 13 => inV v 1 9
  | _ => false
def kcN : List Nat := [2, 3, 4, 5, 7, 8, 10, 11, 12, 13, 14, 16, 17, 18, 19, 20, 21, 23, 24, 25, 27, 28]
def kfN : List (List Nat) := [[1, 0, 0], [1, 3, 0], [1, 0, 0], [2, 0, 0], [4, 0, 0], [4, 5, 8], [4, 4, 9], [4, 4, 9], [4, 4, 0], [4, 4, 5], [4, 4, 7], [4, 9, 0], [4, 9, 0], [4, 9, 6], [4, 9, 6], [4, 10, 0], [4, 10, 0], [11, 12, 0], [11, 12, 0], [11, 6, 0], [5, 5, 0], [6, 6, 13]]
theorem inV_k {k : Nat} {v : Int32} (hk : k ≤ 20) (h : inV v 0 (nI k - 1) = true) : ∃ j, j < k ∧ v = nI j := by
  unfold inV at h
  by_cases q : v < 0
  · rw [if_pos q] at h; cases h
  · rw [if_neg q] at h
    by_cases p : nI k - 1 < v
    · rw [if_pos p] at h; cases h
    · cases k with
      | zero =>
        exfalso
        have p1 : v ≤ -1 := Int32.not_lt.mp p
        exact q (Int32.lt_of_le_of_lt p1 (by decide))
      | succ k =>
        rw [nI_pred] at p
        obtain ⟨j, h1, h2⟩ := nI_of2 (M := nI k) (n := k) (nI_toInt (by omega)) q (Int32.not_lt.mp p)
        exact ⟨j, by omega, h2⟩
theorem inV_kf {k : Nat} {v : Int32} (hk : k ≤ 20) (h : inV v 0 (nI k - 1) = false) : v < 0 ∨ nI k ≤ v := by
  by_cases q : v < 0
  · exact Or.inl q
  · right
    refine Int32.not_lt.mp (fun p => ?_)
    obtain ⟨j, hj, e⟩ := nI_of q
    rw [e] at p
    have hlt := (nI_ltI hj (show k < 2 ^ 31 by omega)).mp p
    obtain ⟨k, rfl⟩ : ∃ z, k = z + 1 := ⟨k - 1, by omega⟩
    unfold inV at h
    rw [if_neg q, nI_pred, e, if_neg (nI_nlt (by omega) (by omega))] at h
    cases h
section P26
variable {k : Nat} {pb : Nat} {L Lr : ML} {c m : MI} {v : Int32}
theorem nwM1 (hk : k ≤ 20) (h : m 24 17 = nI k) : F_X12_isNew 24 v (-1) m L (GRf pb) = some (inV v 0 (nI k - 1)) := by
  cases q : inV v 0 (nI k - 1) with
  | true =>
    obtain ⟨j, hj, rfl⟩ := inV_k hk q
    simp only [F_X12_isNew, ck_24, if_true, if_neg (nI_pos (show j < 2 ^ 31 by omega)), h, if_neg (nI_ge hj (show k < 2 ^ 31 by omega))]
  | false =>
    rcases inV_kf hk q with p | p
    · simp only [F_X12_isNew, ck_24, if_true, if_pos p]
    · by_cases z : v < 0
      · simp only [F_X12_isNew, ck_24, if_true, if_pos z]
      · simp only [F_X12_isNew, ck_24, if_true, if_neg z, h, if_pos p]
theorem nwM {x : Int32} (hk : k ≤ 20) (h : m 24 17 = nI k) (hx : x ≠ -1) : F_X12_isNew 24 v x m L (GRf pb) = some (inV v 0 (nI k - 1) && decide (m 32 (vN v) = x)) := by
  cases q : inV v 0 (nI k - 1) with
  | true =>
    obtain ⟨j, hj, rfl⟩ := inV_k hk q
    rw [Bool.true_and, vN_nI (by omega)]
    by_cases e : m 32 j = x
    · simp only [F_X12_isNew, ck_24, if_true, if_neg (nI_pos (show j < 2 ^ 31 by omega)), h, if_neg (nI_ge hj (show k < 2 ^ 31 by omega)), if_neg hx, rf_24_18, bse, ri_nI ln_32 (show j < 20 by omega) (by decide), if_pos e, decide_eq_true e]
    · simp only [F_X12_isNew, ck_24, if_true, if_neg (nI_pos (show j < 2 ^ 31 by omega)), h, if_neg (nI_ge hj (show k < 2 ^ 31 by omega)), if_neg hx, rf_24_18, bse, ri_nI ln_32 (show j < 20 by omega) (by decide), if_neg e, decide_eq_false e]
  | false =>
    rw [Bool.false_and]
    rcases inV_kf hk q with p | p
    · simp only [F_X12_isNew, ck_24, if_true, if_pos p]
    · by_cases z : v < 0
      · simp only [F_X12_isNew, ck_24, if_true, if_pos z]
      · simp only [F_X12_isNew, ck_24, if_true, if_neg z, h, if_pos p]
theorem layC {j : Nat} (hj : j < 20) : F_X0_layerOf 6 (nI j) c L (GRf pb) = some (c 7 j) := by
  have z : ¬ Int32.ofNat 20 ≤ nI j := nI_ge (b := 20) hj (by decide)
  simp only [F_X0_layerOf, ck_6, if_true, if_neg (nI_pos (show j < 2 ^ 31 by omega)), rf_6_0, bse, ln_7, if_neg z, ri_nI ln_7 hj (by decide)]
theorem fitC (hk : k ≤ 20) (h : c 6 3 = nI k) (hc : ∀ u, u < k → c 7 u = m 32 u) (f : Nat) (hf : 1 ≤ f ∧ f ≤ 13) : F_X0_fits 6 (nI f) v c L (GRf pb) = some (fitB k m f v) := by
  rcases (show f = 1 ∨ f = 2 ∨ f = 3 ∨ f = 4 ∨ f = 5 ∨ f = 6 ∨ f = 7 ∨ f = 8 ∨ f = 9 ∨ f = 10 ∨ f = 11 ∨ f = 12 ∨ f = 13 by omega) with rfl | rfl | rfl | rfl | rfl | rfl | rfl | rfl | rfl | rfl | rfl | rfl | rfl
  · simp (decide := true) only [F_X0_fits, ck_6, if_true, if_false, inC_val, b1e, h, show nI 1 = (1 : Int32) from rfl, fitB]
  · simp (decide := true) only [F_X0_fits, ck_6, if_true, if_false, inC_val, b1e, h, show nI 2 = (2 : Int32) from rfl, fitB]
  · simp (decide := true) only [F_X0_fits, ck_6, if_true, if_false, inC_val, b1e, h, show nI 3 = (3 : Int32) from rfl, fitB]
  · simp (decide := true) only [F_X0_fits, ck_6, if_true, if_false, inC_val, b1e, h, show nI 4 = (4 : Int32) from rfl, fitB]
  · simp (decide := true) only [F_X0_fits, ck_6, if_true, if_false, inC_val, b1e, h, show nI 5 = (5 : Int32) from rfl, fitB]
  · show F_X0_fits 6 6 v c L (GRf pb) = some (inV v 0 (nI k - 1) && decide (m 32 (vN v) = 4))
    cases q : inV v 0 (nI k - 1) with
    | false => simp (decide := true) only [F_X0_fits, ck_6, if_true, if_false, h, inC_val, q, b1e, b2f, Bool.false_and]
    | true =>
      obtain ⟨j, hj, rfl⟩ := inV_k hk q
      rw [Bool.true_and, vN_nI (by omega)]
      by_cases e : m 32 j = 4
      · simp (decide := true) only [F_X0_fits, ck_6, if_true, if_false, h, inC_val, q, b1e, b2t, layC (show j < 20 by omega), hc j hj, e]
      · simp (decide := true) only [F_X0_fits, ck_6, if_true, if_false, h, inC_val, q, b1e, b2t, layC (show j < 20 by omega), hc j hj, if_neg e, decide_eq_false e]
  · show F_X0_fits 6 7 v c L (GRf pb) = some (inV v 0 (nI k - 1) && decide (m 32 (vN v) = 5))
    cases q : inV v 0 (nI k - 1) with
    | false => simp (decide := true) only [F_X0_fits, ck_6, if_true, if_false, h, inC_val, q, b1e, b2f, Bool.false_and]
    | true =>
      obtain ⟨j, hj, rfl⟩ := inV_k hk q
      rw [Bool.true_and, vN_nI (by omega)]
      by_cases e : m 32 j = 5
      · simp (decide := true) only [F_X0_fits, ck_6, if_true, if_false, h, inC_val, q, b1e, b2t, layC (show j < 20 by omega), hc j hj, e]
      · simp (decide := true) only [F_X0_fits, ck_6, if_true, if_false, h, inC_val, q, b1e, b2t, layC (show j < 20 by omega), hc j hj, if_neg e, decide_eq_false e]
  · simp (decide := true) only [F_X0_fits, ck_6, if_true, if_false, inC_val, b1e, h, show nI 8 = (8 : Int32) from rfl, fitB]
  · simp (decide := true) only [F_X0_fits, ck_6, if_true, if_false, inC_val, b1e, h, show nI 9 = (9 : Int32) from rfl, fitB]
  · simp (decide := true) only [F_X0_fits, ck_6, if_true, if_false, inC_val, b1e, h, show nI 10 = (10 : Int32) from rfl, fitB]
  · simp (decide := true) only [F_X0_fits, ck_6, if_true, if_false, inC_val, b1e, h, show nI 11 = (11 : Int32) from rfl, fitB]
  · simp (decide := true) only [F_X0_fits, ck_6, if_true, if_false, inC_val, b1e, h, show nI 12 = (12 : Int32) from rfl, fitB]
  · simp (decide := true) only [F_X0_fits, ck_6, if_true, if_false, inC_val, b1e, h, show nI 13 = (13 : Int32) from rfl, fitB]
theorem fitM_0_0 (hk : k ≤ 20) (h : m 24 17 = nI k) : F_X12_fits 24 2 0 v m L (GRf pb) = some (fitB k m 1 v) := by
  simp (decide := true) only [F_X12_fits, F_X12_fitsLoad, ck_24, if_true, if_false, inM_val, b1e, nwM1 hk h, nwM (x := 4) hk h (by decide), nwM (x := 5) hk h (by decide), fitB]
theorem fitM_1_0 (hk : k ≤ 20) (h : m 24 17 = nI k) : F_X12_fits 24 3 0 v m L (GRf pb) = some (fitB k m 1 v) := by
  simp (decide := true) only [F_X12_fits, F_X12_fitsLoad, ck_24, if_true, if_false, inM_val, b1e, nwM1 hk h, nwM (x := 4) hk h (by decide), nwM (x := 5) hk h (by decide), fitB]
theorem fitM_1_1 (hk : k ≤ 20) (h : m 24 17 = nI k) : F_X12_fits 24 3 1 v m L (GRf pb) = some (fitB k m 3 v) := by
  simp (decide := true) only [F_X12_fits, F_X12_fitsLoad, ck_24, if_true, if_false, inM_val, b1e, nwM1 hk h, nwM (x := 4) hk h (by decide), nwM (x := 5) hk h (by decide), fitB]
theorem fitM_2_0 (hk : k ≤ 20) (h : m 24 17 = nI k) : F_X12_fits 24 4 0 v m L (GRf pb) = some (fitB k m 1 v) := by
  simp (decide := true) only [F_X12_fits, F_X12_fitsLoad, ck_24, if_true, if_false, inM_val, b1e, nwM1 hk h, nwM (x := 4) hk h (by decide), nwM (x := 5) hk h (by decide), fitB]
theorem fitM_3_0 (hk : k ≤ 20) (h : m 24 17 = nI k) : F_X12_fits 24 5 0 v m L (GRf pb) = some (fitB k m 2 v) := by
  simp (decide := true) only [F_X12_fits, F_X12_fitsLoad, ck_24, if_true, if_false, inM_val, b1e, nwM1 hk h, nwM (x := 4) hk h (by decide), nwM (x := 5) hk h (by decide), fitB]
theorem fitM_4_0 (hk : k ≤ 20) (h : m 24 17 = nI k) : F_X12_fits 24 7 0 v m L (GRf pb) = some (fitB k m 4 v) := by
  simp (decide := true) only [F_X12_fits, F_X12_fitsLoad, ck_24, if_true, if_false, inM_val, b1e, nwM1 hk h, nwM (x := 4) hk h (by decide), nwM (x := 5) hk h (by decide), fitB]
theorem fitM_5_0 (hk : k ≤ 20) (h : m 24 17 = nI k) : F_X12_fits 24 8 0 v m L (GRf pb) = some (fitB k m 4 v) := by
  simp (decide := true) only [F_X12_fits, F_X12_fitsLoad, ck_24, if_true, if_false, inM_val, b1e, nwM1 hk h, nwM (x := 4) hk h (by decide), nwM (x := 5) hk h (by decide), fitB]
theorem fitM_5_1 (hk : k ≤ 20) (h : m 24 17 = nI k) : F_X12_fits 24 8 1 v m L (GRf pb) = some (fitB k m 5 v) := by
  simp (decide := true) only [F_X12_fits, F_X12_fitsLoad, ck_24, if_true, if_false, inM_val, b1e, nwM1 hk h, nwM (x := 4) hk h (by decide), nwM (x := 5) hk h (by decide), fitB]
theorem fitM_5_2 (hk : k ≤ 20) (h : m 24 17 = nI k) : F_X12_fits 24 8 2 v m L (GRf pb) = some (fitB k m 8 v) := by
  simp (decide := true) only [F_X12_fits, F_X12_fitsLoad, ck_24, if_true, if_false, inM_val, b1e, nwM1 hk h, nwM (x := 4) hk h (by decide), nwM (x := 5) hk h (by decide), fitB]
theorem fitM_6_0 (hk : k ≤ 20) (h : m 24 17 = nI k) : F_X12_fits 24 10 0 v m L (GRf pb) = some (fitB k m 4 v) := by
  simp (decide := true) only [F_X12_fits, F_X12_fitsLoad, ck_24, if_true, if_false, inM_val, b1e, nwM1 hk h, nwM (x := 4) hk h (by decide), nwM (x := 5) hk h (by decide), fitB]
theorem fitM_6_1 (hk : k ≤ 20) (h : m 24 17 = nI k) : F_X12_fits 24 10 1 v m L (GRf pb) = some (fitB k m 4 v) := by
  simp (decide := true) only [F_X12_fits, F_X12_fitsLoad, ck_24, if_true, if_false, inM_val, b1e, nwM1 hk h, nwM (x := 4) hk h (by decide), nwM (x := 5) hk h (by decide), fitB]
theorem fitM_6_2 (hk : k ≤ 20) (h : m 24 17 = nI k) : F_X12_fits 24 10 2 v m L (GRf pb) = some (fitB k m 9 v) := by
  simp (decide := true) only [F_X12_fits, F_X12_fitsLoad, ck_24, if_true, if_false, inM_val, b1e, nwM1 hk h, nwM (x := 4) hk h (by decide), nwM (x := 5) hk h (by decide), fitB]
theorem fitM_7_0 (hk : k ≤ 20) (h : m 24 17 = nI k) : F_X12_fits 24 11 0 v m L (GRf pb) = some (fitB k m 4 v) := by
  simp (decide := true) only [F_X12_fits, F_X12_fitsLoad, ck_24, if_true, if_false, inM_val, b1e, nwM1 hk h, nwM (x := 4) hk h (by decide), nwM (x := 5) hk h (by decide), fitB]
theorem fitM_7_1 (hk : k ≤ 20) (h : m 24 17 = nI k) : F_X12_fits 24 11 1 v m L (GRf pb) = some (fitB k m 4 v) := by
  simp (decide := true) only [F_X12_fits, F_X12_fitsLoad, ck_24, if_true, if_false, inM_val, b1e, nwM1 hk h, nwM (x := 4) hk h (by decide), nwM (x := 5) hk h (by decide), fitB]
theorem fitM_7_2 (hk : k ≤ 20) (h : m 24 17 = nI k) : F_X12_fits 24 11 2 v m L (GRf pb) = some (fitB k m 9 v) := by
  simp (decide := true) only [F_X12_fits, F_X12_fitsLoad, ck_24, if_true, if_false, inM_val, b1e, nwM1 hk h, nwM (x := 4) hk h (by decide), nwM (x := 5) hk h (by decide), fitB]
theorem fitM_8_0 (hk : k ≤ 20) (h : m 24 17 = nI k) : F_X12_fits 24 12 0 v m L (GRf pb) = some (fitB k m 4 v) := by
  simp (decide := true) only [F_X12_fits, F_X12_fitsLoad, ck_24, if_true, if_false, inM_val, b1e, nwM1 hk h, nwM (x := 4) hk h (by decide), nwM (x := 5) hk h (by decide), fitB]
theorem fitM_8_1 (hk : k ≤ 20) (h : m 24 17 = nI k) : F_X12_fits 24 12 1 v m L (GRf pb) = some (fitB k m 4 v) := by
  simp (decide := true) only [F_X12_fits, F_X12_fitsLoad, ck_24, if_true, if_false, inM_val, b1e, nwM1 hk h, nwM (x := 4) hk h (by decide), nwM (x := 5) hk h (by decide), fitB]
theorem fitM_9_0 (hk : k ≤ 20) (h : m 24 17 = nI k) : F_X12_fits 24 13 0 v m L (GRf pb) = some (fitB k m 4 v) := by
  simp (decide := true) only [F_X12_fits, F_X12_fitsLoad, ck_24, if_true, if_false, inM_val, b1e, nwM1 hk h, nwM (x := 4) hk h (by decide), nwM (x := 5) hk h (by decide), fitB]
theorem fitM_9_1 (hk : k ≤ 20) (h : m 24 17 = nI k) : F_X12_fits 24 13 1 v m L (GRf pb) = some (fitB k m 4 v) := by
  simp (decide := true) only [F_X12_fits, F_X12_fitsLoad, ck_24, if_true, if_false, inM_val, b1e, nwM1 hk h, nwM (x := 4) hk h (by decide), nwM (x := 5) hk h (by decide), fitB]
theorem fitM_9_2 (hk : k ≤ 20) (h : m 24 17 = nI k) : F_X12_fits 24 13 2 v m L (GRf pb) = some (fitB k m 5 v) := by
  simp (decide := true) only [F_X12_fits, F_X12_fitsLoad, ck_24, if_true, if_false, inM_val, b1e, nwM1 hk h, nwM (x := 4) hk h (by decide), nwM (x := 5) hk h (by decide), fitB]
theorem fitM_10_0 (hk : k ≤ 20) (h : m 24 17 = nI k) : F_X12_fits 24 14 0 v m L (GRf pb) = some (fitB k m 4 v) := by
  simp (decide := true) only [F_X12_fits, F_X12_fitsLoad, ck_24, if_true, if_false, inM_val, b1e, nwM1 hk h, nwM (x := 4) hk h (by decide), nwM (x := 5) hk h (by decide), fitB]
theorem fitM_10_1 (hk : k ≤ 20) (h : m 24 17 = nI k) : F_X12_fits 24 14 1 v m L (GRf pb) = some (fitB k m 4 v) := by
  simp (decide := true) only [F_X12_fits, F_X12_fitsLoad, ck_24, if_true, if_false, inM_val, b1e, nwM1 hk h, nwM (x := 4) hk h (by decide), nwM (x := 5) hk h (by decide), fitB]
theorem fitM_10_2 (hk : k ≤ 20) (h : m 24 17 = nI k) : F_X12_fits 24 14 2 v m L (GRf pb) = some (fitB k m 7 v) := by
  simp (decide := true) only [F_X12_fits, F_X12_fitsLoad, ck_24, if_true, if_false, inM_val, b1e, nwM1 hk h, nwM (x := 4) hk h (by decide), nwM (x := 5) hk h (by decide), fitB]
theorem fitM_11_0 (hk : k ≤ 20) (h : m 24 17 = nI k) : F_X12_fits 24 16 0 v m L (GRf pb) = some (fitB k m 4 v) := by
  simp (decide := true) only [F_X12_fits, F_X12_fitsLoad, ck_24, if_true, if_false, inM_val, b1e, nwM1 hk h, nwM (x := 4) hk h (by decide), nwM (x := 5) hk h (by decide), fitB]
theorem fitM_11_1 (hk : k ≤ 20) (h : m 24 17 = nI k) : F_X12_fits 24 16 1 v m L (GRf pb) = some (fitB k m 9 v) := by
  simp (decide := true) only [F_X12_fits, F_X12_fitsLoad, ck_24, if_true, if_false, inM_val, b1e, nwM1 hk h, nwM (x := 4) hk h (by decide), nwM (x := 5) hk h (by decide), fitB]
theorem fitM_12_0 (hk : k ≤ 20) (h : m 24 17 = nI k) : F_X12_fits 24 17 0 v m L (GRf pb) = some (fitB k m 4 v) := by
  simp (decide := true) only [F_X12_fits, F_X12_fitsLoad, ck_24, if_true, if_false, inM_val, b1e, nwM1 hk h, nwM (x := 4) hk h (by decide), nwM (x := 5) hk h (by decide), fitB]
theorem fitM_12_1 (hk : k ≤ 20) (h : m 24 17 = nI k) : F_X12_fits 24 17 1 v m L (GRf pb) = some (fitB k m 9 v) := by
  simp (decide := true) only [F_X12_fits, F_X12_fitsLoad, ck_24, if_true, if_false, inM_val, b1e, nwM1 hk h, nwM (x := 4) hk h (by decide), nwM (x := 5) hk h (by decide), fitB]
theorem fitM_13_0 (hk : k ≤ 20) (h : m 24 17 = nI k) : F_X12_fits 24 18 0 v m L (GRf pb) = some (fitB k m 4 v) := by
  simp (decide := true) only [F_X12_fits, F_X12_fitsLoad, ck_24, if_true, if_false, inM_val, b1e, nwM1 hk h, nwM (x := 4) hk h (by decide), nwM (x := 5) hk h (by decide), fitB]
theorem fitM_13_1 (hk : k ≤ 20) (h : m 24 17 = nI k) : F_X12_fits 24 18 1 v m L (GRf pb) = some (fitB k m 9 v) := by
  simp (decide := true) only [F_X12_fits, F_X12_fitsLoad, ck_24, if_true, if_false, inM_val, b1e, nwM1 hk h, nwM (x := 4) hk h (by decide), nwM (x := 5) hk h (by decide), fitB]
theorem fitM_13_2 (hk : k ≤ 20) (h : m 24 17 = nI k) : F_X12_fits 24 18 2 v m L (GRf pb) = some (fitB k m 6 v) := by
  simp (decide := true) only [F_X12_fits, F_X12_fitsLoad, ck_24, if_true, if_false, inM_val, b1e, nwM1 hk h, nwM (x := 4) hk h (by decide), nwM (x := 5) hk h (by decide), fitB]
theorem fitM_14_0 (hk : k ≤ 20) (h : m 24 17 = nI k) : F_X12_fits 24 19 0 v m L (GRf pb) = some (fitB k m 4 v) := by
  simp (decide := true) only [F_X12_fits, F_X12_fitsLoad, ck_24, if_true, if_false, inM_val, b1e, nwM1 hk h, nwM (x := 4) hk h (by decide), nwM (x := 5) hk h (by decide), fitB]
theorem fitM_14_1 (hk : k ≤ 20) (h : m 24 17 = nI k) : F_X12_fits 24 19 1 v m L (GRf pb) = some (fitB k m 9 v) := by
  simp (decide := true) only [F_X12_fits, F_X12_fitsLoad, ck_24, if_true, if_false, inM_val, b1e, nwM1 hk h, nwM (x := 4) hk h (by decide), nwM (x := 5) hk h (by decide), fitB]
theorem fitM_14_2 (hk : k ≤ 20) (h : m 24 17 = nI k) : F_X12_fits 24 19 2 v m L (GRf pb) = some (fitB k m 6 v) := by
  simp (decide := true) only [F_X12_fits, F_X12_fitsLoad, ck_24, if_true, if_false, inM_val, b1e, nwM1 hk h, nwM (x := 4) hk h (by decide), nwM (x := 5) hk h (by decide), fitB]
theorem fitM_15_0 (hk : k ≤ 20) (h : m 24 17 = nI k) : F_X12_fits 24 20 0 v m L (GRf pb) = some (fitB k m 4 v) := by
  simp (decide := true) only [F_X12_fits, F_X12_fitsLoad, ck_24, if_true, if_false, inM_val, b1e, nwM1 hk h, nwM (x := 4) hk h (by decide), nwM (x := 5) hk h (by decide), fitB]
theorem fitM_15_1 (hk : k ≤ 20) (h : m 24 17 = nI k) : F_X12_fits 24 20 1 v m L (GRf pb) = some (fitB k m 10 v) := by
  simp (decide := true) only [F_X12_fits, F_X12_fitsLoad, ck_24, if_true, if_false, inM_val, b1e, nwM1 hk h, nwM (x := 4) hk h (by decide), nwM (x := 5) hk h (by decide), fitB]
theorem fitM_16_0 (hk : k ≤ 20) (h : m 24 17 = nI k) : F_X12_fits 24 21 0 v m L (GRf pb) = some (fitB k m 4 v) := by
  simp (decide := true) only [F_X12_fits, F_X12_fitsLoad, ck_24, if_true, if_false, inM_val, b1e, nwM1 hk h, nwM (x := 4) hk h (by decide), nwM (x := 5) hk h (by decide), fitB]
theorem fitM_16_1 (hk : k ≤ 20) (h : m 24 17 = nI k) : F_X12_fits 24 21 1 v m L (GRf pb) = some (fitB k m 10 v) := by
  simp (decide := true) only [F_X12_fits, F_X12_fitsLoad, ck_24, if_true, if_false, inM_val, b1e, nwM1 hk h, nwM (x := 4) hk h (by decide), nwM (x := 5) hk h (by decide), fitB]
theorem fitM_17_0 (hk : k ≤ 20) (h : m 24 17 = nI k) : F_X12_fits 24 23 0 v m L (GRf pb) = some (fitB k m 11 v) := by
  simp (decide := true) only [F_X12_fits, F_X12_fitsLoad, ck_24, if_true, if_false, inM_val, b1e, nwM1 hk h, nwM (x := 4) hk h (by decide), nwM (x := 5) hk h (by decide), fitB]
theorem fitM_17_1 (hk : k ≤ 20) (h : m 24 17 = nI k) : F_X12_fits 24 23 1 v m L (GRf pb) = some (fitB k m 12 v) := by
  simp (decide := true) only [F_X12_fits, F_X12_fitsLoad, ck_24, if_true, if_false, inM_val, b1e, nwM1 hk h, nwM (x := 4) hk h (by decide), nwM (x := 5) hk h (by decide), fitB]
theorem fitM_18_0 (hk : k ≤ 20) (h : m 24 17 = nI k) : F_X12_fits 24 24 0 v m L (GRf pb) = some (fitB k m 11 v) := by
  simp (decide := true) only [F_X12_fits, F_X12_fitsLoad, ck_24, if_true, if_false, inM_val, b1e, nwM1 hk h, nwM (x := 4) hk h (by decide), nwM (x := 5) hk h (by decide), fitB]
theorem fitM_18_1 (hk : k ≤ 20) (h : m 24 17 = nI k) : F_X12_fits 24 24 1 v m L (GRf pb) = some (fitB k m 12 v) := by
  simp (decide := true) only [F_X12_fits, F_X12_fitsLoad, ck_24, if_true, if_false, inM_val, b1e, nwM1 hk h, nwM (x := 4) hk h (by decide), nwM (x := 5) hk h (by decide), fitB]
theorem fitM_19_0 (hk : k ≤ 20) (h : m 24 17 = nI k) : F_X12_fits 24 25 0 v m L (GRf pb) = some (fitB k m 11 v) := by
  simp (decide := true) only [F_X12_fits, F_X12_fitsLoad, ck_24, if_true, if_false, inM_val, b1e, nwM1 hk h, nwM (x := 4) hk h (by decide), nwM (x := 5) hk h (by decide), fitB]
theorem fitM_19_1 (hk : k ≤ 20) (h : m 24 17 = nI k) : F_X12_fits 24 25 1 v m L (GRf pb) = some (fitB k m 6 v) := by
  simp (decide := true) only [F_X12_fits, F_X12_fitsLoad, ck_24, if_true, if_false, inM_val, b1e, nwM1 hk h, nwM (x := 4) hk h (by decide), nwM (x := 5) hk h (by decide), fitB]
theorem fitM_20_0 (hk : k ≤ 20) (h : m 24 17 = nI k) : F_X12_fits 24 27 0 v m L (GRf pb) = some (fitB k m 5 v) := by
  simp (decide := true) only [F_X12_fits, F_X12_fitsLoad, ck_24, if_true, if_false, inM_val, b1e, nwM1 hk h, nwM (x := 4) hk h (by decide), nwM (x := 5) hk h (by decide), fitB]
theorem fitM_20_1 (hk : k ≤ 20) (h : m 24 17 = nI k) : F_X12_fits 24 27 1 v m L (GRf pb) = some (fitB k m 5 v) := by
  simp (decide := true) only [F_X12_fits, F_X12_fitsLoad, ck_24, if_true, if_false, inM_val, b1e, nwM1 hk h, nwM (x := 4) hk h (by decide), nwM (x := 5) hk h (by decide), fitB]
theorem fitM_21_0 (hk : k ≤ 20) (h : m 24 17 = nI k) : F_X12_fits 24 28 0 v m L (GRf pb) = some (fitB k m 6 v) := by
  simp (decide := true) only [F_X12_fits, F_X12_fitsLoad, ck_24, if_true, if_false, inM_val, b1e, nwM1 hk h, nwM (x := 4) hk h (by decide), nwM (x := 5) hk h (by decide), fitB]
theorem fitM_21_1 (hk : k ≤ 20) (h : m 24 17 = nI k) : F_X12_fits 24 28 1 v m L (GRf pb) = some (fitB k m 6 v) := by
  simp (decide := true) only [F_X12_fits, F_X12_fitsLoad, ck_24, if_true, if_false, inM_val, b1e, nwM1 hk h, nwM (x := 4) hk h (by decide), nwM (x := 5) hk h (by decide), fitB]
theorem fitM_21_2 (hk : k ≤ 20) (h : m 24 17 = nI k) : F_X12_fits 24 28 2 v m L (GRf pb) = some (fitB k m 13 v) := by
  simp (decide := true) only [F_X12_fits, F_X12_fitsLoad, ck_24, if_true, if_false, inM_val, b1e, nwM1 hk h, nwM (x := 4) hk h (by decide), nwM (x := 5) hk h (by decide), fitB]
theorem fitM (hk : k ≤ 20) (h : m 24 17 = nI k) (i y : Nat) (hi : i < 22) (hy : y < 3) (hf : (kfN.getD i []).getD y 0 ≠ 0) : F_X12_fits 24 (nI (kcN.getD i 0)) (nI y) v m L (GRf pb) = some (fitB k m ((kfN.getD i []).getD y 0) v) := by
  rcases (show i = 0 ∨ i = 1 ∨ i = 2 ∨ i = 3 ∨ i = 4 ∨ i = 5 ∨ i = 6 ∨ i = 7 ∨ i = 8 ∨ i = 9 ∨ i = 10 ∨ i = 11 ∨ i = 12 ∨ i = 13 ∨ i = 14 ∨ i = 15 ∨ i = 16 ∨ i = 17 ∨ i = 18 ∨ i = 19 ∨ i = 20 ∨ i = 21 by omega) with rfl | rfl | rfl | rfl | rfl | rfl | rfl | rfl | rfl | rfl | rfl | rfl | rfl | rfl | rfl | rfl | rfl | rfl | rfl | rfl | rfl | rfl <;> rcases (show y = 0 ∨ y = 1 ∨ y = 2 by omega) with rfl | rfl | rfl
  · exact fitM_0_0 hk h
  · exact absurd rfl hf
  · exact absurd rfl hf
  · exact fitM_1_0 hk h
  · exact fitM_1_1 hk h
  · exact absurd rfl hf
  · exact fitM_2_0 hk h
  · exact absurd rfl hf
  · exact absurd rfl hf
  · exact fitM_3_0 hk h
  · exact absurd rfl hf
  · exact absurd rfl hf
  · exact fitM_4_0 hk h
  · exact absurd rfl hf
  · exact absurd rfl hf
  · exact fitM_5_0 hk h
  · exact fitM_5_1 hk h
  · exact fitM_5_2 hk h
  · exact fitM_6_0 hk h
  · exact fitM_6_1 hk h
  · exact fitM_6_2 hk h
  · exact fitM_7_0 hk h
  · exact fitM_7_1 hk h
  · exact fitM_7_2 hk h
  · exact fitM_8_0 hk h
  · exact fitM_8_1 hk h
  · exact absurd rfl hf
  · exact fitM_9_0 hk h
  · exact fitM_9_1 hk h
  · exact fitM_9_2 hk h
  · exact fitM_10_0 hk h
  · exact fitM_10_1 hk h
  · exact fitM_10_2 hk h
  · exact fitM_11_0 hk h
  · exact fitM_11_1 hk h
  · exact absurd rfl hf
  · exact fitM_12_0 hk h
  · exact fitM_12_1 hk h
  · exact absurd rfl hf
  · exact fitM_13_0 hk h
  · exact fitM_13_1 hk h
  · exact fitM_13_2 hk h
  · exact fitM_14_0 hk h
  · exact fitM_14_1 hk h
  · exact fitM_14_2 hk h
  · exact fitM_15_0 hk h
  · exact fitM_15_1 hk h
  · exact absurd rfl hf
  · exact fitM_16_0 hk h
  · exact fitM_16_1 hk h
  · exact absurd rfl hf
  · exact fitM_17_0 hk h
  · exact fitM_17_1 hk h
  · exact absurd rfl hf
  · exact fitM_18_0 hk h
  · exact fitM_18_1 hk h
  · exact absurd rfl hf
  · exact fitM_19_0 hk h
  · exact fitM_19_1 hk h
  · exact absurd rfl hf
  · exact fitM_20_0 hk h
  · exact fitM_20_1 hk h
  · exact absurd rfl hf
  · exact fitM_21_0 hk h
  · exact fitM_21_1 hk h
  · exact fitM_21_2 hk h
theorem formC (i y : Nat) (hi : i < 22) (hy : y < 3) : F_X4_formOf (310 + i) (nI y) c L (GRf pb) = some (nI ((kfN.getD i []).getD y 0)) := by
  have d : ∀ i, i < 22 → kF (310 + i) 1 = nI ((kfN.getD i []).getD 0 0) ∧ kF (310 + i) 2 = nI ((kfN.getD i []).getD 1 0) ∧ kF (310 + i) 3 = nI ((kfN.getD i []).getD 2 0) := by decide
  have hi' : (310 ≤ 310 + i ∧ 310 + i < 332) = True := eq_true (by omega)
  obtain ⟨d1, d2, d3⟩ := d i hi
  rcases (show y = 0 ∨ y = 1 ∨ y = 2 by omega) with rfl | rfl | rfl
  · simp (decide := true) only [F_X4_formOf, hi', if_true, d1]
  · simp (decide := true) only [F_X4_formOf, hi', if_true, if_false, d2]
  · simp (decide := true) only [F_X4_formOf, hi', if_true, if_false, d3]
theorem manyM (i : Nat) (hi : i < 22) : F_X12_many (nI (kcN.getD i 0)) m L (GRf pb) = some (nI (mny (kcN.getD i 0))) := by
  rcases (show i = 0 ∨ i = 1 ∨ i = 2 ∨ i = 3 ∨ i = 4 ∨ i = 5 ∨ i = 6 ∨ i = 7 ∨ i = 8 ∨ i = 9 ∨ i = 10 ∨ i = 11 ∨ i = 12 ∨ i = 13 ∨ i = 14 ∨ i = 15 ∨ i = 16 ∨ i = 17 ∨ i = 18 ∨ i = 19 ∨ i = 20 ∨ i = 21 by omega) with rfl | rfl | rfl | rfl | rfl | rfl | rfl | rfl | rfl | rfl | rfl | rfl | rfl | rfl | rfl | rfl | rfl | rfl | rfl | rfl | rfl | rfl
  · show F_X12_many 2 m L (GRf pb) = some (nI (mny 2))
    simp (decide := true) only [F_X12_many, if_true, if_false]
  · show F_X12_many 3 m L (GRf pb) = some (nI (mny 3))
    simp (decide := true) only [F_X12_many, if_true, if_false]
  · show F_X12_many 4 m L (GRf pb) = some (nI (mny 4))
    simp (decide := true) only [F_X12_many, if_true, if_false]
  · show F_X12_many 5 m L (GRf pb) = some (nI (mny 5))
    simp (decide := true) only [F_X12_many, if_true, if_false]
  · show F_X12_many 7 m L (GRf pb) = some (nI (mny 7))
    simp (decide := true) only [F_X12_many, if_true, if_false]
  · show F_X12_many 8 m L (GRf pb) = some (nI (mny 8))
    simp (decide := true) only [F_X12_many, if_true, if_false]
  · show F_X12_many 10 m L (GRf pb) = some (nI (mny 10))
    simp (decide := true) only [F_X12_many, if_true, if_false]
  · show F_X12_many 11 m L (GRf pb) = some (nI (mny 11))
    simp (decide := true) only [F_X12_many, if_true, if_false]
  · show F_X12_many 12 m L (GRf pb) = some (nI (mny 12))
    simp (decide := true) only [F_X12_many, if_true, if_false]
  · show F_X12_many 13 m L (GRf pb) = some (nI (mny 13))
    simp (decide := true) only [F_X12_many, if_true, if_false]
  · show F_X12_many 14 m L (GRf pb) = some (nI (mny 14))
    simp (decide := true) only [F_X12_many, if_true, if_false]
  · show F_X12_many 16 m L (GRf pb) = some (nI (mny 16))
    simp (decide := true) only [F_X12_many, if_true, if_false]
  · show F_X12_many 17 m L (GRf pb) = some (nI (mny 17))
    simp (decide := true) only [F_X12_many, if_true, if_false]
  · show F_X12_many 18 m L (GRf pb) = some (nI (mny 18))
    simp (decide := true) only [F_X12_many, if_true, if_false]
  · show F_X12_many 19 m L (GRf pb) = some (nI (mny 19))
    simp (decide := true) only [F_X12_many, if_true, if_false]
  · show F_X12_many 20 m L (GRf pb) = some (nI (mny 20))
    simp (decide := true) only [F_X12_many, if_true, if_false]
  · show F_X12_many 21 m L (GRf pb) = some (nI (mny 21))
    simp (decide := true) only [F_X12_many, if_true, if_false]
  · show F_X12_many 23 m L (GRf pb) = some (nI (mny 23))
    simp (decide := true) only [F_X12_many, if_true, if_false]
  · show F_X12_many 24 m L (GRf pb) = some (nI (mny 24))
    simp (decide := true) only [F_X12_many, if_true, if_false]
  · show F_X12_many 25 m L (GRf pb) = some (nI (mny 25))
    simp (decide := true) only [F_X12_many, if_true, if_false]
  · show F_X12_many 27 m L (GRf pb) = some (nI (mny 27))
    simp (decide := true) only [F_X12_many, if_true, if_false]
  · show F_X12_many 28 m L (GRf pb) = some (nI (mny 28))
    simp (decide := true) only [F_X12_many, if_true, if_false]
theorem form_many : ∀ i, i < 22 → ∀ y, y < 3 → ((kfN.getD i []).getD y 0 = 0 ↔ mny (kcN.getD i 0) ≤ y) ∧ (kfN.getD i []).getD y 0 ≤ 13 := by decide
theorem kcN_kin : ∀ i, i < 22 → kin (kcN.getD i 0) := by
  unfold kin
  decide
end P26
/-- what a fitting number is -/
def FP (k : Nat) (m : MI) (f : Nat) (v : Int32) : Prop := match f with
  | 1 => n1 v 2000
  | 2 => n1 v 2000
  | 3 => n1 v 8
  | 4 => n1 v 50
  | 5 => ∃ j, j < k ∧ v = nI j
  | 6 => ∃ j, j < k ∧ m 32 j = 4 ∧ v = nI j
  | 7 => ∃ j, j < k ∧ m 32 j = 5 ∧ v = nI j
  | 9 => nn v 2
  | 10 => n1 v 40
  | 11 => n1 v 200
  | 12 => nn v 3
  | 13 => n1 v 9
  | _ => True
theorem inV_n1 {v : Int32} (a b : Nat) (ha : 1 ≤ a) (hb : b < 2 ^ 20) (ha2 : a < 2 ^ 20) (h : inV v (nI a) (nI b) = true) : n1 v b := by
  unfold inV at h
  by_cases q : v < nI a
  · rw [if_pos q] at h; cases h
  · rw [if_neg q] at h
    by_cases p : nI b < v
    · rw [if_pos p] at h; cases h
    · have q0 : ¬ v < 0 := fun z => q (Int32.lt_of_lt_of_le z (nI_le (a := 0) (by omega) (by omega)))
      obtain ⟨j, h1, rfl⟩ := nI_of2 (M := nI b) (n := b) (nI_toInt (by omega)) q0 (Int32.not_lt.mp p)
      refine ⟨j, ?_, h1, rfl⟩
      refine Nat.le_trans ha (Nat.le_of_not_lt (fun z => q ((nI_ltI (by omega) (by omega)).mpr z)))
theorem inV_nn {v : Int32} (b : Nat) (hb : b < 2 ^ 20) (h : inV v 0 (nI b) = true) : nn v b := by
  unfold inV at h
  by_cases q : v < 0
  · rw [if_pos q] at h; cases h
  · rw [if_neg q] at h
    by_cases p : nI b < v
    · rw [if_pos p] at h; cases h
    · exact nI_of2 (M := nI b) (n := b) (nI_toInt (by omega)) q (Int32.not_lt.mp p)
theorem fit_FP {k : Nat} {m : MI} {v : Int32} (hk : k ≤ 20) (f : Nat) (hf : 1 ≤ f ∧ f ≤ 13) (h : fitB k m f v = true) : FP k m f v := by
  rcases (show f = 1 ∨ f = 2 ∨ f = 3 ∨ f = 4 ∨ f = 5 ∨ f = 6 ∨ f = 7 ∨ f = 8 ∨ f = 9 ∨ f = 10 ∨ f = 11 ∨ f = 12 ∨ f = 13 by omega) with rfl | rfl | rfl | rfl | rfl | rfl | rfl | rfl | rfl | rfl | rfl | rfl | rfl
  · exact inV_n1 1 2000 (by decide) (by decide) (by decide) h
  · exact inV_n1 20 2000 (by decide) (by decide) (by decide) h
  · exact inV_n1 1 8 (by decide) (by decide) (by decide) h
  · exact inV_n1 1 50 (by decide) (by decide) (by decide) h
  · exact inV_k hk h
  · have h : (inV v 0 (nI k - 1) && decide (m 32 (vN v) = 4)) = true := h
    rw [Bool.and_eq_true] at h
    obtain ⟨j, hj, rfl⟩ := inV_k hk h.1
    have h2 := of_decide_eq_true h.2
    rw [vN_nI (by omega)] at h2
    exact ⟨j, hj, h2, rfl⟩
  · have h : (inV v 0 (nI k - 1) && decide (m 32 (vN v) = 5)) = true := h
    rw [Bool.and_eq_true] at h
    obtain ⟨j, hj, rfl⟩ := inV_k hk h.1
    have h2 := of_decide_eq_true h.2
    rw [vN_nI (by omega)] at h2
    exact ⟨j, hj, h2, rfl⟩
  · exact trivial
  · exact inV_nn 2 (by decide) h
  · exact inV_n1 1 40 (by decide) (by decide) (by decide) h
  · exact inV_n1 1 200 (by decide) (by decide) (by decide) h
  · exact inV_nn 3 (by decide) h
  · exact inV_n1 1 9 (by decide) (by decide) (by decide) h
def cdM (m : MI) (u : Nat) : Nat := vN (m 32 u)
theorem FT_of {u i : Nat} {m : MI} {X : Nat → Int32} (hi : i < 22) (hc : cdM m u = kcN.getD i 0) (h : ∀ y, y < 3 → (kfN.getD i []).getD y 0 ≠ 0 → FP u m ((kfN.getD i []).getD y 0) (X y)) : FT u (cdM m) u X := by
  have h0 := h 0 (by decide)
  have h1 := h 1 (by decide)
  have h2 := h 2 (by decide)
  have c4 : ∀ j, m 32 j = 4 → cdM m j = 4 := fun j e => by unfold cdM; rw [e]; rfl
  have c5 : ∀ j, m 32 j = 5 → cdM m j = 5 := fun j e => by unfold cdM; rw [e]; rfl
  unfold FT
  rw [hc]
  clear hc h
  rcases (show i = 0 ∨ i = 1 ∨ i = 2 ∨ i = 3 ∨ i = 4 ∨ i = 5 ∨ i = 6 ∨ i = 7 ∨ i = 8 ∨ i = 9 ∨ i = 10 ∨ i = 11 ∨ i = 12 ∨ i = 13 ∨ i = 14 ∨ i = 15 ∨ i = 16 ∨ i = 17 ∨ i = 18 ∨ i = 19 ∨ i = 20 ∨ i = 21 by omega) with rfl | rfl | rfl | rfl | rfl | rfl | rfl | rfl | rfl | rfl | rfl | rfl | rfl | rfl | rfl | rfl | rfl | rfl | rfl | rfl | rfl | rfl
  · have g0 : n1 (X 0) 2000 := h0 (by decide)
    exact ⟨fun _ => g0, fun z => absurd z (by decide), fun z => absurd z (by decide), fun z => absurd z (by decide), fun z => absurd z (by decide), fun z => absurd z (by decide), fun z => absurd z (by decide), fun z => absurd z (by decide), fun z => absurd z (by decide), fun z => absurd z (by decide), fun z => absurd z (by decide), fun z => absurd z (by decide), fun z => absurd z (by decide), fun z => absurd z (by decide), fun z => absurd z (by decide), fun z => absurd z (by decide)⟩
  · have g0 : n1 (X 0) 2000 := h0 (by decide)
    have g1 : n1 (X 1) 8 := h1 (by decide)
    exact ⟨fun _ => g0, fun _ => g1, fun z => absurd z (by decide), fun z => absurd z (by decide), fun z => absurd z (by decide), fun z => absurd z (by decide), fun z => absurd z (by decide), fun z => absurd z (by decide), fun z => absurd z (by decide), fun z => absurd z (by decide), fun z => absurd z (by decide), fun z => absurd z (by decide), fun z => absurd z (by decide), fun z => absurd z (by decide), fun z => absurd z (by decide), fun z => absurd z (by decide)⟩
  · have g0 : n1 (X 0) 2000 := h0 (by decide)
    exact ⟨fun _ => g0, fun z => absurd z (by decide), fun z => absurd z (by decide), fun z => absurd z (by decide), fun z => absurd z (by decide), fun z => absurd z (by decide), fun z => absurd z (by decide), fun z => absurd z (by decide), fun z => absurd z (by decide), fun z => absurd z (by decide), fun z => absurd z (by decide), fun z => absurd z (by decide), fun z => absurd z (by decide), fun z => absurd z (by decide), fun z => absurd z (by decide), fun z => absurd z (by decide)⟩
  · have g0 : n1 (X 0) 2000 := h0 (by decide)
    exact ⟨fun _ => g0, fun z => absurd z (by decide), fun z => absurd z (by decide), fun z => absurd z (by decide), fun z => absurd z (by decide), fun z => absurd z (by decide), fun z => absurd z (by decide), fun z => absurd z (by decide), fun z => absurd z (by decide), fun z => absurd z (by decide), fun z => absurd z (by decide), fun z => absurd z (by decide), fun z => absurd z (by decide), fun z => absurd z (by decide), fun z => absurd z (by decide), fun z => absurd z (by decide)⟩
  · have g0 : n1 (X 0) 50 := h0 (by decide)
    exact ⟨fun z => absurd z (by decide), fun z => absurd z (by decide), fun z => absurd z (by decide), fun z => absurd z (by decide), fun z => absurd z (by decide), fun z => absurd z (by decide), fun z => absurd z (by decide), fun _ => g0, fun z => absurd z (by decide), fun z => absurd z (by decide), fun z => absurd z (by decide), fun z => absurd z (by decide), fun z => absurd z (by decide), fun z => absurd z (by decide), fun z => absurd z (by decide), fun z => absurd z (by decide)⟩
  · have g0 : n1 (X 0) 50 := h0 (by decide)
    have g1 : ∃ j, j < u ∧ X 1 = nI j := h1 (by decide)
    have g2 : True := h2 (by decide)
    exact ⟨fun z => absurd z (by decide), fun z => absurd z (by decide), fun z => absurd z (by decide), fun z => absurd z (by decide), fun z => absurd z (by decide), fun z => absurd z (by decide), fun z => absurd z (by decide), fun _ => g0, fun _ => g1, fun z => absurd z (by decide), fun z => absurd z (by decide), fun z => absurd z (by decide), fun z => absurd z (by decide), fun z => absurd z (by decide), fun z => absurd z (by decide), fun z => absurd z (by decide)⟩
  · have g0 : n1 (X 0) 50 := h0 (by decide)
    have g1 : n1 (X 1) 50 := h1 (by decide)
    have g2 : nn (X 2) 2 := h2 (by decide)
    exact ⟨fun z => absurd z (by decide), fun z => absurd z (by decide), fun z => absurd z (by decide), fun z => absurd z (by decide), fun z => absurd z (by decide), fun z => absurd z (by decide), fun z => absurd z (by decide), fun _ => g0, fun z => absurd z (by decide), fun _ => g1, fun _ => g2, fun z => absurd z (by decide), fun z => absurd z (by decide), fun z => absurd z (by decide), fun z => absurd z (by decide), fun z => absurd z (by decide)⟩
  · have g0 : n1 (X 0) 50 := h0 (by decide)
    have g1 : n1 (X 1) 50 := h1 (by decide)
    have g2 : nn (X 2) 2 := h2 (by decide)
    exact ⟨fun z => absurd z (by decide), fun z => absurd z (by decide), fun z => absurd z (by decide), fun z => absurd z (by decide), fun z => absurd z (by decide), fun z => absurd z (by decide), fun z => absurd z (by decide), fun _ => g0, fun z => absurd z (by decide), fun _ => g1, fun _ => g2, fun z => absurd z (by decide), fun z => absurd z (by decide), fun z => absurd z (by decide), fun z => absurd z (by decide), fun z => absurd z (by decide)⟩
  · have g0 : n1 (X 0) 50 := h0 (by decide)
    have g1 : n1 (X 1) 50 := h1 (by decide)
    exact ⟨fun z => absurd z (by decide), fun z => absurd z (by decide), fun z => absurd z (by decide), fun z => absurd z (by decide), fun z => absurd z (by decide), fun z => absurd z (by decide), fun z => absurd z (by decide), fun _ => g0, fun z => absurd z (by decide), fun _ => g1, fun z => absurd z (by decide), fun z => absurd z (by decide), fun z => absurd z (by decide), fun z => absurd z (by decide), fun z => absurd z (by decide), fun z => absurd z (by decide)⟩
  · have g0 : n1 (X 0) 50 := h0 (by decide)
    have g1 : n1 (X 1) 50 := h1 (by decide)
    have g2 : ∃ j, j < u ∧ X 2 = nI j := h2 (by decide)
    exact ⟨fun z => absurd z (by decide), fun z => absurd z (by decide), fun z => absurd z (by decide), fun z => absurd z (by decide), fun z => absurd z (by decide), fun z => absurd z (by decide), fun z => absurd z (by decide), fun _ => g0, fun z => absurd z (by decide), fun _ => g1, fun z => absurd z (by decide), fun _ => g2, fun z => absurd z (by decide), fun z => absurd z (by decide), fun z => absurd z (by decide), fun z => absurd z (by decide)⟩
  · have g0 : n1 (X 0) 50 := h0 (by decide)
    have g1 : n1 (X 1) 50 := h1 (by decide)
    have g2 : ∃ j, j < u ∧ m 32 j = 5 ∧ X 2 = nI j := h2 (by decide)
    exact ⟨fun z => absurd z (by decide), fun z => absurd z (by decide), fun z => absurd z (by decide), fun z => absurd z (by decide), fun z => absurd z (by decide), fun z => absurd z (by decide), fun z => absurd z (by decide), fun _ => g0, fun z => absurd z (by decide), fun _ => g1, fun z => absurd z (by decide), fun z => absurd z (by decide), fun _ => by obtain ⟨j, a1, a2, a3⟩ := g2; exact ⟨j, a1, c5 j a2, a3⟩, fun z => absurd z (by decide), fun z => absurd z (by decide), fun z => absurd z (by decide)⟩
  · have g0 : n1 (X 0) 50 := h0 (by decide)
    have g1 : nn (X 1) 2 := h1 (by decide)
    exact ⟨fun z => absurd z (by decide), fun z => absurd z (by decide), fun z => absurd z (by decide), fun z => absurd z (by decide), fun z => absurd z (by decide), fun z => absurd z (by decide), fun z => absurd z (by decide), fun _ => g0, fun z => absurd z (by decide), fun z => absurd z (by decide), fun z => absurd z (by decide), fun z => absurd z (by decide), fun z => absurd z (by decide), fun _ => g1, fun z => absurd z (by decide), fun z => absurd z (by decide)⟩
  · have g0 : n1 (X 0) 50 := h0 (by decide)
    have g1 : nn (X 1) 2 := h1 (by decide)
    exact ⟨fun z => absurd z (by decide), fun z => absurd z (by decide), fun z => absurd z (by decide), fun z => absurd z (by decide), fun z => absurd z (by decide), fun z => absurd z (by decide), fun z => absurd z (by decide), fun _ => g0, fun z => absurd z (by decide), fun z => absurd z (by decide), fun z => absurd z (by decide), fun z => absurd z (by decide), fun z => absurd z (by decide), fun _ => g1, fun z => absurd z (by decide), fun z => absurd z (by decide)⟩
  · have g0 : n1 (X 0) 50 := h0 (by decide)
    have g1 : nn (X 1) 2 := h1 (by decide)
    have g2 : ∃ j, j < u ∧ m 32 j = 4 ∧ X 2 = nI j := h2 (by decide)
    exact ⟨fun z => absurd z (by decide), fun z => absurd z (by decide), fun z => absurd z (by decide), fun z => absurd z (by decide), fun z => absurd z (by decide), fun z => absurd z (by decide), fun z => absurd z (by decide), fun _ => g0, fun z => absurd z (by decide), fun z => absurd z (by decide), fun z => absurd z (by decide), fun z => absurd z (by decide), fun z => absurd z (by decide), fun _ => g1, fun _ => by obtain ⟨j, a1, a2, a3⟩ := g2; exact ⟨j, a1, c4 j a2, a3⟩, fun z => absurd z (by decide)⟩
  · have g0 : n1 (X 0) 50 := h0 (by decide)
    have g1 : nn (X 1) 2 := h1 (by decide)
    have g2 : ∃ j, j < u ∧ m 32 j = 4 ∧ X 2 = nI j := h2 (by decide)
    exact ⟨fun z => absurd z (by decide), fun z => absurd z (by decide), fun z => absurd z (by decide), fun z => absurd z (by decide), fun z => absurd z (by decide), fun z => absurd z (by decide), fun z => absurd z (by decide), fun _ => g0, fun z => absurd z (by decide), fun z => absurd z (by decide), fun z => absurd z (by decide), fun z => absurd z (by decide), fun z => absurd z (by decide), fun _ => g1, fun _ => by obtain ⟨j, a1, a2, a3⟩ := g2; exact ⟨j, a1, c4 j a2, a3⟩, fun z => absurd z (by decide)⟩
  · have g0 : n1 (X 0) 50 := h0 (by decide)
    have g1 : n1 (X 1) 40 := h1 (by decide)
    exact ⟨fun z => absurd z (by decide), fun z => absurd z (by decide), fun z => absurd z (by decide), fun z => absurd z (by decide), fun z => absurd z (by decide), fun z => absurd z (by decide), fun z => absurd z (by decide), fun _ => g0, fun z => absurd z (by decide), fun z => absurd z (by decide), fun z => absurd z (by decide), fun z => absurd z (by decide), fun z => absurd z (by decide), fun z => absurd z (by decide), fun z => absurd z (by decide), fun _ => g1⟩
  · have g0 : n1 (X 0) 50 := h0 (by decide)
    have g1 : n1 (X 1) 40 := h1 (by decide)
    exact ⟨fun z => absurd z (by decide), fun z => absurd z (by decide), fun z => absurd z (by decide), fun z => absurd z (by decide), fun z => absurd z (by decide), fun z => absurd z (by decide), fun z => absurd z (by decide), fun _ => g0, fun z => absurd z (by decide), fun z => absurd z (by decide), fun z => absurd z (by decide), fun z => absurd z (by decide), fun z => absurd z (by decide), fun z => absurd z (by decide), fun z => absurd z (by decide), fun _ => g1⟩
  · have g0 : n1 (X 0) 200 := h0 (by decide)
    have g1 : nn (X 1) 3 := h1 (by decide)
    exact ⟨fun z => absurd z (by decide), fun z => absurd z (by decide), fun _ => g0, fun _ => g1, fun z => absurd z (by decide), fun z => absurd z (by decide), fun z => absurd z (by decide), fun z => absurd z (by decide), fun z => absurd z (by decide), fun z => absurd z (by decide), fun z => absurd z (by decide), fun z => absurd z (by decide), fun z => absurd z (by decide), fun z => absurd z (by decide), fun z => absurd z (by decide), fun z => absurd z (by decide)⟩
  · have g0 : n1 (X 0) 200 := h0 (by decide)
    have g1 : nn (X 1) 3 := h1 (by decide)
    exact ⟨fun z => absurd z (by decide), fun z => absurd z (by decide), fun _ => g0, fun _ => g1, fun z => absurd z (by decide), fun z => absurd z (by decide), fun z => absurd z (by decide), fun z => absurd z (by decide), fun z => absurd z (by decide), fun z => absurd z (by decide), fun z => absurd z (by decide), fun z => absurd z (by decide), fun z => absurd z (by decide), fun z => absurd z (by decide), fun z => absurd z (by decide), fun z => absurd z (by decide)⟩
  · have g0 : n1 (X 0) 200 := h0 (by decide)
    have g1 : ∃ j, j < u ∧ m 32 j = 4 ∧ X 1 = nI j := h1 (by decide)
    exact ⟨fun z => absurd z (by decide), fun z => absurd z (by decide), fun _ => g0, fun z => absurd z (by decide), fun _ => by obtain ⟨j, a1, a2, a3⟩ := g1; exact ⟨j, a1, c4 j a2, a3⟩, fun z => absurd z (by decide), fun z => absurd z (by decide), fun z => absurd z (by decide), fun z => absurd z (by decide), fun z => absurd z (by decide), fun z => absurd z (by decide), fun z => absurd z (by decide), fun z => absurd z (by decide), fun z => absurd z (by decide), fun z => absurd z (by decide), fun z => absurd z (by decide)⟩
  · have g0 : ∃ j, j < u ∧ X 0 = nI j := h0 (by decide)
    have g1 : ∃ j, j < u ∧ X 1 = nI j := h1 (by decide)
    exact ⟨fun z => absurd z (by decide), fun z => absurd z (by decide), fun z => absurd z (by decide), fun z => absurd z (by decide), fun z => absurd z (by decide), fun _ => by obtain ⟨v, a1, a2⟩ := g0; obtain ⟨w, b1, b2⟩ := g1; exact ⟨v, w, a1, b1, a2, b2, fun z => absurd z (by decide)⟩, fun z => absurd z (by decide), fun z => absurd z (by decide), fun z => absurd z (by decide), fun z => absurd z (by decide), fun z => absurd z (by decide), fun z => absurd z (by decide), fun z => absurd z (by decide), fun z => absurd z (by decide), fun z => absurd z (by decide), fun z => absurd z (by decide)⟩
  · have g0 : ∃ j, j < u ∧ m 32 j = 4 ∧ X 0 = nI j := h0 (by decide)
    have g1 : ∃ j, j < u ∧ m 32 j = 4 ∧ X 1 = nI j := h1 (by decide)
    have g2 : n1 (X 2) 9 := h2 (by decide)
    exact ⟨fun z => absurd z (by decide), fun z => absurd z (by decide), fun z => absurd z (by decide), fun z => absurd z (by decide), fun z => absurd z (by decide), fun _ => by obtain ⟨v, a1, a0, a2⟩ := g0; obtain ⟨w, b1, b0, b2⟩ := g1; exact ⟨v, w, a1, b1, a2, b2, fun _ => ⟨c4 v a0, c4 w b0⟩⟩, fun _ => g2, fun z => absurd z (by decide), fun z => absurd z (by decide), fun z => absurd z (by decide), fun z => absurd z (by decide), fun z => absurd z (by decide), fun z => absurd z (by decide), fun z => absurd z (by decide), fun z => absurd z (by decide), fun z => absurd z (by decide)⟩
