/-! T3: layers, parts and units -/
/-- the layer below; the chain of a code, the lowest first -/
def lbN (c : Nat) : Nat := ([0, 0, 1, 2, 1, 1, 0, 6, 7, 6, 9, 10, 9, 9, 9, 6, 15, 15, 15, 18, 6, 20, 0, 22, 23, 22, 0, 26, 26] : List Nat).getD c 0
def lbI (c : Nat) : Int32 := if c = 0 then -1 else nI (lbN c)
def isLf : Nat → Nat → Nat → Bool
  | 0, _, _ => false
  | f + 1, c, l => c == l || (c != 0 && isLf f (lbN c) l)
def isL (c l : Nat) : Bool := isLf 5 c l
def okf : Nat → Nat → Bool
  | 0, _ => false
  | f + 1, c => c == 0 || okf f (lbN c)
def bitsI (c : Nat) : Int32 := ((List.range 29).filter (isL c)).foldl (fun x l => x ||| iS 1 (nI l)) 0
/-- what the reference's tables hold -/
def CM (m : MI) : Prop := (∀ j, j < 29 → m 25 j = lbI j)
theorem okf_5 : ∀ c, c < 29 → okf 5 c = true := by decide +kernel
theorem lbN_lt : ∀ c, c < 29 → lbN c < 29 := by decide +kernel
theorem bits_ok : ∀ c, c < 29 → ∀ l, l < 29 → ((iU (bitsI c) (nI l)) &&& (1 : Int32) = 1 ↔ isL c l = true) := by decide +kernel
theorem has_loop {N pb l : Nat} {m : MI} {L : ML} (hM : CM m) (hl : l < 29) : ∀ (f k c : Nat), c < 29 → okf f c = true → f < k → LF_X12_has_2 N k 24 (nI l) (nI c) m L (GRf pb) = some (if isLf f c l = true then nI l else -1) := by
  intro f
  induction f with
  | zero => intro k c _ h; cases h
  | succ f ih =>
    intro k c hc ho hk
    obtain ⟨k, rfl⟩ : ∃ q, k = q + 1 := ⟨k - 1, by omega⟩
    rw [LF_X12_has_2, if_neg (nI_pos (by omega))]
    by_cases e : c = l
    · subst e
      rw [if_pos rfl]
      simp [isLf]
    · rw [if_neg (fun q => e ((nI_eq (by omega) (by omega)).mp q)), rf_24_0]
      simp only [Option.bind_some]
      rw [ri_nI ln_25 hc (by decide), hM c hc]
      simp only [Option.bind_some]
      by_cases z : c = 0
      · subst z
        obtain ⟨k, rfl⟩ : ∃ q, k = q + 1 := ⟨k - 1, by omega⟩
        rw [LF_X12_has_2, if_pos (by decide)]
        have e2 : ¬ (0 : Nat) = l := e
        simp [isLf, lbI, e2]
      · have h1 : lbI c = nI (lbN c) := by simp [lbI, z]
        rw [h1, ih k (lbN c) (lbN_lt c hc) (by simpa [okf, z] using ho) (by omega)]
        simp [isLf, e, z]
theorem has_ok {N pb c l : Nat} {m : MI} {L : ML} (hN : 6 ≤ N) (hM : CM m) (hc : c < 29) (hl : l < 29) : F_X12_has N 24 (nI c) (nI l) m L (GRf pb) = some (isL c l) := by
  simp only [F_X12_has, ck_24, if_true]
  rw [has_loop hM hl 5 N c hc (okf_5 c hc) (by omega)]
  simp only [bn1, Option.bind_some]
  by_cases h : isLf 5 c l = true
  · rw [if_pos h, if_pos rfl]
    exact congrArg some h.symm
  · rw [if_neg h, if_neg (by intro q; exact nI_pos (n := l) (by omega) (by rw [← q]; decide))]
    exact congrArg some (by simpa [isL] using h)
theorem get_ok {pb u k : Nat} {m : MI} {L : ML} (hu : u < 20) (hk : k < 65) : F_X12_get 24 (nI u) (nI k) m L (GRf pb) = some (m 37 (65 * u + k)) := by
  simp only [F_X12_get, ck_24, if_true, rf_24_24, Option.bind_some]
  rw [show (65 : Int32) * nI u + nI k = nI (65 * u + k) by rw [show (65 : Int32) = nI 65 from rfl, pk_mul, nI_add], ri_nI ln_37 (by omega) (by decide)]
  rfl
theorem set_ok {pb u k : Nat} {m : MI} {L : ML} {v : Int32} (hu : u < 20) (hk : k < 65) : F_X12_set 24 (nI u) (nI k) v m L (GRf pb) = some (uI m 37 (65 * u + k) v) := by
  simp only [F_X12_set, ck_24, if_true, rf_24_24, Option.bind_some]
  rw [show (65 : Int32) * nI u + nI k = nI (65 * u + k) by rw [show (65 : Int32) = nI 65 from rfl, pk_mul, nI_add], wi_nI ln_37 (by omega) (by decide)]
  rfl
theorem grow_ok {pb u k : Nat} {m : MI} {L : ML} {v : Int32} (hu : u < 20) (hk : k < 65) : F_X12_grow 24 (nI u) (nI k) v m L (GRf pb) = some (uI m 37 (65 * u + k) (m 37 (65 * u + k) + v)) := by
  simp only [F_X12_grow, ck_24, if_true, rf_24_24, Option.bind_some]
  rw [show (65 : Int32) * nI u + nI k = nI (65 * u + k) by rw [show (65 : Int32) = nI 65 from rfl, pk_mul, nI_add], ri_nI ln_37 (by omega) (by decide)]
  simp only [Option.bind_some]
  rw [wi_nI ln_37 (by omega) (by decide)]
  rfl
theorem isA_ok {N pb u c l : Nat} {m : MI} {L : ML} (hN : 6 ≤ N) (hM : CM m) (hu : u < 20) (hc : c < 29) (hl : l < 29) (h : m 37 (65 * u) = nI c) : F_X12_isA N 24 (nI u) (nI l) m L (GRf pb) = some (isL c l) := by
  have g := get_ok (pb := pb) (m := m) (L := L) hu (show 0 < 65 by decide)
  simp only [F_X12_isA, ck_24, if_true]
  rw [show (0 : Int32) = nI 0 from rfl, g]
  simp only [bn1, Option.bind_some, Nat.add_zero]
  rw [h, has_ok hN hM hc hl]
  rfl
theorem isOnM_ok {N pb u c : Nat} {m : MI} {L : ML} (hN : 6 ≤ N) (hM : CM m) (hu : u < 20) (hc : c < 29) (h : m 37 (65 * u) = nI c) : F_X12_isOn N 24 (nI u) m L (GRf pb) = some (isL c 6 && decide (m 37 (65 * u + 22) = 1)) := by
  simp only [F_X12_isOn, ck_24, if_true]
  rw [show (6 : Int32) = nI 6 from rfl, isA_ok hN hM hu hc (by decide) h, show (22 : Int32) = nI 22 from rfl, get_ok hu (by decide)]
  simp only [bn1, Option.bind_some]
  cases isL c 6 <;> by_cases q : m 37 (65 * u + 22) = 1 <;> simp [b2i, q]
theorem wholeM_ok {pb u : Nat} {m : MI} {L : ML} (hu : u < 20) : F_X12_isWhole 24 (nI u) m L (GRf pb) = some (decide (m 37 (65 * u + 63) = 0)) := by
  simp only [F_X12_isWhole, ck_24, if_true]
  rw [show (63 : Int32) = nI 63 from rfl, get_ok hu (by decide)]
  simp only [bn1, Option.bind_some]
  by_cases q : m 37 (65 * u + 63) = 0 <;> simp [q]
-- the class's side
theorem is_ok {pb u c l : Nat} {m : MI} {L : ML} (hu : u ≤ 20) (hc : c < 29) (hl : l < 29) (h : m (U u) 8 = bitsI c) : F_X9_is (U u) (nI l) m L (GRf pb) = some (isL c l) := by
  simp only [F_X9_is, ck_U hu, if_true, h]
  have b := bits_ok c hc l hl
  cases e : isL c l with
  | true => rw [if_pos (b.mpr e)]
  | false => rw [if_neg (fun q => by have := b.mp q; rw [e] at this; cases this)]
theorem isOnC_ok {pb u c l : Nat} {m : MI} {L : ML} (hu : u ≤ 20) (hc : c < 29) (hl : l < 29) (h : m (U u) 8 = bitsI c) : F_X9_isOn (U u) (nI l) m L (GRf pb) = some (isL c l && decide (m (U u + 1) 22 = 1)) := by
  simp only [F_X9_isOn, ck_U hu, if_true, is_ok hu hc hl h, bn1, Option.bind_some, rf_U0 hu, rp_22 hu]
  cases isL c l <;> by_cases q : m (U u + 1) 22 = 1 <;> simp [b2i, q]
theorem wholeC_ok {pb u c l : Nat} {m : MI} {L : ML} (hu : u ≤ 20) (hc : c < 29) (hl : l < 29) (h : m (U u) 8 = bitsI c) : F_X9_isWhole (U u) (nI l) m L (GRf pb) = some (isL c l && decide (m (U u + 1) 63 = 0)) := by
  simp only [F_X9_isWhole, ck_U hu, if_true, is_ok hu hc hl h, bn1, Option.bind_some, rf_U0 hu, rp_63 hu]
  cases isL c l <;> by_cases q : m (U u + 1) 63 = 0 <;> simp [b2i, q]
theorem hasC_ok {pb u n : Nat} {m : MI} {L : ML} (hn : n ≤ 20) (hu : u < 2 ^ 31) (h : m 1 3 = nI n) : F_X10_has 1 (nI u) m L (GRf pb) = some (decide (u < n)) := by
  simp only [F_X10_has, ck_1, if_true, h]
  rw [if_neg (nI_pos hu)]
  by_cases q : u < n
  · rw [if_neg (nI_ge q (by omega))]; simp [q]
  · rw [if_pos (nI_le (by omega) hu)]; simp [q]
theorem unitAt_ok {pb u n : Nat} {m : MI} {L : ML} (hn : n ≤ 20) (hu : u < n) (h : m 1 3 = nI n) : F_X10_unitAt 1 (nI u) m L (GRf pb) = some (U u) := by
  simp only [F_X10_unitAt, ck_1, if_true, hasC_ok hn (show u < 2 ^ 31 by omega) h, bn1, Option.bind_some, rf_1_0, ln_2]
  rw [if_neg (by simp [hu, b2i]), if_neg (show ¬ Int32.ofNat 20 ≤ nI u from nI_ge (b := 20) (by omega) (by decide)), ra_units (by omega)]
  rfl
theorem yardSize_ok {pb n : Nat} {m : MI} {L : ML} (h : m 1 3 = nI n) : F_X10_size 1 m L (GRf pb) = some (nI n) := by
  simp [F_X10_size, ck_1, h]
