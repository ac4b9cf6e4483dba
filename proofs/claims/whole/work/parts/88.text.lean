/-! T3: the text: bytes, words as longs -/
def wV (f : Nat → Nat) : Nat → Nat
  | 0 => 0
  | k + 1 => wV f k + f k * 256 ^ k
theorem wV_lt {f : Nat → Nat} : ∀ k, (∀ j, j < k → f j < 256) → wV f k < 256 ^ k := by
  intro k
  induction k with
  | zero => intro _; simp [wV]
  | succ k ih =>
    intro h
    have h1 := ih (fun j hj => h j (by omega))
    have h2 := h k (by omega)
    rw [wV, Nat.pow_succ]
    have h3 : f k * 256 ^ k ≤ 255 * 256 ^ k := Nat.mul_le_mul_right _ (by omega)
    omega
theorem wV_dg {f : Nat → Nat} : ∀ w, (∀ j, j < w → f j < 256) → ∀ k, wV f w / 256 ^ k % 256 = if k < w then f k else 0 := by
  intro w
  induction w with
  | zero => intro _ k; simp [wV]
  | succ w ih =>
    intro h k
    have hw := wV_lt w (fun j hj => h j (by omega))
    have i := ih (fun j hj => h j (by omega)) k
    have pos : 0 < 256 ^ k := Nat.pow_pos (by decide)
    rcases Nat.lt_trichotomy k w with q | q | q
    · rw [wV]
      obtain ⟨e, rfl⟩ : ∃ e, w = k + 1 + e := ⟨w - k - 1, by omega⟩
      have h3 : f (k + 1 + e) * 256 ^ (k + 1 + e) = 256 ^ k * (256 * (f (k + 1 + e) * 256 ^ e)) := by
        rw [Nat.pow_add, Nat.pow_add, Nat.pow_one]; ac_rfl
      rw [h3, Nat.add_mul_div_left _ _ pos, Nat.add_mul_mod_self_left, i, if_pos q, if_pos (by omega)]
    · subst q
      rw [wV, Nat.mul_comm, Nat.add_mul_div_left _ _ pos, Nat.div_eq_of_lt hw, Nat.zero_add, if_pos (by omega)]
      exact Nat.mod_eq_of_lt (h k (by omega))
    · have h3 : wV f (w + 1) < 256 ^ k := Nat.lt_of_lt_of_le (wV_lt (w + 1) h) (Nat.pow_le_pow_right (by decide) q)
      rw [Nat.div_eq_of_lt h3, if_neg (by omega)]
theorem lU_lN {W s : Nat} {y : Int32} (hW : W < 2 ^ 63) (hs : (y.toInt64.toUInt64 &&& Int64.toUInt64 63).toNat = s) (hs2 : s < 64) : lU (lN W) y = lN (W / 2 ^ s) := by
  unfold lU
  have e : (lN W).toUInt64 >>> (y.toInt64.toUInt64 &&& Int64.toUInt64 63) = UInt64.ofNat (W / 2 ^ s) := by
    refine UInt64.toNat_inj.mp ?_
    rw [UInt64.toNat_shiftRight, hs, Nat.mod_eq_of_lt hs2, Nat.shiftRight_eq_div_pow]
    have h1 : (lN W).toUInt64.toNat = W := by
      show (UInt64.ofNat W).toNat = W
      exact UInt64.toNat_ofNat_of_lt' (Nat.lt_trans hW (by decide))
    have h2 : (UInt64.ofNat (W / 2 ^ s)).toNat = W / 2 ^ s := UInt64.toNat_ofNat_of_lt' (Nat.lt_of_le_of_lt (Nat.div_le_self _ _) (Nat.lt_trans hW (by decide)))
    rw [h1, h2]
  rw [e]
  rfl
theorem letL_lN {W k : Nat} (hW : W < 2 ^ 63) (hk : k < 8) : letL (lN W) k = nI (W / 256 ^ k % 256) := by
  unfold letL
  have e : lU (lN W) ((8 : Int32) * nI k) = lN (W / 256 ^ k) := by
    rcases (show k = 0 ∨ k = 1 ∨ k = 2 ∨ k = 3 ∨ k = 4 ∨ k = 5 ∨ k = 6 ∨ k = 7 by omega) with rfl | rfl | rfl | rfl | rfl | rfl | rfl | rfl
    · exact lU_lN (s := 0) hW (by decide) (by decide)
    · exact lU_lN (s := 8) hW (by decide) (by decide)
    · exact lU_lN (s := 16) hW (by decide) (by decide)
    · exact lU_lN (s := 24) hW (by decide) (by decide)
    · exact lU_lN (s := 32) hW (by decide) (by decide)
    · exact lU_lN (s := 40) hW (by decide) (by decide)
    · exact lU_lN (s := 48) hW (by decide) (by decide)
    · exact lU_lN (s := 56) hW (by decide) (by decide)
  rw [e, lN_i, pk_and _ (m := 255) 8 (by decide)]
  refine congrArg nI ?_
  show (W / 256 ^ k) % 2 ^ 32 % 2 ^ 8 = _
  omega
theorem lS_lN {b s : Nat} {y : Int32} (hs : ((y.toInt64 &&& 63).toBitVec.smod 64).toNat = s) (h : b * 2 ^ s < 2 ^ 64) : lS (lN b) y = lN (b * 2 ^ s) := by
  unfold lS
  refine Int64.toBitVec_inj.mp (BitVec.eq_of_toNat_eq ?_)
  rw [Int64.toBitVec_shiftLeft, BitVec.shiftLeft_eq', BitVec.toNat_shiftLeft, hs, Nat.shiftLeft_eq]
  show b % 2 ^ 64 * 2 ^ s % 2 ^ 64 = b * 2 ^ s % 2 ^ 64
  rw [Nat.mod_mul_mod]
theorem or_lN {a b : Nat} : lN a ||| lN b = lN (a ||| b) := by
  refine Int64.toBitVec_inj.mp (BitVec.eq_of_toNat_eq ?_)
  rw [Int64.toBitVec_or, BitVec.toNat_or]
  show a % 2 ^ 64 ||| b % 2 ^ 64 = (a ||| b) % 2 ^ 64
  rw [Nat.or_mod_two_pow]
theorem word_step {f : Nat → Nat} {k : Nat} (hk : k < 8) (hf : ∀ j, j ≤ k → f j < 128) : lN (wV f k) ||| lS (Int32.toInt64 (nI (f k))) ((8 : Int32) * nI k) = lN (wV f (k + 1)) := by
  have hb := hf k (Nat.le_refl _)
  rw [nI_l (show f k < 2 ^ 31 by omega)]
  have e : lS (lN (f k)) ((8 : Int32) * nI k) = lN (f k * 2 ^ (8 * k)) := by
    have hp : f k * 2 ^ (8 * k) < 2 ^ 64 := by
      have h1 : 2 ^ (8 * k) ≤ 2 ^ 56 := Nat.pow_le_pow_right (by decide) (by omega)
      have h2 : f k * 2 ^ (8 * k) ≤ 127 * 2 ^ 56 := Nat.mul_le_mul (by omega) h1
      omega
    refine lS_lN ?_ hp
    rcases (show k = 0 ∨ k = 1 ∨ k = 2 ∨ k = 3 ∨ k = 4 ∨ k = 5 ∨ k = 6 ∨ k = 7 by omega) with rfl | rfl | rfl | rfl | rfl | rfl | rfl | rfl <;> decide
  rw [e, or_lN, wV]
  refine congrArg lN ?_
  have hl := wV_lt (f := f) k (fun j hj => by have := hf j (by omega); omega)
  have ep : (256 : Nat) ^ k = 2 ^ (8 * k) := by rw [show (256 : Nat) = 2 ^ 8 from rfl, ← Nat.pow_mul]
  rw [ep] at hl ⊢
  rw [Nat.or_comm, ← Nat.shiftLeft_eq, ← Nat.shiftLeft_add_eq_or_of_lt hl, Nat.add_comm]
theorem wV_small {f : Nat → Nat} {w : Nat} (hw : w ≤ 8) (hf : ∀ j, j < w → f j < 128) : wV f w < 2 ^ 63 := by
  cases w with
  | zero => exact (show (0 : Nat) < 2 ^ 63 by decide)
  | succ w =>
    rw [wV]
    have h1 := wV_lt (f := f) w (fun j hj => by have := hf j (by omega); omega)
    have h2 := hf w (by omega)
    have ep : (256 : Nat) ^ w ≤ 256 ^ 7 := Nat.pow_le_pow_right (by decide) (by omega)
    have h3 : f w * 256 ^ w ≤ 127 * 256 ^ 7 := Nat.mul_le_mul (by omega) ep
    omega
/-- a long is its eight letters -/
theorem let_ext {x y : Int64} (h : ∀ k, k < 8 → letL x k = letL y k) : x = y := by
  have nat : ∀ z : Int64, ∃ W, W < 2 ^ 64 ∧ z = lN W := fun z => ⟨z.toBitVec.toNat, z.toBitVec.isLt, Int64.toBitVec_inj.mp (BitVec.eq_of_toNat_eq (by
    show z.toBitVec.toNat = z.toBitVec.toNat % 2 ^ 64
    exact (Nat.mod_eq_of_lt z.toBitVec.isLt).symm))⟩
  have lu : ∀ (W s : Nat) (y : Int32), W < 2 ^ 64 → (y.toInt64.toUInt64 &&& Int64.toUInt64 63).toNat = s → s < 64 → lU (lN W) y = lN (W / 2 ^ s) := by
    intro W s y hW hs hs2
    unfold lU
    have e : (lN W).toUInt64 >>> (y.toInt64.toUInt64 &&& Int64.toUInt64 63) = UInt64.ofNat (W / 2 ^ s) := by
      refine UInt64.toNat_inj.mp ?_
      rw [UInt64.toNat_shiftRight, hs, Nat.mod_eq_of_lt hs2, Nat.shiftRight_eq_div_pow]
      have h1 : (lN W).toUInt64.toNat = W := by
        show (UInt64.ofNat W).toNat = W
        exact UInt64.toNat_ofNat_of_lt' hW
      have h2 : (UInt64.ofNat (W / 2 ^ s)).toNat = W / 2 ^ s := UInt64.toNat_ofNat_of_lt' (Nat.lt_of_le_of_lt (Nat.div_le_self _ _) hW)
      rw [h1, h2]
    rw [e]
    rfl
  have dg : ∀ (W s k : Nat), W < 2 ^ 64 → (((8 : Int32) * nI k).toInt64.toUInt64 &&& Int64.toUInt64 63).toNat = s → s < 64 → letL (lN W) k = nI (W / 2 ^ s % 256) := by
    intro W s k hW hs hs2
    unfold letL
    rw [lu W s _ hW hs hs2, lN_i, pk_and _ (m := 255) 8 (by decide)]
    refine congrArg nI ?_
    show (W / 2 ^ s) % 2 ^ 32 % 2 ^ 8 = _
    omega
  obtain ⟨a, ha, rfl⟩ := nat x
  obtain ⟨b, hb, rfl⟩ := nat y
  refine congrArg lN ?_
  have q : ∀ (s k : Nat), k < 8 → (((8 : Int32) * nI k).toInt64.toUInt64 &&& Int64.toUInt64 63).toNat = s → s < 64 → a / 2 ^ s % 256 = b / 2 ^ s % 256 := by
    intro s k hk hs hs2
    have z := h k hk
    rw [dg a s k ha hs hs2, dg b s k hb hs hs2] at z
    exact (nI_eq (by omega) (by omega)).mp z
  have q0 := q 0 0 (by decide) (by decide) (by decide)
  have q1 := q 8 1 (by decide) (by decide) (by decide)
  have q2 := q 16 2 (by decide) (by decide) (by decide)
  have q3 := q 24 3 (by decide) (by decide) (by decide)
  have q4 := q 32 4 (by decide) (by decide) (by decide)
  have q5 := q 40 5 (by decide) (by decide) (by decide)
  have q6 := q 48 6 (by decide) (by decide) (by decide)
  have q7 := q 56 7 (by decide) (by decide) (by decide)
  omega
def Tx (n : Nat) (c m : MI) : Prop := n ≤ 4000 ∧ c 4 2 = nI n ∧ m 24 9 = nI n ∧ ∀ j, j < n → c 5 j = m 31 j ∧ ∃ b, b < 256 ∧ m 31 j = nI b
def bt (m : MI) (n i : Nat) : Int32 := if i < n then m 31 i else -1
section P19
variable {N n : Nat} {pb : Nat} {L Lr : ML} {c m : MI}
theorem bytC {i : Nat} (h : Tx n c m) (hi : i < 2 ^ 30) : F_X8_byteAt 4 (nI i) c L (GRf pb) = some (bt m n i) := by
  obtain ⟨h1, h2, h3, h4⟩ := h
  have z0 : (nI i < 0) = False := eq_false (nI_pos (by omega))
  unfold bt
  by_cases q : i < n
  · have z1 : (nI n ≤ nI i) = False := eq_false (nI_ge q (by omega))
    have z2 : (Int32.ofNat 4000 ≤ nI i) = False := eq_false (nI_ge (b := 4000) (by omega) (by decide))
    simp only [F_X8_byteAt, ck_4, if_true, z0, if_false, h2, z1, rf_4_0, bse, ln_5, z2, ri_nI ln_5 (show i < 4000 by omega) (show 4000 < 2 ^ 31 by decide), (h4 i q).1, if_pos q]
  · have z1 : (nI n ≤ nI i) = True := eq_true (nI_le (by omega) (by omega))
    simp only [F_X8_byteAt, ck_4, if_true, z0, if_false, h2, z1, if_neg q]
theorem bytM {i : Nat} (h : Tx n c m) (hi : i < 2 ^ 30) : F_X12_byteAt 24 (nI i) m L (GRf pb) = some (bt m n i) := by
  obtain ⟨h1, h2, h3, h4⟩ := h
  unfold bt
  by_cases q : i < n
  · have z1 : (nI n ≤ nI i) = False := eq_false (nI_ge q (by omega))
    simp only [F_X12_byteAt, ck_24, if_true, h3, z1, if_false, rf_24_8, bse, ri_nI ln_31 (show i < 4000 by omega) (show 4000 < 2 ^ 31 by decide), if_pos q]
  · have z1 : (nI n ≤ nI i) = True := eq_true (nI_le (by omega) (by omega))
    simp only [F_X12_byteAt, ck_24, if_true, h3, z1, if_neg q]
theorem letC {x : Int32} {I : MI} {R : MR} : F_X8_isLetter x I L R = some (inV x 97 122) := inC_val (x := x) (a := 97) (b := 122) (I := I) (L := L) (R := R)
theorem letM {x : Int32} {I : MI} {R : MR} : F_X12_isLetter x I L R = some (inV x 97 122) := inC_val (x := x) (a := 97) (b := 122) (I := I) (L := L) (R := R)
theorem digC {x : Int32} {I : MI} {R : MR} : F_X8_isDigit x I L R = some (inV x 48 57) := inC_val (x := x) (a := 48) (b := 57) (I := I) (L := L) (R := R)
theorem digM {x : Int32} {I : MI} {R : MR} : F_X12_isDigit x I L R = some (inV x 48 57) := inC_val (x := x) (a := 48) (b := 57) (I := I) (L := L) (R := R)
theorem lodC {x : Int32} {I : MI} {R : MR} : F_X8_isLetterOrDigit x I L R = some (inV x 97 122 || inV x 48 57) := by
  unfold F_X8_isLetterOrDigit inV
  by_cases a : x < 97
  · rw [if_pos a, if_pos a, Bool.false_or]
    by_cases b : x < 48
    · rw [if_pos b, if_pos b]
    · rw [if_neg b, if_neg b]
      by_cases d : 57 < x
      · rw [if_pos d, if_pos d]
      · rw [if_neg d, if_neg d]
  · rw [if_neg a, if_neg a]
    by_cases e : x ≤ 122
    · rw [if_pos e, if_neg (Int32.not_lt.mpr e), Bool.true_or]
    · rw [if_neg e, if_pos (Int32.not_le.mp e), Bool.false_or]
      by_cases b : x < 48
      · rw [if_pos b, if_pos b]
      · rw [if_neg b, if_neg b]
        by_cases d : 57 < x
        · rw [if_pos d, if_pos d]
        · rw [if_neg d, if_neg d]
/-- where both read -/
def RD (n i : Nat) (c m : MI) : Prop := Tx n c m ∧ c 4 3 = nI i ∧ m 24 10 = nI i ∧ i ≤ n
theorem RD.mv {i j p p' : Nat} {v w : Int32} (h : RD n i c m) (hj : j ≤ n) : RD n j (uI c 4 3 (nI j)) (uI m 24 10 (nI j)) := by
  obtain ⟨⟨h1, h2, h3, h4⟩, h5, h6, h7⟩ := h
  refine ⟨⟨h1, by rw [uI_at (by omega)]; exact h2, by rw [uI_at (by omega)]; exact h3, fun j hj => ?_⟩, uI_same, uI_same, hj⟩
  rw [uI_at (by omega), uI_at (by omega)]; exact h4 j hj
theorem bt_u {a k i : Nat} {v : Int32} (h : a ≠ 31) : bt (uI m a k v) n i = bt m n i := by
  unfold bt
  rw [uI_at (fun z => h z.1.symm)]
theorem blank_ok : ∀ (d i kc kr : Nat) (c m : MI), i + d = n → d < kc → d < kr → RD n i c m → ∃ j, i ≤ j ∧ j ≤ n ∧ LF_X8_next_0 N kc 4 c L (GRf pb) = some (uI c 4 3 (nI j)) ∧ LF_X12_next_9 N kr 24 m Lr (GRf pb) = some (uI m 24 10 (nI j)) := by
  intro d
  induction d with
  | zero =>
    intro i kc kr c m hi hkc hkr h
    obtain ⟨kc, rfl⟩ : ∃ z, kc = z + 1 := ⟨kc - 1, by omega⟩
    obtain ⟨kr, rfl⟩ : ∃ z, kr = z + 1 := ⟨kr - 1, by omega⟩
    have hin : i = n := by omega
    obtain ⟨hT, h5, h6, h7⟩ := h
    have hn := hT.1
    have b1 : bt m n i = -1 := by unfold bt; rw [if_neg (by omega)]
    have e1 : uI c 4 3 (nI i) = c := by rw [← h5]; exact uI_id
    have e2 : uI m 24 10 (nI i) = m := by rw [← h6]; exact uI_id
    have by2 := bytM (pb := pb) (L := Lr) hT (show i < 2 ^ 30 by omega)
    rw [b1] at by2
    refine ⟨i, Nat.le_refl _, by omega, ?_, ?_⟩
    · rw [e1]; simp only [LF_X8_next_0, hT.2.1, h5, if_pos (nI_le (show n ≤ i by omega) (show i < 2 ^ 31 by omega))]
    · rw [e2]; simp (decide := true) only [LF_X12_next_9, h6, by2, b1e, if_false]
  | succ d ih =>
    intro i kc kr c m hi hkc hkr h
    obtain ⟨kc, rfl⟩ : ∃ z, kc = z + 1 := ⟨kc - 1, by omega⟩
    obtain ⟨kr, rfl⟩ : ∃ z, kr = z + 1 := ⟨kr - 1, by omega⟩
    have hn := h.1.1
    have hT := h.1
    have h5 := h.2.1
    have h6 := h.2.2.1
    have by1 := bytC (pb := pb) (L := L) hT (show i < 2 ^ 30 by omega)
    have by2 := bytM (pb := pb) (L := Lr) hT (show i < 2 ^ 30 by omega)
    have nle' : ¬ nI n ≤ nI i := nI_ge (by omega) (by omega)
    have stp : (bt m n i = 32 ∨ bt m n i = 10) → ∃ j, i ≤ j ∧ j ≤ n ∧ LF_X8_next_0 N (kc + 1) 4 c L (GRf pb) = some (uI c 4 3 (nI j)) ∧ LF_X12_next_9 N (kr + 1) 24 m Lr (GRf pb) = some (uI m 24 10 (nI j)) := by
      intro hb
      obtain ⟨j, j1, j2, e1, e2⟩ := ih (i + 1) kc kr _ _ (by omega) (by omega) (by omega) (h.mv (p := 0) (p' := 0) (v := 0) (w := 0) (show i + 1 ≤ n by omega))
      rw [uI_two] at e1 e2
      refine ⟨j, by omega, j2, ?_, ?_⟩
      · rw [← e1]
        rcases hb with q | q
        · simp (decide := true) only [LF_X8_next_0, hT.2.1, h5, if_neg nle', by1, b1e, F_X8_isBlank, q, if_true, if_false, b2t, wre, nI_1]
        · simp (decide := true) only [LF_X8_next_0, hT.2.1, h5, if_neg nle', by1, b1e, F_X8_isBlank, q, if_true, if_false, b2t, wre, nI_1]
      · rw [← e2]
        rcases hb with q | q
        · simp (decide := true) only [LF_X12_next_9, h6, by2, b1e, q, if_true, if_false, wre, nI_1]
        · simp (decide := true) only [LF_X12_next_9, h6, by2, b1e, q, if_true, if_false, wre, nI_1]
    by_cases q1 : bt m n i = 32
    · exact stp (Or.inl q1)
    · by_cases q2 : bt m n i = 10
      · exact stp (Or.inr q2)
      · have e1 : uI c 4 3 (nI i) = c := by rw [← h5]; exact uI_id
        have e2 : uI m 24 10 (nI i) = m := by rw [← h6]; exact uI_id
        refine ⟨i, Nat.le_refl _, by omega, ?_, ?_⟩
        · rw [e1]; simp only [LF_X8_next_0, hT.2.1, h5, if_neg nle', by1, b1e, F_X8_isBlank, if_neg q1, if_neg q2, b2f, if_true]
        · rw [e2]; simp only [LF_X12_next_9, h6, by2, b1e, if_neg q1, if_neg q2]
end P19
