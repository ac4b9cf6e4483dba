/-! T3: arithmetic that both sides share -/
def md (x y : Int32) : Int32 := if 0 ≤ iR x y then iR x y else iR x y + y
theorem xor_pos {x y : Int32} (hy : 0 ≤ y) : (0 ≤ x ^^^ y) ↔ 0 ≤ x := by
  have e : ∀ z : Int32, (0 ≤ z) ↔ z.toBitVec.msb = false := by
    intro z
    rw [Int32.le_iff_toInt_le, BitVec.msb_eq_toInt]
    simp
  rw [e] at hy
  rw [e, e, Int32.toBitVec_xor, BitVec.msb_xor, hy]
  simp
theorem iR_toInt {x y : Int32} (hy : 0 < y.toInt) : (iR x y).toInt = x.toInt.tmod y.toInt := by
  have hx1 := Int32.minValue_le_toInt x
  have hx2 := Int32.toInt_le x
  have hy2 := Int32.toInt_le y
  have em : Int32.minValue.toInt = -2147483648 := by decide
  have eM : Int32.maxValue.toInt = 2147483647 := by decide
  have hq : (x / y).toInt = x.toInt.tdiv y.toInt := by
    rw [Int32.toInt_div]
    by_cases h3 : y.toInt = 1
    · rw [h3, Int.tdiv_one]
      exact Int.bmod_eq_of_le (by omega) (by omega)
    · have h4 : (x.toInt.tdiv y.toInt).natAbs ≤ x.toInt.natAbs / 2 := by
        rw [Int.natAbs_tdiv]
        exact Nat.div_le_div_left (by omega) (by decide)
      exact Int.bmod_eq_of_le (by omega) (by omega)
  have e := Int.mul_tdiv_add_tmod x.toInt y.toInt
  have l1 := Int.tmod_lt_of_pos x.toInt hy
  have l2 := Int.lt_tmod_of_pos x.toInt hy
  unfold iR
  rw [Int32.toInt_sub, Int32.toInt_mul, hq, Int.sub_bmod_bmod, Int.mul_comm, show x.toInt - y.toInt * x.toInt.tdiv y.toInt = x.toInt.tmod y.toInt by omega]
  exact Int.bmod_eq_of_le (by omega) (by omega)
theorem fm_val {x y : Int32} (hy : 0 < y.toInt) {I : MI} {L : ML} {R : MR} : F_J9_floorMod_7cf53 x y I L R = some (md x y) := by
  have h0 : ¬ y = 0 := by intro q; subst q; simp at hy
  have hy0 : 0 ≤ y := by rw [Int32.le_iff_toInt_le]; simp; omega
  have er := iR_toInt (x := x) hy
  unfold F_J9_floorMod_7cf53 md wr
  rw [if_neg h0]
  simp only [xor_pos hy0]
  by_cases hx : 0 ≤ x
  · rw [if_pos hx, if_pos]
    rw [Int32.le_iff_toInt_le] at hx ⊢
    rw [er]
    simp at hx ⊢
    exact Int.tmod_nonneg _ hx
  · rw [if_neg hx]
    have hx2 : x.toInt < 0 := by rw [Int32.le_iff_toInt_le] at hx; simp at hx; exact hx
    have hr : (iR x y).toInt ≤ 0 := by
      rw [er]
      have z := Int.tmod_nonneg (a := -x.toInt) y.toInt (by omega)
      rw [Int.neg_tmod] at z
      omega
    by_cases hz : iR x y = 0
    · rw [if_pos hz, hz, if_pos (by decide)]
    · rw [if_neg hz, if_neg]
      rw [Int32.le_iff_toInt_le]
      intro q
      simp at q
      exact hz (Int32.toInt_inj.mp (by simp; omega))
theorem mod_val {x y : Int32} (hy : 0 < y.toInt) {I : MI} {L : ML} {R : MR} : F_X12_mod x y I L R = some (md x y) := by
  have h0 : ¬ y = 0 := by intro q; subst q; simp at hy
  unfold F_X12_mod md wr
  rw [if_neg h0]
  by_cases h : 0 ≤ iR x y
  · simp only [if_pos h]
  · simp only [if_neg h]
theorem iR_nI {a d : Nat} (ha : a < 2 ^ 31) (h0 : 0 < d) (hd : d < 2 ^ 31) : iR (nI a) (nI d) = nI (a % d) := pk_rem ha h0 hd
theorem md_nI {a d : Nat} (ha : a < 2 ^ 31) (h0 : 0 < d) (hd : d < 2 ^ 31) : md (nI a) (nI d) = nI (a % d) := by
  unfold md
  rw [iR_nI ha h0 hd, if_pos (nI_pos' (by have := Nat.mod_lt a h0; omega))]
theorem md_in {x y : Int32} (hy : 0 < y.toInt) : 0 ≤ (md x y).toInt ∧ (md x y).toInt < y.toInt := by
  have er := iR_toInt (x := x) hy
  have l1 := Int.tmod_lt_of_pos x.toInt hy
  have l2 := Int.lt_tmod_of_pos x.toInt hy
  have hy2 := Int32.toInt_le y
  have eM : Int32.maxValue.toInt = 2147483647 := by decide
  unfold md
  by_cases h : 0 ≤ iR x y
  · rw [if_pos h]
    rw [Int32.le_iff_toInt_le] at h
    simp at h
    omega
  · rw [if_neg h]
    rw [Int32.le_iff_toInt_le] at h
    simp at h
    rw [Int32.toInt_add, Int.bmod_eq_of_le (by omega) (by omega)]
    omega
theorem md_iR {a d : Nat} (ha : a < 2 ^ 31) (h0 : 0 < d) (hd : d < 2 ^ 31) : md (nI a) (nI d) = iR (nI a) (nI d) := by rw [md_nI ha h0 hd, iR_nI ha h0 hd]
theorem md_nn {x : Int32} {d : Nat} (h0 : 0 < d) (hd : d < 2 ^ 31) : ∃ k, k < d ∧ md x (nI d) = nI k := by
  have h := md_in (x := x) (y := nI d) (by rw [nI_toInt hd]; omega)
  rw [nI_toInt hd] at h
  refine ⟨(md x (nI d)).toInt.toNat, by omega, Int32.toInt_inj.mp ?_⟩
  rw [nI_toInt (by omega)]
  omega
theorem isMul_val {t k : Nat} (ht : t < 2 ^ 31) (h0 : 0 < k) (hk : k < 2 ^ 31) {I : MI} {L : ML} {R : MR} : F_X11_isMultiple (nI t) (nI k) I L R = some (decide (t % k = 0)) := by
  unfold F_X11_isMultiple
  rw [if_neg (nI_nle h0 hk), fm_val (by rw [nI_toInt hk]; omega), md_nI ht h0 hk]
  simp only [bn1, Option.bind_some]
  have hm := Nat.mod_lt t h0
  by_cases q : t % k = 0
  · rw [if_pos (by rw [q]; rfl)]; simp [q]
  · rw [if_neg (nI_ne0 (by omega) (by omega))]; simp [q]
theorem iR_zero {t k : Nat} (ht : t < 2 ^ 31) (h0 : 0 < k) (hk : k < 2 ^ 31) : (iR (nI t) (nI k) = 0) ↔ t % k = 0 := by
  have hm := Nat.mod_lt t h0
  rw [iR_nI ht h0 hk, show (0 : Int32) = nI 0 from rfl, nI_eq (by omega) (by decide)]
def ofv (a b : Int32) : Int32 := md (b - a + 1800) 3600 - 1800
theorem offC_val {a b : Int32} {I : MI} {L : ML} {R : MR} : F_X11_off a b I L R = some (ofv a b) := by
  simp only [F_X11_off, fm_val (show 0 < Int32.toInt 3600 by decide), bn1, Option.bind_some, ofv]
theorem offM_val {a b : Int32} {I : MI} {L : ML} {R : MR} : F_X12_off a b I L R = some (ofv a b) := by
  simp only [F_X12_off, mod_val (show 0 < Int32.toInt 3600 by decide), bn1, Option.bind_some, ofv]
def lmt (x a b : Int32) : Int32 := if a ≤ x then (if x ≤ b then x else b) else a
theorem limC_val {x a b : Int32} {I : MI} {L : ML} {R : MR} : F_X11_limit x a b I L R = some (lmt x a b) := by
  unfold F_X11_limit lmt
  split <;> (try split) <;> rfl
theorem limM_val {x a b : Int32} {I : MI} {L : ML} {R : MR} : F_X12_limit x a b I L R = some (lmt x a b) := by
  unfold F_X12_limit lmt
  split <;> (try split) <;> rfl
def abv (x : Int32) : Int32 := if 0 ≤ x then x else -x
theorem absC_val {x : Int32} {I : MI} {L : ML} {R : MR} : F_J9_abs_0f7a4 x I L R = some (abv x) := by
  unfold F_J9_abs_0f7a4 abv
  split <;> rfl
theorem absM_val {x : Int32} {I : MI} {L : ML} {R : MR} : F_X12_amount x I L R = some (abv x) := by
  unfold F_X12_amount abv
  split <;> rfl
/-! T3: the answers -/
theorem gt_0 {pb u : Nat} {m : MI} {L : ML} (hu : u < 20) : F_X12_get 24 (nI u) (0 : Int32) m L (GRf pb) = some (m 37 (65 * u + 0)) := get_ok (k := 0) hu (by decide)
theorem gt_1 {pb u : Nat} {m : MI} {L : ML} (hu : u < 20) : F_X12_get 24 (nI u) (1 : Int32) m L (GRf pb) = some (m 37 (65 * u + 1)) := get_ok (k := 1) hu (by decide)
theorem gt_2 {pb u : Nat} {m : MI} {L : ML} (hu : u < 20) : F_X12_get 24 (nI u) (2 : Int32) m L (GRf pb) = some (m 37 (65 * u + 2)) := get_ok (k := 2) hu (by decide)
theorem gt_3 {pb u : Nat} {m : MI} {L : ML} (hu : u < 20) : F_X12_get 24 (nI u) (3 : Int32) m L (GRf pb) = some (m 37 (65 * u + 3)) := get_ok (k := 3) hu (by decide)
theorem gt_4 {pb u : Nat} {m : MI} {L : ML} (hu : u < 20) : F_X12_get 24 (nI u) (4 : Int32) m L (GRf pb) = some (m 37 (65 * u + 4)) := get_ok (k := 4) hu (by decide)
theorem gt_5 {pb u : Nat} {m : MI} {L : ML} (hu : u < 20) : F_X12_get 24 (nI u) (5 : Int32) m L (GRf pb) = some (m 37 (65 * u + 5)) := get_ok (k := 5) hu (by decide)
theorem gt_6 {pb u : Nat} {m : MI} {L : ML} (hu : u < 20) : F_X12_get 24 (nI u) (6 : Int32) m L (GRf pb) = some (m 37 (65 * u + 6)) := get_ok (k := 6) hu (by decide)
theorem gt_7 {pb u : Nat} {m : MI} {L : ML} (hu : u < 20) : F_X12_get 24 (nI u) (7 : Int32) m L (GRf pb) = some (m 37 (65 * u + 7)) := get_ok (k := 7) hu (by decide)
theorem gt_8 {pb u : Nat} {m : MI} {L : ML} (hu : u < 20) : F_X12_get 24 (nI u) (8 : Int32) m L (GRf pb) = some (m 37 (65 * u + 8)) := get_ok (k := 8) hu (by decide)
theorem gt_9 {pb u : Nat} {m : MI} {L : ML} (hu : u < 20) : F_X12_get 24 (nI u) (9 : Int32) m L (GRf pb) = some (m 37 (65 * u + 9)) := get_ok (k := 9) hu (by decide)
theorem gt_10 {pb u : Nat} {m : MI} {L : ML} (hu : u < 20) : F_X12_get 24 (nI u) (10 : Int32) m L (GRf pb) = some (m 37 (65 * u + 10)) := get_ok (k := 10) hu (by decide)
theorem gt_11 {pb u : Nat} {m : MI} {L : ML} (hu : u < 20) : F_X12_get 24 (nI u) (11 : Int32) m L (GRf pb) = some (m 37 (65 * u + 11)) := get_ok (k := 11) hu (by decide)
theorem gt_12 {pb u : Nat} {m : MI} {L : ML} (hu : u < 20) : F_X12_get 24 (nI u) (12 : Int32) m L (GRf pb) = some (m 37 (65 * u + 12)) := get_ok (k := 12) hu (by decide)
theorem gt_13 {pb u : Nat} {m : MI} {L : ML} (hu : u < 20) : F_X12_get 24 (nI u) (13 : Int32) m L (GRf pb) = some (m 37 (65 * u + 13)) := get_ok (k := 13) hu (by decide)
theorem gt_14 {pb u : Nat} {m : MI} {L : ML} (hu : u < 20) : F_X12_get 24 (nI u) (14 : Int32) m L (GRf pb) = some (m 37 (65 * u + 14)) := get_ok (k := 14) hu (by decide)
theorem gt_15 {pb u : Nat} {m : MI} {L : ML} (hu : u < 20) : F_X12_get 24 (nI u) (15 : Int32) m L (GRf pb) = some (m 37 (65 * u + 15)) := get_ok (k := 15) hu (by decide)
theorem gt_16 {pb u : Nat} {m : MI} {L : ML} (hu : u < 20) : F_X12_get 24 (nI u) (16 : Int32) m L (GRf pb) = some (m 37 (65 * u + 16)) := get_ok (k := 16) hu (by decide)
theorem gt_17 {pb u : Nat} {m : MI} {L : ML} (hu : u < 20) : F_X12_get 24 (nI u) (17 : Int32) m L (GRf pb) = some (m 37 (65 * u + 17)) := get_ok (k := 17) hu (by decide)
theorem gt_18 {pb u : Nat} {m : MI} {L : ML} (hu : u < 20) : F_X12_get 24 (nI u) (18 : Int32) m L (GRf pb) = some (m 37 (65 * u + 18)) := get_ok (k := 18) hu (by decide)
theorem gt_19 {pb u : Nat} {m : MI} {L : ML} (hu : u < 20) : F_X12_get 24 (nI u) (19 : Int32) m L (GRf pb) = some (m 37 (65 * u + 19)) := get_ok (k := 19) hu (by decide)
theorem gt_20 {pb u : Nat} {m : MI} {L : ML} (hu : u < 20) : F_X12_get 24 (nI u) (20 : Int32) m L (GRf pb) = some (m 37 (65 * u + 20)) := get_ok (k := 20) hu (by decide)
theorem gt_21 {pb u : Nat} {m : MI} {L : ML} (hu : u < 20) : F_X12_get 24 (nI u) (21 : Int32) m L (GRf pb) = some (m 37 (65 * u + 21)) := get_ok (k := 21) hu (by decide)
theorem gt_22 {pb u : Nat} {m : MI} {L : ML} (hu : u < 20) : F_X12_get 24 (nI u) (22 : Int32) m L (GRf pb) = some (m 37 (65 * u + 22)) := get_ok (k := 22) hu (by decide)
theorem gt_23 {pb u : Nat} {m : MI} {L : ML} (hu : u < 20) : F_X12_get 24 (nI u) (23 : Int32) m L (GRf pb) = some (m 37 (65 * u + 23)) := get_ok (k := 23) hu (by decide)
theorem gt_24 {pb u : Nat} {m : MI} {L : ML} (hu : u < 20) : F_X12_get 24 (nI u) (24 : Int32) m L (GRf pb) = some (m 37 (65 * u + 24)) := get_ok (k := 24) hu (by decide)
theorem gt_25 {pb u : Nat} {m : MI} {L : ML} (hu : u < 20) : F_X12_get 24 (nI u) (25 : Int32) m L (GRf pb) = some (m 37 (65 * u + 25)) := get_ok (k := 25) hu (by decide)
theorem gt_26 {pb u : Nat} {m : MI} {L : ML} (hu : u < 20) : F_X12_get 24 (nI u) (26 : Int32) m L (GRf pb) = some (m 37 (65 * u + 26)) := get_ok (k := 26) hu (by decide)
theorem gt_27 {pb u : Nat} {m : MI} {L : ML} (hu : u < 20) : F_X12_get 24 (nI u) (27 : Int32) m L (GRf pb) = some (m 37 (65 * u + 27)) := get_ok (k := 27) hu (by decide)
theorem gt_28 {pb u : Nat} {m : MI} {L : ML} (hu : u < 20) : F_X12_get 24 (nI u) (28 : Int32) m L (GRf pb) = some (m 37 (65 * u + 28)) := get_ok (k := 28) hu (by decide)
theorem gt_29 {pb u : Nat} {m : MI} {L : ML} (hu : u < 20) : F_X12_get 24 (nI u) (29 : Int32) m L (GRf pb) = some (m 37 (65 * u + 29)) := get_ok (k := 29) hu (by decide)
theorem gt_30 {pb u : Nat} {m : MI} {L : ML} (hu : u < 20) : F_X12_get 24 (nI u) (30 : Int32) m L (GRf pb) = some (m 37 (65 * u + 30)) := get_ok (k := 30) hu (by decide)
theorem gt_31 {pb u : Nat} {m : MI} {L : ML} (hu : u < 20) : F_X12_get 24 (nI u) (31 : Int32) m L (GRf pb) = some (m 37 (65 * u + 31)) := get_ok (k := 31) hu (by decide)
theorem gt_32 {pb u : Nat} {m : MI} {L : ML} (hu : u < 20) : F_X12_get 24 (nI u) (32 : Int32) m L (GRf pb) = some (m 37 (65 * u + 32)) := get_ok (k := 32) hu (by decide)
theorem gt_33 {pb u : Nat} {m : MI} {L : ML} (hu : u < 20) : F_X12_get 24 (nI u) (33 : Int32) m L (GRf pb) = some (m 37 (65 * u + 33)) := get_ok (k := 33) hu (by decide)
theorem gt_34 {pb u : Nat} {m : MI} {L : ML} (hu : u < 20) : F_X12_get 24 (nI u) (34 : Int32) m L (GRf pb) = some (m 37 (65 * u + 34)) := get_ok (k := 34) hu (by decide)
theorem gt_35 {pb u : Nat} {m : MI} {L : ML} (hu : u < 20) : F_X12_get 24 (nI u) (35 : Int32) m L (GRf pb) = some (m 37 (65 * u + 35)) := get_ok (k := 35) hu (by decide)
theorem gt_36 {pb u : Nat} {m : MI} {L : ML} (hu : u < 20) : F_X12_get 24 (nI u) (36 : Int32) m L (GRf pb) = some (m 37 (65 * u + 36)) := get_ok (k := 36) hu (by decide)
theorem gt_37 {pb u : Nat} {m : MI} {L : ML} (hu : u < 20) : F_X12_get 24 (nI u) (37 : Int32) m L (GRf pb) = some (m 37 (65 * u + 37)) := get_ok (k := 37) hu (by decide)
theorem gt_38 {pb u : Nat} {m : MI} {L : ML} (hu : u < 20) : F_X12_get 24 (nI u) (38 : Int32) m L (GRf pb) = some (m 37 (65 * u + 38)) := get_ok (k := 38) hu (by decide)
theorem gt_39 {pb u : Nat} {m : MI} {L : ML} (hu : u < 20) : F_X12_get 24 (nI u) (39 : Int32) m L (GRf pb) = some (m 37 (65 * u + 39)) := get_ok (k := 39) hu (by decide)
theorem gt_40 {pb u : Nat} {m : MI} {L : ML} (hu : u < 20) : F_X12_get 24 (nI u) (40 : Int32) m L (GRf pb) = some (m 37 (65 * u + 40)) := get_ok (k := 40) hu (by decide)
theorem gt_41 {pb u : Nat} {m : MI} {L : ML} (hu : u < 20) : F_X12_get 24 (nI u) (41 : Int32) m L (GRf pb) = some (m 37 (65 * u + 41)) := get_ok (k := 41) hu (by decide)
theorem gt_42 {pb u : Nat} {m : MI} {L : ML} (hu : u < 20) : F_X12_get 24 (nI u) (42 : Int32) m L (GRf pb) = some (m 37 (65 * u + 42)) := get_ok (k := 42) hu (by decide)
theorem gt_43 {pb u : Nat} {m : MI} {L : ML} (hu : u < 20) : F_X12_get 24 (nI u) (43 : Int32) m L (GRf pb) = some (m 37 (65 * u + 43)) := get_ok (k := 43) hu (by decide)
theorem gt_44 {pb u : Nat} {m : MI} {L : ML} (hu : u < 20) : F_X12_get 24 (nI u) (44 : Int32) m L (GRf pb) = some (m 37 (65 * u + 44)) := get_ok (k := 44) hu (by decide)
theorem gt_45 {pb u : Nat} {m : MI} {L : ML} (hu : u < 20) : F_X12_get 24 (nI u) (45 : Int32) m L (GRf pb) = some (m 37 (65 * u + 45)) := get_ok (k := 45) hu (by decide)
theorem gt_46 {pb u : Nat} {m : MI} {L : ML} (hu : u < 20) : F_X12_get 24 (nI u) (46 : Int32) m L (GRf pb) = some (m 37 (65 * u + 46)) := get_ok (k := 46) hu (by decide)
theorem gt_47 {pb u : Nat} {m : MI} {L : ML} (hu : u < 20) : F_X12_get 24 (nI u) (47 : Int32) m L (GRf pb) = some (m 37 (65 * u + 47)) := get_ok (k := 47) hu (by decide)
theorem gt_48 {pb u : Nat} {m : MI} {L : ML} (hu : u < 20) : F_X12_get 24 (nI u) (48 : Int32) m L (GRf pb) = some (m 37 (65 * u + 48)) := get_ok (k := 48) hu (by decide)
theorem gt_49 {pb u : Nat} {m : MI} {L : ML} (hu : u < 20) : F_X12_get 24 (nI u) (49 : Int32) m L (GRf pb) = some (m 37 (65 * u + 49)) := get_ok (k := 49) hu (by decide)
theorem gt_50 {pb u : Nat} {m : MI} {L : ML} (hu : u < 20) : F_X12_get 24 (nI u) (50 : Int32) m L (GRf pb) = some (m 37 (65 * u + 50)) := get_ok (k := 50) hu (by decide)
theorem gt_51 {pb u : Nat} {m : MI} {L : ML} (hu : u < 20) : F_X12_get 24 (nI u) (51 : Int32) m L (GRf pb) = some (m 37 (65 * u + 51)) := get_ok (k := 51) hu (by decide)
theorem gt_52 {pb u : Nat} {m : MI} {L : ML} (hu : u < 20) : F_X12_get 24 (nI u) (52 : Int32) m L (GRf pb) = some (m 37 (65 * u + 52)) := get_ok (k := 52) hu (by decide)
theorem gt_53 {pb u : Nat} {m : MI} {L : ML} (hu : u < 20) : F_X12_get 24 (nI u) (53 : Int32) m L (GRf pb) = some (m 37 (65 * u + 53)) := get_ok (k := 53) hu (by decide)
theorem gt_54 {pb u : Nat} {m : MI} {L : ML} (hu : u < 20) : F_X12_get 24 (nI u) (54 : Int32) m L (GRf pb) = some (m 37 (65 * u + 54)) := get_ok (k := 54) hu (by decide)
theorem gt_55 {pb u : Nat} {m : MI} {L : ML} (hu : u < 20) : F_X12_get 24 (nI u) (55 : Int32) m L (GRf pb) = some (m 37 (65 * u + 55)) := get_ok (k := 55) hu (by decide)
theorem gt_56 {pb u : Nat} {m : MI} {L : ML} (hu : u < 20) : F_X12_get 24 (nI u) (56 : Int32) m L (GRf pb) = some (m 37 (65 * u + 56)) := get_ok (k := 56) hu (by decide)
theorem gt_57 {pb u : Nat} {m : MI} {L : ML} (hu : u < 20) : F_X12_get 24 (nI u) (57 : Int32) m L (GRf pb) = some (m 37 (65 * u + 57)) := get_ok (k := 57) hu (by decide)
theorem gt_58 {pb u : Nat} {m : MI} {L : ML} (hu : u < 20) : F_X12_get 24 (nI u) (58 : Int32) m L (GRf pb) = some (m 37 (65 * u + 58)) := get_ok (k := 58) hu (by decide)
theorem gt_59 {pb u : Nat} {m : MI} {L : ML} (hu : u < 20) : F_X12_get 24 (nI u) (59 : Int32) m L (GRf pb) = some (m 37 (65 * u + 59)) := get_ok (k := 59) hu (by decide)
theorem gt_60 {pb u : Nat} {m : MI} {L : ML} (hu : u < 20) : F_X12_get 24 (nI u) (60 : Int32) m L (GRf pb) = some (m 37 (65 * u + 60)) := get_ok (k := 60) hu (by decide)
theorem gt_61 {pb u : Nat} {m : MI} {L : ML} (hu : u < 20) : F_X12_get 24 (nI u) (61 : Int32) m L (GRf pb) = some (m 37 (65 * u + 61)) := get_ok (k := 61) hu (by decide)
theorem gt_62 {pb u : Nat} {m : MI} {L : ML} (hu : u < 20) : F_X12_get 24 (nI u) (62 : Int32) m L (GRf pb) = some (m 37 (65 * u + 62)) := get_ok (k := 62) hu (by decide)
theorem gt_63 {pb u : Nat} {m : MI} {L : ML} (hu : u < 20) : F_X12_get 24 (nI u) (63 : Int32) m L (GRf pb) = some (m 37 (65 * u + 63)) := get_ok (k := 63) hu (by decide)
theorem gt_64 {pb u : Nat} {m : MI} {L : ML} (hu : u < 20) : F_X12_get 24 (nI u) (64 : Int32) m L (GRf pb) = some (m 37 (65 * u + 64)) := get_ok (k := 64) hu (by decide)
theorem st_0 {pb u : Nat} {m : MI} {L : ML} {v : Int32} (hu : u < 20) : F_X12_set 24 (nI u) (0 : Int32) v m L (GRf pb) = some (uI m 37 (65 * u + 0) v) := set_ok (k := 0) hu (by decide)
theorem st_1 {pb u : Nat} {m : MI} {L : ML} {v : Int32} (hu : u < 20) : F_X12_set 24 (nI u) (1 : Int32) v m L (GRf pb) = some (uI m 37 (65 * u + 1) v) := set_ok (k := 1) hu (by decide)
theorem st_2 {pb u : Nat} {m : MI} {L : ML} {v : Int32} (hu : u < 20) : F_X12_set 24 (nI u) (2 : Int32) v m L (GRf pb) = some (uI m 37 (65 * u + 2) v) := set_ok (k := 2) hu (by decide)
theorem st_3 {pb u : Nat} {m : MI} {L : ML} {v : Int32} (hu : u < 20) : F_X12_set 24 (nI u) (3 : Int32) v m L (GRf pb) = some (uI m 37 (65 * u + 3) v) := set_ok (k := 3) hu (by decide)
theorem st_4 {pb u : Nat} {m : MI} {L : ML} {v : Int32} (hu : u < 20) : F_X12_set 24 (nI u) (4 : Int32) v m L (GRf pb) = some (uI m 37 (65 * u + 4) v) := set_ok (k := 4) hu (by decide)
theorem st_5 {pb u : Nat} {m : MI} {L : ML} {v : Int32} (hu : u < 20) : F_X12_set 24 (nI u) (5 : Int32) v m L (GRf pb) = some (uI m 37 (65 * u + 5) v) := set_ok (k := 5) hu (by decide)
theorem st_6 {pb u : Nat} {m : MI} {L : ML} {v : Int32} (hu : u < 20) : F_X12_set 24 (nI u) (6 : Int32) v m L (GRf pb) = some (uI m 37 (65 * u + 6) v) := set_ok (k := 6) hu (by decide)
theorem st_7 {pb u : Nat} {m : MI} {L : ML} {v : Int32} (hu : u < 20) : F_X12_set 24 (nI u) (7 : Int32) v m L (GRf pb) = some (uI m 37 (65 * u + 7) v) := set_ok (k := 7) hu (by decide)
theorem st_8 {pb u : Nat} {m : MI} {L : ML} {v : Int32} (hu : u < 20) : F_X12_set 24 (nI u) (8 : Int32) v m L (GRf pb) = some (uI m 37 (65 * u + 8) v) := set_ok (k := 8) hu (by decide)
theorem st_9 {pb u : Nat} {m : MI} {L : ML} {v : Int32} (hu : u < 20) : F_X12_set 24 (nI u) (9 : Int32) v m L (GRf pb) = some (uI m 37 (65 * u + 9) v) := set_ok (k := 9) hu (by decide)
theorem st_10 {pb u : Nat} {m : MI} {L : ML} {v : Int32} (hu : u < 20) : F_X12_set 24 (nI u) (10 : Int32) v m L (GRf pb) = some (uI m 37 (65 * u + 10) v) := set_ok (k := 10) hu (by decide)
theorem st_11 {pb u : Nat} {m : MI} {L : ML} {v : Int32} (hu : u < 20) : F_X12_set 24 (nI u) (11 : Int32) v m L (GRf pb) = some (uI m 37 (65 * u + 11) v) := set_ok (k := 11) hu (by decide)
theorem st_12 {pb u : Nat} {m : MI} {L : ML} {v : Int32} (hu : u < 20) : F_X12_set 24 (nI u) (12 : Int32) v m L (GRf pb) = some (uI m 37 (65 * u + 12) v) := set_ok (k := 12) hu (by decide)
theorem st_13 {pb u : Nat} {m : MI} {L : ML} {v : Int32} (hu : u < 20) : F_X12_set 24 (nI u) (13 : Int32) v m L (GRf pb) = some (uI m 37 (65 * u + 13) v) := set_ok (k := 13) hu (by decide)
theorem st_14 {pb u : Nat} {m : MI} {L : ML} {v : Int32} (hu : u < 20) : F_X12_set 24 (nI u) (14 : Int32) v m L (GRf pb) = some (uI m 37 (65 * u + 14) v) := set_ok (k := 14) hu (by decide)
theorem st_15 {pb u : Nat} {m : MI} {L : ML} {v : Int32} (hu : u < 20) : F_X12_set 24 (nI u) (15 : Int32) v m L (GRf pb) = some (uI m 37 (65 * u + 15) v) := set_ok (k := 15) hu (by decide)
theorem st_16 {pb u : Nat} {m : MI} {L : ML} {v : Int32} (hu : u < 20) : F_X12_set 24 (nI u) (16 : Int32) v m L (GRf pb) = some (uI m 37 (65 * u + 16) v) := set_ok (k := 16) hu (by decide)
theorem st_17 {pb u : Nat} {m : MI} {L : ML} {v : Int32} (hu : u < 20) : F_X12_set 24 (nI u) (17 : Int32) v m L (GRf pb) = some (uI m 37 (65 * u + 17) v) := set_ok (k := 17) hu (by decide)
theorem st_18 {pb u : Nat} {m : MI} {L : ML} {v : Int32} (hu : u < 20) : F_X12_set 24 (nI u) (18 : Int32) v m L (GRf pb) = some (uI m 37 (65 * u + 18) v) := set_ok (k := 18) hu (by decide)
theorem st_19 {pb u : Nat} {m : MI} {L : ML} {v : Int32} (hu : u < 20) : F_X12_set 24 (nI u) (19 : Int32) v m L (GRf pb) = some (uI m 37 (65 * u + 19) v) := set_ok (k := 19) hu (by decide)
theorem st_20 {pb u : Nat} {m : MI} {L : ML} {v : Int32} (hu : u < 20) : F_X12_set 24 (nI u) (20 : Int32) v m L (GRf pb) = some (uI m 37 (65 * u + 20) v) := set_ok (k := 20) hu (by decide)
theorem st_21 {pb u : Nat} {m : MI} {L : ML} {v : Int32} (hu : u < 20) : F_X12_set 24 (nI u) (21 : Int32) v m L (GRf pb) = some (uI m 37 (65 * u + 21) v) := set_ok (k := 21) hu (by decide)
theorem st_22 {pb u : Nat} {m : MI} {L : ML} {v : Int32} (hu : u < 20) : F_X12_set 24 (nI u) (22 : Int32) v m L (GRf pb) = some (uI m 37 (65 * u + 22) v) := set_ok (k := 22) hu (by decide)
theorem st_23 {pb u : Nat} {m : MI} {L : ML} {v : Int32} (hu : u < 20) : F_X12_set 24 (nI u) (23 : Int32) v m L (GRf pb) = some (uI m 37 (65 * u + 23) v) := set_ok (k := 23) hu (by decide)
theorem st_24 {pb u : Nat} {m : MI} {L : ML} {v : Int32} (hu : u < 20) : F_X12_set 24 (nI u) (24 : Int32) v m L (GRf pb) = some (uI m 37 (65 * u + 24) v) := set_ok (k := 24) hu (by decide)
theorem st_25 {pb u : Nat} {m : MI} {L : ML} {v : Int32} (hu : u < 20) : F_X12_set 24 (nI u) (25 : Int32) v m L (GRf pb) = some (uI m 37 (65 * u + 25) v) := set_ok (k := 25) hu (by decide)
theorem st_26 {pb u : Nat} {m : MI} {L : ML} {v : Int32} (hu : u < 20) : F_X12_set 24 (nI u) (26 : Int32) v m L (GRf pb) = some (uI m 37 (65 * u + 26) v) := set_ok (k := 26) hu (by decide)
theorem st_27 {pb u : Nat} {m : MI} {L : ML} {v : Int32} (hu : u < 20) : F_X12_set 24 (nI u) (27 : Int32) v m L (GRf pb) = some (uI m 37 (65 * u + 27) v) := set_ok (k := 27) hu (by decide)
theorem st_28 {pb u : Nat} {m : MI} {L : ML} {v : Int32} (hu : u < 20) : F_X12_set 24 (nI u) (28 : Int32) v m L (GRf pb) = some (uI m 37 (65 * u + 28) v) := set_ok (k := 28) hu (by decide)
theorem st_29 {pb u : Nat} {m : MI} {L : ML} {v : Int32} (hu : u < 20) : F_X12_set 24 (nI u) (29 : Int32) v m L (GRf pb) = some (uI m 37 (65 * u + 29) v) := set_ok (k := 29) hu (by decide)
theorem st_30 {pb u : Nat} {m : MI} {L : ML} {v : Int32} (hu : u < 20) : F_X12_set 24 (nI u) (30 : Int32) v m L (GRf pb) = some (uI m 37 (65 * u + 30) v) := set_ok (k := 30) hu (by decide)
theorem st_31 {pb u : Nat} {m : MI} {L : ML} {v : Int32} (hu : u < 20) : F_X12_set 24 (nI u) (31 : Int32) v m L (GRf pb) = some (uI m 37 (65 * u + 31) v) := set_ok (k := 31) hu (by decide)
theorem st_32 {pb u : Nat} {m : MI} {L : ML} {v : Int32} (hu : u < 20) : F_X12_set 24 (nI u) (32 : Int32) v m L (GRf pb) = some (uI m 37 (65 * u + 32) v) := set_ok (k := 32) hu (by decide)
theorem st_33 {pb u : Nat} {m : MI} {L : ML} {v : Int32} (hu : u < 20) : F_X12_set 24 (nI u) (33 : Int32) v m L (GRf pb) = some (uI m 37 (65 * u + 33) v) := set_ok (k := 33) hu (by decide)
theorem st_34 {pb u : Nat} {m : MI} {L : ML} {v : Int32} (hu : u < 20) : F_X12_set 24 (nI u) (34 : Int32) v m L (GRf pb) = some (uI m 37 (65 * u + 34) v) := set_ok (k := 34) hu (by decide)
theorem st_35 {pb u : Nat} {m : MI} {L : ML} {v : Int32} (hu : u < 20) : F_X12_set 24 (nI u) (35 : Int32) v m L (GRf pb) = some (uI m 37 (65 * u + 35) v) := set_ok (k := 35) hu (by decide)
theorem st_36 {pb u : Nat} {m : MI} {L : ML} {v : Int32} (hu : u < 20) : F_X12_set 24 (nI u) (36 : Int32) v m L (GRf pb) = some (uI m 37 (65 * u + 36) v) := set_ok (k := 36) hu (by decide)
theorem st_37 {pb u : Nat} {m : MI} {L : ML} {v : Int32} (hu : u < 20) : F_X12_set 24 (nI u) (37 : Int32) v m L (GRf pb) = some (uI m 37 (65 * u + 37) v) := set_ok (k := 37) hu (by decide)
theorem st_38 {pb u : Nat} {m : MI} {L : ML} {v : Int32} (hu : u < 20) : F_X12_set 24 (nI u) (38 : Int32) v m L (GRf pb) = some (uI m 37 (65 * u + 38) v) := set_ok (k := 38) hu (by decide)
theorem st_39 {pb u : Nat} {m : MI} {L : ML} {v : Int32} (hu : u < 20) : F_X12_set 24 (nI u) (39 : Int32) v m L (GRf pb) = some (uI m 37 (65 * u + 39) v) := set_ok (k := 39) hu (by decide)
theorem st_40 {pb u : Nat} {m : MI} {L : ML} {v : Int32} (hu : u < 20) : F_X12_set 24 (nI u) (40 : Int32) v m L (GRf pb) = some (uI m 37 (65 * u + 40) v) := set_ok (k := 40) hu (by decide)
theorem st_41 {pb u : Nat} {m : MI} {L : ML} {v : Int32} (hu : u < 20) : F_X12_set 24 (nI u) (41 : Int32) v m L (GRf pb) = some (uI m 37 (65 * u + 41) v) := set_ok (k := 41) hu (by decide)
theorem st_42 {pb u : Nat} {m : MI} {L : ML} {v : Int32} (hu : u < 20) : F_X12_set 24 (nI u) (42 : Int32) v m L (GRf pb) = some (uI m 37 (65 * u + 42) v) := set_ok (k := 42) hu (by decide)
theorem st_43 {pb u : Nat} {m : MI} {L : ML} {v : Int32} (hu : u < 20) : F_X12_set 24 (nI u) (43 : Int32) v m L (GRf pb) = some (uI m 37 (65 * u + 43) v) := set_ok (k := 43) hu (by decide)
theorem st_44 {pb u : Nat} {m : MI} {L : ML} {v : Int32} (hu : u < 20) : F_X12_set 24 (nI u) (44 : Int32) v m L (GRf pb) = some (uI m 37 (65 * u + 44) v) := set_ok (k := 44) hu (by decide)
theorem st_45 {pb u : Nat} {m : MI} {L : ML} {v : Int32} (hu : u < 20) : F_X12_set 24 (nI u) (45 : Int32) v m L (GRf pb) = some (uI m 37 (65 * u + 45) v) := set_ok (k := 45) hu (by decide)
theorem st_46 {pb u : Nat} {m : MI} {L : ML} {v : Int32} (hu : u < 20) : F_X12_set 24 (nI u) (46 : Int32) v m L (GRf pb) = some (uI m 37 (65 * u + 46) v) := set_ok (k := 46) hu (by decide)
theorem st_47 {pb u : Nat} {m : MI} {L : ML} {v : Int32} (hu : u < 20) : F_X12_set 24 (nI u) (47 : Int32) v m L (GRf pb) = some (uI m 37 (65 * u + 47) v) := set_ok (k := 47) hu (by decide)
theorem st_48 {pb u : Nat} {m : MI} {L : ML} {v : Int32} (hu : u < 20) : F_X12_set 24 (nI u) (48 : Int32) v m L (GRf pb) = some (uI m 37 (65 * u + 48) v) := set_ok (k := 48) hu (by decide)
theorem st_49 {pb u : Nat} {m : MI} {L : ML} {v : Int32} (hu : u < 20) : F_X12_set 24 (nI u) (49 : Int32) v m L (GRf pb) = some (uI m 37 (65 * u + 49) v) := set_ok (k := 49) hu (by decide)
theorem st_50 {pb u : Nat} {m : MI} {L : ML} {v : Int32} (hu : u < 20) : F_X12_set 24 (nI u) (50 : Int32) v m L (GRf pb) = some (uI m 37 (65 * u + 50) v) := set_ok (k := 50) hu (by decide)
theorem st_51 {pb u : Nat} {m : MI} {L : ML} {v : Int32} (hu : u < 20) : F_X12_set 24 (nI u) (51 : Int32) v m L (GRf pb) = some (uI m 37 (65 * u + 51) v) := set_ok (k := 51) hu (by decide)
theorem st_52 {pb u : Nat} {m : MI} {L : ML} {v : Int32} (hu : u < 20) : F_X12_set 24 (nI u) (52 : Int32) v m L (GRf pb) = some (uI m 37 (65 * u + 52) v) := set_ok (k := 52) hu (by decide)
theorem st_53 {pb u : Nat} {m : MI} {L : ML} {v : Int32} (hu : u < 20) : F_X12_set 24 (nI u) (53 : Int32) v m L (GRf pb) = some (uI m 37 (65 * u + 53) v) := set_ok (k := 53) hu (by decide)
theorem st_54 {pb u : Nat} {m : MI} {L : ML} {v : Int32} (hu : u < 20) : F_X12_set 24 (nI u) (54 : Int32) v m L (GRf pb) = some (uI m 37 (65 * u + 54) v) := set_ok (k := 54) hu (by decide)
theorem st_55 {pb u : Nat} {m : MI} {L : ML} {v : Int32} (hu : u < 20) : F_X12_set 24 (nI u) (55 : Int32) v m L (GRf pb) = some (uI m 37 (65 * u + 55) v) := set_ok (k := 55) hu (by decide)
theorem st_56 {pb u : Nat} {m : MI} {L : ML} {v : Int32} (hu : u < 20) : F_X12_set 24 (nI u) (56 : Int32) v m L (GRf pb) = some (uI m 37 (65 * u + 56) v) := set_ok (k := 56) hu (by decide)
theorem st_57 {pb u : Nat} {m : MI} {L : ML} {v : Int32} (hu : u < 20) : F_X12_set 24 (nI u) (57 : Int32) v m L (GRf pb) = some (uI m 37 (65 * u + 57) v) := set_ok (k := 57) hu (by decide)
theorem st_58 {pb u : Nat} {m : MI} {L : ML} {v : Int32} (hu : u < 20) : F_X12_set 24 (nI u) (58 : Int32) v m L (GRf pb) = some (uI m 37 (65 * u + 58) v) := set_ok (k := 58) hu (by decide)
theorem st_59 {pb u : Nat} {m : MI} {L : ML} {v : Int32} (hu : u < 20) : F_X12_set 24 (nI u) (59 : Int32) v m L (GRf pb) = some (uI m 37 (65 * u + 59) v) := set_ok (k := 59) hu (by decide)
theorem st_60 {pb u : Nat} {m : MI} {L : ML} {v : Int32} (hu : u < 20) : F_X12_set 24 (nI u) (60 : Int32) v m L (GRf pb) = some (uI m 37 (65 * u + 60) v) := set_ok (k := 60) hu (by decide)
theorem st_61 {pb u : Nat} {m : MI} {L : ML} {v : Int32} (hu : u < 20) : F_X12_set 24 (nI u) (61 : Int32) v m L (GRf pb) = some (uI m 37 (65 * u + 61) v) := set_ok (k := 61) hu (by decide)
theorem st_62 {pb u : Nat} {m : MI} {L : ML} {v : Int32} (hu : u < 20) : F_X12_set 24 (nI u) (62 : Int32) v m L (GRf pb) = some (uI m 37 (65 * u + 62) v) := set_ok (k := 62) hu (by decide)
theorem st_63 {pb u : Nat} {m : MI} {L : ML} {v : Int32} (hu : u < 20) : F_X12_set 24 (nI u) (63 : Int32) v m L (GRf pb) = some (uI m 37 (65 * u + 63) v) := set_ok (k := 63) hu (by decide)
theorem st_64 {pb u : Nat} {m : MI} {L : ML} {v : Int32} (hu : u < 20) : F_X12_set 24 (nI u) (64 : Int32) v m L (GRf pb) = some (uI m 37 (65 * u + 64) v) := set_ok (k := 64) hu (by decide)
theorem gw_0 {pb u : Nat} {m : MI} {L : ML} {v : Int32} (hu : u < 20) : F_X12_grow 24 (nI u) (0 : Int32) v m L (GRf pb) = some (uI m 37 (65 * u + 0) (m 37 (65 * u + 0) + v)) := grow_ok (k := 0) hu (by decide)
theorem gw_1 {pb u : Nat} {m : MI} {L : ML} {v : Int32} (hu : u < 20) : F_X12_grow 24 (nI u) (1 : Int32) v m L (GRf pb) = some (uI m 37 (65 * u + 1) (m 37 (65 * u + 1) + v)) := grow_ok (k := 1) hu (by decide)
theorem gw_2 {pb u : Nat} {m : MI} {L : ML} {v : Int32} (hu : u < 20) : F_X12_grow 24 (nI u) (2 : Int32) v m L (GRf pb) = some (uI m 37 (65 * u + 2) (m 37 (65 * u + 2) + v)) := grow_ok (k := 2) hu (by decide)
theorem gw_3 {pb u : Nat} {m : MI} {L : ML} {v : Int32} (hu : u < 20) : F_X12_grow 24 (nI u) (3 : Int32) v m L (GRf pb) = some (uI m 37 (65 * u + 3) (m 37 (65 * u + 3) + v)) := grow_ok (k := 3) hu (by decide)
theorem gw_4 {pb u : Nat} {m : MI} {L : ML} {v : Int32} (hu : u < 20) : F_X12_grow 24 (nI u) (4 : Int32) v m L (GRf pb) = some (uI m 37 (65 * u + 4) (m 37 (65 * u + 4) + v)) := grow_ok (k := 4) hu (by decide)
theorem gw_5 {pb u : Nat} {m : MI} {L : ML} {v : Int32} (hu : u < 20) : F_X12_grow 24 (nI u) (5 : Int32) v m L (GRf pb) = some (uI m 37 (65 * u + 5) (m 37 (65 * u + 5) + v)) := grow_ok (k := 5) hu (by decide)
theorem gw_6 {pb u : Nat} {m : MI} {L : ML} {v : Int32} (hu : u < 20) : F_X12_grow 24 (nI u) (6 : Int32) v m L (GRf pb) = some (uI m 37 (65 * u + 6) (m 37 (65 * u + 6) + v)) := grow_ok (k := 6) hu (by decide)
theorem gw_7 {pb u : Nat} {m : MI} {L : ML} {v : Int32} (hu : u < 20) : F_X12_grow 24 (nI u) (7 : Int32) v m L (GRf pb) = some (uI m 37 (65 * u + 7) (m 37 (65 * u + 7) + v)) := grow_ok (k := 7) hu (by decide)
theorem gw_8 {pb u : Nat} {m : MI} {L : ML} {v : Int32} (hu : u < 20) : F_X12_grow 24 (nI u) (8 : Int32) v m L (GRf pb) = some (uI m 37 (65 * u + 8) (m 37 (65 * u + 8) + v)) := grow_ok (k := 8) hu (by decide)
theorem gw_9 {pb u : Nat} {m : MI} {L : ML} {v : Int32} (hu : u < 20) : F_X12_grow 24 (nI u) (9 : Int32) v m L (GRf pb) = some (uI m 37 (65 * u + 9) (m 37 (65 * u + 9) + v)) := grow_ok (k := 9) hu (by decide)
theorem gw_10 {pb u : Nat} {m : MI} {L : ML} {v : Int32} (hu : u < 20) : F_X12_grow 24 (nI u) (10 : Int32) v m L (GRf pb) = some (uI m 37 (65 * u + 10) (m 37 (65 * u + 10) + v)) := grow_ok (k := 10) hu (by decide)
theorem gw_11 {pb u : Nat} {m : MI} {L : ML} {v : Int32} (hu : u < 20) : F_X12_grow 24 (nI u) (11 : Int32) v m L (GRf pb) = some (uI m 37 (65 * u + 11) (m 37 (65 * u + 11) + v)) := grow_ok (k := 11) hu (by decide)
theorem gw_12 {pb u : Nat} {m : MI} {L : ML} {v : Int32} (hu : u < 20) : F_X12_grow 24 (nI u) (12 : Int32) v m L (GRf pb) = some (uI m 37 (65 * u + 12) (m 37 (65 * u + 12) + v)) := grow_ok (k := 12) hu (by decide)
theorem gw_13 {pb u : Nat} {m : MI} {L : ML} {v : Int32} (hu : u < 20) : F_X12_grow 24 (nI u) (13 : Int32) v m L (GRf pb) = some (uI m 37 (65 * u + 13) (m 37 (65 * u + 13) + v)) := grow_ok (k := 13) hu (by decide)
theorem gw_14 {pb u : Nat} {m : MI} {L : ML} {v : Int32} (hu : u < 20) : F_X12_grow 24 (nI u) (14 : Int32) v m L (GRf pb) = some (uI m 37 (65 * u + 14) (m 37 (65 * u + 14) + v)) := grow_ok (k := 14) hu (by decide)
theorem gw_15 {pb u : Nat} {m : MI} {L : ML} {v : Int32} (hu : u < 20) : F_X12_grow 24 (nI u) (15 : Int32) v m L (GRf pb) = some (uI m 37 (65 * u + 15) (m 37 (65 * u + 15) + v)) := grow_ok (k := 15) hu (by decide)
theorem gw_16 {pb u : Nat} {m : MI} {L : ML} {v : Int32} (hu : u < 20) : F_X12_grow 24 (nI u) (16 : Int32) v m L (GRf pb) = some (uI m 37 (65 * u + 16) (m 37 (65 * u + 16) + v)) := grow_ok (k := 16) hu (by decide)
theorem gw_17 {pb u : Nat} {m : MI} {L : ML} {v : Int32} (hu : u < 20) : F_X12_grow 24 (nI u) (17 : Int32) v m L (GRf pb) = some (uI m 37 (65 * u + 17) (m 37 (65 * u + 17) + v)) := grow_ok (k := 17) hu (by decide)
theorem gw_18 {pb u : Nat} {m : MI} {L : ML} {v : Int32} (hu : u < 20) : F_X12_grow 24 (nI u) (18 : Int32) v m L (GRf pb) = some (uI m 37 (65 * u + 18) (m 37 (65 * u + 18) + v)) := grow_ok (k := 18) hu (by decide)
theorem gw_19 {pb u : Nat} {m : MI} {L : ML} {v : Int32} (hu : u < 20) : F_X12_grow 24 (nI u) (19 : Int32) v m L (GRf pb) = some (uI m 37 (65 * u + 19) (m 37 (65 * u + 19) + v)) := grow_ok (k := 19) hu (by decide)
theorem gw_20 {pb u : Nat} {m : MI} {L : ML} {v : Int32} (hu : u < 20) : F_X12_grow 24 (nI u) (20 : Int32) v m L (GRf pb) = some (uI m 37 (65 * u + 20) (m 37 (65 * u + 20) + v)) := grow_ok (k := 20) hu (by decide)
theorem gw_21 {pb u : Nat} {m : MI} {L : ML} {v : Int32} (hu : u < 20) : F_X12_grow 24 (nI u) (21 : Int32) v m L (GRf pb) = some (uI m 37 (65 * u + 21) (m 37 (65 * u + 21) + v)) := grow_ok (k := 21) hu (by decide)
theorem gw_22 {pb u : Nat} {m : MI} {L : ML} {v : Int32} (hu : u < 20) : F_X12_grow 24 (nI u) (22 : Int32) v m L (GRf pb) = some (uI m 37 (65 * u + 22) (m 37 (65 * u + 22) + v)) := grow_ok (k := 22) hu (by decide)
theorem gw_23 {pb u : Nat} {m : MI} {L : ML} {v : Int32} (hu : u < 20) : F_X12_grow 24 (nI u) (23 : Int32) v m L (GRf pb) = some (uI m 37 (65 * u + 23) (m 37 (65 * u + 23) + v)) := grow_ok (k := 23) hu (by decide)
theorem gw_24 {pb u : Nat} {m : MI} {L : ML} {v : Int32} (hu : u < 20) : F_X12_grow 24 (nI u) (24 : Int32) v m L (GRf pb) = some (uI m 37 (65 * u + 24) (m 37 (65 * u + 24) + v)) := grow_ok (k := 24) hu (by decide)
theorem gw_25 {pb u : Nat} {m : MI} {L : ML} {v : Int32} (hu : u < 20) : F_X12_grow 24 (nI u) (25 : Int32) v m L (GRf pb) = some (uI m 37 (65 * u + 25) (m 37 (65 * u + 25) + v)) := grow_ok (k := 25) hu (by decide)
theorem gw_26 {pb u : Nat} {m : MI} {L : ML} {v : Int32} (hu : u < 20) : F_X12_grow 24 (nI u) (26 : Int32) v m L (GRf pb) = some (uI m 37 (65 * u + 26) (m 37 (65 * u + 26) + v)) := grow_ok (k := 26) hu (by decide)
theorem gw_27 {pb u : Nat} {m : MI} {L : ML} {v : Int32} (hu : u < 20) : F_X12_grow 24 (nI u) (27 : Int32) v m L (GRf pb) = some (uI m 37 (65 * u + 27) (m 37 (65 * u + 27) + v)) := grow_ok (k := 27) hu (by decide)
theorem gw_28 {pb u : Nat} {m : MI} {L : ML} {v : Int32} (hu : u < 20) : F_X12_grow 24 (nI u) (28 : Int32) v m L (GRf pb) = some (uI m 37 (65 * u + 28) (m 37 (65 * u + 28) + v)) := grow_ok (k := 28) hu (by decide)
theorem gw_29 {pb u : Nat} {m : MI} {L : ML} {v : Int32} (hu : u < 20) : F_X12_grow 24 (nI u) (29 : Int32) v m L (GRf pb) = some (uI m 37 (65 * u + 29) (m 37 (65 * u + 29) + v)) := grow_ok (k := 29) hu (by decide)
theorem gw_30 {pb u : Nat} {m : MI} {L : ML} {v : Int32} (hu : u < 20) : F_X12_grow 24 (nI u) (30 : Int32) v m L (GRf pb) = some (uI m 37 (65 * u + 30) (m 37 (65 * u + 30) + v)) := grow_ok (k := 30) hu (by decide)
theorem gw_31 {pb u : Nat} {m : MI} {L : ML} {v : Int32} (hu : u < 20) : F_X12_grow 24 (nI u) (31 : Int32) v m L (GRf pb) = some (uI m 37 (65 * u + 31) (m 37 (65 * u + 31) + v)) := grow_ok (k := 31) hu (by decide)
theorem gw_32 {pb u : Nat} {m : MI} {L : ML} {v : Int32} (hu : u < 20) : F_X12_grow 24 (nI u) (32 : Int32) v m L (GRf pb) = some (uI m 37 (65 * u + 32) (m 37 (65 * u + 32) + v)) := grow_ok (k := 32) hu (by decide)
theorem gw_33 {pb u : Nat} {m : MI} {L : ML} {v : Int32} (hu : u < 20) : F_X12_grow 24 (nI u) (33 : Int32) v m L (GRf pb) = some (uI m 37 (65 * u + 33) (m 37 (65 * u + 33) + v)) := grow_ok (k := 33) hu (by decide)
theorem gw_34 {pb u : Nat} {m : MI} {L : ML} {v : Int32} (hu : u < 20) : F_X12_grow 24 (nI u) (34 : Int32) v m L (GRf pb) = some (uI m 37 (65 * u + 34) (m 37 (65 * u + 34) + v)) := grow_ok (k := 34) hu (by decide)
theorem gw_35 {pb u : Nat} {m : MI} {L : ML} {v : Int32} (hu : u < 20) : F_X12_grow 24 (nI u) (35 : Int32) v m L (GRf pb) = some (uI m 37 (65 * u + 35) (m 37 (65 * u + 35) + v)) := grow_ok (k := 35) hu (by decide)
theorem gw_36 {pb u : Nat} {m : MI} {L : ML} {v : Int32} (hu : u < 20) : F_X12_grow 24 (nI u) (36 : Int32) v m L (GRf pb) = some (uI m 37 (65 * u + 36) (m 37 (65 * u + 36) + v)) := grow_ok (k := 36) hu (by decide)
theorem gw_37 {pb u : Nat} {m : MI} {L : ML} {v : Int32} (hu : u < 20) : F_X12_grow 24 (nI u) (37 : Int32) v m L (GRf pb) = some (uI m 37 (65 * u + 37) (m 37 (65 * u + 37) + v)) := grow_ok (k := 37) hu (by decide)
theorem gw_38 {pb u : Nat} {m : MI} {L : ML} {v : Int32} (hu : u < 20) : F_X12_grow 24 (nI u) (38 : Int32) v m L (GRf pb) = some (uI m 37 (65 * u + 38) (m 37 (65 * u + 38) + v)) := grow_ok (k := 38) hu (by decide)
theorem gw_39 {pb u : Nat} {m : MI} {L : ML} {v : Int32} (hu : u < 20) : F_X12_grow 24 (nI u) (39 : Int32) v m L (GRf pb) = some (uI m 37 (65 * u + 39) (m 37 (65 * u + 39) + v)) := grow_ok (k := 39) hu (by decide)
theorem gw_40 {pb u : Nat} {m : MI} {L : ML} {v : Int32} (hu : u < 20) : F_X12_grow 24 (nI u) (40 : Int32) v m L (GRf pb) = some (uI m 37 (65 * u + 40) (m 37 (65 * u + 40) + v)) := grow_ok (k := 40) hu (by decide)
theorem gw_41 {pb u : Nat} {m : MI} {L : ML} {v : Int32} (hu : u < 20) : F_X12_grow 24 (nI u) (41 : Int32) v m L (GRf pb) = some (uI m 37 (65 * u + 41) (m 37 (65 * u + 41) + v)) := grow_ok (k := 41) hu (by decide)
theorem gw_42 {pb u : Nat} {m : MI} {L : ML} {v : Int32} (hu : u < 20) : F_X12_grow 24 (nI u) (42 : Int32) v m L (GRf pb) = some (uI m 37 (65 * u + 42) (m 37 (65 * u + 42) + v)) := grow_ok (k := 42) hu (by decide)
theorem gw_43 {pb u : Nat} {m : MI} {L : ML} {v : Int32} (hu : u < 20) : F_X12_grow 24 (nI u) (43 : Int32) v m L (GRf pb) = some (uI m 37 (65 * u + 43) (m 37 (65 * u + 43) + v)) := grow_ok (k := 43) hu (by decide)
theorem gw_44 {pb u : Nat} {m : MI} {L : ML} {v : Int32} (hu : u < 20) : F_X12_grow 24 (nI u) (44 : Int32) v m L (GRf pb) = some (uI m 37 (65 * u + 44) (m 37 (65 * u + 44) + v)) := grow_ok (k := 44) hu (by decide)
theorem gw_45 {pb u : Nat} {m : MI} {L : ML} {v : Int32} (hu : u < 20) : F_X12_grow 24 (nI u) (45 : Int32) v m L (GRf pb) = some (uI m 37 (65 * u + 45) (m 37 (65 * u + 45) + v)) := grow_ok (k := 45) hu (by decide)
theorem gw_46 {pb u : Nat} {m : MI} {L : ML} {v : Int32} (hu : u < 20) : F_X12_grow 24 (nI u) (46 : Int32) v m L (GRf pb) = some (uI m 37 (65 * u + 46) (m 37 (65 * u + 46) + v)) := grow_ok (k := 46) hu (by decide)
theorem gw_47 {pb u : Nat} {m : MI} {L : ML} {v : Int32} (hu : u < 20) : F_X12_grow 24 (nI u) (47 : Int32) v m L (GRf pb) = some (uI m 37 (65 * u + 47) (m 37 (65 * u + 47) + v)) := grow_ok (k := 47) hu (by decide)
theorem gw_48 {pb u : Nat} {m : MI} {L : ML} {v : Int32} (hu : u < 20) : F_X12_grow 24 (nI u) (48 : Int32) v m L (GRf pb) = some (uI m 37 (65 * u + 48) (m 37 (65 * u + 48) + v)) := grow_ok (k := 48) hu (by decide)
theorem gw_49 {pb u : Nat} {m : MI} {L : ML} {v : Int32} (hu : u < 20) : F_X12_grow 24 (nI u) (49 : Int32) v m L (GRf pb) = some (uI m 37 (65 * u + 49) (m 37 (65 * u + 49) + v)) := grow_ok (k := 49) hu (by decide)
theorem gw_50 {pb u : Nat} {m : MI} {L : ML} {v : Int32} (hu : u < 20) : F_X12_grow 24 (nI u) (50 : Int32) v m L (GRf pb) = some (uI m 37 (65 * u + 50) (m 37 (65 * u + 50) + v)) := grow_ok (k := 50) hu (by decide)
theorem gw_51 {pb u : Nat} {m : MI} {L : ML} {v : Int32} (hu : u < 20) : F_X12_grow 24 (nI u) (51 : Int32) v m L (GRf pb) = some (uI m 37 (65 * u + 51) (m 37 (65 * u + 51) + v)) := grow_ok (k := 51) hu (by decide)
theorem gw_52 {pb u : Nat} {m : MI} {L : ML} {v : Int32} (hu : u < 20) : F_X12_grow 24 (nI u) (52 : Int32) v m L (GRf pb) = some (uI m 37 (65 * u + 52) (m 37 (65 * u + 52) + v)) := grow_ok (k := 52) hu (by decide)
theorem gw_53 {pb u : Nat} {m : MI} {L : ML} {v : Int32} (hu : u < 20) : F_X12_grow 24 (nI u) (53 : Int32) v m L (GRf pb) = some (uI m 37 (65 * u + 53) (m 37 (65 * u + 53) + v)) := grow_ok (k := 53) hu (by decide)
theorem gw_54 {pb u : Nat} {m : MI} {L : ML} {v : Int32} (hu : u < 20) : F_X12_grow 24 (nI u) (54 : Int32) v m L (GRf pb) = some (uI m 37 (65 * u + 54) (m 37 (65 * u + 54) + v)) := grow_ok (k := 54) hu (by decide)
theorem gw_55 {pb u : Nat} {m : MI} {L : ML} {v : Int32} (hu : u < 20) : F_X12_grow 24 (nI u) (55 : Int32) v m L (GRf pb) = some (uI m 37 (65 * u + 55) (m 37 (65 * u + 55) + v)) := grow_ok (k := 55) hu (by decide)
theorem gw_56 {pb u : Nat} {m : MI} {L : ML} {v : Int32} (hu : u < 20) : F_X12_grow 24 (nI u) (56 : Int32) v m L (GRf pb) = some (uI m 37 (65 * u + 56) (m 37 (65 * u + 56) + v)) := grow_ok (k := 56) hu (by decide)
theorem gw_57 {pb u : Nat} {m : MI} {L : ML} {v : Int32} (hu : u < 20) : F_X12_grow 24 (nI u) (57 : Int32) v m L (GRf pb) = some (uI m 37 (65 * u + 57) (m 37 (65 * u + 57) + v)) := grow_ok (k := 57) hu (by decide)
theorem gw_58 {pb u : Nat} {m : MI} {L : ML} {v : Int32} (hu : u < 20) : F_X12_grow 24 (nI u) (58 : Int32) v m L (GRf pb) = some (uI m 37 (65 * u + 58) (m 37 (65 * u + 58) + v)) := grow_ok (k := 58) hu (by decide)
theorem gw_59 {pb u : Nat} {m : MI} {L : ML} {v : Int32} (hu : u < 20) : F_X12_grow 24 (nI u) (59 : Int32) v m L (GRf pb) = some (uI m 37 (65 * u + 59) (m 37 (65 * u + 59) + v)) := grow_ok (k := 59) hu (by decide)
theorem gw_60 {pb u : Nat} {m : MI} {L : ML} {v : Int32} (hu : u < 20) : F_X12_grow 24 (nI u) (60 : Int32) v m L (GRf pb) = some (uI m 37 (65 * u + 60) (m 37 (65 * u + 60) + v)) := grow_ok (k := 60) hu (by decide)
theorem gw_61 {pb u : Nat} {m : MI} {L : ML} {v : Int32} (hu : u < 20) : F_X12_grow 24 (nI u) (61 : Int32) v m L (GRf pb) = some (uI m 37 (65 * u + 61) (m 37 (65 * u + 61) + v)) := grow_ok (k := 61) hu (by decide)
theorem gw_62 {pb u : Nat} {m : MI} {L : ML} {v : Int32} (hu : u < 20) : F_X12_grow 24 (nI u) (62 : Int32) v m L (GRf pb) = some (uI m 37 (65 * u + 62) (m 37 (65 * u + 62) + v)) := grow_ok (k := 62) hu (by decide)
theorem gw_63 {pb u : Nat} {m : MI} {L : ML} {v : Int32} (hu : u < 20) : F_X12_grow 24 (nI u) (63 : Int32) v m L (GRf pb) = some (uI m 37 (65 * u + 63) (m 37 (65 * u + 63) + v)) := grow_ok (k := 63) hu (by decide)
theorem gw_64 {pb u : Nat} {m : MI} {L : ML} {v : Int32} (hu : u < 20) : F_X12_grow 24 (nI u) (64 : Int32) v m L (GRf pb) = some (uI m 37 (65 * u + 64) (m 37 (65 * u + 64) + v)) := grow_ok (k := 64) hu (by decide)
def by_mass (l : Int32) (P : Nat → Int32) (x : Int32) : Int32 := if l = (0 : Int32) then 5 else if l = (1 : Int32) then 8 + P 9 / 10 else if l = (6 : Int32) then x + P 23 / 5 else if l = (22 : Int32) then x + P 43 / 20 else if l = (27 : Int32) then x + P 61 else x
def by_span (l : Int32) (P : Nat → Int32) (x : Int32) : Int32 := if l = (0 : Int32) then 1 else if l = (1 : Int32) then 1 + P 9 / 50 else if l = (3 : Int32) then 2 + P 16 + P 12 else if l = (5 : Int32) then x + P 18 else if l = (9 : Int32) then x + P 30 else if l = (14 : Int32) then x + P 39 else if l = (19 : Int32) then 3 else if l = (20 : Int32) then 2 + iR (P 49) 3 else if l = (23 : Int32) then 1 + P 54 else if l = (24 : Int32) then x + P 55 else if l = (26 : Int32) then 1 + iR (P 59) 2 else x
def by_need (l : Int32) (P : Nat → Int32) (x : Int32) : Int32 := if l = (0 : Int32) then 0 else if l = (2 : Int32) then 2 + P 11 + P 12 else if l = (3 : Int32) then P 16 * 2 + P 14 else if l = (6 : Int32) then P 23 else if l = (7 : Int32) then x + P 25 / 4 else if l = (9 : Int32) then x + P 30 else if l = (24 : Int32) then 3 else x
def by_test (l : Int32) (P : Nat → Int32) (x : Int32) : Int32 := if l = (0 : Int32) then P 2 + P 3 else if l = (1 : Int32) then x + P 7 - P 9 else if l = (2 : Int32) then x + P 11 * P 12 else if l = (4 : Int32) then x * 2 - P 17 else if l = (8 : Int32) then x + P 26 - P 28 else if l = (11 : Int32) then x * 3 + P 36 else if l = (15 : Int32) then x + P 42 else if l = (21 : Int32) then x - P 31 else if l = (25 : Int32) then x + P 57 else if l = (28 : Int32) then x - P 61 else x
def by_channels (l : Int32) (P : Nat → Int32) (x : Int32) : Int32 := if l = (9 : Int32) then 1 else if l = (10 : Int32) then P 34 else if l = (11 : Int32) then x + P 36 else if l = (12 : Int32) then 2 else if l = (13 : Int32) then x + P 38 else if l = (14 : Int32) then 3 + P 39 else x
def by_push (l : Int32) (P : Nat → Int32) (x : Int32) : Int32 := if l = (15 : Int32) then 4 + P 35 else if l = (16 : Int32) then 2 + P 43 / 100 else if l = (17 : Int32) then P 46 + P 45 - x else if l = (18 : Int32) then x * (1 + P 47) else if l = (19 : Int32) then x / 2 + P 48 else x
def byQ (q : Nat) (l : Int32) (P : Nat → Int32) (x : Int32) : Int32 := if q = 0 then by_mass l P x else if q = 1 then by_span l P x else if q = 2 then by_need l P x else if q = 3 then by_test l P x else if q = 4 then by_channels l P x else by_push l P x
def foldQ (q : Nat) (P : Nat → Int32) (ls : List Nat) (x : Int32) : Int32 := ls.foldl (fun y l => byQ q (nI l) P y) x
def ansV (q c : Nat) (P : Nat → Int32) : Int32 := foldQ q P (chn c) 0
theorem chn_len : ∀ c, c < 29 → (chn c).length ≤ 5 := by decide +kernel
theorem foldQ_step {q i : Nat} {P : Nat → Int32} {ls : List Nat} {x : Int32} (hi : i < ls.length) : foldQ q P (ls.drop i) x = foldQ q P (ls.drop (i + 1)) (byQ q (nI (ls.getD i 0)) P x) := by
  unfold foldQ
  rw [List.drop_eq_getElem_cons hi, List.foldl_cons, List.getD_eq_getElem?_getD, List.getElem?_eq_getElem hi]
  rfl
theorem foldQ_end {q i : Nat} {P : Nat → Int32} {ls : List Nat} {x : Int32} (hi : ls.length ≤ i) : foldQ q P (ls.drop i) x = x := by
  unfold foldQ
  rw [List.drop_eq_nil_of_le hi]
  rfl

theorem massC_loop {N pb u : Nat} {c : MI} {L : ML} {ls : List Nat} (hu : u ≤ 20) (h7 : c (U u) 7 = nI ls.length) (h5 : ls.length ≤ 5) (hl : ∀ i, i < ls.length → c (U u + 2) i = nI (ls.getD i 0)) : ∀ (j i k : Nat) (x : Int32), i + j = ls.length → j < k → LF_X9_mass_4 N k (U u) x (nI i) c L (GRf pb) = some (foldQ 0 (fun k => c (U u + 1) k) (ls.drop i) x) := by
  intro j
  induction j with
  | zero =>
    intro i k x hi hk
    obtain ⟨k, rfl⟩ : ∃ z, k = z + 1 := ⟨k - 1, by omega⟩
    rw [LF_X9_mass_4, h7, if_pos (nI_le (by omega) (by omega)), foldQ_end (by omega)]
  | succ j ih =>
    intro i k x hi hk
    obtain ⟨k, rfl⟩ : ∃ z, k = z + 1 := ⟨k - 1, by omega⟩
    rw [LF_X9_mass_4, h7, if_neg (nI_ge (by omega) (by omega)), rf_U1 hu]
    simp only [Option.bind_some]
    rw [ln_U2 hu, if_neg (show ¬ Int32.ofNat 5 ≤ nI i from nI_ge (b := 5) (by omega) (by decide)), ri_nI (ln_U2 hu) (show i < 5 by omega) (by decide), hl i (by omega)]
    simp only [rf_U0 hu, Option.bind_some, rp_9 hu, rp_23 hu, rp_43 hu, rp_61 hu, wr]
    rw [foldQ_step (by omega), ← ih (i + 1) k _ (by omega) (by omega), ← nI_1]
    generalize nI (ls.getD i 0) = v
    have e : byQ 0 v (fun k => c (U u + 1) k) x = by_mass v (fun k => c (U u + 1) k) x := rfl
    rw [e]
    unfold bn1
    refine (congrArg (fun z => Option.bind z _) (show _ = some (by_mass v (fun k => c (U u + 1) k) x) from ?_)).trans rfl
    simp only [by_mass, apply_ite some]
theorem massC_ok {N pb u cd : Nat} {c : MI} {L : ML} (hN : 6 ≤ N) (hu : u ≤ 20) (hc : cd < 29) (h7 : c (U u) 7 = nI (chn cd).length) (hl : ∀ i, i < (chn cd).length → c (U u + 2) i = nI ((chn cd).getD i 0)) : F_X9_mass N (U u) c L (GRf pb) = some (ansV 0 cd (fun k => c (U u + 1) k)) := by
  have h5 := chn_len cd hc
  have h := massC_loop (N := N) (pb := pb) (L := L) hu h7 h5 hl (chn cd).length 0 N 0 (by omega) (by omega)
  simp only [F_X9_mass, ck_U hu, if_true]
  rw [show (0 : Int32) = nI 0 from rfl] at h ⊢
  rw [h]
  rfl
theorem massM_ok {pb u : Nat} {m : MI} {L : ML} {l x : Int32} (hu : u < 20) : F_X12_massBy 24 (nI u) l x m L (GRf pb) = some (byQ 0 l (fun k => m 37 (65 * u + k)) x) := by
  have e : byQ 0 l (fun k => m 37 (65 * u + k)) x = by_mass l (fun k => m 37 (65 * u + k)) x := rfl
  rw [e]
  simp only [F_X12_massBy, ck_24, if_true, bn1, gt_9 hu, gt_23 hu, gt_43 hu, gt_61 hu, Option.bind_some]
  simp only [by_mass, apply_ite some]
theorem spanC_loop {N pb u : Nat} {c : MI} {L : ML} {ls : List Nat} (hu : u ≤ 20) (h7 : c (U u) 7 = nI ls.length) (h5 : ls.length ≤ 5) (hl : ∀ i, i < ls.length → c (U u + 2) i = nI (ls.getD i 0)) : ∀ (j i k : Nat) (x : Int32), i + j = ls.length → j < k → LF_X9_span_4 N k (U u) x (nI i) c L (GRf pb) = some (foldQ 1 (fun k => c (U u + 1) k) (ls.drop i) x) := by
  intro j
  induction j with
  | zero =>
    intro i k x hi hk
    obtain ⟨k, rfl⟩ : ∃ z, k = z + 1 := ⟨k - 1, by omega⟩
    rw [LF_X9_span_4, h7, if_pos (nI_le (by omega) (by omega)), foldQ_end (by omega)]
  | succ j ih =>
    intro i k x hi hk
    obtain ⟨k, rfl⟩ : ∃ z, k = z + 1 := ⟨k - 1, by omega⟩
    rw [LF_X9_span_4, h7, if_neg (nI_ge (by omega) (by omega)), rf_U1 hu]
    simp only [Option.bind_some]
    rw [ln_U2 hu, if_neg (show ¬ Int32.ofNat 5 ≤ nI i from nI_ge (b := 5) (by omega) (by decide)), ri_nI (ln_U2 hu) (show i < 5 by omega) (by decide), hl i (by omega)]
    simp only [rf_U0 hu, Option.bind_some, rp_9 hu, rp_12 hu, rp_16 hu, rp_18 hu, rp_30 hu, rp_39 hu, rp_49 hu, rp_54 hu, rp_55 hu, rp_59 hu, wr]
    rw [foldQ_step (by omega), ← ih (i + 1) k _ (by omega) (by omega), ← nI_1]
    generalize nI (ls.getD i 0) = v
    have e : byQ 1 v (fun k => c (U u + 1) k) x = by_span v (fun k => c (U u + 1) k) x := rfl
    rw [e]
    unfold bn1
    refine (congrArg (fun z => Option.bind z _) (show _ = some (by_span v (fun k => c (U u + 1) k) x) from ?_)).trans rfl
    simp only [by_span, apply_ite some]
theorem spanC_ok {N pb u cd : Nat} {c : MI} {L : ML} (hN : 6 ≤ N) (hu : u ≤ 20) (hc : cd < 29) (h7 : c (U u) 7 = nI (chn cd).length) (hl : ∀ i, i < (chn cd).length → c (U u + 2) i = nI ((chn cd).getD i 0)) : F_X9_span N (U u) c L (GRf pb) = some (ansV 1 cd (fun k => c (U u + 1) k)) := by
  have h5 := chn_len cd hc
  have h := spanC_loop (N := N) (pb := pb) (L := L) hu h7 h5 hl (chn cd).length 0 N 0 (by omega) (by omega)
  simp only [F_X9_span, ck_U hu, if_true]
  rw [show (0 : Int32) = nI 0 from rfl] at h ⊢
  rw [h]
  rfl
theorem spanM_ok {pb u : Nat} {m : MI} {L : ML} {l x : Int32} (hu : u < 20) (h49 : nn (m 37 (65 * u + 49)) 100000) (h59 : nn (m 37 (65 * u + 59)) 100000) : F_X12_spanBy 24 (nI u) l x m L (GRf pb) = some (byQ 1 l (fun k => m 37 (65 * u + k)) x) := by
  have e : byQ 1 l (fun k => m 37 (65 * u + k)) x = by_span l (fun k => m 37 (65 * u + k)) x := rfl
  rw [e]
  obtain ⟨a, a1, a2⟩ := h49
  obtain ⟨b, b1, b2⟩ := h59
  have f1 : F_X12_mod (m 37 (65 * u + 49)) 3 m L (GRf pb) = some (iR (m 37 (65 * u + 49)) 3) := by
    rw [mod_val (by decide), a2]
    exact congrArg some (md_iR (d := 3) (by omega) (by decide) (by decide))
  have f2 : F_X12_mod (m 37 (65 * u + 59)) 2 m L (GRf pb) = some (iR (m 37 (65 * u + 59)) 2) := by
    rw [mod_val (by decide), b2]
    exact congrArg some (md_iR (d := 2) (by omega) (by decide) (by decide))
  simp only [F_X12_spanBy, ck_24, if_true, bn1, gt_9 hu, gt_12 hu, gt_16 hu, gt_18 hu, gt_30 hu, gt_39 hu, gt_49 hu, gt_54 hu, gt_55 hu, gt_59 hu, Option.bind_some, f1, f2]
  simp only [by_span, apply_ite some]
theorem needC_loop {N pb u : Nat} {c : MI} {L : ML} {ls : List Nat} (hu : u ≤ 20) (h7 : c (U u) 7 = nI ls.length) (h5 : ls.length ≤ 5) (hl : ∀ i, i < ls.length → c (U u + 2) i = nI (ls.getD i 0)) : ∀ (j i k : Nat) (x : Int32), i + j = ls.length → j < k → LF_X9_need_4 N k (U u) x (nI i) c L (GRf pb) = some (foldQ 2 (fun k => c (U u + 1) k) (ls.drop i) x) := by
  intro j
  induction j with
  | zero =>
    intro i k x hi hk
    obtain ⟨k, rfl⟩ : ∃ z, k = z + 1 := ⟨k - 1, by omega⟩
    rw [LF_X9_need_4, h7, if_pos (nI_le (by omega) (by omega)), foldQ_end (by omega)]
  | succ j ih =>
    intro i k x hi hk
    obtain ⟨k, rfl⟩ : ∃ z, k = z + 1 := ⟨k - 1, by omega⟩
    rw [LF_X9_need_4, h7, if_neg (nI_ge (by omega) (by omega)), rf_U1 hu]
    simp only [Option.bind_some]
    rw [ln_U2 hu, if_neg (show ¬ Int32.ofNat 5 ≤ nI i from nI_ge (b := 5) (by omega) (by decide)), ri_nI (ln_U2 hu) (show i < 5 by omega) (by decide), hl i (by omega)]
    simp only [rf_U0 hu, Option.bind_some, rp_11 hu, rp_12 hu, rp_14 hu, rp_16 hu, rp_23 hu, rp_25 hu, rp_30 hu, wr]
    rw [foldQ_step (by omega), ← ih (i + 1) k _ (by omega) (by omega), ← nI_1]
    generalize nI (ls.getD i 0) = v
    have e : byQ 2 v (fun k => c (U u + 1) k) x = by_need v (fun k => c (U u + 1) k) x := rfl
    rw [e]
    unfold bn1
    refine (congrArg (fun z => Option.bind z _) (show _ = some (by_need v (fun k => c (U u + 1) k) x) from ?_)).trans rfl
    simp only [by_need, apply_ite some]
theorem needC_ok {N pb u cd : Nat} {c : MI} {L : ML} (hN : 6 ≤ N) (hu : u ≤ 20) (hc : cd < 29) (h7 : c (U u) 7 = nI (chn cd).length) (hl : ∀ i, i < (chn cd).length → c (U u + 2) i = nI ((chn cd).getD i 0)) : F_X9_need N (U u) c L (GRf pb) = some (ansV 2 cd (fun k => c (U u + 1) k)) := by
  have h5 := chn_len cd hc
  have h := needC_loop (N := N) (pb := pb) (L := L) hu h7 h5 hl (chn cd).length 0 N 0 (by omega) (by omega)
  simp only [F_X9_need, ck_U hu, if_true]
  rw [show (0 : Int32) = nI 0 from rfl] at h ⊢
  rw [h]
  rfl
theorem needM_ok {pb u : Nat} {m : MI} {L : ML} {l x : Int32} (hu : u < 20) : F_X12_needBy 24 (nI u) l x m L (GRf pb) = some (byQ 2 l (fun k => m 37 (65 * u + k)) x) := by
  have e : byQ 2 l (fun k => m 37 (65 * u + k)) x = by_need l (fun k => m 37 (65 * u + k)) x := rfl
  rw [e]
  simp only [F_X12_needBy, ck_24, if_true, bn1, gt_11 hu, gt_12 hu, gt_14 hu, gt_16 hu, gt_23 hu, gt_25 hu, gt_30 hu, Option.bind_some]
  simp only [by_need, apply_ite some]
theorem testC_loop {N pb u : Nat} {c : MI} {L : ML} {ls : List Nat} (hu : u ≤ 20) (h7 : c (U u) 7 = nI ls.length) (h5 : ls.length ≤ 5) (hl : ∀ i, i < ls.length → c (U u + 2) i = nI (ls.getD i 0)) : ∀ (j i k : Nat) (x : Int32), i + j = ls.length → j < k → LF_X9_test_4 N k (U u) x (nI i) c L (GRf pb) = some (foldQ 3 (fun k => c (U u + 1) k) (ls.drop i) x) := by
  intro j
  induction j with
  | zero =>
    intro i k x hi hk
    obtain ⟨k, rfl⟩ : ∃ z, k = z + 1 := ⟨k - 1, by omega⟩
    rw [LF_X9_test_4, h7, if_pos (nI_le (by omega) (by omega)), foldQ_end (by omega)]
  | succ j ih =>
    intro i k x hi hk
    obtain ⟨k, rfl⟩ : ∃ z, k = z + 1 := ⟨k - 1, by omega⟩
    rw [LF_X9_test_4, h7, if_neg (nI_ge (by omega) (by omega)), rf_U1 hu]
    simp only [Option.bind_some]
    rw [ln_U2 hu, if_neg (show ¬ Int32.ofNat 5 ≤ nI i from nI_ge (b := 5) (by omega) (by decide)), ri_nI (ln_U2 hu) (show i < 5 by omega) (by decide), hl i (by omega)]
    simp only [rf_U0 hu, Option.bind_some, rp_2 hu, rp_3 hu, rp_7 hu, rp_9 hu, rp_11 hu, rp_12 hu, rp_17 hu, rp_26 hu, rp_28 hu, rp_31 hu, rp_36 hu, rp_42 hu, rp_57 hu, rp_61 hu, wr]
    rw [foldQ_step (by omega), ← ih (i + 1) k _ (by omega) (by omega), ← nI_1]
    generalize nI (ls.getD i 0) = v
    have e : byQ 3 v (fun k => c (U u + 1) k) x = by_test v (fun k => c (U u + 1) k) x := rfl
    rw [e]
    unfold bn1
    refine (congrArg (fun z => Option.bind z _) (show _ = some (by_test v (fun k => c (U u + 1) k) x) from ?_)).trans rfl
    simp only [by_test, apply_ite some]
theorem testC_ok {N pb u cd : Nat} {c : MI} {L : ML} (hN : 6 ≤ N) (hu : u ≤ 20) (hc : cd < 29) (h7 : c (U u) 7 = nI (chn cd).length) (hl : ∀ i, i < (chn cd).length → c (U u + 2) i = nI ((chn cd).getD i 0)) : F_X9_test N (U u) c L (GRf pb) = some (ansV 3 cd (fun k => c (U u + 1) k)) := by
  have h5 := chn_len cd hc
  have h := testC_loop (N := N) (pb := pb) (L := L) hu h7 h5 hl (chn cd).length 0 N 0 (by omega) (by omega)
  simp only [F_X9_test, ck_U hu, if_true]
  rw [show (0 : Int32) = nI 0 from rfl] at h ⊢
  rw [h]
  rfl
theorem testM_ok {pb u : Nat} {m : MI} {L : ML} {l x : Int32} (hu : u < 20) : F_X12_testBy 24 (nI u) l x m L (GRf pb) = some (byQ 3 l (fun k => m 37 (65 * u + k)) x) := by
  have e : byQ 3 l (fun k => m 37 (65 * u + k)) x = by_test l (fun k => m 37 (65 * u + k)) x := rfl
  rw [e]
  simp only [F_X12_testBy, ck_24, if_true, bn1, gt_2 hu, gt_3 hu, gt_7 hu, gt_9 hu, gt_11 hu, gt_12 hu, gt_17 hu, gt_26 hu, gt_28 hu, gt_31 hu, gt_36 hu, gt_42 hu, gt_57 hu, gt_61 hu, Option.bind_some]
  simp only [by_test, apply_ite some]
theorem channelsC_loop {N pb u : Nat} {c : MI} {L : ML} {ls : List Nat} (hu : u ≤ 20) (h7 : c (U u) 7 = nI ls.length) (h5 : ls.length ≤ 5) (hl : ∀ i, i < ls.length → c (U u + 2) i = nI (ls.getD i 0)) : ∀ (j i k : Nat) (x : Int32), i + j = ls.length → j < k → LF_X9_channels_4 N k (U u) x (nI i) c L (GRf pb) = some (foldQ 4 (fun k => c (U u + 1) k) (ls.drop i) x) := by
  intro j
  induction j with
  | zero =>
    intro i k x hi hk
    obtain ⟨k, rfl⟩ : ∃ z, k = z + 1 := ⟨k - 1, by omega⟩
    rw [LF_X9_channels_4, h7, if_pos (nI_le (by omega) (by omega)), foldQ_end (by omega)]
  | succ j ih =>
    intro i k x hi hk
    obtain ⟨k, rfl⟩ : ∃ z, k = z + 1 := ⟨k - 1, by omega⟩
    rw [LF_X9_channels_4, h7, if_neg (nI_ge (by omega) (by omega)), rf_U1 hu]
    simp only [Option.bind_some]
    rw [ln_U2 hu, if_neg (show ¬ Int32.ofNat 5 ≤ nI i from nI_ge (b := 5) (by omega) (by decide)), ri_nI (ln_U2 hu) (show i < 5 by omega) (by decide), hl i (by omega)]
    simp only [rf_U0 hu, Option.bind_some, rp_34 hu, rp_36 hu, rp_38 hu, rp_39 hu, wr]
    rw [foldQ_step (by omega), ← ih (i + 1) k _ (by omega) (by omega), ← nI_1]
    generalize nI (ls.getD i 0) = v
    have e : byQ 4 v (fun k => c (U u + 1) k) x = by_channels v (fun k => c (U u + 1) k) x := rfl
    rw [e]
    unfold bn1
    refine (congrArg (fun z => Option.bind z _) (show _ = some (by_channels v (fun k => c (U u + 1) k) x) from ?_)).trans rfl
    simp only [by_channels, apply_ite some]
theorem channelsC_ok {N pb u cd : Nat} {c : MI} {L : ML} (hN : 6 ≤ N) (hu : u ≤ 20) (hc : cd < 29) (h7 : c (U u) 7 = nI (chn cd).length) (hl : ∀ i, i < (chn cd).length → c (U u + 2) i = nI ((chn cd).getD i 0)) : F_X9_channels N (U u) c L (GRf pb) = some (ansV 4 cd (fun k => c (U u + 1) k)) := by
  have h5 := chn_len cd hc
  have h := channelsC_loop (N := N) (pb := pb) (L := L) hu h7 h5 hl (chn cd).length 0 N 0 (by omega) (by omega)
  simp only [F_X9_channels, ck_U hu, if_true]
  rw [show (0 : Int32) = nI 0 from rfl] at h ⊢
  rw [h]
  rfl
theorem channelsM_ok {pb u : Nat} {m : MI} {L : ML} {l x : Int32} (hu : u < 20) : F_X12_channelsBy 24 (nI u) l x m L (GRf pb) = some (byQ 4 l (fun k => m 37 (65 * u + k)) x) := by
  have e : byQ 4 l (fun k => m 37 (65 * u + k)) x = by_channels l (fun k => m 37 (65 * u + k)) x := rfl
  rw [e]
  simp only [F_X12_channelsBy, ck_24, if_true, bn1, gt_34 hu, gt_36 hu, gt_38 hu, gt_39 hu, Option.bind_some]
  simp only [by_channels, apply_ite some]
theorem pushC_loop {N pb u : Nat} {c : MI} {L : ML} {ls : List Nat} (hu : u ≤ 20) (h7 : c (U u) 7 = nI ls.length) (h5 : ls.length ≤ 5) (hl : ∀ i, i < ls.length → c (U u + 2) i = nI (ls.getD i 0)) : ∀ (j i k : Nat) (x : Int32), i + j = ls.length → j < k → LF_X9_push_4 N k (U u) x (nI i) c L (GRf pb) = some (foldQ 5 (fun k => c (U u + 1) k) (ls.drop i) x) := by
  intro j
  induction j with
  | zero =>
    intro i k x hi hk
    obtain ⟨k, rfl⟩ : ∃ z, k = z + 1 := ⟨k - 1, by omega⟩
    rw [LF_X9_push_4, h7, if_pos (nI_le (by omega) (by omega)), foldQ_end (by omega)]
  | succ j ih =>
    intro i k x hi hk
    obtain ⟨k, rfl⟩ : ∃ z, k = z + 1 := ⟨k - 1, by omega⟩
    rw [LF_X9_push_4, h7, if_neg (nI_ge (by omega) (by omega)), rf_U1 hu]
    simp only [Option.bind_some]
    rw [ln_U2 hu, if_neg (show ¬ Int32.ofNat 5 ≤ nI i from nI_ge (b := 5) (by omega) (by decide)), ri_nI (ln_U2 hu) (show i < 5 by omega) (by decide), hl i (by omega)]
    simp only [rf_U0 hu, Option.bind_some, rp_35 hu, rp_43 hu, rp_45 hu, rp_46 hu, rp_47 hu, rp_48 hu, wr]
    rw [foldQ_step (by omega), ← ih (i + 1) k _ (by omega) (by omega), ← nI_1]
    generalize nI (ls.getD i 0) = v
    have e : byQ 5 v (fun k => c (U u + 1) k) x = by_push v (fun k => c (U u + 1) k) x := rfl
    rw [e]
    unfold bn1
    refine (congrArg (fun z => Option.bind z _) (show _ = some (by_push v (fun k => c (U u + 1) k) x) from ?_)).trans rfl
    simp only [by_push, apply_ite some]
theorem pushC_ok {N pb u cd : Nat} {c : MI} {L : ML} (hN : 6 ≤ N) (hu : u ≤ 20) (hc : cd < 29) (h7 : c (U u) 7 = nI (chn cd).length) (hl : ∀ i, i < (chn cd).length → c (U u + 2) i = nI ((chn cd).getD i 0)) : F_X9_push N (U u) c L (GRf pb) = some (ansV 5 cd (fun k => c (U u + 1) k)) := by
  have h5 := chn_len cd hc
  have h := pushC_loop (N := N) (pb := pb) (L := L) hu h7 h5 hl (chn cd).length 0 N 0 (by omega) (by omega)
  simp only [F_X9_push, ck_U hu, if_true]
  rw [show (0 : Int32) = nI 0 from rfl] at h ⊢
  rw [h]
  rfl
theorem pushM_ok {pb u : Nat} {m : MI} {L : ML} {l x : Int32} (hu : u < 20) : F_X12_pushBy 24 (nI u) l x m L (GRf pb) = some (byQ 5 l (fun k => m 37 (65 * u + k)) x) := by
  have e : byQ 5 l (fun k => m 37 (65 * u + k)) x = by_push l (fun k => m 37 (65 * u + k)) x := rfl
  rw [e]
  simp only [F_X12_pushBy, ck_24, if_true, bn1, gt_35 hu, gt_43 hu, gt_45 hu, gt_46 hu, gt_47 hu, gt_48 hu, Option.bind_some]
  simp only [by_push, apply_ite some]
