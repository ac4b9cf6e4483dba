/-! T3: power -/
theorem uI_id {I : MI} {a k : Nat} : uI I a k (I a k) = I := by
  funext o p
  unfold uI
  split
  · next z => rw [z.1, z.2]
  · rfl
theorem uI_id0 {I : MI} {a k : Nat} : uI I a k (I a k + 0) = I := by rw [Int32.add_zero]; exact uI_id
theorem uI_comm {I : MI} {a k b l : Nat} {v w : Int32} (h : ¬ (a = b ∧ k = l)) : uI (uI I a k v) b l w = uI (uI I b l w) a k v := by
  funext o p
  unfold uI
  by_cases h1 : o = b ∧ p = l
  · have h2 : ¬ (o = a ∧ p = k) := by omega
    simp only [if_pos h1, if_neg h2]
  · simp only [if_neg h1]
theorem uI_two {I : MI} {a k : Nat} {v w : Int32} : uI (uI I a k v) a k w = uI I a k w := by
  funext o p
  unfold uI
  by_cases h1 : o = a ∧ p = k
  · simp only [if_pos h1]
  · simp only [if_neg h1]
def mx0 (x : Int32) : Int32 := if 0 ≤ x then x else 0
theorem max_val {x : Int32} {I : MI} {L : ML} {R : MR} : F_J9_max_7cf53 0 x I L R = some (mx0 x) := by
  unfold F_J9_max_7cf53 mx0
  by_cases h : (0 : Int32) < x
  · rw [if_pos h, if_pos (Int32.le_of_lt h)]
  · rw [if_neg h]
    by_cases h2 : (0 : Int32) ≤ x
    · rw [if_pos h2]
      have : x = 0 := Int32.le_antisymm (Int32.not_lt.mp h) h2
      rw [this]
    · rw [if_neg h2]
theorem abv_neg {x : Int32} (h : x ≤ 0) : abv x = -x := by
  unfold abv
  by_cases h2 : (0 : Int32) ≤ x
  · have : x = 0 := Int32.le_antisymm h h2
    rw [if_pos h2, this]; rfl
  · rw [if_neg h2]
theorem abv_pos {x : Int32} (h : ¬ x ≤ 0) : abv x = x := by
  unfold abv
  rw [if_pos (Int32.le_of_lt (Int32.not_le.mp h))]
theorem mnv_as {a b c : Int32} : mnv a (mnv b c) = mnv (mnv a b) c := Int32.toInt_inj.mp (by simp only [mnv_toInt]; omega)
theorem ofv_nI (a b : Int32) : ∃ k, k < 3600 ∧ ofv a b = nI k - nI 1800 := by
  obtain ⟨k, h1, h2⟩ := md_nn (x := b - a + 1800) (d := 3600) (by decide) (by decide)
  refine ⟨k, h1, ?_⟩
  unfold ofv
  exact congrArg (· - nI 1800) h2
theorem abv_ofv (a b : Int32) : ∃ k, k ≤ 1800 ∧ abv (ofv a b) = nI k := by
  obtain ⟨k, h1, h2⟩ := ofv_nI a b
  rw [h2]
  by_cases q : 1800 ≤ k
  · rw [pk_sub q, abv, if_pos (nI_pos' (by omega))]
    exact ⟨k - 1800, by omega, rfl⟩
  · have z := pk_sneg (a := k) (b := 1800) (by decide) (by omega)
    rw [abv_neg (Int32.le_of_lt z), Int32.neg_sub, pk_sub (by omega)]
    exact ⟨1800 - k, by omega, rfl⟩
theorem slant (a b : Int32) : ∃ j, j < 16 ∧ abv (ofv a b) / 120 = nI j := by
  obtain ⟨k, h1, h2⟩ := abv_ofv a b
  rw [h2]
  exact ⟨k / 120, by omega, pk_div (d := 120) (by omega) (by decide) (by decide)⟩
theorem stv_fall : ∀ j, j < 16 → stv 302 j = fallT.getD j 0 := by decide
theorem rt_302 {j : Nat} (hj : j < 16) : rt 302 (nI j) = some (fallT.getD j 0) := by
  unfold rt
  rw [show (stT 302).length = 16 by decide, if_pos (inb_nI hj (by decide)), ix_nI (by omega), stv_fall j hj]
theorem i25 : ∀ c, c < 29 → isL c 25 = true → c = 25 := by decide
theorem i24 : ∀ c, c < 29 → isL c 24 = true → c = 24 := by decide
theorem i2n5 : ∀ c, c < 29 → isL c 2 = true → c ≠ 5 := by decide
theorem i44 : isL 4 4 = true := by decide
section P3
variable {N n : Nat} {cd : Nat → Nat} {pb : Nat} {L : ML} {t s0 B D : Nat} {c m : MI}
theorem burn_ok {i : Nat} {x : Int32} (hN : 5000 ≤ N) (h : RC n cd pb L t s0 B D c (uI m 24 49 x)) (hi : i < n) (h25 : isL (cd i) 25 = true) : ∃ y c1 m1, F_X6_burn 16 (U i) (nI t) c L (GRf pb) = some (y, c1) ∧ F_X12_given N 24 (nI i) m L (GRf pb) = some (y, m1) ∧ RC n cd pb L t s0 B D c1 (uI m1 24 49 x) ∧ ∀ o p, o ≠ 37 → m1 o p = m o p := by
  have hu := h.lt20 hi
  have hu' : i ≤ 20 := by omega
  obtain ⟨v, hv, h4, q27⟩ := (h.si hi).2.2.2.2.2.2.2.2.2.2.2.2.2.1 (Or.inr (i25 _ (h.cd29 hi) h25))
  have q27 : m 37 (65 * i + 27) = nI v := q27
  have hv20 := h.lt20 hv
  have hv' : v ≤ 20 := by omega
  have p27 : c (U i + 1) 27 = m 37 (65 * i + 27) := h.pt (k := 27) hi (by decide) (by decide) (by decide) (by decide) (by decide)
  have p43 : c (U i + 1) 43 = m 37 (65 * i + 43) := h.pt (k := 43) hi (by decide) (by decide) (by decide) (by decide) (by decide)
  have p10 : c (U v + 1) 10 = m 37 (65 * v + 10) := h.pt (k := 10) hv (by decide) (by decide) (by decide) (by decide) (by decide)
  have g4 : F_X9_isWhole (U v) 4 c L (GRf pb) = some (isL (cd v) 4 && decide (m 37 (65 * v + 63) = 0)) := h.wh (l := 4) hv (by decide)
  rw [h4, i44, Bool.true_and] at g4
  have f25 : F_X12_isA N 24 (nI i) 25 m L (GRf pb) = some (isL (cd i) 25) := isA_ok (l := 25) (by omega) (fun j hj => h.cm j hj) hu (h.cd29 hi) (by decide) (h.un hi).2.2.2.2.1
  have whv : F_X12_isWhole 24 (nI v) m L (GRf pb) = _ := wholeM_ok hv20
  have tk : m 24 34 = nI t := h.tick
  have ht := h.tlt
  have f1 : F_X11_isMultiple (nI t) 8 c L (GRf pb) = _ := isMul_val (k := 8) (by omega) (by decide) (by decide)
  have f2 : (iR (nI t) 8 = 0) ↔ _ := iR_zero (k := 8) (t := t) (by omega) (by decide) (by decide)
  have w43 : ∀ z, uI m 37 (65 * v + 10) z 37 (65 * i + 43) = m 37 (65 * i + 43) := fun z => uI_at (by omega)
  have k43 : ∀ z, uI c (U v + 1) 10 z (U i + 1) 43 = m 37 (65 * i + 43) := fun z => by rw [uI_at (by omega)]; exact p43
  cases b1 : decide (m 37 (65 * v + 63) = 0) with
  | false =>
    refine ⟨0, _, _, ?_, ?_, h, fun _ _ _ => rfl⟩ <;> simp only [F_X6_burn, F_X12_given, ck_16, ck_24, ck_U hu', ck_U hv', if_true, if_false, rf_16_0, rf_U0 hu', rf_U0 hv', bse, b1e, rp_27 hu', p27, q27, h.at hv, g4, b1, b2f, b2t, f25, h25, gt_27 hu, whv]
  | true =>
    by_cases lv : 0 < m 37 (65 * v + 10)
    · by_cases q : t % 8 = 0
      · have hr := h.part (k := 10) (v := m 37 (65 * v + 10) - 1) (w := m 37 (65 * v + 10) + -1) hv (by unfold dynP; omega) (by omega) (by omega) (Int32.sub_eq_add_neg _ _)
        rw [uI_comm (by omega)] at hr
        refine ⟨m 37 (65 * i + 43), _, _, ?_, ?_, hr, fun o p z => uI_at (by omega)⟩ <;> simp only [F_X6_burn, F_X12_given, ck_16, ck_24, ck_U hu', ck_U hv', if_true, if_false, rf_16_0, rf_U0 hu', rf_U0 hv', bse, b1e, rp_27 hu', p27, q27, h.at hv, g4, b1, b2f, b2t, f25, h25, gt_27 hu, whv, rp_10 hv', p10, gt_10 hv20, if_pos lv, f1, q, decide_true, wp_10 hv', tk, if_pos (f2.mpr q), gw_10 hv20, rp_43 hu', gt_43 hu, w43, k43]
      · refine ⟨m 37 (65 * i + 43), _, _, ?_, ?_, h, fun _ _ _ => rfl⟩ <;> simp only [F_X6_burn, F_X12_given, ck_16, ck_24, ck_U hu', ck_U hv', if_true, if_false, rf_16_0, rf_U0 hu', rf_U0 hv', bse, b1e, rp_27 hu', p27, q27, h.at hv, g4, b1, b2f, b2t, f25, h25, gt_27 hu, whv, rp_10 hv', p10, gt_10 hv20, if_pos lv, f1, q, decide_false, wp_10 hv', tk, if_neg (fun z => q (f2.mp z)), gw_10 hv20, rp_43 hu', p43, gt_43 hu, uI_id0]
    · refine ⟨0, _, _, ?_, ?_, h, fun _ _ _ => rfl⟩ <;> simp only [F_X6_burn, F_X12_given, ck_16, ck_24, ck_U hu', ck_U hv', if_true, if_false, rf_16_0, rf_U0 hu', rf_U0 hv', bse, b1e, rp_27 hu', p27, q27, h.at hv, g4, b1, b2f, b2t, f25, h25, gt_27 hu, whv, rp_10 hv', p10, gt_10 hv20, if_neg lv]
theorem RC.p55 {u : Nat} (h : RC n cd pb L t s0 B D c m) (hu : u < n) (h6 : cd u = 24) : c (U u + 1) 55 = m 37 (65 * u + 55) := by
  have := h.n20
  exact h.1 _ _ _ _ (Or.inl ⟨u, by omega, by decide, ⟨hu, fun q => by omega, fun q => by omega, fun _ => h6, fun q => by omega⟩, by unfold U; omega, rfl, rfl⟩) (fun z => absurd z (by unfold U; omega))
theorem shine_ok {i : Nat} {x : Int32} (hN : 5000 ≤ N) (h : RC n cd pb L t s0 B D c (uI m 24 49 x)) (hi : i < n) (h25 : isL (cd i) 25 = false) : ∃ y c1 m1, F_X6_shine 16 (U i) (m 24 47) (m 43 1) c L (GRf pb) = some (y, c1) ∧ F_X12_given N 24 (nI i) m L (GRf pb) = some (y, m1) ∧ RC n cd pb L t s0 B D c1 (uI m1 24 49 x) ∧ ∀ o p, o ≠ 37 → m1 o p = m o p := by
  have hu := h.lt20 hi
  have hu' : i ≤ 20 := by omega
  have p54 : c (U i + 1) 54 = m 37 (65 * i + 54) := h.pt (k := 54) hi (by decide) (by decide) (by decide) (by decide) (by decide)
  have p43 : c (U i + 1) 43 = m 37 (65 * i + 43) := h.pt (k := 43) hi (by decide) (by decide) (by decide) (by decide) (by decide)
  have p56 : c (U i + 1) 56 = m 37 (65 * i + 56) := h.pt (k := 56) hi (by decide) (by decide) (by decide) (by decide) (by decide)
  have f25 : F_X12_isA N 24 (nI i) 25 m L (GRf pb) = some (isL (cd i) 25) := isA_ok (l := 25) (by omega) (fun j hj => h.cm j hj) hu (h.cd29 hi) (by decide) (h.un hi).2.2.2.2.1
  have f24 : F_X12_isA N 24 (nI i) 24 m L (GRf pb) = some (isL (cd i) 24) := isA_ok (l := 24) (by omega) (fun j hj => h.cm j hj) hu (h.cd29 hi) (by decide) (h.un hi).2.2.2.2.1
  have is24 : F_X9_is (U i) 24 c L (GRf pb) = _ := h.is (l := 24) hi (by decide)
  have t54 : ∀ j, m 54 j = fallT.getD j 0 := fun j => h.tm.2.2.2.2.2 j
  have a1 : ∀ (I : MI), ri I 43 1 = some (I 43 1) := fun I => ri_nI (k := 1) ln_43 (by decide) (by decide)
  cases e24 : isL (cd i) 24 with
  | false =>
    obtain ⟨j, hj, ej⟩ := slant (m 43 1) (900 * m 37 (65 * i + 54))
    have z0 : (nI j < 0) = False := eq_false (nI_pos (by omega))
    have z16 : ((16 : Int32) ≤ nI j) = False := eq_false (nI_ge (b := 16) hj (by decide))
    refine ⟨m 37 (65 * i + 43) * m 24 47 / 100 * fallT.getD j 0 / 100, _, _, ?_, ?_, h, fun _ _ _ => rfl⟩
    · simp only [F_X6_shine, ck_16, ck_U hu', if_true, if_false, rf_U0 hu', bse, b1e, b2e, wre, rp_54 hu', p54, offC_val, is24, e24, b2f, absC_val, ej, z0, z16, rt_302 hj, rp_43 hu', p43]
    · simp only [F_X12_given, ck_24, if_true, if_false, f25, h25, b1e, b2e, bse, wre, b2f, gt_54 hu, f24, e24, rf_24_36, a1, offM_val, absM_val, ej, gt_43 hu, rf_24_61, ri_nI ln_54 hj (show 16 < 2 ^ 31 by decide), t54]
  | true =>
    have p55 : c (U i + 1) 55 = m 37 (65 * i + 55) := h.p55 hi (i24 _ (h.cd29 hi) e24)
    have hr := h.part (k := 56) hi (by unfold dynP; omega) (by omega) (by omega) (rfl : md (m 37 (65 * i + 56) + lmt (ofv (m 37 (65 * i + 56)) (m 43 1)) (-m 37 (65 * i + 55)) (m 37 (65 * i + 55))) 3600 = _)
    rw [uI_comm (by omega)] at hr
    obtain ⟨j, hj, ej⟩ := slant (m 43 1) (md (m 37 (65 * i + 56) + lmt (ofv (m 37 (65 * i + 56)) (m 43 1)) (-m 37 (65 * i + 55)) (m 37 (65 * i + 55))) 3600)
    have z0 : (nI j < 0) = False := eq_false (nI_pos (by omega))
    have z16 : ((16 : Int32) ≤ nI j) = False := eq_false (nI_ge (b := 16) hj (by decide))
    have fm : ∀ x (I : MI), F_J9_floorMod_7cf53 x 3600 I L (GRf pb) = some (md x 3600) := fun x I => fm_val (by decide)
    have fm2 : ∀ x (I : MI), F_X12_mod x 3600 I L (GRf pb) = some (md x 3600) := fun x I => mod_val (by decide)
    have w43 : ∀ z, uI m 37 (65 * i + 56) z 37 (65 * i + 43) = m 37 (65 * i + 43) := fun z => uI_at (by omega)
    have wa : ∀ z, uI m 37 (65 * i + 56) z 43 1 = m 43 1 := fun z => uI_at (by omega)
    have wl : ∀ z, uI m 37 (65 * i + 56) z 24 47 = m 24 47 := fun z => uI_at (by omega)
    have wt : ∀ z j, uI m 37 (65 * i + 56) z 54 j = fallT.getD j 0 := fun z j => by rw [uI_at (by omega)]; exact t54 j
    have k43 : ∀ z, uI c (U i + 1) 56 z (U i + 1) 43 = m 37 (65 * i + 43) := fun z => by rw [uI_at (by omega)]; exact p43
    refine ⟨m 37 (65 * i + 43) * m 24 47 / 100 * fallT.getD j 0 / 100, _, _, ?_, ?_, hr, fun o p z => uI_at (by omega)⟩
    · simp only [F_X6_shine, ck_16, ck_U hu', if_true, if_false, rf_U0 hu', bse, b1e, b2e, wre, rp_54 hu', p54, offC_val, is24, e24, b2t, rp_56 hu', p56, rp_55 hu', p55, limC_val, Int32.zero_sub, fm, wp_56 hu', uI_same, absC_val, ej, z0, z16, rt_302 hj, rp_43 hu', k43]
    · simp only [F_X12_given, ck_24, if_true, if_false, f25, h25, b1e, b2e, bse, wre, b2f, b2t, gt_54 hu, f24, e24, gt_55 hu, gt_56 hu, rf_24_36, a1, offM_val, limM_val, fm2, st_56 hu, uI_same, absM_val, wa, wl, ej, gt_43 hu, w43, rf_24_61, ri_nI ln_54 hj (show 16 < 2 ^ 31 by decide), wt]
theorem supply_ok (hN : 5000 ≤ N) {x : Int32} (h : RC n cd pb L t s0 B D c (uI m 24 49 x)) : Sm (LF_X6_power_8 N N 16 (nI t) (m 24 47) (m 43 1) (nI 0) c L (GRf pb)) (LF_X12_power_12 N N 24 (nI 0) m L (GRf pb)) (fun a b => RC n cd pb L t s0 B D a (uI b 24 49 x) ∧ b 24 49 = m 24 49) := by
  generalize hlt : m 24 47 = lt
  generalize han : m 43 1 = an
  generalize hde : m 24 49 = de
  refine loop2 (f := fun k i I => LF_X6_power_8 N k 16 (nI t) lt an (nI i) I L (GRf pb)) (g := fun k i I => LF_X12_power_12 N k 24 (nI i) I L (GRf pb)) (R := fun _ a b => RC n cd pb L t s0 B D a (uI b 24 49 x) ∧ b 24 47 = lt ∧ b 43 1 = an ∧ b 24 49 = de) n ?_ ?_ n 0 N N c m (by omega) (by have := h.n20; omega) (by have := h.n20; omega) ⟨h, hlt, han, hde⟩
  · intro k l a b ⟨h, h1, h2, h3⟩
    have nm : b 24 21 = nI n := h.nm
    refine ⟨a, b, ?_, ?_, h, h3⟩ <;> simp only [LF_X6_power_8, LF_X12_power_12, rf_16_0, bse, h.size, b1e, nm, nle h.n20, if_true]
  · intro k l i a b hi ⟨h, h1, h2, h3⟩
    subst h1 h2 h3
    have nm : b 24 21 = nI n := h.nm
    have hu := h.lt20 hi
    have hu' : i ≤ 20 := by omega
    have wh22 : F_X9_isWhole (U i) 22 a L (GRf pb) = some (isL (cd i) 22 && decide (b 37 (65 * i + 63) = 0)) := h.wh (l := 22) hi (by decide)
    have is25 : F_X9_is (U i) 25 a L (GRf pb) = _ := h.is (l := 25) hi (by decide)
    have f22 : F_X12_isA N 24 (nI i) 22 b L (GRf pb) = some (isL (cd i) 22) := isA_ok (l := 22) (by omega) (fun j hj => h.cm j hj) hu (h.cd29 hi) (by decide) (h.un hi).2.2.2.2.1
    have whm : F_X12_isWhole 24 (nI i) b L (GRf pb) = _ := wholeM_ok hu
    have keep : ∃ a' b', LF_X6_power_8 N (k + 1) 16 (nI t) (b 24 47) (b 43 1) (nI i) a L (GRf pb) = LF_X6_power_8 N k 16 (nI t) (b 24 47) (b 43 1) (nI (i + 1)) a' L (GRf pb) ∧ LF_X12_power_12 N (l + 1) 24 (nI i) b L (GRf pb) = LF_X12_power_12 N l 24 (nI (i + 1)) b' L (GRf pb) ∧ RC n cd pb L t s0 B D a' (uI b' 24 49 x) ∧ (∀ o p, o ≠ 37 → ¬ (o = 24 ∧ p = 48) → b' o p = b o p) := by
      cases e22 : isL (cd i) 22 with
      | false =>
        refine ⟨a, b, ?_, ?_, h, fun _ _ _ _ => rfl⟩ <;> simp only [LF_X6_power_8, LF_X12_power_12, rf_16_0, bse, b1e, b2e, wre, nI_1, h.size, nm, nlt hi h.n20, if_false, if_true, h.at hi, ck_U hu', b2t, b2f, zer0, wh22, Bool.false_and, f22, e22, uI_id0]
      | true =>
        cases e63 : decide (b 37 (65 * i + 63) = 0) with
        | false =>
          refine ⟨a, b, ?_, ?_, h, fun _ _ _ _ => rfl⟩ <;> simp only [LF_X6_power_8, LF_X12_power_12, rf_16_0, bse, b1e, b2e, wre, nI_1, h.size, nm, nlt hi h.n20, if_false, if_true, h.at hi, ck_U hu', b2t, b2f, zer0, wh22, Bool.true_and, f22, e22, whm, e63, uI_id0]
        | true =>
          have fin : ∀ y c1 m1, F_X12_given N 24 (nI i) b L (GRf pb) = some (y, m1) → RC n cd pb L t s0 B D c1 (uI m1 24 49 x) → (∀ o p, o ≠ 37 → m1 o p = b o p) → RC n cd pb L t s0 B D (uI c1 16 2 (a 16 2 + y)) (uI (uI m1 24 48 (b 24 48 + y)) 24 49 x) := by
            intro y c1 m1 _ hr _
            have e1 : a 16 2 = b 24 48 := h.sc (o := 16) (p := 2) (b := 48) (by decide)
            rw [uI_comm (by omega), e1]
            exact hr.scal (o := 16) (p := 2) (b := 48) (by decide) (by decide) rfl
          cases e25 : isL (cd i) 25 with
          | false =>
            obtain ⟨y, c1, m1, g1, g2, g3, fr⟩ := shine_ok hN h hi e25
            refine ⟨_, _, ?_, ?_, fin y c1 m1 g2 g3 fr, fun o p q1 q2 => by rw [uI_at q2]; exact fr o p q1⟩ <;> simp only [LF_X6_power_8, LF_X12_power_12, rf_16_0, bse, b1e, b2e, wre, nI_1, h.size, nm, nlt hi h.n20, if_false, if_true, h.at hi, ck_U hu', b2t, b2f, one0, wh22, Bool.true_and, f22, e22, whm, e63, is25, e25, g1, g2]
          | true =>
            obtain ⟨y, c1, m1, g1, g2, g3, fr⟩ := burn_ok hN h hi e25
            refine ⟨_, _, ?_, ?_, fin y c1 m1 g2 g3 fr, fun o p q1 q2 => by rw [uI_at q2]; exact fr o p q1⟩ <;> simp only [LF_X6_power_8, LF_X12_power_12, rf_16_0, bse, b1e, b2e, wre, nI_1, h.size, nm, nlt hi h.n20, if_false, if_true, h.at hi, ck_U hu', b2t, b2f, one0, wh22, Bool.true_and, f22, e22, whm, e63, is25, e25, g1, g2]
    obtain ⟨a', b', k1, k2, k3, k4⟩ := keep
    exact ⟨a', b', k1, k2, k3, k4 24 47 (by decide) (by decide), k4 43 1 (by decide) (by decide), k4 24 49 (by decide) (by decide)⟩
theorem demand_ok (hN : 5000 ≤ N) (h : RC n cd pb L t s0 B D c m) : Sm (LF_X6_power_92 N N 16 (nI 0) c L (GRf pb)) (LF_X12_power_74 N N 24 (nI 0) m L (GRf pb)) (RC n cd pb L t s0 B D) := by
  refine loop2 (f := fun k i I => LF_X6_power_92 N k 16 (nI i) I L (GRf pb)) (g := fun k i I => LF_X12_power_74 N k 24 (nI i) I L (GRf pb)) (R := fun _ a b => RC n cd pb L t s0 B D a b) n ?_ ?_ n 0 N N c m (by omega) (by have := h.n20; omega) (by have := h.n20; omega) h
  · intro k l a b h
    refine ⟨a, b, ?_, ?_, h⟩ <;> simp only [LF_X6_power_92, LF_X12_power_74, rf_16_0, bse, h.size, b1e, h.nm, nle h.n20, if_true]
  · intro k l i a b hi h
    have hu := h.lt20 hi
    have hu' : i ≤ 20 := by omega
    have on6 : F_X9_isOn (U i) 6 a L (GRf pb) = _ := h.on (l := 6) hi (by decide) (by decide)
    have wh22 : F_X9_isWhole (U i) 22 a L (GRf pb) = _ := h.wh (l := 22) hi (by decide)
    have f22 : F_X12_isA N 24 (nI i) 22 b L (GRf pb) = _ := h.isA (l := 22) (by omega) hi (by decide)
    have onm := h.onM (show 6 ≤ N by omega) hi
    have whm := h.whM hi
    have nd := h.needC hN hi
    obtain ⟨m1, a1, b1⟩ := h.ansM (q := 2) hN hi (by decide)
    have a1 : F_X12_answer N 24 (nI i) 2 b L (GRf pb) = some (ansV 2 (cd i) (Pm b i), m1) := a1
    have h1 : RC n cd pb L t s0 B D a m1 := h.mOut (fun o p z _ _ _ => b1 o p z)
    have e1 : a 16 3 = b 24 49 := h.sc (o := 16) (p := 3) (b := 49) (by decide)
    have hr := h1.scal (o := 16) (p := 3) (b := 49) (v := a 16 3 + ansV 2 (cd i) (Pm b i)) (w := b 24 49 + ansV 2 (cd i) (Pm b i)) (by decide) (by decide) (by rw [e1])
    cases eo : (isL (cd i) 6 && decide (b 37 (65 * i + 22) = 1)) with
    | true =>
      refine ⟨_, _, ?_, ?_, hr⟩ <;> simp only [LF_X6_power_92, LF_X12_power_74, rf_16_0, bse, b1e, b2e, wre, nI_1, h.size, h.nm, nlt hi h.n20, if_false, if_true, h.at hi, ck_U hu', b2t, b2f, on6, onm, eo, nd, a1]
    | false =>
      cases e22 : isL (cd i) 22 with
      | false =>
        refine ⟨_, _, ?_, ?_, h⟩ <;> simp only [LF_X6_power_92, LF_X12_power_74, rf_16_0, bse, b1e, b2e, wre, nI_1, h.size, h.nm, nlt hi h.n20, if_false, if_true, h.at hi, ck_U hu', b2t, b2f, on6, onm, eo, wh22, f22, e22, Bool.false_and, uI_id0]
      | true =>
        cases e63 : decide (b 37 (65 * i + 63) = 0) with
        | false =>
          refine ⟨_, _, ?_, ?_, h⟩ <;> simp only [LF_X6_power_92, LF_X12_power_74, rf_16_0, bse, b1e, b2e, wre, nI_1, h.size, h.nm, nlt hi h.n20, if_false, if_true, h.at hi, ck_U hu', b2t, b2f, on6, onm, eo, wh22, f22, e22, Bool.true_and, whm, e63, uI_id0]
        | true =>
          refine ⟨_, _, ?_, ?_, hr⟩ <;> simp only [LF_X6_power_92, LF_X12_power_74, rf_16_0, bse, b1e, b2e, wre, nI_1, h.size, h.nm, nlt hi h.n20, if_false, if_true, h.at hi, ck_U hu', b2t, b2f, on6, onm, eo, wh22, f22, e22, Bool.true_and, whm, e63, nd, a1]
theorem balance_ok (hN : 5000 ≤ N) (h : RC n cd pb L t s0 B D c m) (y : Int32) : Sm (F_X6_balance N 16 y c L (GRf pb)) (LF_X12_power_145 N N 24 y (nI 0) m L (GRf pb)) (fun a b => a.1 = b.1 ∧ RC n cd pb L t s0 B D a.2 b.2) := by
  have key := loop2 (f := fun k i (z : Int32 × MI) => LF_X6_balance_4 N k 16 z.1 (nI i) z.2 L (GRf pb)) (g := fun k i (z : Int32 × MI) => LF_X12_power_145 N k 24 z.1 (nI i) z.2 L (GRf pb)) (R := fun _ a b => a.1 = b.1 ∧ RC n cd pb L t s0 B D a.2 b.2) (Q := fun a b => a.1 = b.1 ∧ RC n cd pb L t s0 B D a.2 b.2) n ?_ ?_ n 0 N N (y, c) (y, m) (by omega) (by have := h.n20; omega) (by have := h.n20; omega) ⟨rfl, h⟩
  · simp only [F_X6_balance, ck_16, if_true]
    obtain ⟨a, b, e1, e2, hr⟩ := key
    exact ⟨a, b, by rw [show (0 : Int32) = nI 0 from rfl, e1]; rfl, e2, hr⟩
  · intro k l ⟨z, a⟩ ⟨w, b⟩ ⟨hz, h⟩
    have h : RC n cd pb L t s0 B D a b := h
    refine ⟨(z, a), (w, b), ?_, ?_, hz, h⟩ <;> simp only [LF_X6_balance_4, LF_X12_power_145, rf_16_0, bse, h.size, b1e, h.nm, nle h.n20, if_true]
  · intro k l i ⟨z, a⟩ ⟨w, b⟩ hi ⟨hz, h⟩
    have hz : z = w := hz
    subst hz
    have h : RC n cd pb L t s0 B D a b := h
    have hu := h.lt20 hi
    have hu' : i ≤ 20 := by omega
    have wh2 : F_X9_isWhole (U i) 2 a L (GRf pb) = _ := h.wh (l := 2) hi (by decide)
    have ia2 : F_X12_isA N 24 (nI i) 2 b L (GRf pb) = _ := h.isA (l := 2) (by omega) hi (by decide)
    have whm := h.whM hi
    have p9 := h.pt (k := 9) hi (by decide) (by decide) (by decide) (by decide) (by decide)
    have p10 := h.pt (k := 10) hi (by decide) (by decide) (by decide) (by decide) (by decide)
    have p13 := h.pt (k := 13) hi (by decide) (by decide) (by decide) (by decide) (by decide)
    have mxr : ∀ x : Int32, (if 0 ≤ x then some x else some 0) = some (mx0 x) := fun x => by unfold mx0; split <;> rfl
    have mxe : ∀ x : Int32, mx0 x = mx0 x := fun _ => rfl
    cases e2 : isL (cd i) 2 with
    | false =>
      refine ⟨(z, a), (z, b), ?_, ?_, rfl, h⟩ <;> simp only [LF_X6_balance_4, LF_X12_power_145, rf_16_0, bse, b1e, b2e, wre, nI_1, h.size, h.nm, nlt hi h.n20, if_false, if_true, h.at hi, ck_U hu', b2t, b2f, wh2, ia2, e2, Bool.false_and]
    | true =>
      cases e63 : decide (b 37 (65 * i + 63) = 0) with
      | false =>
        refine ⟨(z, a), (z, b), ?_, ?_, rfl, h⟩ <;> simp only [LF_X6_balance_4, LF_X12_power_145, rf_16_0, bse, b1e, b2e, wre, nI_1, h.size, h.nm, nlt hi h.n20, if_false, if_true, h.at hi, ck_U hu', b2t, b2f, wh2, ia2, e2, Bool.true_and, whm, e63]
      | true =>
        by_cases zp : z ≤ 0
        · have ab := abv_neg zp
          have hr := h.part (k := 10) hi (v := b 37 (65 * i + 10) + -mx0 (mnv (mnv (-z) (b 37 (65 * i + 13))) (b 37 (65 * i + 10)))) (by unfold dynP; omega) (fun _ => i2n5 _ (h.cd29 hi) e2) (by omega) rfl
          refine ⟨(z + mx0 (mnv (mnv (-z) (b 37 (65 * i + 13))) (b 37 (65 * i + 10))), uI a (U i + 1) 10 (b 37 (65 * i + 10) + -mx0 (mnv (mnv (-z) (b 37 (65 * i + 13))) (b 37 (65 * i + 10))))), (z + mx0 (mnv (mnv (-z) (b 37 (65 * i + 13))) (b 37 (65 * i + 10))), uI b 37 (65 * i + 10) (b 37 (65 * i + 10) + -mx0 (mnv (mnv (-z) (b 37 (65 * i + 13))) (b 37 (65 * i + 10))))), ?_, ?_, rfl, hr⟩
          · simp only [LF_X6_balance_4, rf_16_0, bse, b1e, b2e, wre, nI_1, h.size, nlt hi h.n20, if_false, if_true, h.at hi, ck_U hu', b2t, b2f, wh2, e2, Bool.true_and, e63, if_pos zp, rf_U0 hu', rp_10 hu', p10, absC_val, ab, rp_13 hu', p13, minC_val, mnv_as, max_val, Int32.zero_sub, wp_10 hu', Int32.sub_neg]
          · simp only [LF_X12_power_145, bse, b1e, b2e, wre, nI_1, h.nm, nlt hi h.n20, if_false, if_true, b2t, b2f, ia2, e2, whm, e63, if_pos zp, gt_13 hu, gt_10 hu, minM_val, mxr, gw_10 hu]
        · have ab := abv_pos zp
          have hr := h.part (k := 10) hi (v := b 37 (65 * i + 10) + mx0 (mnv (mnv z (b 37 (65 * i + 13))) (b 37 (65 * i + 9) - b 37 (65 * i + 10)))) (by unfold dynP; omega) (fun _ => i2n5 _ (h.cd29 hi) e2) (by omega) rfl
          refine ⟨(z + -mx0 (mnv (mnv z (b 37 (65 * i + 13))) (b 37 (65 * i + 9) - b 37 (65 * i + 10))), uI a (U i + 1) 10 (b 37 (65 * i + 10) + mx0 (mnv (mnv z (b 37 (65 * i + 13))) (b 37 (65 * i + 9) - b 37 (65 * i + 10))))), (z + -mx0 (mnv (mnv z (b 37 (65 * i + 13))) (b 37 (65 * i + 9) - b 37 (65 * i + 10))), uI b 37 (65 * i + 10) (b 37 (65 * i + 10) + mx0 (mnv (mnv z (b 37 (65 * i + 13))) (b 37 (65 * i + 9) - b 37 (65 * i + 10))))), ?_, ?_, rfl, hr⟩
          · simp only [LF_X6_balance_4, rf_16_0, bse, b1e, b2e, wre, nI_1, h.size, nlt hi h.n20, if_false, if_true, h.at hi, ck_U hu', b2t, b2f, wh2, e2, Bool.true_and, e63, if_neg zp, rf_U0 hu', rp_9 hu', p9, rp_10 hu', p10, absC_val, ab, rp_13 hu', p13, minC_val, mnv_as, max_val, wp_10 hu', Int32.sub_eq_add_neg]
          · simp only [LF_X12_power_145, bse, b1e, b2e, wre, nI_1, h.nm, nlt hi h.n20, if_false, if_true, b2t, b2f, ia2, e2, whm, e63, if_neg zp, gt_13 hu, gt_9 hu, gt_10 hu, minM_val, mxr, gw_10 hu, Int32.sub_eq_add_neg]
def WR (n : Nat) (cd : Nat → Nat) (x : Int32) : Prop := x = -1 ∨ ∃ v, v < n ∧ x = nI v ∧ isL (cd v) 6 = true
theorem nI_m1 {v : Nat} (h : v < 2 ^ 31) : (nI v = -1) = False := eq_false (fun z => nI_pos h (by rw [z]; decide))
theorem m1_m1 : ((-1 : Int32) = -1) = True := eq_true rfl
theorem shed_ok (hN : 5000 ≤ N) (h : RC n cd pb L t s0 B D c m) : Sm (F_X6_shed N 16 c L (GRf pb)) (bn1 (LF_X12_brownout_19 N N 24 (-1) (nI 0) m L (GRf pb)) fun z => if z = -1 then some m else bn1 (F_X12_set 24 z 22 0 m L (GRf pb)) fun I => some I) (RC n cd pb L t s0 B D) := by
  have hn := h.n20
  have key := loop2 (f := fun k i (z : Int32) => LF_X6_shed_4 N k 16 z (nI i) c L (GRf pb)) (g := fun k i (z : Int32) => LF_X12_brownout_19 N k 24 z (nI i) m L (GRf pb)) (R := fun _ a b => a = b ∧ WR n cd a) (Q := fun a b => a = b ∧ WR n cd a) n ?_ ?_ n 0 N N (-1) (-1) (by omega) (by omega) (by omega) ⟨rfl, Or.inl rfl⟩
  · obtain ⟨a, b, e1, e2, e3, hw⟩ := key
    have e3 : a = b := e3
    subst e3
    have e1 : LF_X6_shed_4 N N 16 (-1) 0 c L (GRf pb) = some a := e1
    rcases hw with rfl | ⟨v, hv, rfl, h6⟩
    · refine ⟨c, m, ?_, ?_, h⟩
      · simp only [F_X6_shed, ck_16, if_true, e1, b1e, m1_m1]
      · rw [e2]; simp only [b1e, m1_m1, if_true]
    · have hv20 := h.lt20 hv
      have hv' : v ≤ 20 := by omega
      have hr := h.part (k := 22) (v := 0) (w := 0) hv (by unfold dynP; omega) (by omega) (fun _ => h6) rfl
      refine ⟨_, _, ?_, ?_, hr⟩
      · simp only [F_X6_shed, ck_16, if_true, if_false, e1, b1e, nI_m1 (show v < 2 ^ 31 by omega), rf_16_0, bse, h.at hv, ck_U hv', rf_U0 hv', wp_22 hv']
      · rw [e2]; simp only [b1e, nI_m1 (show v < 2 ^ 31 by omega), if_false, st_22 hv20]
  · intro k l a b ⟨e, hw⟩
    have e : a = b := e
    subst e
    refine ⟨a, a, ?_, ?_, rfl, hw⟩ <;> simp only [LF_X6_shed_4, LF_X12_brownout_19, rf_16_0, bse, h.size, b1e, h.nm, nle h.n20, if_true]
  · intro k l i a b hi ⟨e, hw⟩
    have e : a = b := e
    subst e
    have hu := h.lt20 hi
    have hu' : i ≤ 20 := by omega
    have on6 : F_X9_isOn (U i) 6 c L (GRf pb) = _ := h.on (l := 6) hi (by decide) (by decide)
    have onm := h.onM (show 6 ≤ N by omega) hi
    have p21 := h.pt (k := 21) hi (by decide) (by decide) (by decide) (by decide) (by decide)
    cases eo : (isL (cd i) 6 && decide (m 37 (65 * i + 22) = 1)) with
    | false =>
      refine ⟨a, a, ?_, ?_, rfl, hw⟩ <;> simp only [LF_X6_shed_4, LF_X12_brownout_19, rf_16_0, bse, b1e, wre, nI_1, h.size, h.nm, nlt hi h.n20, if_false, if_true, h.at hi, ck_U hu', b2f, on6, onm, eo]
    | true =>
      have h6 : isL (cd i) 6 = true := by rw [Bool.and_eq_true] at eo; exact eo.1
      rcases hw with rfl | ⟨v, hv, rfl, h6v⟩
      · refine ⟨nI i, nI i, ?_, ?_, rfl, Or.inr ⟨i, hi, rfl, h6⟩⟩ <;> simp only [LF_X6_shed_4, LF_X12_brownout_19, rf_16_0, bse, b1e, wre, nI_1, h.size, h.nm, nlt hi h.n20, if_false, if_true, h.at hi, ck_U hu', b2t, on6, onm, eo, m1_m1]
      · have hv20 := h.lt20 hv
        have hv' : v ≤ 20 := by omega
        have q21 := h.pt (k := 21) hv (by decide) (by decide) (by decide) (by decide) (by decide)
        by_cases q : m 37 (65 * i + 21) < m 37 (65 * v + 21)
        · refine ⟨nI v, nI v, ?_, ?_, rfl, Or.inr ⟨v, hv, rfl, h6v⟩⟩ <;> simp only [LF_X6_shed_4, LF_X12_brownout_19, rf_16_0, bse, b1e, wre, nI_1, h.size, h.nm, nlt hi h.n20, if_false, if_true, h.at hi, ck_U hu', b2t, on6, onm, eo, nI_m1 (show v < 2 ^ 31 by omega), rf_U0 hu', rp_21 hu', p21, h.at hv, ck_U hv', rf_U0 hv', rp_21 hv', q21, gt_21 hu, gt_21 hv20, if_pos q]
        · refine ⟨nI i, nI i, ?_, ?_, rfl, Or.inr ⟨i, hi, rfl, h6⟩⟩ <;> simp only [LF_X6_shed_4, LF_X12_brownout_19, rf_16_0, bse, b1e, wre, nI_1, h.size, h.nm, nlt hi h.n20, if_false, if_true, h.at hi, ck_U hu', b2t, on6, onm, eo, nI_m1 (show v < 2 ^ 31 by omega), rf_U0 hu', rp_21 hu', p21, h.at hv, ck_U hv', rf_U0 hv', rp_21 hv', q21, gt_21 hu, gt_21 hv20, if_neg q]
theorem power_ok (hN : 5000 ≤ N) (hB : B + 1 < 2 ^ 30) (h : RC n cd pb L t s0 B D c m) : Sm (F_X6_power N 16 (nI t) (m 24 47) (m 43 1) c L (GRf pb)) (F_X12_power N 24 m L (GRf pb)) (RC n cd pb L t s0 (B + 1) D) := by
  have h1 : RC n cd pb L t s0 B D (uI c 16 2 0) (uI (uI (uI m 24 48 0) 24 49 0) 24 49 (m 24 49)) := by
    have e : uI (uI (uI m 24 48 0) 24 49 0) 24 49 (m 24 49) = uI m 24 48 0 := by
      rw [uI_two, uI_comm (by omega), uI_id]
    rw [e]
    exact h.scal (by decide) (by decide) rfl
  obtain ⟨c2, m2, e1, e2, h2, h2d⟩ := supply_ok hN h1
  have h2d : m2 24 49 = 0 := by rw [h2d, uI_same]
  have h3 : RC n cd pb L t s0 B D (uI c2 16 3 0) m2 := by
    have := h2.scal (o := 16) (p := 3) (b := 49) (v := 0) (w := 0) (by decide) (by decide) rfl
    rw [uI_two] at this
    rw [show uI m2 24 49 0 = m2 by rw [← h2d]; exact uI_id] at this
    exact this
  obtain ⟨c4, m4, e3, e4, h4⟩ := demand_ok hN h3
  have s2 : c4 16 2 = m4 24 48 := h4.sc (o := 16) (p := 2) (b := 48) (by decide)
  have s3 : c4 16 3 = m4 24 49 := h4.sc (o := 16) (p := 3) (b := 49) (by decide)
  obtain ⟨⟨z, c5⟩, ⟨w, m5⟩, e5, e6, hz, h5⟩ := balance_ok hN h4 (m4 24 48 - m4 24 49)
  have hz : z = w := hz
  have h5 : RC n cd pb L t s0 B D c5 m5 := h5
  subst hz
  have l1 : uI (uI m 24 48 0) 24 49 0 24 47 = m 24 47 := rfl
  have l2 : uI (uI m 24 48 0) 24 49 0 43 1 = m 43 1 := rfl
  rw [l1, l2] at e1
  have i0 : (0 : Int32) = nI 0 := rfl
  have e1 : LF_X6_power_8 N N 16 (nI t) (m 24 47) (m 43 1) 0 (uI c 16 2 0) L (GRf pb) = some c2 := e1
  have e2 : LF_X12_power_12 N N 24 0 (uI (uI m 24 48 0) 24 49 0) L (GRf pb) = some m2 := e2
  have e3 : LF_X6_power_92 N N 16 0 (uI c2 16 3 0) L (GRf pb) = some c4 := e3
  have e4 : LF_X12_power_74 N N 24 0 m2 L (GRf pb) = some m4 := e4
  have e6 : LF_X12_power_145 N N 24 (m4 24 48 - m4 24 49) 0 m4 L (GRf pb) = some (z, m5) := e6
  by_cases zp : 0 ≤ z
  · refine ⟨c5, m5, ?_, ?_, h5.monoB (by omega) hB⟩
    · simp only [F_X6_power, ck_16, if_true, wre, e1, b1e, e3, s2, s3, e5, b2e, if_pos zp]
    · simp only [F_X12_power, ck_24, if_true, wre, e2, b1e, e4, e6, if_pos zp]
  · have h6 := h5.trouble (p := 4) (b := 39) (Or.inl ⟨rfl, rfl⟩) hB (congrArg (· + 1) (h5.sc (o := 16) (p := 4) (b := 39) (by decide))) rfl
    obtain ⟨c7, m7, e7, e8, h7⟩ := shed_ok hN h6
    refine ⟨c7, m7, ?_, ?_, h7⟩
    · simp only [F_X6_power, ck_16, if_true, wre, e1, b1e, e3, s2, s3, e5, b2e, if_neg zp, e7]
    · simp only [F_X12_power, ck_24, if_true, wre, e2, b1e, e4, e6, if_neg zp, F_X12_brownout]
      rw [show (nI 0 : Int32) = 0 from rfl] at e8
      rw [e8]
      rfl
end P3
