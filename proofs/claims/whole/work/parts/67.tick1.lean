/-! T3: two loops side by side; the first steps of a tick -/
theorem b2t : (b2i true = 0) = False := eq_false (by decide)
theorem b2f : (b2i false = 0) = True := eq_true (by decide)
theorem one0 : ((1 : Int32) = 0) = False := eq_false (by decide)
theorem zer0 : ((0 : Int32) = 0) = True := eq_true rfl
theorem loop2 {α β γ δ : Type} {f : Nat → Nat → α → Option γ} {g : Nat → Nat → β → Option δ} {R : Nat → α → β → Prop} {Q : γ → δ → Prop} (n : Nat)
    (he : ∀ k l a b, R n a b → Sm (f (k + 1) n a) (g (l + 1) n b) Q)
    (hs : ∀ k l i a b, i < n → R i a b → ∃ a' b', f (k + 1) i a = f k (i + 1) a' ∧ g (l + 1) i b = g l (i + 1) b' ∧ R (i + 1) a' b') :
    ∀ (d i k l : Nat) (a : α) (b : β), i + d = n → d < k → d < l → R i a b → Sm (f k i a) (g l i b) Q := by
  intro d
  induction d with
  | zero =>
    intro i k l a b hi hk hl h
    obtain ⟨k, rfl⟩ : ∃ z, k = z + 1 := ⟨k - 1, by omega⟩
    obtain ⟨l, rfl⟩ : ∃ z, l = z + 1 := ⟨l - 1, by omega⟩
    have : i = n := by omega
    subst this
    exact he k l a b h
  | succ d ih =>
    intro i k l a b hi hk hl h
    obtain ⟨k, rfl⟩ : ∃ z, k = z + 1 := ⟨k - 1, by omega⟩
    obtain ⟨l, rfl⟩ : ∃ z, l = z + 1 := ⟨l - 1, by omega⟩
    obtain ⟨a', b', e1, e2, h'⟩ := hs k l i a b (by omega) h
    rw [e1, e2]
    exact ih (i + 1) k l a' b' (by omega) (by omega) (by omega) h'
def mnv (a b : Int32) : Int32 := if b ≤ a then b else a
theorem mnv_toInt {a b : Int32} : (mnv a b).toInt = min a.toInt b.toInt := by
  unfold mnv
  by_cases h : b ≤ a
  · rw [if_pos h]; rw [Int32.le_iff_toInt_le] at h; omega
  · rw [if_neg h]; rw [Int32.le_iff_toInt_le] at h; omega
theorem mnv_assoc {a b c d : Int32} : mnv (mnv a b) (mnv c d) = mnv (mnv (mnv a b) c) d := Int32.toInt_inj.mp (by simp only [mnv_toInt]; omega)
theorem minC_val {a b : Int32} {I : MI} {L : ML} {R : MR} : F_J9_min_7cf53 a b I L R = some (mnv a b) := by
  unfold F_J9_min_7cf53
  by_cases h : b < a
  · rw [if_pos h, mnv, if_pos]
    rw [Int32.lt_iff_toInt_lt] at h
    rw [Int32.le_iff_toInt_le]; omega
  · rw [if_neg h]
    refine congrArg some (Int32.toInt_inj.mp ?_)
    rw [Int32.lt_iff_toInt_lt] at h
    rw [mnv_toInt]; omega
theorem minM_val {a b : Int32} {I : MI} {L : ML} {R : MR} : F_X12_least a b I L R = some (mnv a b) := by
  unfold F_X12_least mnv
  split <;> rfl
theorem RC.lt20 {n : Nat} {cd : Nat → Nat} {pb : Nat} {L : ML} {t s0 B D u : Nat} {c m : MI} (h : RC n cd pb L t s0 B D c m) (hu : u < n) : u < 20 := by have := h.n20; omega
theorem nlt {n i : Nat} (h : i < n) (hn : n ≤ 20) : (nI n ≤ nI i) = False := eq_false (nI_ge h (by omega))
theorem nle {n : Nat} (hn : n ≤ 20) : (nI n ≤ nI n) = True := eq_true (nI_le (Nat.le_refl _) (by omega))
section P1
variable {n : Nat} {cd : Nat → Nat} {pb : Nat} {L : ML} {t s0 B D N : Nat} {c m : MI}
theorem saveLine_ok (hN : 5000 ≤ N) (h : RC n cd pb L t s0 B D c m) : Sm (F_X2_saveLine N 10 c L (GRf pb)) (LF_X12_control_10 N N 24 0 m L (GRf pb)) (RC n cd pb L t s0 B D) := by
  have key := loop2 (f := fun k i I => LF_X2_saveLine_2 N k 10 (nI i) I L (GRf pb)) (g := fun k i I => LF_X12_control_10 N k 24 (nI i) I L (GRf pb)) (R := fun _ a b => RC n cd pb L t s0 B D a b) (Q := RC n cd pb L t s0 B D) n ?_ ?_ n 0 N N c m (by omega) (by have := h.n20; omega) (by have := h.n20; omega) h
  · simp only [F_X2_saveLine, ck_10, if_true]
    obtain ⟨a, b, e1, e2, hr⟩ := key
    exact ⟨a, b, by rw [show (0 : Int32) = nI 0 from rfl, e1]; rfl, e2, hr⟩
  · intro k l a b h
    refine ⟨a, b, ?_, ?_, h⟩ <;> simp only [LF_X2_saveLine_2, LF_X12_control_10, rf_10_0, bse, h.size, b1e, h.nm, nle h.n20, if_true]
  · intro k l i a b hi h
    have hu := h.lt20 hi
    have hu' : i ≤ 20 := by omega
    have f1 : F_X9_isOn (U i) 6 a L (GRf pb) = _ := h.on (l := 6) hi (by decide) (by decide)
    have f2 : F_X9_is (U i) 8 a L (GRf pb) = _ := h.is (l := 8) hi (by decide)
    have f3 : F_X12_isA N 24 (nI i) 8 b L (GRf pb) = _ := h.isA (l := 8) (by omega) hi (by decide)
    have p21 := h.pt (k := 21) hi (by decide) (by decide) (by decide) (by decide) (by decide)
    have fm := h.onM (show 6 ≤ N by omega) hi
    cases eB : (isL (cd i) 6 && decide (b 37 (65 * i + 22) = 1)) with
    | true =>
      by_cases e21 : b 37 (65 * i + 21) = 2
      ·
        cases e8 : isL (cd i) 8 with
        | true =>
          refine ⟨_, _, ?_, ?_, h⟩ <;> simp only [LF_X2_saveLine_2, LF_X12_control_10, rf_10_0, bse, b1e, b2e, wre, nI_1, h.size, h.nm, nlt hi h.n20, if_false, if_true, h.at hi, ck_U hu', b2t, b2f, rf_U0 hu', one0, zer0, f1, f2, f3, rp_21 hu', p21, gt_21 hu, wp_22 hu', st_22 hu, fm, eB, if_pos e21, e8]
        | false =>
          have hr := h.part (k := 22) hi (by unfold dynP; omega) (by omega) (fun _ => by have z := eB; rw [Bool.and_eq_true] at z; exact z.1) (rfl : (0 : Int32) = 0)
          refine ⟨_, _, ?_, ?_, hr⟩ <;> simp only [LF_X2_saveLine_2, LF_X12_control_10, rf_10_0, bse, b1e, b2e, wre, nI_1, h.size, h.nm, nlt hi h.n20, if_false, if_true, h.at hi, ck_U hu', b2t, b2f, rf_U0 hu', one0, zer0, f1, f2, f3, rp_21 hu', p21, gt_21 hu, wp_22 hu', st_22 hu, fm, eB, if_pos e21, e8]
      ·
        refine ⟨_, _, ?_, ?_, h⟩ <;> simp only [LF_X2_saveLine_2, LF_X12_control_10, rf_10_0, bse, b1e, b2e, wre, nI_1, h.size, h.nm, nlt hi h.n20, if_false, if_true, h.at hi, ck_U hu', b2t, b2f, rf_U0 hu', one0, zer0, f1, f2, f3, rp_21 hu', p21, gt_21 hu, wp_22 hu', st_22 hu, fm, eB, if_neg e21]
    | false =>
      refine ⟨_, _, ?_, ?_, h⟩ <;> simp only [LF_X2_saveLine_2, LF_X12_control_10, rf_10_0, bse, b1e, b2e, wre, nI_1, h.size, h.nm, nlt hi h.n20, if_false, if_true, h.at hi, ck_U hu', b2t, b2f, rf_U0 hu', one0, zer0, f1, f2, f3, rp_21 hu', p21, gt_21 hu, wp_22 hu', st_22 hu, fm, eB]
theorem turn_step {N k l j pb n t s0 B D : Nat} {cd : Nat → Nat} {c m : MI} {L : ML} (hj : j < 3) (h : RC n cd pb L t s0 B D c m) :
    ∃ c' m', LF_X7_turn_17 N (k + 1) 12 (nI j) c L (GRf pb) = LF_X7_turn_17 N k 12 (nI (j + 1)) c' L (GRf pb) ∧ LF_X12_turn_26 N (l + 1) 24 (nI j) m L (GRf pb) = LF_X12_turn_26 N l 24 (nI (j + 1)) m' L (GRf pb) ∧ RC n cd pb L t s0 B D c' m' := by
  have h3 : ((3 : Int32) ≤ nI j) = False := eq_false (nI_ge (b := 3) hj (by decide))
  have r1 := h.rat hj
  have h1 := h.ratU (v := lmt (c 14 j) (-400) 400) (w := lmt (m 44 j) (-400) 400) hj (by rw [r1])
  have e1 : F_X11_limit (c 14 j) (-400) 400 c L (GRf pb) = some (lmt (c 14 j) (-400) 400) := limC_val
  have e2 : F_X12_limit (m 44 j) (-400) 400 m L (GRf pb) = some (lmt (m 44 j) (-400) 400) := limM_val
  have a1 := h1.ang hj
  have r2 := h1.rat hj
  generalize hc1 : uI c 14 j (lmt (c 14 j) (-400) 400) = c1 at *
  generalize hm1 : uI m 44 j (lmt (m 44 j) (-400) 400) = m1 at *
  have h2 := h1.angU (v := md (c1 13 j + c1 14 j / 4) 3600) (w := md (m1 43 j + m1 44 j / 4) 3600) hj (by rw [a1, r2])
  have e3 : F_J9_floorMod_7cf53 (c1 13 j + c1 14 j / 4) 3600 c1 L (GRf pb) = some (md (c1 13 j + c1 14 j / 4) 3600) := fm_val (by decide)
  have e4 : F_X12_mod (m1 43 j + m1 44 j / 4) 3600 m1 L (GRf pb) = some (md (m1 43 j + m1 44 j / 4) 3600) := mod_val (by decide)
  have w1 : wi c 14 (nI j) (lmt (c 14 j) (-400) 400) = some c1 := by rw [← hc1]; exact wi_nI ln_14 hj (by decide)
  have w2 : wi m 44 (nI j) (lmt (m 44 j) (-400) 400) = some m1 := by rw [← hm1]; exact wi_nI ln_44 hj (by decide)
  refine ⟨_, _, ?_, ?_, h2⟩
  · simp only [LF_X7_turn_17, h3, if_false, rf_12_2, bse, ri_nI ln_14 hj (show 3 < 2 ^ 31 by decide), e1, b1e, w1, rf_12_1, ri_nI ln_13 hj (show 3 < 2 ^ 31 by decide), e3, wi_nI ln_13 hj (show 3 < 2 ^ 31 by decide), wre, nI_1]
  · simp only [LF_X12_turn_26, h3, if_false, rf_24_37, bse, ri_nI ln_44 hj (show 3 < 2 ^ 31 by decide), e2, b1e, w2, rf_24_36, ri_nI ln_43 hj (show 3 < 2 ^ 31 by decide), e4, wi_nI ln_43 hj (show 3 < 2 ^ 31 by decide), wre, nI_1]
theorem turn_ok (hN : 5000 ≤ N) (h : RC n cd pb L t s0 B D c m) : Sm (F_X7_turn N 12 (nI t) c L (GRf pb)) (F_X12_turn N 24 m L (GRf pb)) (RC n cd pb L t s0 B D) := by
  have key : ∀ c m, RC n cd pb L t s0 B D c m → Sm (LF_X7_turn_17 N N 12 (nI 0) c L (GRf pb)) (LF_X12_turn_26 N N 24 (nI 0) m L (GRf pb)) (RC n cd pb L t s0 B D) := by
    intro c m h
    exact loop2 (f := fun k i I => LF_X7_turn_17 N k 12 (nI i) I L (GRf pb)) (g := fun k i I => LF_X12_turn_26 N k 24 (nI i) I L (GRf pb)) (R := fun _ a b => RC n cd pb L t s0 B D a b) 3 (fun k l a b h => ⟨a, b, by simp only [LF_X7_turn_17]; rw [if_pos (by decide)], by simp only [LF_X12_turn_26]; rw [if_pos (by decide)], h⟩) (fun k l i a b hi h => turn_step hi h) 3 0 N N c m (by omega) (by omega) (by omega) h
  have ht := h.tlt
  have f1 : F_X11_isMultiple (nI t) 50 c L (GRf pb) = _ := isMul_val (k := 50) (by omega) (by decide) (by decide)
  have f2 : (iR (nI t) 50 = 0) ↔ _ := iR_zero (k := 50) (t := t) (by omega) (by decide) (by decide)
  have r0 := h.rat (j := 0) (by decide)
  have hf : F_X7_speedUp 12 0 1 c L (GRf pb) = some (uI c 14 0 (c 14 0 + 1)) := by
    simp only [F_X7_speedUp, ck_12, if_true, rf_12_2, bse, ln_14]
    rw [if_neg (by decide), if_neg (by decide), show (0 : Int32) = nI 0 from rfl, ri_nI ln_14 (by decide) (by decide), bse, wi_nI ln_14 (by decide) (by decide), bse]
  have w0 : ∀ v, wi m 44 0 v = some (uI m 44 0 v) := fun v => wi_nI (k := 0) ln_44 (by decide) (by decide)
  have q0 : ri m 44 0 = some (m 44 0) := ri_nI (k := 0) ln_44 (by decide) (by decide)
  by_cases q : t % 50 = 0
  · obtain ⟨a, b, e1, e2, hr⟩ := key _ _ (h.ratU (j := 0) (v := c 14 0 + 1) (w := m 44 0 + 1) (by decide) (by rw [r0]))
    refine ⟨a, b, ?_, ?_, hr⟩
    · simp only [F_X7_turn, ck_12, if_true, f1, q, decide_true, b1e, b2t, if_false, hf]
      rw [show (0 : Int32) = nI 0 from rfl, e1]; rfl
    · simp only [F_X12_turn, ck_24, if_true, rf_24_37, bse, q0, h.tick, if_pos (f2.mpr q), b1e, w0]
      rw [show (0 : Int32) = nI 0 from rfl, e2]; rfl
  · obtain ⟨a, b, e1, e2, hr⟩ := key _ _ (h.ratU (j := 0) (v := c 14 0) (w := m 44 0 + 0) (by decide) (by rw [r0, Int32.add_zero]))
    have hz : uI c 14 0 (c 14 0) = c := by
      funext o p
      unfold uI
      split
      · next z => rw [z.1, z.2]
      · rfl
    rw [hz] at e1
    refine ⟨a, b, ?_, ?_, hr⟩
    · simp only [F_X7_turn, ck_12, if_true, f1, q, decide_false, b1e, b2f]
      rw [show (0 : Int32) = nI 0 from rfl, e1]; rfl
    · simp only [F_X12_turn, ck_24, if_true, rf_24_37, bse, q0, h.tick, if_neg (fun z => q (f2.mp z)), b1e, w0]
      rw [show (0 : Int32) = nI 0 from rfl] at *
      rw [e2]; rfl
theorem RC.pour_ok {u v w : Nat} {x : Int32} (h : RC n cd pb L t s0 B D c m) (hv : v < n) (hw : w < n) : F_X6_pour 16 x (U v) (U w) c L (GRf pb) = some (uI (uI c (U v + 1) 10 (m 37 (65 * v + 10) - mnv (mnv (mnv x (m 37 (65 * v + 10))) (m 37 (65 * w + 9) - m 37 (65 * w + 10))) ((m 37 (65 * v + 10) - m 37 (65 * w + 10)) / 2))) (U w + 1) 10 (uI c (U v + 1) 10 (m 37 (65 * v + 10) - mnv (mnv (mnv x (m 37 (65 * v + 10))) (m 37 (65 * w + 9) - m 37 (65 * w + 10))) ((m 37 (65 * v + 10) - m 37 (65 * w + 10)) / 2)) (U w + 1) 10 + mnv (mnv (mnv x (m 37 (65 * v + 10))) (m 37 (65 * w + 9) - m 37 (65 * w + 10))) ((m 37 (65 * v + 10) - m 37 (65 * w + 10)) / 2))) := by
  have hv' : v ≤ 20 := by have := h.n20; omega
  have hw' : w ≤ 20 := by have := h.n20; omega
  have p1 := h.pt (k := 10) hv (by decide) (by decide) (by decide) (by decide) (by decide)
  have p2 := h.pt (k := 10) hw (by decide) (by decide) (by decide) (by decide) (by decide)
  have p3 := h.pt (k := 9) hw (by decide) (by decide) (by decide) (by decide) (by decide)
  simp only [F_X6_pour, ck_16, if_true, ck_U hv', ck_U hw', rf_U0 hv', rf_U0 hw', bse, rp_10 hv', rp_10 hw', rp_9 hw', p1, p2, p3, wre, minC_val, b1e, mnv_assoc, wp_10 hv', wp_10 hw']
theorem RC.pourR {u v w : Nat} {a : Int32} (h : RC n cd pb L t s0 B D c m) (hv : v < n) (hw : w < n) (h4 : cd v = 4) (h5 : cd w = 4) : RC n cd pb L t s0 B D (uI (uI c (U v + 1) 10 (m 37 (65 * v + 10) - a)) (U w + 1) 10 (uI c (U v + 1) 10 (m 37 (65 * v + 10) - a) (U w + 1) 10 + a)) (uI (uI m 37 (65 * v + 10) (m 37 (65 * v + 10) + -a)) 37 (65 * w + 10) (uI m 37 (65 * v + 10) (m 37 (65 * v + 10) + -a) 37 (65 * w + 10) + a)) := by
  have h1 := h.part (k := 10) (v := m 37 (65 * v + 10) - a) (w := m 37 (65 * v + 10) + -a) hv (by unfold dynP; omega) (by omega) (by omega) (Int32.sub_eq_add_neg _ _)
  exact h1.part (k := 10) hw (by unfold dynP; omega) (by omega) (by omega) (by rw [h1.pt (k := 10) hw (by decide) (by decide) (by decide) (by decide) (by decide)])
def amt (x : Int32) (m : MI) (v w : Nat) : Int32 := mnv (mnv (mnv x (m 37 (65 * v + 10))) (m 37 (65 * w + 9) - m 37 (65 * w + 10))) ((m 37 (65 * v + 10) - m 37 (65 * w + 10)) / 2)
theorem i26 : ∀ c, c < 29 → isL c 28 = true → isL c 26 = true := by decide
theorem i28 : ∀ c, c < 29 → isL c 28 = true → c = 28 := by decide
theorem flow_ok (hN : 5000 ≤ N) (h : RC n cd pb L t s0 B D c m) : Sm (F_X6_levelTanks N 16 c L (GRf pb)) (LF_X12_flow_2 N N 24 0 m L (GRf pb)) (RC n cd pb L t s0 B D) := by
  have key := loop2 (f := fun k i I => LF_X6_levelTanks_2 N k 16 (nI i) I L (GRf pb)) (g := fun k i I => LF_X12_flow_2 N k 24 (nI i) I L (GRf pb)) (R := fun _ a b => RC n cd pb L t s0 B D a b) (Q := RC n cd pb L t s0 B D) n ?_ ?_ n 0 N N c m (by omega) (by have := h.n20; omega) (by have := h.n20; omega) h
  · simp only [F_X6_levelTanks, ck_16, if_true]
    obtain ⟨a, b, e1, e2, hr⟩ := key
    exact ⟨a, b, by rw [show (0 : Int32) = nI 0 from rfl, e1]; rfl, e2, hr⟩
  · intro k l a b h
    refine ⟨a, b, ?_, ?_, h⟩ <;> simp only [LF_X6_levelTanks_2, LF_X12_flow_2, rf_16_0, bse, h.size, b1e, h.nm, nle h.n20, if_true]
  · intro k l i a b hi h
    have hu := h.lt20 hi
    have hu' : i ≤ 20 := by omega
    have f1 : F_X9_isWhole (U i) 28 a L (GRf pb) = _ := h.wh (l := 28) hi (by decide)
    have f2 : F_X12_isA N 24 (nI i) 28 b L (GRf pb) = _ := h.isA (l := 28) (by omega) hi (by decide)
    have f3 := h.whM hi
    have p59 := h.pt (k := 59) hi (by decide) (by decide) (by decide) (by decide) (by decide)
    have p60 := h.pt (k := 60) hi (by decide) (by decide) (by decide) (by decide) (by decide)
    have p61 := h.pt (k := 61) hi (by decide) (by decide) (by decide) (by decide) (by decide)
    cases e28 : isL (cd i) 28 with
    | true =>
      cases e63 : (decide (b 37 (65 * i + 63) = 0)) with
      | true =>
        obtain ⟨v, w, hv, hw, q59, q60, q4⟩ := (h.si hi).2.2.2.2.2.2.2.2.2.2.2.2.2.2 (i26 _ (h.cd29 hi) e28)
        have q59 : b 37 (65 * i + 59) = nI v := q59
        have q60 : b 37 (65 * i + 60) = nI w := q60
        obtain ⟨k4, k5⟩ := q4 (i28 _ (h.cd29 hi) e28)
        have hv20 := h.lt20 hv
        have hw20 := h.lt20 hw
        have hv' : v ≤ 20 := by omega
        have hw' : w ≤ 20 := by omega
        have g1 : F_X9_isWhole (U v) 4 a L (GRf pb) = _ := h.wh (l := 4) hv (by decide)
        have g2 : F_X9_isWhole (U w) 4 a L (GRf pb) = _ := h.wh (l := 4) hw (by decide)
        have g3 := h.whM hv
        have g4 := h.whM hw
        have z4 : isL 4 4 = true := by decide
        rw [k4, z4, Bool.true_and] at g1
        rw [k5, z4, Bool.true_and] at g2
        have pv := h.pt (k := 10) hv (by decide) (by decide) (by decide) (by decide) (by decide)
        have pw := h.pt (k := 10) hw (by decide) (by decide) (by decide) (by decide) (by decide)
        cases b1 : (decide (b 37 (65 * v + 63) = 0)) with
        | true =>
          cases b2 : (decide (b 37 (65 * w + 63) = 0)) with
          | true =>
            by_cases lt : b 37 (65 * v + 10) < b 37 (65 * w + 10)
            ·
              have lt2 : (b 37 (65 * w + 10) ≤ b 37 (65 * v + 10)) = False := eq_false (by rw [Int32.lt_iff_toInt_lt] at lt; rw [Int32.le_iff_toInt_le]; omega)
              refine ⟨_, _, ?_, ?_, (h.pourR (u := i) (a := amt (b 37 (65 * i + 61)) b w v) hw hv k5 k4)⟩ <;> simp only [LF_X6_levelTanks_2, LF_X12_flow_2, rf_16_0, bse, b1e, b2e, wre, nI_1, h.size, h.nm, nlt hi h.n20, if_false, if_true, h.at hi, ck_U hu', b2t, b2f, rf_U0 hu', one0, zer0, f1, f2, f3, rp_59 hu', rp_60 hu', rp_61 hu', p59, p60, p61, gt_59 hu, gt_60 hu, gt_61 hu, Bool.true_and, Bool.false_and, e28, e63, q59, q60, h.at hv, h.at hw, ck_U hv', ck_U hw', rf_U0 hv', rf_U0 hw', g1, g2, g3, g4, rp_10 hv', rp_10 hw', pv, pw, gt_10 hv20, gt_10 hw20, gt_9 hv20, gt_9 hw20, gw_10 hv20, gw_10 hw20, minM_val, amt, b1, b2, if_pos lt, lt2, h.pour_ok (u := i) hw hv]
            ·
              have lt2 : (b 37 (65 * w + 10) ≤ b 37 (65 * v + 10)) = True := eq_true (by rw [Int32.lt_iff_toInt_lt] at lt; rw [Int32.le_iff_toInt_le]; omega)
              refine ⟨_, _, ?_, ?_, (h.pourR (u := i) (a := amt (b 37 (65 * i + 61)) b v w) hv hw k4 k5)⟩ <;> simp only [LF_X6_levelTanks_2, LF_X12_flow_2, rf_16_0, bse, b1e, b2e, wre, nI_1, h.size, h.nm, nlt hi h.n20, if_false, if_true, h.at hi, ck_U hu', b2t, b2f, rf_U0 hu', one0, zer0, f1, f2, f3, rp_59 hu', rp_60 hu', rp_61 hu', p59, p60, p61, gt_59 hu, gt_60 hu, gt_61 hu, Bool.true_and, Bool.false_and, e28, e63, q59, q60, h.at hv, h.at hw, ck_U hv', ck_U hw', rf_U0 hv', rf_U0 hw', g1, g2, g3, g4, rp_10 hv', rp_10 hw', pv, pw, gt_10 hv20, gt_10 hw20, gt_9 hv20, gt_9 hw20, gw_10 hv20, gw_10 hw20, minM_val, amt, b1, b2, if_neg lt, lt2, h.pour_ok (u := i) hv hw]
          | false =>
            refine ⟨_, _, ?_, ?_, h⟩ <;> simp only [LF_X6_levelTanks_2, LF_X12_flow_2, rf_16_0, bse, b1e, b2e, wre, nI_1, h.size, h.nm, nlt hi h.n20, if_false, if_true, h.at hi, ck_U hu', b2t, b2f, rf_U0 hu', one0, zer0, f1, f2, f3, rp_59 hu', rp_60 hu', rp_61 hu', p59, p60, p61, gt_59 hu, gt_60 hu, gt_61 hu, Bool.true_and, Bool.false_and, e28, e63, q59, q60, h.at hv, h.at hw, ck_U hv', ck_U hw', rf_U0 hv', rf_U0 hw', g1, g2, g3, g4, rp_10 hv', rp_10 hw', pv, pw, gt_10 hv20, gt_10 hw20, gt_9 hv20, gt_9 hw20, gw_10 hv20, gw_10 hw20, minM_val, amt, b1, b2]
        | false =>
          refine ⟨_, _, ?_, ?_, h⟩ <;> simp only [LF_X6_levelTanks_2, LF_X12_flow_2, rf_16_0, bse, b1e, b2e, wre, nI_1, h.size, h.nm, nlt hi h.n20, if_false, if_true, h.at hi, ck_U hu', b2t, b2f, rf_U0 hu', one0, zer0, f1, f2, f3, rp_59 hu', rp_60 hu', rp_61 hu', p59, p60, p61, gt_59 hu, gt_60 hu, gt_61 hu, Bool.true_and, Bool.false_and, e28, e63, q59, q60, h.at hv, h.at hw, ck_U hv', ck_U hw', rf_U0 hv', rf_U0 hw', g1, g2, g3, g4, rp_10 hv', rp_10 hw', pv, pw, gt_10 hv20, gt_10 hw20, gt_9 hv20, gt_9 hw20, gw_10 hv20, gw_10 hw20, minM_val, amt, b1]
      | false =>
        refine ⟨_, _, ?_, ?_, h⟩ <;> simp only [LF_X6_levelTanks_2, LF_X12_flow_2, rf_16_0, bse, b1e, b2e, wre, nI_1, h.size, h.nm, nlt hi h.n20, if_false, if_true, h.at hi, ck_U hu', b2t, b2f, rf_U0 hu', one0, zer0, f1, f2, f3, rp_59 hu', rp_60 hu', rp_61 hu', p59, p60, p61, gt_59 hu, gt_60 hu, gt_61 hu, Bool.true_and, Bool.false_and, e28, e63]
    | false =>
      refine ⟨_, _, ?_, ?_, h⟩ <;> simp only [LF_X6_levelTanks_2, LF_X12_flow_2, rf_16_0, bse, b1e, b2e, wre, nI_1, h.size, h.nm, nlt hi h.n20, if_false, if_true, h.at hi, ck_U hu', b2t, b2f, rf_U0 hu', one0, zer0, f1, f2, f3, rp_59 hu', rp_60 hu', rp_61 hu', p59, p60, p61, gt_59 hu, gt_60 hu, gt_61 hu, Bool.true_and, Bool.false_and, e28]
end P1
