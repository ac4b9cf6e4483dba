/-! T3: steering -/
section P5
variable {N n : Nat} {cd : Nat → Nat} {pb : Nat} {L : ML} {t s0 B D : Nat} {c m : MI} {mo : Int32}
def RM (n : Nat) (cd : Nat → Nat) (pb : Nat) (L : ML) (t s0 B D : Nat) (mo : Int32) (c m : MI) : Prop := RC n cd pb L t s0 B D c m ∧ m 24 35 = mo
theorem RM.part {u k : Nat} {v w : Int32} (h : RM n cd pb L t s0 B D mo c m) (hu : u < n) (hk : dynP k) (h10 : k = 10 → cd u ≠ 5) (h22 : k = 22 → isL (cd u) 6 = true) (hv : v = w) (h63 : k ≠ 63 := by decide) : RM n cd pb L t s0 B D mo (uI c (U u + 1) k v) (uI m 37 (65 * u + k) w) :=
  ⟨h.1.part hu hk h10 h22 hv h63, by rw [uI_at (by omega)]; exact h.2⟩
theorem RM.ratU {j : Nat} {v w : Int32} (h : RM n cd pb L t s0 B D mo c m) (hj : j < 3) (hv : v = w) : RM n cd pb L t s0 B D mo (uI c 14 j v) (uI m 44 j w) :=
  ⟨h.1.ratU hj hv, by rw [uI_at (by omega)]; exact h.2⟩
def tnV (cd : Nat → Nat) (X : Nat → Int32) (l : Nat) (x i : Nat) : Bool := isL (cd i) l && decide (X (65 * i + 22) = 1) && decide (X (65 * i + 35) = nI x)
theorem turns_ok {l i x : Nat} (hN : 5000 ≤ N) (h : RC n cd pb L t s0 B D c m) (hi : i < n) (hl : l < 29) (h6 : ∀ c, c < 29 → isL c l = true → isL c 6 = true) : F_X12_turns N 24 (nI i) (nI l) (nI x) m L (GRf pb) = some (tnV cd (m 37) l x i) := by
  have hu := h.lt20 hi
  have f1 : F_X12_isA N 24 (nI i) (nI l) m L (GRf pb) = _ := h.isA (l := l) (by omega) hi hl
  have onm := h.onM (show 6 ≤ N by omega) hi
  unfold tnV
  cases el : isL (cd i) l with
  | false => simp only [F_X12_turns, ck_24, if_true, f1, el, b1e, b2f, Bool.false_and]
  | true =>
    rw [h6 _ (h.cd29 hi) el, Bool.true_and] at onm
    cases e2 : decide (m 37 (65 * i + 22) = 1) with
    | false => simp only [F_X12_turns, ck_24, if_true, f1, el, b1e, b2t, b2f, if_false, onm, e2, Bool.true_and, Bool.false_and]
    | true =>
      by_cases ex : m 37 (65 * i + 35) = nI x
      · simp only [F_X12_turns, ck_24, if_true, f1, el, b1e, b2t, if_false, onm, e2, Bool.true_and, gt_35 hu, if_pos ex, decide_eq_true ex]
      · simp only [F_X12_turns, ck_24, if_true, f1, el, b1e, b2t, if_false, onm, e2, Bool.true_and, gt_35 hu, if_neg ex, decide_eq_false ex]
theorem i166 : ∀ c, c < 29 → isL c 16 = true → isL c 6 = true := by decide
theorem i176 : ∀ c, c < 29 → isL c 17 = true → isL c 6 = true := by decide
theorem i186 : ∀ c, c < 29 → isL c 18 = true → isL c 6 = true := by decide
theorem spin_ok {x : Nat} (hN : 5000 ≤ N) (h : RM n cd pb L t s0 B D mo c m) (hx : x < 3) (y : Int32) : Sm (LF_X7_spinWheels_5 N N 12 (nI x) y y (nI 0) c L (GRf pb)) (LF_X12_steer_8 N N 24 (nI x) y (nI 0) m L (GRf pb)) (fun a b => a.1 = b.1 ∧ RM n cd pb L t s0 B D mo a.2 b.2) := by
  have hn := h.1.n20
  refine loop2 (f := fun k i (z : Int32 × MI) => LF_X7_spinWheels_5 N k 12 (nI x) y z.1 (nI i) z.2 L (GRf pb)) (g := fun k i (z : Int32 × MI) => LF_X12_steer_8 N k 24 (nI x) z.1 (nI i) z.2 L (GRf pb)) (R := fun _ a b => a.1 = b.1 ∧ RM n cd pb L t s0 B D mo a.2 b.2) n ?_ ?_ n 0 N N (y, c) (y, m) (by omega) (by omega) (by omega) ⟨rfl, h⟩
  · intro k l ⟨z, a⟩ ⟨w, b⟩ ⟨hz, h⟩
    have h : RM n cd pb L t s0 B D mo a b := h
    refine ⟨(z, a), (w, b), ?_, ?_, hz, h⟩ <;> simp only [LF_X7_spinWheels_5, LF_X12_steer_8, rf_12_0, bse, h.1.size, b1e, h.1.nm, nle h.1.n20, if_true]
  · intro k l i ⟨z, a⟩ ⟨w, b⟩ hi ⟨hz, hM⟩
    have hz : z = w := hz
    subst hz
    have hM : RM n cd pb L t s0 B D mo a b := hM
    have h := hM.1
    have hu := h.lt20 hi
    have hu' : i ≤ 20 := by omega
    have on : F_X9_isOn (U i) 16 a L (GRf pb) = _ := h.on (l := 16) hi (by decide) (by decide)
    have tn : F_X12_turns N 24 (nI i) 16 (nI x) b L (GRf pb) = _ := turns_ok (l := 16) (x := x) hN h hi (by decide) i166
    have p35 := h.pt (k := 35) hi (by decide) (by decide) (by decide) (by decide) (by decide)
    have p42 := h.pt (k := 42) hi (by decide) (by decide) (by decide) (by decide) (by decide)
    have p43 := h.pt (k := 43) hi (by decide) (by decide) (by decide) (by decide) (by decide)
    have p44 := h.pt (k := 44) hi (by decide) (by decide) (by decide) (by decide) (by decide)
    unfold tnV at tn
    cases eo : (isL (cd i) 16 && decide (b 37 (65 * i + 22) = 1)) with
    | false =>
      refine ⟨(z, a), (z, b), ?_, ?_, rfl, hM⟩ <;> simp only [LF_X7_spinWheels_5, LF_X12_steer_8, rf_12_0, bse, b1e, b2e, wre, nI_1, h.size, h.nm, nlt hi h.n20, if_false, if_true, h.at hi, ck_U hu', b2f, on, tn, eo, Bool.false_and]
    | true =>
      by_cases ex : b 37 (65 * i + 35) = nI x
      · have h1 := hM.part (k := 44) hi (v := b 37 (65 * i + 44) + (lmt (b 37 (65 * i + 44) + lmt z (-b 37 (65 * i + 42)) (b 37 (65 * i + 42))) (-b 37 (65 * i + 43)) (b 37 (65 * i + 43)) - b 37 (65 * i + 44))) (by unfold dynP; omega) (by omega) (by omega) rfl
        generalize hcg : lmt (b 37 (65 * i + 44) + lmt z (-b 37 (65 * i + 42)) (b 37 (65 * i + 42))) (-b 37 (65 * i + 43)) (b 37 (65 * i + 43)) - b 37 (65 * i + 44) = cg at h1
        have h2 := h1.ratU (j := x) (v := uI a (U i + 1) 44 (b 37 (65 * i + 44) + cg) 14 x + cg) hx (congrArg (· + cg) (h1.1.rat hx))
        refine ⟨(z - cg, uI (uI a (U i + 1) 44 (b 37 (65 * i + 44) + cg)) 14 x (uI a (U i + 1) 44 (b 37 (65 * i + 44) + cg) 14 x + cg)), (z - cg, uI (uI b 37 (65 * i + 44) (b 37 (65 * i + 44) + cg)) 44 x (uI b 37 (65 * i + 44) (b 37 (65 * i + 44) + cg) 44 x + cg)), ?_, ?_, rfl, h2⟩
        · simp only [LF_X7_spinWheels_5, rf_12_0, bse, b1e, b2e, wre, nI_1, h.size, nlt hi h.n20, if_false, if_true, h.at hi, ck_U hu', b2t, on, eo, rf_U0 hu', rp_35 hu', p35, if_pos ex, rp_42 hu', rp_43 hu', rp_44 hu', p42, p43, p44, limC_val, Int32.zero_sub, hcg, wp_44 hu', spdC hx]
        · simp only [LF_X12_steer_8, bse, b1e, b2e, wre, nI_1, h.nm, nlt hi h.n20, if_false, if_true, b2t, tn, eo, Bool.true_and, decide_eq_true ex, gt_42 hu, gt_43 hu, gt_44 hu, limM_val, hcg, gw_44 hu, rf_24_37, ri_nI ln_44 hx (show 3 < 2 ^ 31 by decide), wi_nI ln_44 hx (show 3 < 2 ^ 31 by decide)]
      · refine ⟨(z, a), (z, b), ?_, ?_, rfl, hM⟩ <;> simp only [LF_X7_spinWheels_5, LF_X12_steer_8, rf_12_0, bse, b1e, b2e, wre, nI_1, h.size, h.nm, nlt hi h.n20, if_false, if_true, h.at hi, ck_U hu', b2f, b2t, on, tn, eo, Bool.true_and, rf_U0 hu', rp_35 hu', p35, if_neg ex, decide_eq_false ex]
theorem coil_ok {x : Nat} (hN : 5000 ≤ N) (h : RM n cd pb L t s0 B D mo c m) (hx : x < 3) (y : Int32) (h8 : t % 8 = 0) : Sm (F_X7_driveCoils N 12 (nI x) y c L (GRf pb)) (LF_X12_steer_116 N N 24 (nI x) y (nI 0) m L (GRf pb)) (RM n cd pb L t s0 B D mo) := by
  have hn := h.1.n20
  have ht := h.1.tlt
  have f2 : iR (nI t) 8 = 0 := (iR_zero (k := 8) (t := t) (by omega) (by decide) (by decide)).mpr h8
  have key := loop2 (f := fun k i (z : Int32 × MI) => LF_X7_driveCoils_5 N k 12 (nI x) z.1 (nI i) z.2 L (GRf pb)) (g := fun k i (z : Int32 × MI) => LF_X12_steer_116 N k 24 (nI x) z.1 (nI i) z.2 L (GRf pb)) (R := fun _ a b => a.1 = b.1 ∧ RM n cd pb L t s0 B D mo a.2 b.2) (Q := RM n cd pb L t s0 B D mo) n ?_ ?_ n 0 N N (y, c) (y, m) (by omega) (by omega) (by omega) ⟨rfl, h⟩
  · simp only [F_X7_driveCoils, ck_12, if_true]
    obtain ⟨a, b, e1, e2, hr⟩ := key
    exact ⟨a, b, by rw [show (0 : Int32) = nI 0 from rfl, e1]; rfl, e2, hr⟩
  · intro k l ⟨z, a⟩ ⟨w, b⟩ ⟨hz, h⟩
    have h : RM n cd pb L t s0 B D mo a b := h
    refine ⟨a, b, ?_, ?_, h⟩ <;> simp only [LF_X7_driveCoils_5, LF_X12_steer_116, rf_12_0, bse, h.1.size, b1e, h.1.nm, nle h.1.n20, if_true]
  · intro k l i ⟨z, a⟩ ⟨w, b⟩ hi ⟨hz, hM⟩
    have hz : z = w := hz
    subst hz
    have hM : RM n cd pb L t s0 B D mo a b := hM
    have h := hM.1
    have hu := h.lt20 hi
    have hu' : i ≤ 20 := by omega
    have on : F_X9_isOn (U i) 17 a L (GRf pb) = _ := h.on (l := 17) hi (by decide) (by decide)
    have tn : F_X12_turns N 24 (nI i) 17 (nI x) b L (GRf pb) = _ := turns_ok (l := 17) (x := x) hN h hi (by decide) i176
    have p35 := h.pt (k := 35) hi (by decide) (by decide) (by decide) (by decide) (by decide)
    have p42 := h.pt (k := 42) hi (by decide) (by decide) (by decide) (by decide) (by decide)
    have limC : F_X11_limit z (-1) 1 a L (GRf pb) = some (lmt z (-1) 1) := limC_val
    have limM : F_X12_limit z (-1) 1 b L (GRf pb) = some (lmt z (-1) 1) := limM_val
    unfold tnV at tn
    cases eo : (isL (cd i) 17 && decide (b 37 (65 * i + 22) = 1)) with
    | false =>
      refine ⟨(z, a), (z, b), ?_, ?_, rfl, hM⟩ <;> simp only [LF_X7_driveCoils_5, LF_X12_steer_116, rf_12_0, bse, b1e, b2e, wre, nI_1, h.size, h.nm, nlt hi h.n20, if_false, if_true, h.at hi, ck_U hu', b2f, on, tn, eo, Bool.false_and, h.tick, if_pos f2]
    | true =>
      by_cases ex : b 37 (65 * i + 35) = nI x
      · by_cases ep : b 37 (65 * i + 42) ≤ 0
        · refine ⟨(z, a), (z, b), ?_, ?_, rfl, hM⟩ <;> simp only [LF_X7_driveCoils_5, LF_X12_steer_116, rf_12_0, bse, b1e, b2e, wre, nI_1, h.size, h.nm, nlt hi h.n20, if_false, if_true, h.at hi, ck_U hu', b2f, b2t, on, tn, eo, Bool.true_and, h.tick, if_pos f2, rf_U0 hu', rp_35 hu', p35, if_pos ex, decide_eq_true ex, rp_42 hu', p42, gt_42 hu, if_pos ep, rf_24_37, ri_nI ln_44 hx (show 3 < 2 ^ 31 by decide), wi_nI ln_44 hx (show 3 < 2 ^ 31 by decide), uI_id0, Int32.sub_zero]
        · have h2 := hM.ratU (j := x) (v := a 14 x + lmt z (-1) 1) hx (congrArg (· + lmt z (-1) 1) (h.rat hx))
          refine ⟨(z - lmt z (-1) 1, uI a 14 x (a 14 x + lmt z (-1) 1)), (z - lmt z (-1) 1, uI b 44 x (b 44 x + lmt z (-1) 1)), ?_, ?_, rfl, h2⟩ <;> simp only [LF_X7_driveCoils_5, LF_X12_steer_116, rf_12_0, bse, b1e, b2e, wre, nI_1, h.size, h.nm, nlt hi h.n20, if_false, if_true, h.at hi, ck_U hu', b2f, b2t, on, tn, eo, Bool.true_and, h.tick, if_pos f2, rf_U0 hu', rp_35 hu', p35, if_pos ex, decide_eq_true ex, rp_42 hu', p42, gt_42 hu, if_neg ep, rf_24_37, ri_nI ln_44 hx (show 3 < 2 ^ 31 by decide), wi_nI ln_44 hx (show 3 < 2 ^ 31 by decide), spdC hx, limC, limM]
      · refine ⟨(z, a), (z, b), ?_, ?_, rfl, hM⟩ <;> simp only [LF_X7_driveCoils_5, LF_X12_steer_116, rf_12_0, bse, b1e, b2e, wre, nI_1, h.size, h.nm, nlt hi h.n20, if_false, if_true, h.at hi, ck_U hu', b2f, b2t, on, tn, eo, Bool.true_and, h.tick, if_pos f2, rf_U0 hu', rp_35 hu', p35, if_neg ex, decide_eq_false ex]
theorem coil_no {x : Nat} (hN : 5000 ≤ N) (h : RM n cd pb L t s0 B D mo c m) (y : Int32) (h8 : t % 8 ≠ 0) : LF_X12_steer_116 N N 24 (nI x) y (nI 0) m L (GRf pb) = some m := by
  have ht := h.1.tlt
  have f2 : ¬ iR (nI t) 8 = 0 := fun z => h8 ((iR_zero (k := 8) (t := t) (by omega) (by decide) (by decide)).mp z)
  obtain ⟨k, rfl⟩ : ∃ z, N = z + 1 := ⟨N - 1, by omega⟩
  by_cases q : nI n ≤ nI 0
  · simp only [LF_X12_steer_116, h.1.nm, if_pos q]
  · simp only [LF_X12_steer_116, h.1.nm, if_neg q, h.1.tick, if_neg f2]
/-- a jet of axis x that may fire now -/
def gsV (X : Nat → Int32) (i : Nat) : Bool := decide (X (65 * vN (X (65 * i + 27)) + 63) = 0) && !decide (X (65 * vN (X (65 * i + 27)) + 10) < X (65 * i + 47))
def btV (cd : Nat → Nat) (X : Nat → Int32) (t i : Nat) : Bool := !isL (cd i) 19 || decide (iR (nI t) (X (65 * i + 48)) = 0)
def pJ (cd : Nat → Nat) (X : Nat → Int32) (t x i : Nat) : Bool := tnV cd X 18 x i && gsV X i && btV cd X t i
theorem i19 : ∀ c, c < 29 → (isL c 19 = true ↔ c = 19) := by decide
theorem jetTank {i : Nat} (h : RC n cd pb L t s0 B D c m) (hi : i < n) (h18 : isL (cd i) 18 = true) : ∃ v, v < n ∧ cd v = 4 ∧ m 37 (65 * i + 27) = nI v ∧ vN (m 37 (65 * i + 27)) = v := by
  obtain ⟨v, hv, h4, q27⟩ := (h.si hi).2.2.2.2.2.2.2.2.2.2.2.2.2.1 (Or.inl h18)
  have q27 : m 37 (65 * i + 27) = nI v := q27
  exact ⟨v, hv, h4, q27, by rw [q27]; exact nI_clamp (by have := h.lt20 hv; omega)⟩
theorem firstJet_val {x : Nat} (hN : 5000 ≤ N) (h : RC n cd pb L t s0 B D c m) : F_X12_firstJet N 24 (nI x) m L (GRf pb) = some (fd (pJ cd (m 37) t x) n (-1)) := by
  have hn := h.n20
  have key := down1 (f := fun k i z => LF_X12_firstJet_9 N k 24 (nI x) z (nI i - 1) m L (GRf pb)) (p := pJ cd (m 37) t x) n ?_ ?_ n N (-1) (by omega) (by omega)
  · simp only [F_X12_firstJet, ck_24, if_true, wre, h.nm]
    rw [key]
    rfl
  · intro k z
    simp only [LF_X12_firstJet_9, nI_m0, if_true]
  · intro k i z hi
    have hu := h.lt20 hi
    have z0 : (nI i < 0) = False := eq_false (nI_pos (by omega))
    have tn : F_X12_turns N 24 (nI i) 18 (nI x) m L (GRf pb) = _ := turns_ok (l := 18) (x := x) hN h hi (by decide) i186
    have h0 : m 37 (65 * i + 0) = nI (cd i) := (h.un hi).2.2.2.2.1
    unfold pJ
    cases e1 : tnV cd (m 37) 18 x i with
    | false => simp only [LF_X12_firstJet_9, nI_pred, z0, if_false, tn, e1, b1e, b2f, if_true, wre, nI_m, Bool.false_and, cond_false, zer0]
    | true =>
      have h18 : isL (cd i) 18 = true := by unfold tnV at e1; rw [Bool.and_eq_true, Bool.and_eq_true] at e1; exact e1.1.1
      obtain ⟨v, hv, h4, q27, vn⟩ := jetTank h hi h18
      have hv20 := h.lt20 hv
      have whv := h.whM hv
      unfold gsV btV
      rw [vn]
      cases e2 : decide (m 37 (65 * v + 63) = 0) with
      | false => simp only [LF_X12_firstJet_9, nI_pred, z0, if_false, tn, e1, b1e, b2t, b2f, if_true, wre, nI_m, Bool.true_and, Bool.false_and, cond_false, zer0, gt_27 hu, q27, whv, e2]
      | true =>
        by_cases e3 : m 37 (65 * v + 10) < m 37 (65 * i + 47)
        · simp only [LF_X12_firstJet_9, nI_pred, z0, if_false, tn, e1, b1e, b2t, b2f, if_true, wre, nI_m, Bool.true_and, Bool.false_and, cond_false, zer0, gt_27 hu, q27, whv, e2, gt_10 hv20, gt_47 hu, if_pos e3, decide_eq_true e3, Bool.not_true]
        · have q := i19 _ (h.cd29 hi)
          have c19 : (nI (cd i) = 19) = (cd i = 19) := propext (nI_eq (b := 19) (by have := h.cd29 hi; omega) (by decide))
          by_cases e4 : cd i = 19
          · obtain ⟨kb, k1, k2, k3⟩ := (h.si hi).2.2.2.2.2.2.2.2.2.2.1 e4
            have k3 : m 37 (65 * i + 48) = nI kb := k3
            have zb : (nI kb = 0) = False := eq_false (nI_ne0 (by omega) (by omega))
            by_cases e5 : iR (nI t) (nI kb) = 0
            · simp only [LF_X12_firstJet_9, nI_pred, z0, if_false, tn, e1, b1e, b2t, b2f, if_true, wre, nI_m, Bool.true_and, Bool.false_and, cond_true, zer0, one0, gt_27 hu, q27, whv, e2, gt_10 hv20, gt_47 hu, if_neg e3, decide_eq_false e3, Bool.not_false, gt_0 hu, h0, c19, if_pos e4, gt_48 hu, k3, zb, h.tick, if_pos e5, q.mpr e4, Bool.not_true, Bool.false_or, decide_eq_true e5]
            · simp only [LF_X12_firstJet_9, nI_pred, z0, if_false, tn, e1, b1e, b2t, b2f, if_true, wre, nI_m, Bool.true_and, Bool.false_and, cond_false, zer0, one0, gt_27 hu, q27, whv, e2, gt_10 hv20, gt_47 hu, if_neg e3, decide_eq_false e3, Bool.not_false, gt_0 hu, h0, c19, if_pos e4, gt_48 hu, k3, zb, h.tick, if_neg e5, q.mpr e4, Bool.not_true, Bool.false_or, decide_eq_false e5]
          · have n19 : isL (cd i) 19 = false := by cases z : isL (cd i) 19 with
              | false => rfl
              | true => exact absurd (q.mp z) e4
            simp only [LF_X12_firstJet_9, nI_pred, z0, if_false, tn, e1, b1e, b2t, b2f, if_true, wre, nI_m, Bool.true_and, Bool.false_and, cond_true, zer0, one0, gt_27 hu, q27, whv, e2, gt_10 hv20, gt_47 hu, if_neg e3, decide_eq_false e3, Bool.not_false, gt_0 hu, h0, c19, if_neg e4, n19, Bool.true_or]
theorem gas_ok {i : Nat} (h : RC n cd pb L t s0 B D c m) (hi : i < n) (h18 : isL (cd i) 18 = true) : F_X7_hasGas 12 (U i) c L (GRf pb) = some (gsV (m 37) i) := by
  obtain ⟨v, hv, h4, q27, vn⟩ := jetTank h hi h18
  have hu := h.lt20 hi
  have hu' : i ≤ 20 := by omega
  have hv20 := h.lt20 hv
  have hv' : v ≤ 20 := by omega
  have g4 : F_X9_isWhole (U v) 4 c L (GRf pb) = _ := h.wh (l := 4) hv (by decide)
  rw [h4, i44, Bool.true_and] at g4
  have p27 := h.pt (k := 27) hi (by decide) (by decide) (by decide) (by decide) (by decide)
  have p47 := h.pt (k := 47) hi (by decide) (by decide) (by decide) (by decide) (by decide)
  have p10 := h.pt (k := 10) hv (by decide) (by decide) (by decide) (by decide) (by decide)
  unfold gsV
  rw [vn]
  cases e2 : decide (m 37 (65 * v + 63) = 0) with
  | false => simp only [F_X7_hasGas, ck_12, ck_U hu', ck_U hv', if_true, rf_12_0, rf_U0 hu', rf_U0 hv', bse, b1e, rp_27 hu', p27, q27, h.at hv, g4, e2, b2f, Bool.false_and]
  | true =>
    by_cases e3 : m 37 (65 * v + 10) < m 37 (65 * i + 47)
    · simp only [F_X7_hasGas, ck_12, ck_U hu', ck_U hv', if_true, if_false, rf_12_0, rf_U0 hu', rf_U0 hv', bse, b1e, rp_27 hu', p27, q27, h.at hv, g4, e2, b2t, Bool.true_and, rp_10 hv', p10, rp_47 hu', p47, if_pos e3, decide_eq_true e3, Bool.not_true]
    · simp only [F_X7_hasGas, ck_12, ck_U hu', ck_U hv', if_true, if_false, rf_12_0, rf_U0 hu', rf_U0 hv', bse, b1e, rp_27 hu', p27, q27, h.at hv, g4, e2, b2t, Bool.true_and, rp_10 hv', p10, rp_47 hu', p47, if_neg e3, decide_eq_false e3, Bool.not_false]
theorem jet_ok {x : Nat} (hN : 5000 ≤ N) (h : RC n cd pb L t s0 B D c m) (hx : x < 3) : ∃ z, F_X7_readyJet N 12 (nI x) (nI t) c L (GRf pb) = some z ∧ F_X12_firstJet N 24 (nI x) m L (GRf pb) = some z ∧ (z = -1 ∨ ∃ j, j < n ∧ z = nI j ∧ isL (cd j) 18 = true) := by
  have hn := h.n20
  have ht := h.tlt
  have e1 := firstJet_val (x := x) hN h
  have key := find1 (f := fun k i => LF_X7_readyJet_2 N k 12 (nI x) (nI t) (nI i) c L (GRf pb)) (p := pJ cd (m 37) t x) (g := fun j => nI j) n ?_ ?_ ?_ n 0 N (by omega) (by omega)
  · rcases key with ⟨a, b⟩ | ⟨j, -, a2, a3, a4, b⟩
    · refine ⟨-1, ?_, by rw [e1, fd_none _ _ (fun i hi => a i (by omega) hi)], Or.inl rfl⟩
      have b : LF_X7_readyJet_2 N N 12 (nI x) (nI t) 0 c L (GRf pb) = _ := b
      simp only [F_X7_readyJet, ck_12, if_true, b, bsr]
    · refine ⟨nI j, ?_, by rw [e1, fd_some a3 (fun i hi => a4 i (by omega) hi) n _ a2], Or.inr ⟨j, a2, rfl, ?_⟩⟩
      · have b : LF_X7_readyJet_2 N N 12 (nI x) (nI t) 0 c L (GRf pb) = _ := b
        simp only [F_X7_readyJet, ck_12, if_true, b, bsl]
      · unfold pJ tnV at a3
        rw [Bool.and_eq_true, Bool.and_eq_true, Bool.and_eq_true, Bool.and_eq_true] at a3
        exact a3.1.1.1.1
  · intro k
    simp only [LF_X7_readyJet_2, rf_12_0, bse, h.size, b1e, nle h.n20, if_true]
  all_goals
    intro k i hi ep
    have hu := h.lt20 hi
    have hu' : i ≤ 20 := by omega
    have on : F_X9_isOn (U i) 18 c L (GRf pb) = _ := h.on (l := 18) hi (by decide) (by decide)
    have is19 : F_X9_is (U i) 19 c L (GRf pb) = _ := h.is (l := 19) hi (by decide)
    have p35 := h.pt (k := 35) hi (by decide) (by decide) (by decide) (by decide) (by decide)
    have p48 := h.pt (k := 48) hi (by decide) (by decide) (by decide) (by decide) (by decide)
    unfold pJ tnV btV at ep
    cases e1 : (isL (cd i) 18 && decide (m 37 (65 * i + 22) = 1)) with
    | false =>
      first
      | (rw [e1] at ep; exact Bool.noConfusion (show false = true from ep))
      | simp only [LF_X7_readyJet_2, rf_12_0, bse, h.size, b1e, nlt hi h.n20, if_false, h.at hi, ck_U hu', if_true, on, e1, b2f, wre, nI_1]
    | true =>
      have h18 : isL (cd i) 18 = true := by rw [Bool.and_eq_true] at e1; exact e1.1
      have gs := gas_ok h hi h18
      by_cases ex : m 37 (65 * i + 35) = nI x
      · cases e2 : gsV (m 37) i with
        | false =>
          first
          | (rw [e1, e2, Bool.and_false] at ep; exact Bool.noConfusion (show false = true from ep))
          | simp only [LF_X7_readyJet_2, rf_12_0, bse, h.size, b1e, nlt hi h.n20, if_false, h.at hi, ck_U hu', if_true, on, e1, b2t, b2f, wre, nI_1, rf_U0 hu', rp_35 hu', p35, if_pos ex, gs, e2]
        | true =>
          cases e19 : isL (cd i) 19 with
          | false =>
            first
            | (rw [e1, e2, e19, decide_eq_true ex] at ep; exact Bool.noConfusion (show true = false from ep))
            | simp only [LF_X7_readyJet_2, rf_12_0, bse, h.size, b1e, nlt hi h.n20, if_false, h.at hi, ck_U hu', if_true, on, e1, b2t, b2f, wre, nI_1, rf_U0 hu', rp_35 hu', p35, if_pos ex, gs, e2, is19, e19]
          | true =>
            obtain ⟨kb, k1, k2, k3⟩ := (h.si hi).2.2.2.2.2.2.2.2.2.2.1 ((i19 _ (h.cd29 hi)).mp e19)
            have k3 : m 37 (65 * i + 48) = nI kb := k3
            have mul := isMul_val (t := t) (k := kb) (by omega) (by omega) (by omega) (I := c) (L := L) (R := GRf pb)
            have ir := iR_zero (t := t) (k := kb) (by omega) (by omega) (by omega)
            by_cases e5 : t % kb = 0
            · first
              | (rw [e1, e2, e19, k3, decide_eq_true ex, decide_eq_true (ir.mpr e5)] at ep; exact Bool.noConfusion (show true = false from ep))
              | simp only [LF_X7_readyJet_2, rf_12_0, bse, h.size, b1e, nlt hi h.n20, if_false, h.at hi, ck_U hu', if_true, on, e1, b2t, b2f, wre, nI_1, rf_U0 hu', rp_35 hu', p35, if_pos ex, gs, e2, is19, e19, rp_48 hu', p48, k3, mul, decide_eq_true e5]
            · first
              | (rw [e1, e2, e19, k3, decide_eq_true ex, decide_eq_false (fun z => e5 (ir.mp z))] at ep; exact Bool.noConfusion (show false = true from ep))
              | simp only [LF_X7_readyJet_2, rf_12_0, bse, h.size, b1e, nlt hi h.n20, if_false, h.at hi, ck_U hu', if_true, on, e1, b2t, b2f, wre, nI_1, rf_U0 hu', rp_35 hu', p35, if_pos ex, gs, e2, is19, e19, rp_48 hu', p48, k3, mul, decide_eq_false e5]
      · first
        | (rw [e1, decide_eq_false ex] at ep; exact Bool.noConfusion (show false = true from ep))
        | simp only [LF_X7_readyJet_2, rf_12_0, bse, h.size, b1e, nlt hi h.n20, if_false, h.at hi, ck_U hu', if_true, on, e1, b2t, b2f, wre, nI_1, rf_U0 hu', rp_35 hu', p35, if_neg ex]
theorem unload_ok {i j : Nat} (h : RM n cd pb L t s0 B D mo c m) (hi : i < n) (hj : j < n) (h18 : isL (cd j) 18 = true) (h0 : m 37 (65 * i + 44) ≠ 0) : ∃ c' m', F_X7_unload 12 (U i) (U j) c L (GRf pb) = some c' ∧ (bn1 (F_X12_get 24 (nI j) 42 m L (GRf pb)) fun v11 =>
      bn1 (F_X12_amount (m 37 (65 * i + 44)) m L (GRf pb)) fun v13 =>
      bn1 (F_X12_limit v11 (0 : Int32) v13 m L (GRf pb)) fun v15 =>
      bn1 (if 0 ≤ m 37 (65 * i + 44) then some (m 37 (65 * i + 44) - v15) else some (m 37 (65 * i + 44) + v15)) fun (s17 : Int32) =>
      bn1 (F_X12_set 24 (nI i) (44 : Int32) s17 m L (GRf pb)) fun I21 =>
      bn1 (F_X12_get 24 (nI j) (27 : Int32) I21 L (GRf pb)) fun v23 =>
      bn1 (F_X12_get 24 (nI j) (47 : Int32) I21 L (GRf pb)) fun v25 =>
      bn1 (F_X12_grow 24 v23 (10 : Int32) (-v25) I21 L (GRf pb)) fun I27 =>
      bn1 (F_X12_grow 24 (nI j) (40 : Int32) (1 : Int32) I27 L (GRf pb)) fun I29 =>
      some (I29)) = some m' ∧ RM n cd pb L t s0 B D mo c' m' := by
  have hu := h.1.lt20 hi
  have hu' : i ≤ 20 := by omega
  have hj20 := h.1.lt20 hj
  have hj' : j ≤ 20 := by omega
  obtain ⟨v, hv, h4, q27, vn⟩ := jetTank h.1 hj h18
  have hv20 := h.1.lt20 hv
  have hv' : v ≤ 20 := by omega
  have p44 := h.1.pt (k := 44) hi (by decide) (by decide) (by decide) (by decide) (by decide)
  have p42 := h.1.pt (k := 42) hj (by decide) (by decide) (by decide) (by decide) (by decide)
  have sg : ∃ s, (if m 37 (65 * i + 44) ≤ 0 then some (m 37 (65 * i + 44) + lmt (m 37 (65 * j + 42)) 0 (abv (m 37 (65 * i + 44)))) else some (m 37 (65 * i + 44) - lmt (m 37 (65 * j + 42)) 0 (abv (m 37 (65 * i + 44))))) = some s ∧ (if 0 ≤ m 37 (65 * i + 44) then some (m 37 (65 * i + 44) - lmt (m 37 (65 * j + 42)) 0 (abv (m 37 (65 * i + 44)))) else some (m 37 (65 * i + 44) + lmt (m 37 (65 * j + 42)) 0 (abv (m 37 (65 * i + 44))))) = some s := by
    by_cases q : m 37 (65 * i + 44) ≤ 0
    · have q2 : ¬ 0 ≤ m 37 (65 * i + 44) := fun z => h0 (Int32.le_antisymm q z)
      exact ⟨_, if_pos q, if_neg q2⟩
    · have q2 : 0 ≤ m 37 (65 * i + 44) := Int32.le_of_lt (Int32.not_le.mp q)
      exact ⟨_, if_neg q, if_pos q2⟩
  obtain ⟨s, s1, s2⟩ := sg
  have h1 := h.part (k := 44) (v := s) hi (by unfold dynP; omega) (by omega) (by omega) rfl
  have e27 := h1.1.pt (k := 27) hj (by decide) (by decide) (by decide) (by decide) (by decide)
  have e47 := h1.1.pt (k := 47) hj (by decide) (by decide) (by decide) (by decide) (by decide)
  have e10 := h1.1.pt (k := 10) hv (by decide) (by decide) (by decide) (by decide) (by decide)
  have at1 := h1.1.at hv
  generalize hc1 : uI c (U i + 1) 44 s = c1 at *
  have q1 : uI m 37 (65 * i + 44) s 37 (65 * j + 27) = nI v := by rw [uI_at (by omega)]; exact q27
  generalize hm1 : uI m 37 (65 * i + 44) s = m1 at *
  have h2 := h1.part (k := 10) (v := m1 37 (65 * v + 10) - m1 37 (65 * j + 47)) (w := m1 37 (65 * v + 10) + -m1 37 (65 * j + 47)) hv (by unfold dynP; omega) (by omega) (by omega) (Int32.sub_eq_add_neg _ _)
  have e40 := h2.1.pt (k := 40) hj (by decide) (by decide) (by decide) (by decide) (by decide)
  generalize hc2 : uI c1 (U v + 1) 10 (m1 37 (65 * v + 10) - m1 37 (65 * j + 47)) = c2 at *
  generalize hm2 : uI m1 37 (65 * v + 10) (m1 37 (65 * v + 10) + -m1 37 (65 * j + 47)) = m2 at *
  have h3 := h2.part (k := 40) (v := m2 37 (65 * j + 40) + 1) hj (by unfold dynP; omega) (by omega) (by omega) rfl
  refine ⟨_, _, ?_, ?_, h3⟩
  · simp only [F_X7_unload, ck_12, ck_U hu', ck_U hj', ck_U hv', if_true, rf_U0 hu', rf_U0 hj', rf_U0 hv', bse, b1e, rp_44 hu', p44, rp_42 hj', p42, absC_val, limC_val, s1, wp_44 hu', hc1, rf_12_0, rp_27 hj', e27, q1, at1, rp_10 hv', e10, rp_47 hj', e47, wp_10 hv', hc2, rp_40 hj', e40, wp_40 hj']
  · simp only [gt_42 hj20, b1e, absM_val, limM_val, s2, st_44 hu, hm1, gt_27 hj20, q1, gt_47 hj20, gw_10 hv20, hm2, gw_40 hj20]
theorem slow_ok {x : Nat} (hN : 5000 ≤ N) (h : RM n cd pb L t s0 B D mo c m) (hx : x < 3) : Sm (F_X7_unloadWheels N 12 (nI x) (nI t) c L (GRf pb)) (LF_X12_steer_194 N N 24 (nI x) (nI 0) m L (GRf pb)) (RM n cd pb L t s0 B D mo) := by
  have hn := h.1.n20
  have key := loop2 (f := fun k i I => LF_X7_unloadWheels_2 N k 12 (nI x) (nI t) (nI i) I L (GRf pb)) (g := fun k i I => LF_X12_steer_194 N k 24 (nI x) (nI i) I L (GRf pb)) (R := fun _ a b => RM n cd pb L t s0 B D mo a b) (Q := RM n cd pb L t s0 B D mo) n ?_ ?_ n 0 N N c m (by omega) (by omega) (by omega) h
  · simp only [F_X7_unloadWheels, ck_12, if_true]
    obtain ⟨a, b, e1, e2, hr⟩ := key
    exact ⟨a, b, by rw [show (0 : Int32) = nI 0 from rfl, e1]; rfl, e2, hr⟩
  · intro k l a b h
    refine ⟨a, b, ?_, ?_, h⟩ <;> simp only [LF_X7_unloadWheels_2, LF_X12_steer_194, rf_12_0, bse, h.1.size, b1e, h.1.nm, nle h.1.n20, if_true]
  · intro k l i a b hi hM
    have h := hM.1
    have hu := h.lt20 hi
    have hu' : i ≤ 20 := by omega
    have on : F_X9_isOn (U i) 16 a L (GRf pb) = _ := h.on (l := 16) hi (by decide) (by decide)
    have tn : F_X12_turns N 24 (nI i) 16 (nI x) b L (GRf pb) = _ := turns_ok (l := 16) (x := x) hN h hi (by decide) i166
    have p35 := h.pt (k := 35) hi (by decide) (by decide) (by decide) (by decide) (by decide)
    have p43 := h.pt (k := 43) hi (by decide) (by decide) (by decide) (by decide) (by decide)
    have p44 := h.pt (k := 44) hi (by decide) (by decide) (by decide) (by decide) (by decide)
    unfold tnV at tn
    cases eo : (isL (cd i) 16 && decide (b 37 (65 * i + 22) = 1)) with
    | false =>
      refine ⟨a, b, ?_, ?_, hM⟩ <;> simp only [LF_X7_unloadWheels_2, LF_X12_steer_194, rf_12_0, bse, b1e, wre, nI_1, h.size, h.nm, nlt hi h.n20, if_false, if_true, h.at hi, ck_U hu', b2f, on, tn, eo, Bool.false_and, zer0]
    | true =>
      by_cases ex : b 37 (65 * i + 35) = nI x
      · by_cases e4 : 4 * abv (b 37 (65 * i + 44)) ≤ b 37 (65 * i + 43)
        · have e5 : ¬ b 37 (65 * i + 43) < 4 * abv (b 37 (65 * i + 44)) := Int32.not_lt.mpr e4
          refine ⟨a, b, ?_, ?_, hM⟩ <;> simp only [LF_X7_unloadWheels_2, LF_X12_steer_194, rf_12_0, bse, b1e, wre, nI_1, h.size, h.nm, nlt hi h.n20, if_false, if_true, h.at hi, ck_U hu', b2t, on, tn, eo, Bool.true_and, one0, rf_U0 hu', rp_35 hu', p35, if_pos ex, decide_eq_true ex, rp_44 hu', p44, rp_43 hu', p43, absC_val, if_pos e4, F_X12_slow, ck_24, gt_44 hu, gt_43 hu, absM_val, if_neg e5]
        · have e5 : b 37 (65 * i + 43) < 4 * abv (b 37 (65 * i + 44)) := Int32.not_le.mp e4
          obtain ⟨z, z1, z2, z3⟩ := jet_ok hN h hx
          rcases z3 with rfl | ⟨j, hj, rfl, h18⟩
          · refine ⟨a, b, ?_, ?_, hM⟩ <;> simp only [LF_X7_unloadWheels_2, LF_X12_steer_194, rf_12_0, bse, b1e, wre, nI_1, h.size, h.nm, nlt hi h.n20, if_false, if_true, h.at hi, ck_U hu', b2t, on, tn, eo, Bool.true_and, one0, rf_U0 hu', rp_35 hu', p35, if_pos ex, decide_eq_true ex, rp_44 hu', p44, rp_43 hu', p43, absC_val, if_neg e4, F_X12_slow, ck_24, gt_44 hu, gt_43 hu, absM_val, if_pos e5, z1, z2, m1_m1]
          · have hj20 := h.lt20 hj
            have hj' : j ≤ 20 := by omega
            have nz : b 37 (65 * i + 44) ≠ 0 := by
              intro q
              obtain ⟨k, k1, k2⟩ := (h.si hi).2.2.1
              have k2 : b 37 (65 * i + 43) = nI k := k2
              rw [q, k2] at e4
              exact e4 (by rw [show (4 : Int32) * abv 0 = 0 by decide]; exact nI_pos' (by omega))
            obtain ⟨c', m', u1, u2, hr⟩ := unload_ok hM hi hj h18 nz
            refine ⟨c', m', ?_, ?_, hr⟩
            · simp only [LF_X7_unloadWheels_2, rf_12_0, bse, b1e, wre, nI_1, h.size, nlt hi h.n20, if_false, if_true, h.at hi, ck_U hu', b2t, on, eo, one0, rf_U0 hu', rp_35 hu', p35, if_pos ex, rp_44 hu', p44, rp_43 hu', p43, absC_val, if_neg e4, z1, nI_m1 (show j < 2 ^ 31 by omega), h.at hj, ck_U hj', u1]
            · simp only [LF_X12_steer_194, b1e, wre, nI_1, h.nm, nlt hi h.n20, if_false, if_true, b2t, tn, eo, Bool.true_and, decide_eq_true ex, F_X12_slow, ck_24, gt_44 hu, gt_43 hu, absM_val, if_pos e5, z2, nI_m1 (show j < 2 ^ 31 by omega)]
              simp only [absM_val, b1e] at u2
              rw [u2]
              simp only [b1e]
      · refine ⟨a, b, ?_, ?_, hM⟩ <;> simp only [LF_X7_unloadWheels_2, LF_X12_steer_194, rf_12_0, bse, b1e, wre, nI_1, h.size, h.nm, nlt hi h.n20, if_false, if_true, h.at hi, ck_U hu', b2f, b2t, on, tn, eo, Bool.true_and, zer0, rf_U0 hu', rp_35 hu', p35, if_neg ex, decide_eq_false ex]
theorem steer_ok (hN : 5000 ≤ N) (h : RC n cd pb L t s0 B D c m) (hm : m 24 35 = 1 ∨ m 24 35 = 2) : Sm (F_X7_steer N 12 (nI t) (m 24 35) c L (GRf pb)) (LF_X12_control_88 N N 24 (nI 0) m L (GRf pb)) (RC n cd pb L t s0 B D) := by
  generalize hmo : m 24 35 = mo at hm
  have ht := h.tlt
  have key := loop2 (f := fun k i I => LF_X7_steer_2 N k 12 (nI t) mo (nI i) I L (GRf pb)) (g := fun k i I => LF_X12_control_88 N k 24 (nI i) I L (GRf pb)) (R := fun _ a b => RM n cd pb L t s0 B D mo a b) (Q := RC n cd pb L t s0 B D) 3 ?_ ?_ 3 0 N N c m (by omega) (by omega) (by omega) ⟨h, hmo⟩
  · simp only [F_X7_steer, ck_12, if_true]
    obtain ⟨a, b, e1, e2, hr⟩ := key
    exact ⟨a, b, by rw [show (0 : Int32) = nI 0 from rfl, e1]; rfl, e2, hr⟩
  · intro k l a b h
    have z3 : ((3 : Int32) ≤ nI 3) = True := eq_true (by decide)
    refine ⟨a, b, ?_, ?_, h.1⟩ <;> simp only [LF_X7_steer_2, LF_X12_control_88, z3, if_true]
  · intro k l x a b hx h
    have z3 : ((3 : Int32) ≤ nI x) = False := eq_false (nI_ge (b := 3) hx (by decide))
    obtain ⟨v2, v4, w1, w2, w3⟩ := wish_ok hN h.1 hx (by rw [h.2]; exact hm)
    rw [h.2] at w1
    obtain ⟨⟨z, a1⟩, ⟨w, b1⟩, s1, s2, hz, h1⟩ := spin_ok hN h hx (lmt (v2 / 16 - 2 * v4) (-30) 30)
    have hz : z = w := hz
    subst hz
    have h1 : RM n cd pb L t s0 B D mo a1 b1 := h1
    have s1 : LF_X7_spinWheels_5 N N 12 (nI x) (lmt (v2 / 16 - 2 * v4) (-30) 30) (lmt (v2 / 16 - 2 * v4) (-30) 30) 0 a L (GRf pb) = some (z, a1) := s1
    have s2 : LF_X12_steer_8 N N 24 (nI x) (lmt (v2 / 16 - 2 * v4) (-30) 30) 0 b L (GRf pb) = some (z, b1) := s2
    have rg : ∀ y : Int32, y - (y - z) = z := fun y => by rw [Int32.sub_eq_add_neg, Int32.neg_sub, Int32.sub_eq_add_neg, Int32.add_comm z, ← Int32.add_assoc, Int32.add_right_neg, Int32.zero_add]
    have lim : ∀ y, F_X11_limit y (-30) 30 a L (GRf pb) = some (lmt y (-30) 30) := fun y => limC_val
    have f1 : F_X11_isMultiple (nI t) 8 a1 L (GRf pb) = _ := isMul_val (k := 8) (by omega) (by decide) (by decide)
    by_cases q : t % 8 = 0
    · obtain ⟨a2, b2, g1, g2, h2⟩ := coil_ok hN h1 hx z q
      obtain ⟨a3, b3, g3, g4, h3⟩ := slow_ok hN h2 hx
      have g2 : LF_X12_steer_116 N N 24 (nI x) z 0 b1 L (GRf pb) = some b2 := g2
      have g4 : LF_X12_steer_194 N N 24 (nI x) 0 b2 L (GRf pb) = some b3 := g4
      refine ⟨a3, b3, ?_, ?_, h3⟩
      · simp only [LF_X7_steer_2, z3, if_false, w1, w2, b1e, lim, F_X7_spinWheels, ck_12, if_true, s1, b2e, wre, rg, f1, decide_eq_true q, b2t, g1, g3, nI_1]
      · simp only [LF_X12_control_88, z3, if_false, F_X12_steer, ck_24, if_true, w3, b1e, s2, g2, g4, wre, nI_1]
    · have g2 : LF_X12_steer_116 N N 24 (nI x) z 0 b1 L (GRf pb) = some b1 := coil_no hN h1 z q
      obtain ⟨a3, b3, g3, g4, h3⟩ := slow_ok hN h1 hx
      have g4 : LF_X12_steer_194 N N 24 (nI x) 0 b1 L (GRf pb) = some b3 := g4
      refine ⟨a3, b3, ?_, ?_, h3⟩
      · simp only [LF_X7_steer_2, z3, if_false, w1, w2, b1e, lim, F_X7_spinWheels, ck_12, if_true, s1, b2e, wre, rg, f1, decide_eq_false q, b2f, g3, nI_1]
      · simp only [LF_X12_control_88, z3, if_false, F_X12_steer, ck_24, if_true, w3, b1e, s2, g2, g4, wre, nI_1]
end P5
