/-! T3: a tick, a run, a command -/
section P16
variable {N n : Nat} {cd : Nat → Nat} {pb : Nat} {L : ML} {t s0 B D : Nat} {c m : MI} {mo : Int32}
theorem saveLine_m (hN : 5000 ≤ N) (h : RM n cd pb L t s0 B D mo c m) : Sm (F_X2_saveLine N 10 c L (GRf pb)) (LF_X12_control_10 N N 24 0 m L (GRf pb)) (RM n cd pb L t s0 B D mo) := by
  have key := loop2 (f := fun k i I => LF_X2_saveLine_2 N k 10 (nI i) I L (GRf pb)) (g := fun k i I => LF_X12_control_10 N k 24 (nI i) I L (GRf pb)) (R := fun _ a b => RM n cd pb L t s0 B D mo a b) (Q := RM n cd pb L t s0 B D mo) n ?_ ?_ n 0 N N c m (by omega) (by have := h.1.n20; omega) (by have := h.1.n20; omega) h
  · simp only [F_X2_saveLine, ck_10, if_true]
    obtain ⟨a, b, e1, e2, hr⟩ := key
    exact ⟨a, b, by rw [show (0 : Int32) = nI 0 from rfl, e1]; rfl, e2, hr⟩
  · intro k l a b hM
    have h := hM.1
    refine ⟨a, b, ?_, ?_, hM⟩ <;> simp only [LF_X2_saveLine_2, LF_X12_control_10, rf_10_0, bse, h.size, b1e, h.nm, nle h.n20, if_true]
  · intro k l i a b hi hM
    have h := hM.1
    have hu := h.lt20 hi
    have hu' : i ≤ 20 := by omega
    have f1 : F_X9_isOn (U i) 6 a L (GRf pb) = _ := h.on (l := 6) hi (by decide) (by decide)
    have f2 : F_X9_is (U i) 8 a L (GRf pb) = _ := h.is (l := 8) hi (by decide)
    have f3 : F_X12_isA N 24 (nI i) 8 b L (GRf pb) = _ := h.isA (l := 8) (by omega) hi (by decide)
    have p21 := h.pt (k := 21) hi (by decide) (by decide) (by decide) (by decide) (by decide)
    have fm := h.onM (show 6 ≤ N by omega) hi
    cases eB : (isL (cd i) 6 && decide (b 37 (65 * i + 22) = 1)) with
    | true =>
      by_cases e21 : b 37 (65 * i + 21) = 2
      ·
        cases e8 : isL (cd i) 8 with
        | true =>
          refine ⟨_, _, ?_, ?_, hM⟩ <;> simp only [LF_X2_saveLine_2, LF_X12_control_10, rf_10_0, bse, b1e, b2e, wre, nI_1, h.size, h.nm, nlt hi h.n20, if_false, if_true, h.at hi, ck_U hu', b2t, b2f, rf_U0 hu', one0, zer0, f1, f2, f3, rp_21 hu', p21, gt_21 hu, wp_22 hu', st_22 hu, fm, eB, if_pos e21, e8]
        | false =>
          have hr := hM.part (k := 22) hi (by unfold dynP; omega) (by omega) (fun _ => by have z := eB; rw [Bool.and_eq_true] at z; exact z.1) (rfl : (0 : Int32) = 0)
          refine ⟨_, _, ?_, ?_, hr⟩ <;> simp only [LF_X2_saveLine_2, LF_X12_control_10, rf_10_0, bse, b1e, b2e, wre, nI_1, h.size, h.nm, nlt hi h.n20, if_false, if_true, h.at hi, ck_U hu', b2t, b2f, rf_U0 hu', one0, zer0, f1, f2, f3, rp_21 hu', p21, gt_21 hu, wp_22 hu', st_22 hu, fm, eB, if_pos e21, e8]
      ·
        refine ⟨_, _, ?_, ?_, hM⟩ <;> simp only [LF_X2_saveLine_2, LF_X12_control_10, rf_10_0, bse, b1e, b2e, wre, nI_1, h.size, h.nm, nlt hi h.n20, if_false, if_true, h.at hi, ck_U hu', b2t, b2f, rf_U0 hu', one0, zer0, f1, f2, f3, rp_21 hu', p21, gt_21 hu, wp_22 hu', st_22 hu, fm, eB, if_neg e21]
    | false =>
      refine ⟨_, _, ?_, ?_, hM⟩ <;> simp only [LF_X2_saveLine_2, LF_X12_control_10, rf_10_0, bse, b1e, b2e, wre, nI_1, h.size, h.nm, nlt hi h.n20, if_false, if_true, h.at hi, ck_U hu', b2t, b2f, rf_U0 hu', one0, zer0, f1, f2, f3, rp_21 hu', p21, gt_21 hu, wp_22 hu', st_22 hu, fm, eB]
theorem RC.begin (h : RC n cd pb L t s0 B D c m) : ∃ b f, m 24 39 = nI b ∧ m 24 40 = nI f ∧ b + f ≤ B ∧ B < 2 ^ 30 ∧ RC n cd pb L t (b + f) B D c (uI m 24 50 0) := by
  obtain ⟨a1, a2, a3, a4, a5, a6, ⟨x, y, b1, b2, b3, b4, b5⟩, a8, a9, a10⟩ := h.2.2
  have f24 : ∀ p, p ≠ 50 → uI m 24 50 0 24 p = m 24 p := fun p z => uI_at (fun q => z q.2)
  have f37 : ∀ p, uI m 24 50 0 37 p = m 37 p := fun p => uI_at (by omega)
  refine ⟨x, y, b1, b2, b3, a6, h.1.m50, h.2.1.congr (fun _ _ _ => rfl) (fun o p z => uI_at (by unfold stm at z; omega)), ?_⟩
  refine ⟨by rw [f24 _ (by decide)]; exact a1, a2, by rw [f24 _ (by decide)]; exact a3, by rw [f24 _ (by decide)]; exact a4, a5, a6, ⟨x, y, by rw [f24 _ (by decide)]; exact b1, by rw [f24 _ (by decide)]; exact b2, b3, Or.inl (Nat.le_refl _), ?_⟩, ?_, ?_, fun u hu => by rw [f37]; exact a10 u hu⟩
  · rw [uI_same]; exact ⟨fun _ => rfl, fun _ => rfl⟩
  · rw [f24 _ (by decide), f24 _ (by decide), f24 _ (by decide), f24 _ (by decide)]; exact a8
  · intro u hu h5
    exact (a9 u hu h5).congr rfl (fun _ => rfl) (f37 _) (f37 _) (fun i hi => uI_at (by omega))
theorem RC.tickU {v w : Int32} (h : RC n cd pb L t s0 B D c m) (ht : t + 1 < 2 ^ 20) (hv : v = nI (t + 1)) (hw : w = nI (t + 1)) : RC n cd pb L (t + 1) s0 B D (uI c 10 6 v) (uI m 24 34 w) := by
  subst hv hw
  have hn := h.n20
  refine ⟨h.1.up (Or.inr (Or.inl ⟨rfl, by decide⟩)) rfl, h.2.1.congr (fun o p z => uI_at (by unfold stc at z; omega)) (fun o p z => uI_at (by unfold stm at z; omega)), ?_⟩
  obtain ⟨a1, a2, a3, a4, a5, a6, ⟨x, y, b1, b2, b3, b4, b5⟩, ⟨g, e, f, g1, g2, g3, g4, g5, g6, g7⟩, a9, a10⟩ := h.2.2
  refine ⟨uI_same, ht, by rw [uI_at (by omega)]; exact a3, by rw [uI_at (by omega)]; exact a4, a5, a6, ⟨x, y, by rw [uI_at (by omega)]; exact b1, by rw [uI_at (by omega)]; exact b2, b3, b4, by rw [uI_at (by omega)]; exact b5⟩, ⟨g, e, f, g1, g2, g3, by rw [uI_at (by omega)]; exact g4, by rw [uI_at (by omega)]; exact g5, by rw [uI_at (by omega)]; exact g6, by rw [uI_at (by omega)]; exact g7⟩, ?_, fun u hu => by rw [uI_at (by omega)]; exact a10 u hu⟩
  intro u hu h5
  have e : U u = 58 + 4 * u := rfl
  exact (a9 u hu h5).congr (uI_at (by omega)) (fun q => uI_at (by omega)) (uI_at (by omega)) (uI_at (by omega)) (fun i hi => uI_at (by omega))
def ltV (x : Int32) : Int32 := if 339 < x then (if 359 < x then (if 579 < x then 5 * (x - 579) else 0) else 100 - 5 * (x - 339)) else 100
theorem ltC {x : Int32} {I : MI} {R : MR} : F_X2_lightAt x I L R = some (ltV x) := by
  unfold F_X2_lightAt ltV
  by_cases a : 339 < x
  · rw [if_pos a, if_pos a]
    by_cases b : 359 < x
    · rw [if_pos b, if_pos b]
      by_cases d : 579 < x
      · rw [if_pos d, if_pos d]
      · rw [if_neg d, if_neg d]
    · rw [if_neg b, if_neg b]
  · rw [if_neg a, if_neg a]
theorem shineM {x : Int32} (hx : iR (m 24 34) 600 = x) : F_X12_shine 24 m L (GRf pb) = some (uI m 24 47 (ltV x)) := by
  unfold ltV
  by_cases a : 339 < x
  · by_cases b : 359 < x
    · by_cases d : 579 < x
      · simp only [F_X12_shine, ck_24, if_true, wre, hx, if_pos a, if_pos b, if_pos d, b1e]
      · simp only [F_X12_shine, ck_24, if_true, wre, hx, if_pos a, if_pos b, if_neg d, b1e]
    · simp only [F_X12_shine, ck_24, if_true, wre, hx, if_pos a, if_neg b, b1e]
  · simp only [F_X12_shine, ck_24, if_true, wre, hx, if_neg a, b1e]
theorem control_ok (hN : 5000 ≤ N) (h : RC n cd pb L t s0 B D c m) : ∃ c' m', (∀ {γ : Type} (f : MI → Option γ), (bn1 (
    if (c 10 7) = (3 : Int32) then
      bn1 (F_X2_saveLine N 10 c L (GRf pb)) fun I34 =>
      some (I34)
    else
      bn1 (
        if (c 10 7) = 0 then
          some (c)
        else
          bn1 (F_X11_isMultiple (nI t) (4 : Int32) c L (GRf pb)) fun b25 =>
          bn1 (
            if (b2i b25) = 0 then
              some (c)
            else
              (rf (GRf pb) 10 1 6).bind fun a31 =>
              bn1 (F_X7_steer N a31 (nI t) (c 10 7) c L (GRf pb)) fun I32 =>
              some (I32)
          ) fun (I27 : MI) =>
          some (I27)
      ) fun (I21 : MI) =>
      some (I21)
  ) fun (I17 : MI) => f I17) = f c') ∧ F_X12_control N 24 m L (GRf pb) = some m' ∧ RC n cd pb L t s0 B D c' m' := by
  have ht := h.tlt
  have mo : c 10 7 = m 24 35 := h.sc (o := 10) (p := 7) (b := 35) (by decide)
  obtain ⟨k, k1, k2⟩ := h.mode
  rw [mo]
  have f1 : F_X11_isMultiple (nI t) 4 c L (GRf pb) = _ := isMul_val (k := 4) (by omega) (by decide) (by decide)
  have f2 : (iR (nI t) 4 = 0) = (t % 4 = 0) := propext (iR_zero (k := 4) (t := t) (by omega) (by decide) (by decide))
  rcases (show k = 3 ∨ k = 0 ∨ k = 1 ∨ k = 2 by omega) with rfl | rfl | rfl | rfl
  · have k2 : m 24 35 = 3 := k2
    obtain ⟨a, b, e1, e2, hr, hm⟩ := saveLine_m (mo := 3) hN ⟨h, k2⟩
    refine ⟨a, b, ?_, ?_, hr⟩
    · intro γ f; simp (decide := true) only [k2, if_true, e1, b1e]
    · simp (decide := true) only [F_X12_control, ck_24, if_true, if_false, k2, e2, b1e, hm]
  · have k2 : m 24 35 = 0 := k2
    refine ⟨c, m, ?_, ?_, h⟩
    · intro γ f; simp (decide := true) only [k2, if_true, if_false, b1e]
    · simp (decide := true) only [F_X12_control, ck_24, if_true, if_false, k2, b1e]
  · have k2 : m 24 35 = 1 := k2
    by_cases q : t % 4 = 0
    · obtain ⟨a, b, e1, e2, hr⟩ := steer_ok hN h (Or.inl k2)
      have e2 : LF_X12_control_88 N N 24 0 m L (GRf pb) = some b := e2
      rw [k2] at e1
      refine ⟨a, b, ?_, ?_, hr⟩
      · intro γ f; simp (decide := true) only [k2, if_true, if_false, b1e, f1, decide_eq_true q, b2t, rf_10_1, bse, e1]
      · simp (decide := true) only [F_X12_control, ck_24, if_true, if_false, k2, b1e, h.tick, f2, if_pos q, e2]
    · refine ⟨c, m, ?_, ?_, h⟩
      · intro γ f; simp (decide := true) only [k2, if_true, if_false, b1e, f1, decide_eq_false q, b2f]
      · simp (decide := true) only [F_X12_control, ck_24, if_true, if_false, k2, b1e, h.tick, f2, if_neg q]
  · have k2 : m 24 35 = 2 := k2
    by_cases q : t % 4 = 0
    · obtain ⟨a, b, e1, e2, hr⟩ := steer_ok hN h (Or.inr k2)
      have e2 : LF_X12_control_88 N N 24 0 m L (GRf pb) = some b := e2
      rw [k2] at e1
      refine ⟨a, b, ?_, ?_, hr⟩
      · intro γ f; simp (decide := true) only [k2, if_true, if_false, b1e, f1, decide_eq_true q, b2t, rf_10_1, bse, e1]
      · simp (decide := true) only [F_X12_control, ck_24, if_true, if_false, k2, b1e, h.tick, f2, if_pos q, e2]
    · refine ⟨c, m, ?_, ?_, h⟩
      · intro γ f; simp (decide := true) only [k2, if_true, if_false, b1e, f1, decide_eq_false q, b2f]
      · simp (decide := true) only [F_X12_control, ck_24, if_true, if_false, k2, b1e, h.tick, f2, if_neg q]
theorem tick_ok (hN : 5000 ≤ N) (ht1 : t + 1 < 2 ^ 20) (hB : B + 21 < 2 ^ 30) (hD : D + 820 < 2 ^ 30) (h : RC n cd pb L t s0 B D c m) : ∃ c' m' s', F_X2_tick N 10 c L (GRf pb) = some c' ∧ F_X12_doTick N 24 m L (GRf pb) = some m' ∧ RC n cd pb L (t + 1) s' (B + 21) (D + 820) c' m' := by
  have ht := h.tlt
  have tk : c 10 6 = nI t := (h.sc (o := 10) (p := 6) (b := 34) (by decide)).trans h.tick
  have s4 : c 16 4 = m 24 39 := h.sc (o := 16) (p := 4) (b := 39) (by decide)
  have s5 : c 16 5 = m 24 40 := h.sc (o := 16) (p := 5) (b := 40) (by decide)
  obtain ⟨tb, tf, eb, ef, hbf, hB2, h0⟩ := h.begin
  have fm6 : F_J9_floorMod_7cf53 (nI t) 600 c L (GRf pb) = some (iR (nI t) 600) := by
    rw [fm_val (by decide)]; exact congrArg some (md_iR (d := 600) (by omega) (by decide) (by decide))
  have sh := shineM (pb := pb) (L := L) (m := uI m 24 50 0) (x := iR (nI t) 600) (by rw [h0.tick])
  have h2 := h0.scal (o := 10) (p := 8) (b := 47) (v := ltV (iR (nI t) 600)) (by decide) (by decide) rfl
  obtain ⟨c3, m3, e3, f3, h3⟩ := items_ok hN h2
  obtain ⟨c4, m4, e4, f4, h4⟩ := read_ok hN h3
  obtain ⟨c5, m5, e5, f5, h5⟩ := control_ok hN h4
  obtain ⟨c6, m6, e6, f6, h6⟩ := turn_ok hN h5
  have an : F_X7_angle 12 1 c6 L (GRf pb) = some (c6 13 1) := angC (x := 1) (by decide)
  have an1 := h6.ang (j := 1) (by decide)
  have l6 : c6 10 8 = m6 24 47 := h6.sc (o := 10) (p := 8) (b := 47) (by decide)
  obtain ⟨c7, m7, e7, f7, h7⟩ := power_ok hN (by omega) h6
  obtain ⟨c8, m8, e8, f8, h8⟩ := flow_ok hN h7
  have l8 : c8 10 8 = m8 24 47 := h8.sc (o := 10) (p := 8) (b := 47) (by decide)
  obtain ⟨c9, m9, e9, f9, h9⟩ := heat_ok hN (by omega) h8
  have fm25 : F_J9_floorMod_7cf53 (nI t) 25 c9 L (GRf pb) = some (nI (t % 25)) := by
    rw [fm_val (by decide)]; exact congrArg some (md_nI (d := 25) (by omega) (by decide) (by decide))
  have z24 : (nI (t % 25) = 24) = (t % 25 = 24) := propext (nI_eq (b := 24) (by omega) (by decide))
  have fr : ∃ c' m', (if t % 25 = 24 then F_X2_keepFrame N 10 (nI t) c9 L (GRf pb) else some c9) = some c' ∧ F_X12_frames N 24 m9 L (GRf pb) = some m' ∧ RC n cd pb L t (tb + tf) (B + 1 + 20) D c' m' := by
    by_cases q : t % 25 = 24
    · obtain ⟨a, b, g1, g2, g3⟩ := frames_ok hN h9 q
      exact ⟨a, b, by rw [if_pos q]; exact g1, g2, g3⟩
    · exact ⟨c9, m9, by rw [if_neg q], frames_no h9 q, h9⟩
  obtain ⟨c10, m10, e10, f10, h10⟩ := fr
  obtain ⟨c11, m11, e11, f11, h11⟩ := send_ok hN hD h10
  have mo : c11 10 7 = m11 24 35 := h11.sc (o := 10) (p := 7) (b := 35) (by decide)
  have t11 : c11 10 6 = m11 24 34 := h11.sc (o := 10) (p := 6) (b := 34) (by decide)
  have s4' : c11 16 4 = m11 24 39 := h11.sc (o := 16) (p := 4) (b := 39) (by decide)
  have s5' : c11 16 5 = m11 24 40 := h11.sc (o := 16) (p := 5) (b := 40) (by decide)
  obtain ⟨-, -, -, -, -, -, ⟨x, y, b1, b2, b3, b4, b5⟩, -, -⟩ := h11.2.2
  have b4 : tb + tf ≤ x + y := by
    rcases b4 with z | z
    · exact z
    · omega
  have f8 : LF_X12_flow_2 N N 24 0 m7 L (GRf pb) = some m8 := f8
  -- the class's tick, up to its end
  have kf : ∀ {γ : Type} (f : MI → Option γ), (bn1 (if nI (t % 25) = 24 then bn1 (F_X2_keepFrame N 10 (nI t) c9 L (GRf pb)) fun I53 => some I53 else some c9) fun I49 => f I49) = f c10 := by
    intro γ f
    by_cases q : t % 25 = 24
    · rw [if_pos q] at e10
      simp only [z24, if_pos q, e10, b1e]
    · rw [if_neg q] at e10
      have e10 := Option.some.inj e10
      simp only [z24, if_neg q, b1e, e10]
  have cE : F_X2_tick N 10 c L (GRf pb) = (bn1 (
    if (c11 10 7) = 0 then
      some (c11)
    else
      bn1 (F_X6_brownoutCount 16 c11 L (GRf pb)) fun v61 =>
      bn1 (F_X6_failureCount 16 c11 L (GRf pb)) fun v63 =>
      bn1 (
        if (v61 + v63) ≤ nI (tb + tf) then
          some (c11)
        else
          wr (uI c11 10 7 (3 : Int32)) fun (I69 : MI) =>
          some (I69)
      ) fun (I65 : MI) =>
      some (I65)
  ) fun (I57 : MI) =>
  wr (uI I57 10 6 ((I57 10 6) + (1 : Int32))) fun (I70 : MI) =>
  some (I70)) := by
    simp only [F_X2_tick, ck_10, if_true, wre, tk, rf_10_2, bse, F_X6_brownoutCount, F_X6_failureCount, ck_16, b1e, s4, s5, eb, ef, nI_add, fm6, ltC, e3, e4]
    rw [e5]
    simp only [rf_10_1, bse, e6, b1e, an, an1, l6, e7, e8, l8, e9, fm25]
    rw [kf]
    simp only [e11, b1e]
  have mE : F_X12_doTick N 24 m L (GRf pb) = (bn1 (
    if (m11 24 50) = 0 then
      some ((m11 24 35))
    else
      bn1 (
        if (m11 24 35) = 0 then
          some ((m11 24 35))
        else
          some ((3 : Int32))
      ) fun (s26 : Int32) =>
      some (s26)
  ) fun (s22 : Int32) =>
  wr (uI m11 24 35 s22) fun (I30 : MI) =>
  wr (uI I30 24 34 ((I30 24 34) + (1 : Int32))) fun (I31 : MI) =>
  some (I31)) := by
    simp only [F_X12_doTick, ck_24, if_true, wre, sh, b1e, f3, f4, f5, f6, f7, F_X12_flow, f8, f9, f10, f11]
  rw [cE, mE]
  have xy : (m11 24 39 + m11 24 40 ≤ nI (tb + tf)) = (x + y = tb + tf) := by
    rw [b1, b2, nI_add]
    exact propext ⟨fun q => by have := (nI_leI (by omega) (by omega)).mp q; omega, fun q => by rw [q]; exact nI_le (Nat.le_refl _) (by omega)⟩
  by_cases q0 : m11 24 35 = 0
  · have h12 := h11.tickU (v := c11 10 6 + 1) (w := m11 24 34 + 1) ht1 (by rw [t11, h11.tick, nI_1]) (by rw [h11.tick, nI_1])
    refine ⟨_, _, _, ?_, ?_, h12⟩
    · simp only [mo, if_pos q0, b1e, wre]
    · by_cases q5 : m11 24 50 = 0
      · simp only [if_pos q5, b1e, wre, uI_id]
      · simp only [if_neg q5, if_pos q0, b1e, wre, uI_id]
  · by_cases q5 : x + y = tb + tf
    · have h12 := h11.tickU (v := c11 10 6 + 1) (w := m11 24 34 + 1) ht1 (by rw [t11, h11.tick, nI_1]) (by rw [h11.tick, nI_1])
      refine ⟨_, _, _, ?_, ?_, h12⟩
      · simp only [mo, if_neg q0, F_X6_brownoutCount, F_X6_failureCount, ck_16, if_true, b1e, s4', s5', xy, if_pos q5, wre]
      · simp only [if_pos (b5.mpr q5), b1e, wre, uI_id]
    · have h12 := h11.modeU (v := 3) (w := 3) ⟨3, by decide, rfl⟩ rfl
      have h13 := h12.tickU (v := uI c11 10 7 3 10 6 + 1) (w := uI m11 24 35 3 24 34 + 1) ht1 (by rw [uI_at (by omega), t11, h11.tick, nI_1]) (by rw [uI_at (by omega), h11.tick, nI_1])
      refine ⟨_, _, _, ?_, ?_, h13⟩
      · simp only [mo, if_neg q0, F_X6_brownoutCount, F_X6_failureCount, ck_16, if_true, b1e, s4', s5', xy, if_neg q5, wre]
      · simp only [if_neg (fun z => q5 (b5.mp z)), if_neg q0, b1e, wre]
end P16
