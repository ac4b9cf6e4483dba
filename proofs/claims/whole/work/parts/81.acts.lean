/-! T3: acts, the plan's items -/
section P14
variable {N n : Nat} {cd : Nat → Nat} {pb : Nat} {L : ML} {t s0 B D : Nat} {c m : MI}
theorem Sm.pr {α : Type} {x y : Option (α × MI)} {v : α} {c' m' : MI} (e1 : x = some (v, c')) (e2 : y = some (v, m')) (h : RC n cd pb L t s0 B D c' m') : Sm x y (fun x y => x.1 = y.1 ∧ RC n cd pb L t s0 B D x.2 y.2) := ⟨(v, c'), (v, m'), e1, e2, rfl, h⟩
theorem Sm.pa {α : Type} {x y : Option (α × MI)} {v : α} {m0 c' m' : MI} (e1 : x = some (v, c')) (e2 : y = some (v, m')) (h : RC n cd pb L t s0 B D c' m') (hf : (∀ p, m' 51 p = m0 51 p) ∧ m' 24 54 = m0 24 54) : Sm x y (fun x y => x.1 = y.1 ∧ RC n cd pb L t s0 B D x.2 y.2 ∧ (∀ p, y.2 51 p = m0 51 p) ∧ y.2 24 54 = m0 24 54) := ⟨(v, c'), (v, m'), e1, e2, rfl, h, hf⟩
theorem RC.modeU {v w : Int32} (h : RC n cd pb L t s0 B D c m) (hw : nn w 3) (hv : v = w) : RC n cd pb L t s0 B D (uI c 10 7 v) (uI m 24 35 w) := by
  have hn := h.n20
  refine ⟨h.1.up (Or.inr (Or.inl ⟨rfl, by decide⟩)) hv, h.2.1.congr (fun o p z => uI_at (by unfold stc at z; omega)) (fun o p z => uI_at (by unfold stm at z; omega)), ?_⟩
  obtain ⟨a1, a2, a3, a4, a5, a6, ⟨x, y, b1, b2, b3, b4, b5⟩, ⟨g, e, f, g1, g2, g3, g4, g5, g6, g7⟩, a9, a10⟩ := h.2.2
  refine ⟨by rw [uI_at (by omega)]; exact a1, a2, by rw [uI_same]; exact hw, by rw [uI_at (by omega)]; exact a4, a5, a6, ⟨x, y, by rw [uI_at (by omega)]; exact b1, by rw [uI_at (by omega)]; exact b2, b3, b4, by rw [uI_at (by omega)]; exact b5⟩, ⟨g, e, f, g1, g2, g3, by rw [uI_at (by omega)]; exact g4, by rw [uI_at (by omega)]; exact g5, by rw [uI_at (by omega)]; exact g6, by rw [uI_at (by omega)]; exact g7⟩, ?_, fun u hu => by rw [uI_at (by omega)]; exact a10 u hu⟩
  intro u hu h5
  have e : U u = 58 + 4 * u := rfl
  exact (a9 u hu h5).congr (uI_at (by omega)) (fun q => uI_at (by omega)) (uI_at (by omega)) (uI_at (by omega)) (fun i hi => uI_at (by omega))
theorem RC.wipe {u : Nat} (h : RC n cd pb L t s0 B D c m) (hu : u < n) (h5 : cd u = 5) : RC n cd pb L t s0 B D (uI c (U u + 1) 10 0) (uI m 37 (65 * u + 10) 0) := by
  have hn := h.n20
  have e : U u = 58 + 4 * u := rfl
  refine ⟨h.1.up (Or.inl ⟨u, by omega, by decide, ⟨hu, fun q => by omega, fun q => by omega, fun q => by omega, fun q => by omega⟩, by omega, rfl, rfl⟩) rfl, h.2.1.congr (fun o p z => uI_at (by unfold stc at z; omega)) (fun o p z => uI_at ?_), ?_⟩
  · rintro ⟨rfl, rfl⟩
    unfold stm dynP at z
    omega
  · obtain ⟨a1, a2, a3, a4, a5, a6, a7, a8, a9, a10⟩ := h.2.2
    have f24 : ∀ p, uI m 37 (65 * u + 10) 0 24 p = m 24 p := fun p => uI_at (by omega)
    unfold DY
    simp only [f24]
    refine ⟨a1, a2, a3, a4, a5, a6, a7, a8, ?_, fun v hv => by rw [uI_at (by omega)]; exact a10 v hv⟩
    intro v hv hv5
    have ev : U v = 58 + 4 * v := rfl
    by_cases q : v = u
    · subst q
      obtain ⟨hd, l, r, k1, k2, k3, k4, k5, k6, k7⟩ := a9 v hv hv5
      exact ⟨hd, 0, r, k1, by omega, k3, by rw [uI_at (by omega)]; exact k4, uI_same, by rw [uI_at (by omega)]; exact k6, fun i hi => by omega⟩
    · exact (a9 v hv hv5).congr (uI_at (by omega)) (fun p => uI_at (by omega)) (uI_at (by omega)) (uI_at (by omega)) (fun i hi => uI_at (by omega))
theorem pl01 {pb : Nat} (h : pb ≤ 1) : rf (GRf pb) 10 5 4 = some (20 + 2 * pb) := by
  rcases (show pb = 0 ∨ pb = 1 by omega) with rfl | rfl <;> rfl
theorem ck_pl {pb : Nat} (h : pb ≤ 1) : (kd (20 + 2 * pb) = 4 ∧ 20 + 2 * pb < NN) = True := by
  rcases (show pb = 0 ∨ pb = 1 by omega) with rfl | rfl <;> exact eq_true (by decide)
theorem ck_it {pb i : Nat} (h : pb ≤ 1) (hi : i < 31) : (kd (142 + 31 * pb + i) = 3 ∧ 142 + 31 * pb + i < NN) = True := by
  have q := (show ∀ pb, pb < 2 → ∀ i, i < 31 → kd (142 + 31 * pb + i) = 3 ∧ 142 + 31 * pb + i < NN by decide) pb (by omega) i hi
  exact eq_true q
theorem ra_it {pb i : Nat} (h : pb ≤ 1) (hi : i < 30) : rf (GRf pb) (20 + 2 * pb) 0 24 = some (21 + 2 * pb) ∧ ln (21 + 2 * pb) = 30 ∧ ra (GRf pb) (21 + 2 * pb) (nI i) 3 = some (142 + 31 * pb + i) := by
  have q := of_eq_true (ck_it h (show i < 31 by omega))
  rcases (show pb = 0 ∨ pb = 1 by omega) with rfl | rfl
  · refine ⟨rfl, by decide, ?_⟩
    unfold ra
    rw [show ln (21 + 2 * 0) = 30 by decide, if_pos (inb_nI hi (by decide)), ix_nI (by omega)]
    have e : GRf 0 (21 + 2 * 0) i = some (142 + 31 * 0 + i) := by
      unfold GRf
      rw [if_neg (by omega), if_neg (by omega), if_neg (by omega), if_pos (by omega), if_pos hi]
    unfold rf
    rw [e]
    simp only [Option.bind_some]
    rw [if_pos q]
  · refine ⟨rfl, by decide, ?_⟩
    unfold ra
    rw [show ln (21 + 2 * 1) = 30 by decide, if_pos (inb_nI hi (by decide)), ix_nI (by omega)]
    have e : GRf 1 (21 + 2 * 1) i = some (142 + 31 * 1 + i) := by
      unfold GRf
      rw [if_neg (by omega), if_neg (by omega), if_neg (by omega), if_neg (by omega), if_pos (by omega), if_pos hi]
    unfold rf
    rw [e]
    simp only [Option.bind_some]
    rw [if_pos q]
theorem itemAt_ok {q i : Nat} (h1 : pb ≤ 1) (hq : c (20 + 2 * pb) 2 = nI q) (hq2 : q ≤ 30) (hi : i < q) : F_X5_itemAt (20 + 2 * pb) (nI i) c L (GRf pb) = some (142 + 31 * pb + i) := by
  obtain ⟨r1, r2, r3⟩ := ra_it (pb := pb) (i := i) h1 (by omega)
  have z0 : (nI i < 0) = False := eq_false (nI_pos (by omega))
  have z1 : (nI q ≤ nI i) = False := eq_false (nI_ge hi (by omega))
  have z2 : (Int32.ofNat 30 ≤ nI i) = False := eq_false (nI_ge (b := 30) (by omega) (by decide))
  simp only [F_X5_itemAt, ck_pl h1, if_true, z0, if_false, hq, z1, r1, bse, r2, z2, r3]
theorem z01_1 : z01 1 = some true := by decide
theorem z01_0 : z01 0 = some false := by decide
theorem b2i_t : b2i true = 1 := rfl
theorem b2i_f : b2i false = 0 := rfl
/-- what an act's numbers keep to -/
def actOk (n : Nat) (cd : Nat → Nat) (k : Nat) (a : Int32) : Prop := ((k = 0 ∨ k = 1 ∨ k = 4) → ∃ v, v < n ∧ a = nI v) ∧ (k = 5 → ∃ v, v < n ∧ cd v = 5 ∧ a = nI v) ∧ (k = 2 → nn a 3) ∧ (k = 3 → nn a 2) ∧ (k = 6 → nn a 29)
theorem RC.good (h : RC n cd pb L t s0 B D c m) : RC n cd pb L t s0 B D (uI c 10 11 (c 10 11 + 1)) (uI (uI m 24 44 (m 24 44 + 1)) 24 45 (uI m 24 44 (m 24 44 + 1) 24 45 + 0)) := by
  rw [uI_id0]
  exact h.scal (o := 10) (p := 11) (b := 44) (by decide) (by decide) (by rw [h.sc (o := 10) (p := 11) (b := 44) (by decide)])
theorem RC.bad (h : RC n cd pb L t s0 B D c m) : RC n cd pb L t s0 B D (uI c 10 12 (c 10 12 + 1)) (uI (uI m 24 44 (m 24 44 + 0)) 24 45 (uI m 24 44 (m 24 44 + 0) 24 45 + 1)) := by
  rw [uI_id0]
  exact h.scal (o := 10) (p := 12) (b := 45) (by decide) (by decide) (by rw [h.sc (o := 10) (p := 12) (b := 45) (by decide)])
theorem perform_ok {k : Nat} {a b : Int32} (hN : 5000 ≤ N) (h : RC n cd pb L t s0 B D c m) (hk : k ≤ 6) (ha : actOk n cd k a) : Sm (F_X2_perform N 10 (nI k) a b c L (GRf pb)) (F_X12_acts N 24 (nI k) a b m L (GRf pb)) (fun x y => x.1 = y.1 ∧ RC n cd pb L t s0 B D x.2 y.2 ∧ (∀ p, y.2 51 p = m 51 p) ∧ y.2 24 54 = m 24 54) := by
  have h1 := h.pb1
  obtain ⟨q1, q2, q3, q4, q5⟩ := ha
  rcases (show k = 0 ∨ k = 1 ∨ k = 2 ∨ k = 3 ∨ k = 4 ∨ k = 5 ∨ k = 6 by omega) with rfl | rfl | rfl | rfl | rfl | rfl | rfl
  · -- on
    obtain ⟨v, hv, rfl⟩ := q1 (Or.inl rfl)
    have hu := h.lt20 hv
    have hu' : v ≤ 20 := by omega
    have wh6 : F_X9_isWhole (U v) 6 c L (GRf pb) = _ := h.wh (l := 6) hv (by decide)
    have ia6 : F_X12_isA N 24 (nI v) 6 m L (GRf pb) = _ := h.isA (l := 6) (by omega) hv (by decide)
    have whm := h.whM hv
    have p64 := h.pt (k := 64) hv (by decide) (by decide) (by decide) (by decide) (by decide)
    cases e6 : isL (cd v) 6 with
    | false =>
      refine Sm.pa (v := false) ?_ ?_ h.bad ⟨fun p => rfl, rfl⟩
      · simp (decide := true) only [F_X2_perform, ck_10, if_true, if_false, rf_10_0, bse, h.at hv, b1e, b2e, ck_U hu', F_X2_switchOn, wh6, e6, Bool.false_and, b2f, b2i_f, wre, zer0, z01_0]
      · simp (decide := true) only [F_X12_acts, ck_24, if_true, if_false, F_X12_turnsOn, ia6, e6, b1e, b2e, b2f, b2i_f, wre, zer0, z01_0, bse]
    | true =>
      cases e63 : decide (m 37 (65 * v + 63) = 0) with
      | false =>
        refine Sm.pa (v := false) ?_ ?_ h.bad ⟨fun p => rfl, rfl⟩
        · simp (decide := true) only [F_X2_perform, ck_10, if_true, if_false, rf_10_0, bse, h.at hv, b1e, b2e, ck_U hu', F_X2_switchOn, wh6, e6, e63, Bool.true_and, b2f, b2i_f, wre, zer0, z01_0]
        · simp (decide := true) only [F_X12_acts, ck_24, if_true, if_false, F_X12_turnsOn, ia6, e6, whm, e63, b1e, b2e, b2f, b2t, b2i_f, wre, zer0, z01_0, bse]
      | true =>
        by_cases q : m 37 (65 * v + 64) = 1
        · have hr := h.part (k := 64) (v := 0) hv (by unfold dynP; omega) (by omega) (by omega) rfl
          refine Sm.pa (v := false) ?_ ?_ hr.bad ⟨fun p => rfl, rfl⟩
          · simp (decide := true) only [F_X2_perform, ck_10, if_true, if_false, rf_10_0, bse, h.at hv, b1e, b2e, ck_U hu', F_X2_switchOn, wh6, e6, e63, Bool.true_and, b2t, rf_U0 hu', rp_64 hu', p64, if_pos q, wp_64 hu', b2i_f, wre, zer0, z01_0]
          · simp (decide := true) only [F_X12_acts, ck_24, if_true, if_false, F_X12_turnsOn, ia6, e6, whm, e63, b1e, b2e, b2t, gt_64 hu, if_pos q, st_64 hu, b2i_f, wre, zer0, z01_0, bse]
        · have hr := h.part (k := 22) (v := 1) hv (by unfold dynP; omega) (by omega) (fun _ => e6) rfl
          refine Sm.pa (v := true) ?_ ?_ hr.good ⟨fun p => rfl, rfl⟩
          · simp (decide := true) only [F_X2_perform, ck_10, if_true, if_false, rf_10_0, bse, h.at hv, b1e, b2e, ck_U hu', F_X2_switchOn, wh6, e6, e63, Bool.true_and, b2t, rf_U0 hu', rp_64 hu', p64, if_neg q, wp_22 hu', b2i_t, wre, one0, z01_1]
          · simp (decide := true) only [F_X12_acts, ck_24, if_true, if_false, F_X12_turnsOn, ia6, e6, whm, e63, b1e, b2e, b2t, gt_64 hu, if_neg q, st_22 hu, b2i_t, wre, one0, z01_1, bse]
  · -- off
    obtain ⟨v, hv, rfl⟩ := q1 (Or.inr (Or.inl rfl))
    have hu := h.lt20 hv
    have hu' : v ≤ 20 := by omega
    have is6 : F_X9_is (U v) 6 c L (GRf pb) = _ := h.is (l := 6) hv (by decide)
    have ia6 : F_X12_isA N 24 (nI v) 6 m L (GRf pb) = _ := h.isA (l := 6) (by omega) hv (by decide)
    cases e6 : isL (cd v) 6 with
    | false =>
      refine Sm.pa (v := false) ?_ ?_ h.bad ⟨fun p => rfl, rfl⟩
      · simp (decide := true) only [F_X2_perform, ck_10, if_true, if_false, rf_10_0, bse, h.at hv, b1e, b2e, ck_U hu', F_X2_switchOff, is6, e6, b2f, b2i_f, wre, zer0, z01_0]
      · simp (decide := true) only [F_X12_acts, ck_24, if_true, if_false, ia6, e6, b1e, b2e, b2i_f, wre, zer0, z01_0, bse]
    | true =>
      have hr := h.part (k := 22) (v := 0) hv (by unfold dynP; omega) (by omega) (fun _ => e6) rfl
      refine Sm.pa (v := true) ?_ ?_ hr.good ⟨fun p => rfl, rfl⟩
      · simp (decide := true) only [F_X2_perform, ck_10, if_true, if_false, rf_10_0, bse, h.at hv, b1e, b2e, ck_U hu', F_X2_switchOff, is6, e6, b2t, rf_U0 hu', wp_22 hu', b2i_t, wre, one0, z01_1]
      · simp (decide := true) only [F_X12_acts, ck_24, if_true, if_false, ia6, e6, b1e, b2e, b2i_t, st_22 hu, wre, one0, z01_1, bse]
  · -- mode
    have hr := h.modeU (v := a) (q3 rfl) rfl
    refine Sm.pa (v := true) ?_ ?_ hr.good ⟨fun p => rfl, rfl⟩
    · simp (decide := true) only [F_X2_perform, ck_10, if_true, if_false, wre, b1e, b2e, one0, z01_1, bse]
    · simp (decide := true) only [F_X12_acts, ck_24, if_true, if_false, wre, b1e, b2e, one0, z01_1, bse]
  · -- aim
    obtain ⟨j, hj, rfl⟩ := q4 rfl
    have hj3 : j < 3 := by omega
    have hr := h.aimU (j := j) (v := b) hj3 rfl
    have sa : F_X7_setAim 12 (nI j) b c L (GRf pb) = some (uI c 15 j b) := by
      simp only [F_X7_setAim, ck_12, if_true, (x3 hj3).1, if_false, rf_12_3, bse, ln_15, (x3 hj3).2, wi_nI ln_15 hj3 (show 3 < 2 ^ 31 by decide)]
    refine Sm.pa (v := true) ?_ ?_ hr.good ⟨fun p => rfl, rfl⟩
    · simp (decide := true) only [F_X2_perform, ck_10, if_true, if_false, rf_10_1, sa, wre, b1e, b2e, one0, z01_1, bse]
    · simp (decide := true) only [F_X12_acts, ck_24, if_true, if_false, rf_24_38, wi_nI ln_45 hj3 (show 3 < 2 ^ 31 by decide), wre, b1e, b2e, one0, z01_1, bse]
  · -- restart
    obtain ⟨v, hv, rfl⟩ := q1 (Or.inr (Or.inr rfl))
    have hu := h.lt20 hv
    rcases restart_ok hN h hv with ⟨eg, e1⟩ | ⟨g, hg, eg, c', m', e1, e2, hr, fr⟩
    · refine Sm.pa (v := false) ?_ ?_ h.bad ⟨fun p => rfl, rfl⟩
      · simp (decide := true) only [F_X2_perform, ck_10, if_true, if_false, rf_10_0, e1, b2i_f, wre, b1e, b2e, zer0, z01_0, bse]
      · simp (decide := true) only [F_X12_acts, ck_24, if_true, if_false, eg, if_pos (show (30 : Int32) ≤ nI 30 by decide), wre, b1e, b2e, zer0, z01_0, bse]
    · have z30 : ((30 : Int32) ≤ nI g) = False := eq_false (nI_ge (b := 30) hg (by decide))
      have h0 : uI m 24 46 (nI (g + 1)) 37 (65 * v + 0) = nI (cd v) := by rw [uI_at (by omega)]; exact (h.un hv).2.2.2.2.1
      refine Sm.pa (v := true) ?_ ?_ hr.good ⟨fun p => fr.1 p, fr.2⟩
      · simp (decide := true) only [F_X2_perform, ck_10, if_true, if_false, rf_10_0, e1, b2i_t, wre, b1e, b2e, one0, z01_1, bse]
      · simp (decide := true) only [F_X12_acts, ck_24, if_true, if_false, eg, z30, wre, nI_1, gt_0 hu, h0, e2, b1e, b2e, one0, z01_1, bse]
  · -- wipe
    obtain ⟨v, hv, h5, rfl⟩ := q2 rfl
    have hu := h.lt20 hv
    have hu' : v ≤ 20 := by omega
    have hr := h.wipe hv h5
    refine Sm.pa (v := true) ?_ ?_ hr.good ⟨fun p => rfl, rfl⟩
    · simp (decide := true) only [F_X2_perform, ck_10, if_true, if_false, rf_10_0, h.at hv, ck_U hu', rf_U0 hu', wp_10 hu', wre, b1e, b2e, one0, z01_1, bse]
    · simp (decide := true) only [F_X12_acts, ck_24, if_true, if_false, st_10 hu, wre, b1e, b2e, one0, z01_1, bse]
  · -- stop
    obtain ⟨j, hj, rfl⟩ := q5 rfl
    obtain ⟨q, hq, eq1, eq2, -⟩ := h.pl
    have z0 : (nI j < 0) = False := eq_false (nI_pos (by omega))
    have zq : (nI q ≤ nI j) = (q ≤ j) := propext (nI_leI (by omega) (by omega))
    by_cases z : q ≤ j
    · have st : F_X5_stop (20 + 2 * pb) (nI j) c L (GRf pb) = some c := by
        simp only [F_X5_stop, ck_pl h1, if_true, z0, if_false, eq2, zq, if_pos z]
      refine Sm.pa (v := true) ?_ ?_ h.good ⟨fun p => rfl, rfl⟩
      · simp (decide := true) only [F_X2_perform, ck_10, if_true, if_false, pl01 h1, st, wre, b1e, b2e, one0, z01_1, bse]
      · simp (decide := true) only [F_X12_acts, ck_24, if_true, if_false, eq1, zq, if_pos z, wre, b1e, b2e, one0, z01_1, bse]
    · have ia := itemAt_ok (L := L) h1 eq2 hq (show j < q by omega)
      have st : F_X5_stop (20 + 2 * pb) (nI j) c L (GRf pb) = some (uI c (142 + 31 * pb + j) 9 1) := by
        simp only [F_X5_stop, ck_pl h1, if_true, z0, if_false, eq2, zq, if_neg z, ia, b1e, ck_it h1 (show j < 31 by omega), wre]
      have wzz : wz m 52 (nI j) 1 = some (uI m 52 j 1) := by
        unfold wz
        rw [ln_52, if_pos ⟨inb_nI (show j < 30 by omega) (by decide), Or.inr rfl⟩, ix_nI (by omega)]
      have hr := h.itU (i := j) (k := 2) (v := 1) (by omega) (by decide) rfl
      refine Sm.pa (v := true) ?_ ?_ hr.good ⟨fun p => rfl, rfl⟩
      · simp (decide := true) only [F_X2_perform, ck_10, if_true, if_false, pl01 h1, st, wre, b1e, b2e, one0, z01_1, bse]
      · simp (decide := true) only [F_X12_acts, ck_24, if_true, if_false, eq1, zq, if_neg z, rf_24_59, wzz, wre, b1e, b2e, one0, z01_1, bse]
end P14
