/-! T3: a byte that is kept; readings -/
section P6
variable {N n : Nat} {cd : Nat → Nat} {pb : Nat} {L : ML} {t s0 B D : Nat} {c m : MI}
theorem keep_ok {u l r : Nat} {x : Int32} (h : RC n cd pb L t s0 B D c m) (hu : u < n) (h5 : cd u = 5) (hl : m 37 (65 * u + 10) = nI l) (hr : m 37 (65 * u + 9) = nI r) (hlr : l < r) (hr2 : r ≤ 2000) :
    ∃ c' m', F_X9_keepByte (U u) x c L (GRf pb) = some c' ∧ F_X12_keep 24 (nI u) x m L (GRf pb) = some m' ∧ RC n cd pb L t s0 B D c' m' ∧ m' 37 (65 * u + 10) = nI (l + 1) ∧ (∀ p, p ≠ 65 * u + 10 → m' 37 p = m 37 p) ∧ (∀ o p, o ≠ 37 → o ≠ 47 → m' o p = m o p) ∧ ∀ p, c' 11 p = c 11 p := by
  have hn := h.n20
  have hu20 := h.lt20 hu
  have hu' : u ≤ 20 := by omega
  obtain ⟨hd, l2, r2, k1, k2, k3, k4, k5, k6, k7⟩ := h.kp hu h5
  have el : l2 = l := (nI_eq (by omega) (by omega)).mp (k5.symm.trans hl)
  subst el
  have p10 := h.pt (k := 10) hu (by decide) (by decide) (by decide) (by decide) (by decide)
  have fm : ∀ (I : MI), F_J9_floorMod_7cf53 (nI (hd + l2)) 2000 I L (GRf pb) = some (nI ((hd + l2) % 2000)) := fun I => by
    rw [fm_val (by decide)]; exact congrArg some (md_nI (d := 2000) (by omega) (by decide) (by decide))
  have hq : (hd + l2) % 2000 < 2000 := Nat.mod_lt _ (by decide)
  have w1 : ∀ v, wi c (U u + 3) (nI ((hd + l2) % 2000)) v = some (uI c (U u + 3) ((hd + l2) % 2000) v) := fun v => wi_nI (ln_U3 hu') hq (by decide)
  have e : U u = 58 + 4 * u := rfl
  have r1 : ∀ v, uI c (U u + 3) ((hd + l2) % 2000) v (U u + 1) 10 = nI l2 := fun v => by rw [uI_at (by omega), p10, hl]
  have mi : (2000 : Int32) * nI u + nI l2 = nI (2000 * u + l2) := by rw [← nI_add, ← pk_mul]; rfl
  have w2 : ∀ v, wi m 47 (nI (2000 * u + l2)) v = some (uI m 47 (2000 * u + l2) v) := fun v => wi_nI ln_47 (by omega) (by decide)
  have r2' : ∀ v, uI m 47 (2000 * u + l2) v 37 (65 * u + 10) = nI l2 := fun v => by rw [uI_at (by omega), hl]
  refine ⟨uI (uI c (U u + 3) ((hd + l2) % 2000) x) (U u + 1) 10 (nI (l2 + 1)), uI (uI m 47 (2000 * u + l2) x) 37 (65 * u + 10) (nI (l2 + 1)), ?_, ?_, ?_, uI_same, fun p hp => by rw [uI_at (by omega), uI_at (by omega)], fun o p h1 h2 => by rw [uI_at (by omega), uI_at (by omega)], fun p => by rw [uI_at (by omega), uI_at (by omega)]⟩
  · simp only [F_X9_keepByte, ck_U hu', if_true, rf_U2 hu', rf_U0 hu', bse, rp_10 hu', p10, hl, k4, nI_add, fm, b1e, w1, r1, wp_10 hu', nI_1]
  · simp only [F_X12_keep, ck_24, if_true, rf_24_52, bse, gt_10 hu20, hl, b1e, mi, w2, gw_10 hu20, r2', nI_1]
  · have hq1 : RQ (ob n cd) pb (uI c (U u + 3) ((hd + l2) % 2000) x) (uI m 47 (2000 * u + l2) x) := h.1.out (fun o p z => uI_at (by omega)) (fun o p z => uI_at (by omega))
    refine ⟨hq1.up (Or.inl ⟨u, by omega, by decide, ⟨hu, fun q => by omega, fun q => by omega, fun q => by omega, fun q => by omega⟩, by omega, rfl, rfl⟩) rfl, h.2.1.congr (fun o p z => by unfold stc at z; rw [uI_at (by omega), uI_at (by omega)]) (fun o p z => ?_), ?_⟩
    · rw [uI_at, uI_at]
      · unfold stm at z; omega
      · rintro ⟨rfl, rfl⟩
        unfold stm dynP at z
        omega
    · obtain ⟨a1, a2, a3, a4, a5, a6, ⟨xx, yy, b1, b2, b3, b4, b5⟩, a8, a9, a10⟩ := h.2.2
      have f24 : ∀ p, uI (uI m 47 (2000 * u + l2) x) 37 (65 * u + 10) (nI (l2 + 1)) 24 p = m 24 p := fun p => by rw [uI_at (by omega), uI_at (by omega)]
      unfold DY
      simp only [f24]
      refine ⟨a1, a2, a3, a4, a5, a6, ⟨xx, yy, b1, b2, b3, b4, b5⟩, a8, ?_, fun v hv => by rw [uI_at (by omega), uI_at (by omega)]; exact a10 v hv⟩
      intro v hv hv5
      have ev : U v = 58 + 4 * v := rfl
      by_cases q : v = u
      · subst q
        refine ⟨hd, l2 + 1, r2, k1, ?_, k3, by rw [uI_at (by omega), uI_at (by omega)]; exact k4, uI_same, by rw [uI_at (by omega), uI_at (by omega)]; exact k6, ?_⟩
        · have := (nI_eq (by omega) (by omega)).mp (k6.symm.trans hr)
          omega
        · intro i hi
          rw [uI_at (by omega), uI_at (show ¬ (47 = 37 ∧ _) by omega)]
          by_cases qi : i = l2
          · subst qi; rw [uI_same, uI_same]
          · rw [uI_at (by omega), uI_at (by omega)]
            exact k7 i (by omega)
      · exact (a9 v hv hv5).congr (by rw [uI_at (by omega), uI_at (by omega)]) (fun p => by rw [uI_at (by omega), uI_at (by omega)]) (by rw [uI_at (by omega), uI_at (by omega)]) (by rw [uI_at (by omega), uI_at (by omega)]) (fun i hi => by rw [uI_at (by omega), uI_at (by omega)])
/-- room for q bytes more: both sides see it alike -/
theorem room_ok {u q : Nat} (h : RC n cd pb L t s0 B D c m) (hu : u < n) (h5 : cd u = 5) (hq : q ≤ 2000) : ∃ l r, l ≤ r ∧ r ≤ 2000 ∧ m 37 (65 * u + 10) = nI l ∧ m 37 (65 * u + 9) = nI r ∧ F_X9_isWhole (U u) 5 c L (GRf pb) = some (decide (m 37 (65 * u + 63) = 0)) ∧ F_X9_hasRoomFor (U u) (nI q) c L (GRf pb) = some (decide (l + q ≤ r)) ∧ F_X12_hasRoom 24 (nI u) (nI q) m L (GRf pb) = some (decide (m 37 (65 * u + 63) = 0) && decide (l + q ≤ r)) := by
  have hu20 := h.lt20 hu
  have hu' : u ≤ 20 := by omega
  obtain ⟨hd, l, r, k1, k2, k3, k4, k5, k6, k7⟩ := h.kp hu h5
  have p10 := h.pt (k := 10) hu (by decide) (by decide) (by decide) (by decide) (by decide)
  have p9 := h.pt (k := 9) hu (by decide) (by decide) (by decide) (by decide) (by decide)
  have wh : F_X9_isWhole (U u) 5 c L (GRf pb) = _ := h.wh (l := 5) hu (by decide)
  rw [h5, show isL 5 5 = true by decide, Bool.true_and] at wh
  have z1 : (nI (r - l) < nI q) = (r - l < q) := propext (nI_ltI (by omega) (by omega))
  have z2 : (nI r < nI (l + q)) = (r < l + q) := propext (nI_ltI (by omega) (by omega))
  have whm := h.whM hu
  refine ⟨l, r, k2, k3, k5, k6, wh, ?_, ?_⟩
  · by_cases z : l + q ≤ r
    · simp only [F_X9_hasRoomFor, ck_U hu', if_true, rf_U0 hu', bse, rp_9 hu', rp_10 hu', p9, p10, k5, k6, pk_sub k2, z1, if_neg (show ¬ r - l < q by omega), decide_eq_true z]
    · simp only [F_X9_hasRoomFor, ck_U hu', if_true, rf_U0 hu', bse, rp_9 hu', rp_10 hu', p9, p10, k5, k6, pk_sub k2, z1, if_pos (show r - l < q by omega), decide_eq_false z]
  · cases e : decide (m 37 (65 * u + 63) = 0) with
    | false => simp only [F_X12_hasRoom, ck_24, if_true, whm, b1e, e, b2f, Bool.false_and]
    | true =>
      by_cases z : l + q ≤ r
      · simp only [F_X12_hasRoom, ck_24, if_true, if_false, whm, b1e, e, b2t, gt_10 hu20, gt_9 hu20, k5, k6, nI_add, z2, if_neg (show ¬ r < l + q by omega), decide_eq_true z, Bool.true_and]
      · simp only [F_X12_hasRoom, ck_24, if_true, if_false, whm, b1e, e, b2t, gt_10 hu20, gt_9 hu20, k5, k6, nI_add, z2, if_pos (show r < l + q by omega), decide_eq_false z, Bool.true_and]
theorem pic_ok {i u l r q : Nat} {v : Int32} (hN : 5000 ≤ N) (h : RC n cd pb L t s0 B D c m) (hi : i < n) (hu : u < n) (h5 : cd u = 5) (hl : m 37 (65 * u + 10) = nI l) (hr : m 37 (65 * u + 9) = nI r) (hq : l + q ≤ r) (hr2 : r ≤ 2000) (hv : m 37 (65 * i + 32) = v) (y1 : Int32) : Sm (LF_X2_keepPicture_26 N N (U i) (U u) (nI q) (nI 0) c L (GRf pb)) (LF_X12_readSensor_206 N N 24 y1 (nI q) (nI u) v (nI 0) m L (GRf pb)) (RC n cd pb L t s0 B D) := by
  have hi20 := h.lt20 hi
  have hi' : i ≤ 20 := by omega
  refine loop2 (f := fun k j I => LF_X2_keepPicture_26 N k (U i) (U u) (nI q) (nI j) I L (GRf pb)) (g := fun k j I => LF_X12_readSensor_206 N k 24 y1 (nI q) (nI u) v (nI j) I L (GRf pb)) (R := fun j a b => RC n cd pb L t s0 B D a b ∧ b 37 (65 * u + 10) = nI (l + j) ∧ b 37 (65 * u + 9) = nI r ∧ b 37 (65 * i + 32) = v) q ?_ ?_ q 0 N N c m (by omega) (by omega) (by omega) ⟨h, hl, hr, hv⟩
  · intro k j a b ⟨h, _⟩
    have z : (nI q ≤ nI q) = True := eq_true (nI_le (Nat.le_refl _) (by omega))
    refine ⟨a, b, ?_, ?_, h⟩ <;> simp only [LF_X2_keepPicture_26, LF_X12_readSensor_206, z, if_true]
  · intro k k2 j a b hj ⟨h, h1, h2, h3⟩
    have z : (nI q ≤ nI j) = False := eq_false (nI_ge hj (by omega))
    have p32 := h.pt (k := 32) hi (by decide) (by decide) (by decide) (by decide) (by decide)
    have fm : ∀ x (I : MI), F_J9_floorMod_7cf53 x 256 I L (GRf pb) = some (md x 256) := fun x I => fm_val (by decide)
    have fm2 : ∀ x (I : MI), F_X12_mod x 256 I L (GRf pb) = some (md x 256) := fun x I => mod_val (by decide)
    obtain ⟨c', m', e1, e2, hc, g1, g2, g3, g4⟩ := keep_ok (x := md (v + nI j) 256) h hu h5 h1 h2 (by omega) hr2
    refine ⟨c', m', ?_, ?_, hc, g1, by rw [g2 _ (by omega)]; exact h2, by rw [g2 _ (by omega)]; exact h3⟩
    · simp only [LF_X2_keepPicture_26, z, if_false, rf_U0 hi', bse, rp_32 hi', p32, h3, fm, b1e, e1, wre, nI_1]
    · simp only [LF_X12_readSensor_206, z, if_false, fm2, b1e, e2, wre, nI_1]
theorem i910 : ∀ c, c < 29 → kin c → isL c 9 = true → isL c 10 = false → c = 12 ∨ c = 13 ∨ c = 14 := by unfold kin; decide
theorem i96 : ∀ c, c < 29 → isL c 9 = true → isL c 6 = true := by decide
theorem isC12 : isL 12 10 = false ∧ isL 12 12 = true := by decide
theorem isC13 : isL 13 10 = false ∧ isL 13 12 = false ∧ isL 13 13 = true := by decide
theorem isC14 : isL 14 10 = false ∧ isL 14 12 = false ∧ isL 14 13 = false ∧ isL 14 14 = true := by decide
theorem read1_ok {i : Nat} (hN : 5000 ≤ N) (h : RC n cd pb L t s0 B D c m) (hi : i < n) (h9 : isL (cd i) 9 = true) : Sm (F_X2_takeReading N 10 (U i) (nI t) c L (GRf pb)) (F_X12_readSensor N 24 (nI i) m L (GRf pb)) (RC n cd pb L t s0 B D) := by
  have hu := h.lt20 hi
  have hu' : i ≤ 20 := by omega
  have is10 : F_X9_is (U i) 10 c L (GRf pb) = _ := h.is (l := 10) hi (by decide)
  have is12 : F_X9_is (U i) 12 c L (GRf pb) = _ := h.is (l := 12) hi (by decide)
  have is13 : F_X9_is (U i) 13 c L (GRf pb) = _ := h.is (l := 13) hi (by decide)
  have is14 : F_X9_is (U i) 14 c L (GRf pb) = _ := h.is (l := 14) hi (by decide)
  have ia10 : F_X12_isA N 24 (nI i) 10 m L (GRf pb) = _ := h.isA (l := 10) (by omega) hi (by decide)
  have h0 : m 37 (65 * i + 0) = nI (cd i) := (h.un hi).2.2.2.2.1
  have lt : c 10 8 = m 24 47 := h.sc (o := 10) (p := 8) (b := 47) (by decide)
  cases e10 : isL (cd i) 10 with
  | true =>
    obtain ⟨a, a1, a2⟩ := (h.si hi).2.2.2.2.2.2.2.2.1.1
    have a2 : m 37 (65 * i + 35) = nI a := a2
    have hx : a < 3 := by omega
    have p35 := h.pt (k := 35) hi (by decide) (by decide) (by decide) (by decide) (by decide)
    have p33 := h.pt (k := 33) hi (by decide) (by decide) (by decide) (by decide) (by decide)
    have hr := h.part (k := 32) (v := m 44 a + m 37 (65 * i + 33)) hi (by unfold dynP; omega) (by omega) (by omega) rfl
    refine ⟨_, _, ?_, ?_, hr⟩
    · simp only [F_X2_takeReading, ck_10, ck_U hu', if_true, is10, e10, b1e, b2t, if_false, rf_U0 hu', bse, rf_10_1, rp_35 hu', p35, a2, ratC hx, h.rat hx, rp_33 hu', p33, wp_32 hu']
    · simp only [F_X12_readSensor, ck_24, if_true, gt_0 hu, b1e, ia10, e10, b2t, if_false, rf_24_37, bse, gt_35 hu, a2, ri_nI ln_44 hx (show 3 < 2 ^ 31 by decide), gt_33 hu, st_32 hu]
  | false =>
    rcases i910 _ (h.cd29 hi) (h.un hi).1 h9 e10 with e | e | e
    · have v12 : (nI 12 = 12) = True := eq_true rfl
      have a0 : F_X7_angle 12 0 c L (GRf pb) = some (c 13 0) := angC (x := 0) (by decide)
      have an := h.ang (j := 0) (by decide)
      have q0 : ri m 43 0 = some (m 43 0) := ri_nI (k := 0) ln_43 (by decide) (by decide)
      have p37 := h.pt (k := 37) hi (by decide) (by decide) (by decide) (by decide) (by decide)
      have p29 := h.pt (k := 29) hi (by decide) (by decide) (by decide) (by decide) (by decide)
      rw [e, isC12.1] at is10 ia10
      rw [e, isC12.2] at is12
      rw [e] at h0
      by_cases l0 : m 24 47 ≤ 0
      · have hr := h.part (k := 32) (v := 9999) hi (by unfold dynP; omega) (by omega) (by omega) rfl
        refine ⟨_, _, ?_, ?_, hr⟩
        · simp only [F_X2_takeReading, ck_10, ck_U hu', if_true, is10, is12, b1e, b2f, b2t, if_false, rf_10_1, bse, a0, an, offC_val, lt, if_pos l0, rf_U0 hu', zer0, wp_32 hu']
        · simp only [F_X12_readSensor, ck_24, if_true, gt_0 hu, h0, b1e, ia10, b2f, v12, rf_24_36, bse, q0, offM_val, if_pos l0, st_32 hu]
      · by_cases w0 : m 37 (65 * i + 37) ≤ abv (ofv (m 43 0) 0)
        · have hr := h.part (k := 32) (v := 9999) hi (by unfold dynP; omega) (by omega) (by omega) rfl
          refine ⟨_, _, ?_, ?_, hr⟩
          · simp only [F_X2_takeReading, ck_10, ck_U hu', if_true, is10, is12, b1e, b2f, b2t, if_false, rf_10_1, bse, a0, an, offC_val, lt, if_neg l0, rf_U0 hu', absC_val, rp_37 hu', p37, if_pos w0, zer0, wp_32 hu']
          · simp only [F_X12_readSensor, ck_24, if_true, gt_0 hu, h0, b1e, ia10, b2f, v12, rf_24_36, bse, q0, offM_val, if_neg l0, absM_val, gt_37 hu, if_pos w0, st_32 hu]
        · have hr := h.part (k := 32) (v := ofv (m 43 0) 0 + m 37 (65 * i + 29)) hi (by unfold dynP; omega) (by omega) (by omega) rfl
          refine ⟨_, _, ?_, ?_, hr⟩
          · simp only [F_X2_takeReading, ck_10, ck_U hu', if_true, is10, is12, b1e, b2f, b2t, if_false, rf_10_1, bse, a0, an, offC_val, lt, if_neg l0, rf_U0 hu', absC_val, rp_37 hu', p37, if_neg w0, one0, rp_29 hu', p29, wp_32 hu']
          · simp only [F_X12_readSensor, ck_24, if_true, gt_0 hu, h0, b1e, ia10, b2f, v12, rf_24_36, bse, q0, offM_val, if_neg l0, absM_val, gt_37 hu, if_neg w0, gt_29 hu, st_32 hu]
    · have v12 : (nI 13 = 12) = False := eq_false (by decide)
      have v13 : (nI 13 = 13) = True := eq_true rfl
      obtain ⟨v, hv, q27⟩ := (h.si hi).2.2.2.2.2.2.2.2.2.2.2.1 (Or.inr e)
      have q27 : m 37 (65 * i + 27) = nI v := q27
      have hv20 := h.lt20 hv
      have hv' : v ≤ 20 := by omega
      rw [e, isC13.1] at is10 ia10
      rw [e, isC13.2.1] at is12
      rw [e, isC13.2.2] at is13
      rw [e] at h0
      have p27 := h.pt (k := 27) hi (by decide) (by decide) (by decide) (by decide) (by decide)
      have p38 := h.pt (k := 38) hi (by decide) (by decide) (by decide) (by decide) (by decide)
      have p62 := h.pt (k := 62) hv (by decide) (by decide) (by decide) (by decide) (by decide)
      have hr := h.part (k := 32) (v := m 37 (65 * v + 62) + m 37 (65 * i + 38)) hi (by unfold dynP; omega) (by omega) (by omega) rfl
      refine ⟨_, _, ?_, ?_, hr⟩
      · simp only [F_X2_takeReading, ck_10, ck_U hu', if_true, is10, is12, is13, b1e, b2f, b2t, if_false, rf_U0 hu', bse, rf_10_0, rp_27 hu', p27, q27, h.at hv, ck_U hv', rf_U0 hv', rp_62 hv', p62, rp_38 hu', p38, wp_32 hu']
      · simp only [F_X12_readSensor, ck_24, if_true, gt_0 hu, h0, b1e, ia10, b2f, v12, v13, if_false, gt_27 hu, q27, gt_62 hv20, gt_38 hu, st_32 hu]
    · have v12 : (nI 14 = 12) = False := eq_false (by decide)
      have v13 : (nI 14 = 13) = False := eq_false (by decide)
      obtain ⟨v, hv, h5, q27⟩ := (h.si hi).2.2.2.2.2.2.2.2.2.2.2.2.1 e
      have q27 : m 37 (65 * i + 27) = nI v := q27
      obtain ⟨q, q1, q39⟩ := (h.si hi).2.2.2.2.2.2.1
      have q39 : m 37 (65 * i + 39) = nI q := q39
      have hv20 := h.lt20 hv
      have hv' : v ≤ 20 := by omega
      rw [e, isC14.1] at is10 ia10
      rw [e, isC14.2.1] at is12
      rw [e, isC14.2.2.1] at is13
      rw [e, isC14.2.2.2] at is14
      rw [e] at h0
      have p39 := h.pt (k := 39) hi (by decide) (by decide) (by decide) (by decide) (by decide)
      have hr := h.part (k := 32) (v := md (nI t + nI q * m 24 47) 256) hi (by unfold dynP; omega) (by omega) (by omega) rfl
      have fm : ∀ x (I : MI), F_J9_floorMod_7cf53 x 256 I L (GRf pb) = some (md x 256) := fun x I => fm_val (by decide)
      have fm2 : ∀ x (I : MI), F_X12_mod x 256 I L (GRf pb) = some (md x 256) := fun x I => mod_val (by decide)
      have q27' : uI m 37 (65 * i + 32) (md (nI t + nI q * m 24 47) 256) 37 (65 * i + 27) = nI v := by rw [uI_at (by omega)]; exact q27
      have q39' : uI m 37 (65 * i + 32) (md (nI t + nI q * m 24 47) 256) 37 (65 * i + 39) = nI q := by rw [uI_at (by omega)]; exact q39
      have q32' : uI m 37 (65 * i + 32) (md (nI t + nI q * m 24 47) 256) 37 (65 * i + 32) = md (nI t + nI q * m 24 47) 256 := uI_same
      have p27 := hr.pt (k := 27) hi (by decide) (by decide) (by decide) (by decide) (by decide)
      have p39' := hr.pt (k := 39) hi (by decide) (by decide) (by decide) (by decide) (by decide)
      have atv := hr.at hv
      obtain ⟨l, r, g1, g2, g3, g4, g5, g6, g7⟩ := room_ok (q := q) hr hv h5 (by omega)
      rw [q27'] at p27
      rw [q39'] at p39'
      have wh1 := wp_32 (I := c) (u := i) (x := md (nI t + nI q * m 24 47) 256) hu'
      have st1 := st_32 (pb := pb) (L := L) (m := m) (u := i) (v := md (nI t + nI q * m 24 47) 256) hu
      have pic := fun (hq : l + q ≤ r) => pic_ok hN hr hi hv h5 g3 g4 hq g2 q32' (nI i)
      generalize uI c (U i + 1) 32 (md (nI t + nI q * m 24 47) 256) = c1 at *
      generalize uI m 37 (65 * i + 32) (md (nI t + nI q * m 24 47) 256) = m1 at *
      cases e63 : decide (m1 37 (65 * v + 63) = 0) with
      | false =>
        refine ⟨_, _, ?_, ?_, hr⟩
        · simp only [F_X2_takeReading, ck_10, ck_U hu', if_true, is10, is12, is13, is14, b1e, b2f, b2t, if_false, rf_U0 hu', bse, rp_39 hu', p39, q39, lt, fm, wh1, rf_10_0, rp_27 hu', p27, atv, ck_U hv', F_X2_keepPicture, p39', g5, e63]
        · simp only [F_X12_readSensor, ck_24, if_true, gt_0 hu, h0, b1e, ia10, b2f, v12, v13, if_false, gt_39 hu, q39, gt_27 hu, q27, h.tick, fm2, st1, g7, e63, Bool.false_and]
      | true =>
        by_cases rm : l + q ≤ r
        · obtain ⟨c2, m2, y1, y2, h2⟩ := pic rm
          have y1 : LF_X2_keepPicture_26 N N (U i) (U v) (nI q) 0 c1 L (GRf pb) = some c2 := y1
          have y2 : LF_X12_readSensor_206 N N 24 (nI i) (nI q) (nI v) (md (nI t + nI q * m 24 47) 256) 0 m1 L (GRf pb) = some m2 := y2
          have p40 := h2.pt (k := 40) hi (by decide) (by decide) (by decide) (by decide) (by decide)
          have h3 := h2.part (k := 40) (v := m2 37 (65 * i + 40) + 1) hi (by unfold dynP; omega) (by omega) (by omega) rfl
          refine ⟨_, _, ?_, ?_, h3⟩
          · simp only [F_X2_takeReading, ck_10, ck_U hu', if_true, is10, is12, is13, is14, b1e, b2f, b2t, if_false, rf_U0 hu', bse, rp_39 hu', p39, q39, lt, fm, wh1, rf_10_0, rp_27 hu', p27, atv, ck_U hv', F_X2_keepPicture, p39', g5, e63, g6, decide_eq_true rm, y1, rp_40 hu', p40, wp_40 hu']
          · simp only [F_X12_readSensor, ck_24, if_true, gt_0 hu, h0, b1e, ia10, b2f, b2t, v12, v13, if_false, gt_39 hu, q39, gt_27 hu, q27, h.tick, fm2, st1, g7, e63, Bool.true_and, decide_eq_true rm, y2, gw_40 hu]
        · refine ⟨_, _, ?_, ?_, hr⟩
          · simp only [F_X2_takeReading, ck_10, ck_U hu', if_true, is10, is12, is13, is14, b1e, b2f, b2t, if_false, rf_U0 hu', bse, rp_39 hu', p39, q39, lt, fm, wh1, rf_10_0, rp_27 hu', p27, atv, ck_U hv', F_X2_keepPicture, p39', g5, e63, g6, decide_eq_false rm]
          · simp only [F_X12_readSensor, ck_24, if_true, gt_0 hu, h0, b1e, ia10, b2f, v12, v13, if_false, gt_39 hu, q39, gt_27 hu, q27, h.tick, fm2, st1, g7, e63, Bool.true_and, decide_eq_false rm]
theorem read_ok (hN : 5000 ≤ N) (h : RC n cd pb L t s0 B D c m) : Sm (F_X2_takeReadings N 10 (nI t) c L (GRf pb)) (F_X12_readSensors N 24 m L (GRf pb)) (RC n cd pb L t s0 B D) := by
  have ht := h.tlt
  have key := loop2 (f := fun k i I => LF_X2_takeReadings_2 N k 10 (nI t) (nI i) I L (GRf pb)) (g := fun k i I => LF_X12_readSensors_2 N k 24 (nI i) I L (GRf pb)) (R := fun _ a b => RC n cd pb L t s0 B D a b) (Q := RC n cd pb L t s0 B D) n ?_ ?_ n 0 N N c m (by omega) (by have := h.n20; omega) (by have := h.n20; omega) h
  · obtain ⟨a, b, e1, e2, hr⟩ := key
    have e1 : LF_X2_takeReadings_2 N N 10 (nI t) 0 c L (GRf pb) = some a := e1
    have e2 : LF_X12_readSensors_2 N N 24 0 m L (GRf pb) = some b := e2
    refine ⟨a, b, ?_, ?_, hr⟩
    · simp only [F_X2_takeReadings, ck_10, if_true, e1, b1e]
    · simp only [F_X12_readSensors, ck_24, if_true, e2, b1e]
  · intro k l a b h
    refine ⟨a, b, ?_, ?_, h⟩ <;> simp only [LF_X2_takeReadings_2, LF_X12_readSensors_2, rf_10_0, bse, h.size, b1e, h.nm, nle h.n20, if_true]
  · intro k l i a b hi h
    have hu := h.lt20 hi
    have hu' : i ≤ 20 := by omega
    have on9 : F_X9_isOn (U i) 9 a L (GRf pb) = _ := h.on (l := 9) hi (by decide) (by decide)
    have ia9 : F_X12_isA N 24 (nI i) 9 b L (GRf pb) = _ := h.isA (l := 9) (by omega) hi (by decide)
    have onm := h.onM (show 6 ≤ N by omega) hi
    have p31 := h.pt (k := 31) hi (by decide) (by decide) (by decide) (by decide) (by decide)
    cases e9 : isL (cd i) 9 with
    | false =>
      refine ⟨_, _, ?_, ?_, h⟩ <;> simp only [LF_X2_takeReadings_2, LF_X12_readSensors_2, rf_10_0, bse, b1e, wre, nI_1, h.size, h.nm, nlt hi h.n20, if_false, if_true, h.at hi, ck_U hu', b2f, on9, ia9, e9, Bool.false_and]
    | true =>
      rw [i96 _ (h.cd29 hi) e9, Bool.true_and] at onm
      cases e22 : decide (b 37 (65 * i + 22) = 1) with
      | false =>
        refine ⟨_, _, ?_, ?_, h⟩ <;> simp only [LF_X2_takeReadings_2, LF_X12_readSensors_2, rf_10_0, bse, b1e, wre, nI_1, h.size, h.nm, nlt hi h.n20, if_false, if_true, h.at hi, ck_U hu', b2f, b2t, on9, ia9, e9, Bool.true_and, onm, e22]
      | true =>
        obtain ⟨kb, k1, k2, k3⟩ := (h.si hi).2.2.2.2.2.2.2.2.2.1 (Or.inl e9)
        have k3 : b 37 (65 * i + 31) = nI kb := k3
        have zb : (nI kb = 0) = False := eq_false (nI_ne0 (by omega) (by omega))
        have mul := isMul_val (t := t) (k := kb) (by omega) (by omega) (by omega) (I := a) (L := L) (R := GRf pb)
        have ir : (iR (nI t) (nI kb) = 0) = (t % kb = 0) := propext (iR_zero (t := t) (k := kb) (by omega) (by omega) (by omega))
        by_cases q : t % kb = 0
        · obtain ⟨a1, b1, r1, r2, h1⟩ := read1_ok hN h hi e9
          refine ⟨_, _, ?_, ?_, h1⟩ <;> simp only [LF_X2_takeReadings_2, LF_X12_readSensors_2, rf_10_0, bse, b1e, wre, nI_1, h.size, h.nm, nlt hi h.n20, if_false, if_true, h.at hi, ck_U hu', b2f, b2t, on9, ia9, e9, Bool.true_and, onm, e22, rf_U0 hu', rp_31 hu', p31, k3, gt_31 hu, zb, mul, h.tick, ir, if_pos q, decide_eq_true q, r1, r2]
        · refine ⟨_, _, ?_, ?_, h⟩ <;> simp only [LF_X2_takeReadings_2, LF_X12_readSensors_2, rf_10_0, bse, b1e, wre, nI_1, h.size, h.nm, nlt hi h.n20, if_false, if_true, h.at hi, ck_U hu', b2f, b2t, on9, ia9, e9, Bool.true_and, onm, e22, rf_U0 hu', rp_31 hu', p31, k3, gt_31 hu, zb, mul, h.tick, ir, if_neg q, decide_eq_false q]
end P6
