/-! T3: the plan's items; a tick; a run -/
theorem loop3 {α β γ δ : Type} {f : Nat → Nat → α → Option γ} {g : Nat → Nat → β → Option δ} {R : Nat → α → β → Prop} {Q : γ → δ → Prop} (n : Nat)
    (he : ∀ k l a b, R n a b → Sm (f (k + 1) n a) (g (l + 1) n b) Q)
    (hs : ∀ k l i a b, i < n → R i a b → Sm (f (k + 1) i a) (g (l + 1) i b) Q ∨ ∃ a' b', f (k + 1) i a = f k (i + 1) a' ∧ g (l + 1) i b = g l (i + 1) b' ∧ R (i + 1) a' b') :
    ∀ (d i k l : Nat) (a : α) (b : β), i + d = n → d < k → d < l → R i a b → Sm (f k i a) (g l i b) Q := by
  intro d
  induction d with
  | zero =>
    intro i k l a b hi hk hl h
    obtain ⟨k, rfl⟩ : ∃ z, k = z + 1 := ⟨k - 1, by omega⟩
    obtain ⟨l, rfl⟩ : ∃ z, l = z + 1 := ⟨l - 1, by omega⟩
    have : i = n := by omega
    subst this
    exact he k l a b h
  | succ d ih =>
    intro i k l a b hi hk hl h
    obtain ⟨k, rfl⟩ : ∃ z, k = z + 1 := ⟨k - 1, by omega⟩
    obtain ⟨l, rfl⟩ : ∃ z, l = z + 1 := ⟨l - 1, by omega⟩
    rcases hs k l i a b (by omega) h with hq | ⟨a', b', e1, e2, h'⟩
    · exact hq
    · rw [e1, e2]
      exact ih (i + 1) k l a' b' (by omega) (by omega) (by omega) h'
section P15
variable {N n : Nat} {cd : Nat → Nat} {pb : Nat} {L : ML} {t s0 B D : Nat} {c m : MI}
theorem r49 {i j : Nat} (hi : i < 30) (hj : j < 8) : ri m 49 (nI (8 * i) + nI j) = some (m 49 (8 * i + j)) := by
  rw [nI_add]; exact ri_nI ln_49 (by omega) (by decide)
theorem term_ok {i w s : Nat} (h : RC n cd pb L t s0 B D c m) (hi : i < 30) (hw : w ≤ 6) (e2 : m 49 (8 * i + 2) = nI (w + 3)) (c2 : c (142 + 31 * pb + i) 2 = nI w) (e3 : m 49 (8 * i + 3) = nI s) (c3 : c (142 + 31 * pb + i) 3 = nI s) (h4 : w < 4 → s < n) (h5 : w = 5 ∨ w = 6 → s < 3) : ∃ v, F_X2_valueOf 10 (142 + 31 * pb + i) c L (GRf pb) = some v ∧ F_X12_term 24 (nI (8 * i)) m L (GRf pb) = some v := by
  have h1 := h.pb1
  have ck := ck_it h1 (show i < 31 by omega)
  have r3 : ri m 49 (nI (8 * i) + 3) = some (nI s) := by rw [← e3]; exact r49 (j := 3) hi (by decide)
  have r2 : ri m 49 (nI (8 * i) + 2) = some (nI (w + 3)) := by rw [← e2]; exact r49 (j := 2) hi (by decide)
  rcases (show w = 0 ∨ w = 1 ∨ w = 2 ∨ w = 3 ∨ w = 4 ∨ w = 5 ∨ w = 6 by omega) with rfl | rfl | rfl | rfl | rfl | rfl | rfl
  · have hv := h4 (by decide)
    have hu := h.lt20 hv
    have hu' : s ≤ 20 := by omega
    have p := h.pt (k := 10) hv (by decide) (by decide) (by decide) (by decide) (by decide)
    refine ⟨m 37 (65 * s + 10), ?_, ?_⟩
    · simp (decide := true) only [F_X2_valueOf, ck_10, ck, if_true, if_false, wre, c2, c3, rf_10_0, bse, h.at hv, b1e, ck_U hu', rf_U0 hu', rp_10 hu', p]
    · simp (decide := true) only [F_X12_term, ck_24, if_true, if_false, rf_24_56, bse, r3, r2, gt_10 hu, b1e]
  · have hv := h4 (by decide)
    have hu := h.lt20 hv
    have hu' : s ≤ 20 := by omega
    have p := h.pt (k := 62) hv (by decide) (by decide) (by decide) (by decide) (by decide)
    refine ⟨m 37 (65 * s + 62), ?_, ?_⟩
    · simp (decide := true) only [F_X2_valueOf, ck_10, ck, if_true, if_false, wre, c2, c3, rf_10_0, bse, h.at hv, b1e, ck_U hu', rf_U0 hu', rp_62 hu', p]
    · simp (decide := true) only [F_X12_term, ck_24, if_true, if_false, rf_24_56, bse, r3, r2, gt_62 hu, b1e]
  · have hv := h4 (by decide)
    have hu := h.lt20 hv
    have hu' : s ≤ 20 := by omega
    have p := h.pt (k := 44) hv (by decide) (by decide) (by decide) (by decide) (by decide)
    refine ⟨m 37 (65 * s + 44), ?_, ?_⟩
    · simp (decide := true) only [F_X2_valueOf, ck_10, ck, if_true, if_false, wre, c2, c3, rf_10_0, bse, h.at hv, b1e, ck_U hu', rf_U0 hu', rp_44 hu', p]
    · simp (decide := true) only [F_X12_term, ck_24, if_true, if_false, rf_24_56, bse, r3, r2, gt_44 hu, b1e]
  · have hv := h4 (by decide)
    have hu := h.lt20 hv
    have hu' : s ≤ 20 := by omega
    have p := h.pt (k := 32) hv (by decide) (by decide) (by decide) (by decide) (by decide)
    refine ⟨m 37 (65 * s + 32), ?_, ?_⟩
    · simp (decide := true) only [F_X2_valueOf, ck_10, ck, if_true, if_false, wre, c2, c3, rf_10_0, bse, h.at hv, b1e, ck_U hu', rf_U0 hu', rp_32 hu', p]
    · simp (decide := true) only [F_X12_term, ck_24, if_true, if_false, rf_24_56, bse, r3, r2, gt_32 hu, b1e]
  · refine ⟨m 24 47, ?_, ?_⟩
    · have lt : c 10 8 = m 24 47 := h.sc (o := 10) (p := 8) (b := 47) (by decide)
      simp (decide := true) only [F_X2_valueOf, ck_10, ck, if_true, if_false, wre, c2, lt]
    · simp (decide := true) only [F_X12_term, ck_24, if_true, if_false, rf_24_56, bse, r3, r2]
  · have hs := h5 (Or.inl rfl)
    refine ⟨m 43 s, ?_, ?_⟩
    · simp (decide := true) only [F_X2_valueOf, ck_10, ck, if_true, if_false, wre, c2, c3, rf_10_1, bse, angC hs, b1e, h.ang hs]
    · simp (decide := true) only [F_X12_term, ck_24, if_true, if_false, rf_24_56, bse, r3, r2, rf_24_36, ri_nI ln_43 hs (show 3 < 2 ^ 31 by decide)]
  · have hs := h5 (Or.inr rfl)
    refine ⟨m 44 s, ?_, ?_⟩
    · simp (decide := true) only [F_X2_valueOf, ck_10, ck, if_true, if_false, wre, c2, c3, rf_10_1, bse, ratC hs, b1e, h.rat hs]
    · simp (decide := true) only [F_X12_term, ck_24, if_true, if_false, rf_24_56, bse, r3, r2, rf_24_37, ri_nI ln_44 hs (show 3 < 2 ^ 31 by decide)]
theorem RC.it {i k : Nat} (h : RC n cd pb L t s0 B D c m) (hi : i < 30) (hk : k < 4) (hq : i < ix (m 24 54)) : c (142 + 31 * pb + i) (7 + k) = m (50 + k) i := h.1 _ _ _ _ (Or.inr (Or.inr (Or.inr (Or.inr (Or.inr ⟨hi, rfl, by omega, by omega, by omega⟩))))) (fun _ => hq)
theorem Sm.pd {α : Type} {x y : Option (α × MI)} {v : α} {m0 c' m' : MI} (e1 : x = some (v, c')) (e2 : y = some (v, m')) (h : RC n cd pb L t s0 B D c' m') (hf : m' 24 54 = m0 24 54) : Sm x y (fun x y => x.1 = y.1 ∧ RC n cd pb L t s0 B D x.2 y.2 ∧ y.2 24 54 = m0 24 54) := ⟨(v, c'), (v, m'), e1, e2, rfl, h, hf⟩
theorem due_ok {q i : Nat} (h : RC n cd pb L t s0 B D c m) (hi : i < 30) (hq : i < ix (m 24 54)) (hit : IT n cd (142 + 31 * pb + i) i c m) : Sm (F_X2_isDue 10 (142 + 31 * pb + i) (nI t) c L (GRf pb)) (F_X12_isDue 24 (nI i) m L (GRf pb)) (fun x y => x.1 = y.1 ∧ RC n cd pb L t s0 B D x.2 y.2 ∧ y.2 24 54 = m 24 54) := by
  have h1 := h.pb1
  have ht := h.tlt
  have ck := ck_it h1 (show i < 31 by omega)
  have m8 : (8 : Int32) * nI i = nI (8 * i) := pk_mul 8 i
  have r1 : ri m 49 (nI (8 * i) + 1) = some (m 49 (8 * i + 1)) := r49 (j := 1) hi (by decide)
  have r4 : ri m 49 (nI (8 * i) + 4) = some (m 49 (8 * i + 4)) := r49 (j := 4) hi (by decide)
  have r0 : ri m 49 (nI (8 * i)) = some (m 49 (8 * i)) := ri_nI ln_49 (by omega) (by decide)
  obtain ⟨hc, e1, -, -, -⟩ := hit
  rcases hc with ⟨w0, c0⟩ | ⟨w0, c0, ⟨b, b1, b2, b3⟩⟩ | ⟨w0, hab, w, s, hw, e2, c2, e3, c3, h4, h5⟩
  · by_cases q : nI t = m 49 (8 * i + 1)
    · refine Sm.pd (v := true) ?_ ?_ h rfl
      · simp (decide := true) only [F_X2_isDue, ck_10, ck, if_true, if_false, F_X3_isWatch, c0, b1e, b2f, F_X3_isDueAt, e1, if_pos q]
      · simp (decide := true) only [F_X12_isDue, ck_24, if_true, if_false, wre, m8, rf_24_56, bse, r1, r0, w0, h.tick, if_pos q]
    · refine Sm.pd (v := false) ?_ ?_ h rfl
      · simp (decide := true) only [F_X2_isDue, ck_10, ck, if_true, if_false, F_X3_isWatch, c0, b1e, b2f, F_X3_isDueAt, e1, if_neg q]
      · simp (decide := true) only [F_X12_isDue, ck_24, if_true, if_false, wre, m8, rf_24_56, bse, r1, r0, w0, h.tick, if_neg q]
  · have zb : (nI b = 0) = False := eq_false (nI_ne0 (by omega) (by omega))
    have mul := isMul_val (t := t) (k := b) (by omega) (by omega) (by omega) (I := c) (L := L) (R := GRf pb)
    have ir : (iR (nI t) (nI b) = 0) = (t % b = 0) := propext (iR_zero (t := t) (k := b) (by omega) (by omega) (by omega))
    by_cases q0 : nI t ≤ 0
    · refine Sm.pd (v := false) ?_ ?_ h rfl
      · simp (decide := true) only [F_X2_isDue, ck_10, ck, if_true, if_false, F_X3_isWatch, c0, b1e, b2f, F_X3_isDueAt, e1, if_pos q0]
      · simp (decide := true) only [F_X12_isDue, ck_24, if_true, if_false, wre, m8, rf_24_56, bse, r1, r0, w0, h.tick, if_pos q0]
    · by_cases q : t % b = 0
      · refine Sm.pd (v := true) ?_ ?_ h rfl
        · simp (decide := true) only [F_X2_isDue, ck_10, ck, if_true, if_false, F_X3_isWatch, c0, b1e, b2f, b2t, F_X3_isDueAt, e1, if_neg q0, b3, mul, decide_eq_true q]
        · simp (decide := true) only [F_X12_isDue, ck_24, if_true, if_false, wre, m8, rf_24_56, bse, r1, r0, w0, h.tick, if_neg q0, b3, zb, ir, if_pos q]
      · refine Sm.pd (v := false) ?_ ?_ h rfl
        · simp (decide := true) only [F_X2_isDue, ck_10, ck, if_true, if_false, F_X3_isWatch, c0, b1e, b2f, b2t, F_X3_isDueAt, e1, if_neg q0, b3, mul, decide_eq_false q]
        · simp (decide := true) only [F_X12_isDue, ck_24, if_true, if_false, wre, m8, rf_24_56, bse, r1, r0, w0, h.tick, if_neg q0, b3, zb, ir, if_neg q]
  · obtain ⟨v, v1, v2⟩ := term_ok h hi hw e2 c2 e3 c3 h4 h5
    have wz1 : ∀ x : Int32, (x = 0 ∨ x = 1) → wz m 53 (nI i) x = some (uI m 53 i x) := fun x hx => by
      unfold wz
      rw [ln_53, if_pos ⟨inb_nI hi (by decide), hx⟩, ix_nI (by omega)]
    have rw1 : ri m 53 (nI i) = some (m 53 i) := ri_nI ln_53 hi (by decide)
    have was : c (142 + 31 * pb + i) 10 = m 53 i := h.it (k := 3) hi (by decide) hq
    have h0 := h.itU (i := i) (k := 3) (v := 0) hi (by decide) rfl
    have h1' := h.itU (i := i) (k := 3) (v := 1) hi (by decide) rfl
    have wz10 := wz1 0 (Or.inl rfl)
    have wz11 := wz1 1 (Or.inr rfl)
    rcases hab with ⟨e4, c0⟩ | ⟨e4, c0⟩
    · by_cases q : v ≤ m 49 (8 * i + 1)
      · refine Sm.pd (v := false) ?_ ?_ h0 rfl
        · simp (decide := true) only [F_X2_isDue, ck_10, ck, if_true, if_false, F_X3_isWatch, c0, b1e, b2e, b2t, v1, F_X3_hasCome, e1, if_pos q, z01_0, bse, wre]
        · simp (decide := true) only [F_X12_isDue, ck_24, if_true, if_false, wre, m8, rf_24_56, bse, r1, r0, w0, v2, b1e, r4, e4, if_pos q, rf_24_60, wz10, z01_0]
      · by_cases q2 : m 53 i = 0
        · refine Sm.pd (v := true) ?_ ?_ h1' rfl
          · simp (decide := true) only [F_X2_isDue, ck_10, ck, if_true, if_false, F_X3_isWatch, c0, b1e, b2e, b2t, v1, F_X3_hasCome, e1, if_neg q, was, if_pos q2, z01_1, bse, wre]
          · simp (decide := true) only [F_X12_isDue, ck_24, if_true, if_false, wre, m8, rf_24_56, bse, r1, r0, w0, v2, b1e, r4, e4, if_neg q, rf_24_60, rw1, if_pos q2, wz11, z01_1]
        · refine Sm.pd (v := false) ?_ ?_ h1' rfl
          · simp (decide := true) only [F_X2_isDue, ck_10, ck, if_true, if_false, F_X3_isWatch, c0, b1e, b2e, b2t, v1, F_X3_hasCome, e1, if_neg q, was, if_neg q2, z01_1, z01_0, bse, wre]
          · simp (decide := true) only [F_X12_isDue, ck_24, if_true, if_false, wre, m8, rf_24_56, bse, r1, r0, w0, v2, b1e, r4, e4, if_neg q, rf_24_60, rw1, if_neg q2, wz11, z01_0]
    · by_cases q : m 49 (8 * i + 1) ≤ v
      · refine Sm.pd (v := false) ?_ ?_ h0 rfl
        · simp (decide := true) only [F_X2_isDue, ck_10, ck, if_true, if_false, F_X3_isWatch, c0, b1e, b2e, b2t, v1, F_X3_hasCome, e1, if_pos q, z01_0, bse, wre]
        · simp (decide := true) only [F_X12_isDue, ck_24, if_true, if_false, wre, m8, rf_24_56, bse, r1, r0, w0, v2, b1e, r4, e4, if_pos q, rf_24_60, wz10, z01_0]
      · by_cases q2 : m 53 i = 0
        · refine Sm.pd (v := true) ?_ ?_ h1' rfl
          · simp (decide := true) only [F_X2_isDue, ck_10, ck, if_true, if_false, F_X3_isWatch, c0, b1e, b2e, b2t, v1, F_X3_hasCome, e1, if_neg q, was, if_pos q2, z01_1, bse, wre]
          · simp (decide := true) only [F_X12_isDue, ck_24, if_true, if_false, wre, m8, rf_24_56, bse, r1, r0, w0, v2, b1e, r4, e4, if_neg q, rf_24_60, rw1, if_pos q2, wz11, z01_1]
        · refine Sm.pd (v := false) ?_ ?_ h1' rfl
          · simp (decide := true) only [F_X2_isDue, ck_10, ck, if_true, if_false, F_X3_isWatch, c0, b1e, b2e, b2t, v1, F_X3_hasCome, e1, if_neg q, was, if_neg q2, z01_1, z01_0, bse, wre]
          · simp (decide := true) only [F_X12_isDue, ck_24, if_true, if_false, wre, m8, rf_24_56, bse, r1, r0, w0, v2, b1e, r4, e4, if_neg q, rf_24_60, rw1, if_neg q2, wz11, z01_0]
theorem items_ok (hN : 5000 ≤ N) (h : RC n cd pb L t s0 B D c m) : Sm (F_X2_doItems N 10 (nI t) c L (GRf pb)) (F_X12_doPlan N 24 m L (GRf pb)) (RC n cd pb L t s0 B D) := by
  have h1 := h.pb1
  have key := loop3 (f := fun k i I => LF_X2_doItems_2 N k 10 (nI t) (nI i) I L (GRf pb)) (g := fun k i I => LF_X12_doPlan_2 N k 24 (nI i) I L (GRf pb)) (R := fun _ a b => RC n cd pb L t s0 B D a b) (Q := RC n cd pb L t s0 B D) 30 ?_ ?_ 30 0 N N c m (by omega) (by omega) (by omega) h
  · obtain ⟨a, b, e1, e2, hr⟩ := key
    have e1 : LF_X2_doItems_2 N N 10 (nI t) 0 c L (GRf pb) = some a := e1
    have e2 : LF_X12_doPlan_2 N N 24 0 m L (GRf pb) = some b := e2
    refine ⟨a, b, ?_, ?_, hr⟩
    · simp only [F_X2_doItems, ck_10, if_true, e1, b1e]
    · simp only [F_X12_doPlan, ck_24, if_true, e2, b1e]
  · intro k l a b h
    obtain ⟨q, hq, eq1, eq2, hit⟩ := h.pl
    have z : (nI q ≤ nI 30) = True := eq_true (nI_le hq (by decide))
    refine ⟨a, b, ?_, ?_, h⟩
    · simp only [LF_X2_doItems_2, pl01 h1, bse, F_X5_size, ck_pl h1, if_true, eq2, b1e, z]
    · simp only [LF_X12_doPlan_2, eq1, z, if_true]
  · intro k l i a b hi h
    obtain ⟨q, hq, eq1, eq2, hit⟩ := h.pl
    have zq : (nI q ≤ nI i) = (q ≤ i) := propext (nI_leI (by omega) (by omega))
    by_cases qi : q ≤ i
    · refine Or.inl ⟨a, b, ?_, ?_, h⟩
      · simp only [LF_X2_doItems_2, pl01 h1, bse, F_X5_size, ck_pl h1, if_true, eq2, b1e, zq, if_pos qi]
      · simp only [LF_X12_doPlan_2, eq1, zq, if_pos qi]
    · refine Or.inr ?_
      have hiq : i < q := by omega
      have it := itemAt_ok (L := L) h1 eq2 hq hiq
      have ck := ck_it h1 (show i < 31 by omega)
      have iq : i < ix (b 24 54) := by rw [eq1, ix_nI (by omega)]; exact hiq
      have st : a (142 + 31 * pb + i) 9 = b 52 i := h.it (k := 2) hi (by decide) iq
      have r52 : ri b 52 (nI i) = some (b 52 i) := ri_nI ln_52 hi (by decide)
      by_cases q0 : b 52 i = 0
      · obtain ⟨⟨z, a1⟩, ⟨w, b1⟩, d1, d2, hz, hr, hf⟩ := due_ok (q := q) h hi iq (hit i hiq)
        have hz : z = w := hz
        subst hz
        have hr : RC n cd pb L t s0 B D a1 b1 := hr
        cases z with
        | false =>
          refine ⟨a1, b1, ?_, ?_, hr⟩
          · simp only [LF_X2_doItems_2, pl01 h1, bse, F_X5_size, ck_pl h1, if_true, eq2, b1e, zq, if_neg qi, it, ck, st, if_pos q0, d1, b2e, b2f, wre, nI_1]
          · simp only [LF_X12_doPlan_2, eq1, zq, if_neg qi, rf_24_59, bse, r52, if_pos q0, d2, b2e, b1e, b2f, if_true, wre, nI_1]
        | true =>
          have du : a1 (142 + 31 * pb + i) 7 = b1 50 i := hr.it (k := 0) hi (by decide) (show i < ix (b1 24 54) by rw [show b1 24 54 = b 24 54 from hf]; exact iq)
          have h2 := hr.itU (i := i) (k := 0) (v := a1 (142 + 31 * pb + i) 7 + 1) (w := b1 50 i + 1) hi (by decide) (by rw [du])
          have h2 : RC n cd pb L t s0 B D (uI a1 (142 + 31 * pb + i) 7 (a1 (142 + 31 * pb + i) 7 + 1)) (uI b1 50 i (b1 50 i + 1)) := h2
          obtain ⟨q', hq', eq1', eq2', hit'⟩ := h2.pl
          have hf : b1 24 54 = b 24 54 := hf
          have eq1' : b1 24 54 = nI q' := eq1'
          have hq2 : q' = q := (nI_eq (by omega) (by omega)).mp (by rw [← eq1', hf, eq1])
          subst hq2
          obtain ⟨-, -, i5, i6, ak, ak1, ak2, ak3, ak4⟩ := hit' i hiq
          have hb2 : ∀ p, uI b1 50 i (b1 50 i + 1) 49 p = b1 49 p := fun p => uI_at (by omega)
          generalize ha2 : uI a1 (142 + 31 * pb + i) 7 (a1 (142 + 31 * pb + i) 7 + 1) = a2 at *
          generalize hb2' : uI b1 50 i (b1 50 i + 1) = b2 at *
          obtain ⟨⟨z2, a3⟩, ⟨w2, b3⟩, p1, p2, hz2, hr3, hf3⟩ := perform_ok (a := b2 49 (8 * i + 6)) (b := b2 49 (8 * i + 7)) hN h2 ak1 ak4
          have hz2 : z2 = w2 := hz2
          subst hz2
          have hr3 : RC n cd pb L t s0 B D a3 b3 := hr3
          have hf4 : b3 24 54 = b2 24 54 := hf3.2
          have hf3 : ∀ p, b3 51 p = b2 51 p := hf3.1
          have rfc : a3 (142 + 31 * pb + i) 8 = b3 51 i := hr3.it (k := 1) hi (by decide) (by rw [hf4, eq1', ix_nI (by omega)]; exact hiq)
          have w50 : wi b1 50 (nI i) (b1 50 i + 1) = some b2 := by rw [← hb2']; exact wi_nI ln_50 hi (by decide)
          have r50 : ri b1 50 (nI i) = some (b1 50 i) := ri_nI ln_50 hi (by decide)
          have r51 : ri b2 51 (nI i) = some (b3 51 i) := by rw [ri_nI ln_51 hi (by decide), hf3]
          have m8 : (8 : Int32) * nI i = nI (8 * i) := pk_mul 8 i
          have r5 : ri b2 49 (nI (8 * i) + 5) = some (nI ak) := by rw [← ak2]; exact r49 (j := 5) hi (by decide)
          have r6 : ri b2 49 (nI (8 * i) + 6) = some (b2 49 (8 * i + 6)) := r49 (j := 6) hi (by decide)
          have r7 : ri b2 49 (nI (8 * i) + 7) = some (b2 49 (8 * i + 7)) := r49 (j := 7) hi (by decide)
          have w51 : ∀ v, wi b3 51 (nI i) v = some (uI b3 51 i v) := fun v => wi_nI ln_51 hi (by decide)
          cases z2 with
          | true =>
            refine ⟨a3, b3, ?_, ?_, hr3⟩
            · simp only [LF_X2_doItems_2, pl01 h1, bse, F_X5_size, ck_pl h1, if_true, if_false, eq2, b1e, zq, if_neg qi, it, ck, st, if_pos q0, d1, b2e, b2t, wre, ha2, ak3, i5, i6, p1, nI_1]
            · simp only [LF_X12_doPlan_2, eq1, zq, if_neg qi, rf_24_59, bse, r52, if_pos q0, d2, b2e, b1e, b2t, if_false, rf_24_57, r50, w50, rf_24_58, r51, rf_24_56, m8, r5, r6, r7, p2, w51, uI_id0, wre, nI_1]
          | false =>
            have h4 := hr3.itU (i := i) (k := 1) (v := a3 (142 + 31 * pb + i) 8 + 1) (w := b3 51 i + 1) hi (by decide) (by rw [rfc])
            refine ⟨_, _, ?_, ?_, h4⟩
            · simp only [LF_X2_doItems_2, pl01 h1, bse, F_X5_size, ck_pl h1, if_true, if_false, eq2, b1e, zq, if_neg qi, it, ck, st, if_pos q0, d1, b2e, b2t, b2f, wre, ha2, ak3, i5, i6, p1, nI_1]
            · simp only [LF_X12_doPlan_2, eq1, zq, if_neg qi, rf_24_59, bse, r52, if_pos q0, d2, b2e, b1e, b2t, b2f, if_true, if_false, rf_24_57, r50, w50, rf_24_58, r51, rf_24_56, m8, r5, r6, r7, p2, w51, wre, nI_1]
      · refine ⟨a, b, ?_, ?_, h⟩
        · simp only [LF_X2_doItems_2, pl01 h1, bse, F_X5_size, ck_pl h1, if_true, eq2, b1e, zq, if_neg qi, it, ck, st, if_neg q0, wre, nI_1]
        · simp only [LF_X12_doPlan_2, eq1, zq, if_neg qi, rf_24_59, bse, r52, if_neg q0, b1e, wre, nI_1]
end P15
