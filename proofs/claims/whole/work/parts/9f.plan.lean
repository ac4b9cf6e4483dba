/-! T3: plan -/
theorem CP.t {pd : Nat} {a b c : MI} (h : CP pd a b) (h2 : CP pd b c) : CP pd a c := fun o p z1 z2 z3 => (h2 o p z1 z2 z3).trans (h o p z1 z2 z3)
theorem MP.t {a b c : MI} (h : MP a b) (h2 : MP b c) : MP a c := fun o p z1 z2 z3 => (h2 o p z1 z2 z3).trans (h o p z1 z2 z3)
section P42
variable {N n tn : Nat} {cd : Nat → Nat} {pb : Nat} {Lr : ML}
theorem items_loop {pd : Nat} (hN : 5000 ≤ N) (hpd : pd ≤ 1) (hpdb : pd + pb = 1) : ∀ (d k zc zr : Nat) (c : MI) (L : ML) (m : MI), k + d = 30 → d < zc → d + 1 < zr → EV n cd c L m → PK n cd pd k c m → (∃ j, RD tn j c m) → OKF c m →
    ∃ c' L' m', CP pd c c' ∧ AL L L' ∧ MP m m' ∧ LF_X12_plan_22 N zr 24 1 m Lr (GRf pb) = some m' ∧
      ((LF_X5_readFrom_7 N zc (20 + 2 * pd) 4 1 (nI k) c L (GRf pb) = some (.inl (true, c', L')) ∧ OKF c' m' ∧ ∃ k', PK n cd pd k' c' m') ∨
       (LF_X5_readFrom_7 N zc (20 + 2 * pd) 4 1 (nI k) c L (GRf pb) = some (.inl (false, c', L')) ∧ FL c' m')) := by
  intro d
  induction d using Nat.strongRecOn with
  | ind d ih =>
    intro k zc zr c L m hd hzc hzr hE hb hR hO
    obtain ⟨zc, rfl⟩ : ∃ z, zc = z + 1 := ⟨zc - 1, by omega⟩
    obtain ⟨zr, rfl⟩ : ∃ z, zr = z + 2 := ⟨zr - 2, by omega⟩
    have le : ¬ (30 : Int32) < nI k := nI_nlt (a := 30) (b := k) (by omega) (by decide)
    have one : ((1 : Int32) = 0) = False := eq_false (by decide)
    have bt1 : b2i true = 1 := rfl
    obtain ⟨c1, L1, r, m', e1, e2, mb, h⟩ := item_rd (N := N) (tn := tn) (pb := pb) (Lr := Lr) hN hpd hpdb hE hb hR hO
    rcases h with ⟨rfl, h1, h2, h3, h4, h5⟩ | ⟨h1, c', L', h2, h3, h4⟩
    · refine ⟨c1, L1, m', h2, h3, mb, ?_, Or.inl ⟨?_, h5, k, h4⟩⟩
      · simp only [LF_X12_plan_22, one, if_false, e2, b2e, wre, b2f, if_true]
      · simp only [LF_X5_readFrom_7, if_neg le, e1, b2e, h1, b1e, b2t, if_false]
    · rcases h4 with ⟨rfl, h4, h5⟩ | ⟨rfl, hk, h4, h5, h6, h7⟩
      · refine ⟨c', L', m', h2, h3, mb, ?_, Or.inr ⟨?_, h5⟩⟩
        · simp only [LF_X12_plan_22, one, if_false, e2, b2e, wre, b2f, if_true]
        · simp only [LF_X5_readFrom_7, if_neg le, e1, b2e, h1, b1e, b2f, if_true, h4, b3e]
      · have hE2 : EV n cd c' L' m' := hE.cg (fun o p z => h2 o p (by omega) (by omega) (by omega)) (fun o p z => h3 o p (by omega)) (fun o p z => mb o p (by omega) (by omega) (by omega))
        obtain ⟨c2, L2, m2, i1, i2, i3, i4, i5⟩ := ih (d - 1) (by omega) (k + 1) zc (zr + 1) c' L' m' (by omega) (by omega) (by omega) hE2 h5 h6 h7
        have ec : LF_X5_readFrom_7 N (zc + 1) (20 + 2 * pd) 4 1 (nI k) c L (GRf pb) = LF_X5_readFrom_7 N zc (20 + 2 * pd) 4 1 (nI (k + 1)) c' L' (GRf pb) := by
          rw [LF_X5_readFrom_7]
          simp only [if_neg le, e1, b2e, h1, b1e, b2f, if_true, h4, b3e, b2t, if_false, wre, nI_1]
        refine ⟨c2, L2, m2, h2.t i1, h3.t i2, mb.t i3, ?_, ?_⟩
        · rw [← i4, LF_X12_plan_22]
          simp only [one, if_false, e2, b2e, wre, bt1]
        · rw [ec]; exact i5
theorem plan53 {m : MI} {L : ML} (hN : 5000 ≤ N) : ∃ m', LF_X12_plan_53 N N 24 0 m L (GRf pb) = some m' ∧ (∀ j, j < 240 → m' 49 j = m 48 j) ∧ ∀ o p, o ≠ 49 → m' o p = m o p := by
  refine loop1 (f := fun z i I => LF_X12_plan_53 N z 24 (nI i) I L (GRf pb)) (R := fun i a => (∀ j, j < i → a 49 j = m 48 j) ∧ ∀ o p, o ≠ 49 → a o p = m o p) (Q := fun a => (∀ j, j < 240 → a 49 j = m 48 j) ∧ ∀ o p, o ≠ 49 → a o p = m o p) 240 ?_ ?_ 240 0 N m (by omega) (by omega) ⟨fun j hj => absurd hj (by omega), fun _ _ _ => rfl⟩
  · intro z a ha
    exact ⟨a, by simp only [LF_X12_plan_53, if_pos (show (240 : Int32) ≤ nI 240 by decide)], ha⟩
  · intro z i a hi ha
    have z1 : ¬ (240 : Int32) ≤ nI i := nI_ge (a := i) (b := 240) hi (by decide)
    refine ⟨uI a 49 i (m 48 i), ?_, fun j hj => ?_, fun o p q => ?_⟩
    · show LF_X12_plan_53 N (z + 1) 24 (nI i) a L (GRf pb) = _
      rw [LF_X12_plan_53]
      simp only [if_neg z1, rf_24_56, rf_24_55, bse, ri_nI ln_48 hi (show 240 < 2 ^ 31 by decide), ha.2 48 i (by decide), wi_nI ln_49 hi (show 240 < 2 ^ 31 by decide), wre, nI_1]
    · by_cases q : j = i
      · subst q; exact uI_same
      · rw [uI_at (by omega)]; exact ha.1 j (by omega)
    · rw [uI_at (fun e => q e.1)]; exact ha.2 o p q
theorem plan80 {m : MI} {L : ML} (hN : 5000 ≤ N) : ∃ m', LF_X12_plan_80 N N 24 0 m L (GRf pb) = some m' ∧ (∀ o p, 50 ≤ o → o < 54 → p < 30 → m' o p = 0) ∧ ∀ o p, ¬ (50 ≤ o ∧ o < 54) → m' o p = m o p := by
  have wz0 : ∀ (q : MI) (a i : Nat), ln a = 30 → i < 30 → wz q a (nI i) 0 = some (uI q a i 0) := fun q a i h hi => by
    unfold wz
    rw [h, if_pos ⟨inb_nI hi (by decide), Or.inl rfl⟩, ix_nI (by omega)]
  refine loop1 (f := fun z i I => LF_X12_plan_80 N z 24 (nI i) I L (GRf pb)) (R := fun i a => (∀ o p, 50 ≤ o → o < 54 → p < i → a o p = 0) ∧ ∀ o p, ¬ (50 ≤ o ∧ o < 54) → a o p = m o p) (Q := fun a => (∀ o p, 50 ≤ o → o < 54 → p < 30 → a o p = 0) ∧ ∀ o p, ¬ (50 ≤ o ∧ o < 54) → a o p = m o p) 30 ?_ ?_ 30 0 N m (by omega) (by omega) ⟨fun o p _ _ hj => absurd hj (by omega), fun _ _ _ => rfl⟩
  · intro z a ha
    exact ⟨a, by simp only [LF_X12_plan_80, if_pos (show (30 : Int32) ≤ nI 30 by decide)], ha⟩
  · intro z i a hi ha
    have z1 : ¬ (30 : Int32) ≤ nI i := nI_ge (a := i) (b := 30) hi (by decide)
    refine ⟨uI (uI (uI (uI a 50 i 0) 51 i 0) 52 i 0) 53 i 0, ?_, fun o p h1 h2 hp => ?_, fun o p q => ?_⟩
    · show LF_X12_plan_80 N (z + 1) 24 (nI i) a L (GRf pb) = _
      rw [LF_X12_plan_80]
      simp only [if_neg z1, rf_24_57, rf_24_58, rf_24_59, rf_24_60, bse, wi_nI ln_50 hi (show 30 < 2 ^ 31 by decide), wi_nI ln_51 hi (show 30 < 2 ^ 31 by decide), wz0 _ _ _ ln_52 hi, wz0 _ _ _ ln_53 hi, wre, nI_1]
    · by_cases q : p = i
      · subst q
        rcases (show o = 50 ∨ o = 51 ∨ o = 52 ∨ o = 53 by omega) with rfl | rfl | rfl | rfl
        · rw [uI_at (by omega), uI_at (by omega), uI_at (by omega), uI_same]
        · rw [uI_at (by omega), uI_at (by omega), uI_same]
        · rw [uI_at (by omega), uI_same]
        · exact uI_same
      · rw [uI_at (by omega), uI_at (by omega), uI_at (by omega), uI_at (by omega)]; exact ha.1 o p h1 h2 (by omega)
    · rw [uI_at (by omega), uI_at (by omega), uI_at (by omega), uI_at (by omega)]; exact ha.2 o p q
end P42
section P43
variable {N n : Nat} {cd : Nat → Nat} {pb : Nat} {L Lr : ML} {t s0 B D : Nat} {c m : MI}
theorem GR_swap (h : pb ≤ 1) : uR (uR (GRf pb) 10 5 (some (22 - 2 * pb))) 0 4 (some (20 + 2 * pb)) = GRf (1 - pb) := by
  funext o k
  unfold uR GRf
  by_cases q1 : o = 0 ∧ k = 4
  · rw [if_pos q1, if_neg (by omega), if_pos q1]
    congr 1; omega
  · rw [if_neg q1]
    by_cases q2 : o = 10 ∧ k = 5
    · rw [if_pos q2, if_pos q2]
      congr 1; omega
    · rw [if_neg q2, if_neg q2, if_neg q1, if_neg q2, if_neg q1]
theorem RC.ev (h : RC n cd pb L t s0 B D c m) (hd : DN n L) : EV n cd c L m :=
  ⟨h.n20, h.nc, h.nm, h.tm, hd, fun u hu => ⟨h.cd29 hu, (h.un hu).2.1, (h.un hu).2.2.2.2.1, (h.un hu).2.2.2.2.2.2.2.2⟩⟩
theorem plan_ok (hN : 5000 ≤ N) (x : Int32) (h : RC n cd pb L t s0 B D c m) (hdn : DN n L) :
    (∃ v c' L' m' pb', F_X11_plan N 0 x c L (GRf pb) = some (.inr (v, c', L', GRf pb')) ∧ F_X12_plan N 24 x m Lr (GRf pb') = some (v, m') ∧ m' 24 5 = 0 ∧ RC n cd pb' L' t s0 B D c' m' ∧ DN n L') ∨
    (∃ v m', F_X11_plan N 0 x c L (GRf pb) = some (.inl "java/lang/IllegalArgumentException") ∧ F_X12_plan N 24 x m Lr (GRf pb) = some (v, m') ∧ m' 24 5 = 1 ∧ RC n cd pb L t s0 B D c m') := by
  have h0 := h.t5 (v := 0)
  have hpb := h.pb1
  have hn := h.n20
  obtain ⟨pd, hpd⟩ : ∃ pd, pd + pb = 1 := ⟨1 - pb, by omega⟩
  have hpd1 : pd ≤ 1 := by omega
  have r04 : rf (GRf pb) 0 4 4 = some (20 + 2 * pd) := by
    rcases (show (pb = 0 ∧ pd = 1) ∨ (pb = 1 ∧ pd = 0) by omega) with ⟨rfl, rfl⟩ | ⟨rfl, rfl⟩ <;> rfl
  rcases begins_ok (N := N) (pb := pb) (L := L) (Lr := Lr) hN h0.rt x with ⟨hx, e⟩ | ⟨k, c1, m1, x0, xl, e1, e2, hR, hO, fc, fm, m7⟩
  · refine Or.inr ⟨0, uI (uI m 24 5 0) 24 5 1, ?_, ?_, uI_same, h0.t5⟩
    · rcases hx with hx | ⟨hx, hy⟩
      · simp only [F_X11_plan, ck_0, if_true, if_pos hx]
      · simp only [F_X11_plan, ck_0, if_true, if_neg hx, rf_0_0, bse, sizeT, b1e, if_neg hy]
    · simp only [F_X12_plan, ck_24, if_true, wre, e, b2e, b2f]
  · left
    have hE1 : EV n cd c1 L m1 := (h0.ev hdn).cg (fun o p z => fc o p (by omega)) (fun _ _ _ => rfl) (fun o p z => fm o p (by omega) (by omega))
    have hE2 : EV n cd (uI c1 (20 + 2 * pd) 2 0) L (uI m1 24 53 0) := hE1.cg (fun o p z => uI_at (by omega)) (fun _ _ _ => rfl) (fun o p z => uI_at (by omega))
    obtain ⟨c2, L2, m2, cb, lb, mb, e3, h5⟩ := items_loop (N := N) (n := n) (cd := cd) (tn := k) (pb := pb) (Lr := Lr) (pd := pd) hN hpd1 hpd 30 0 N N (uI c1 (20 + 2 * pd) 2 0) L (uI m1 24 53 0) rfl (by omega) (by omega) hE2 ⟨by omega, uI_same, uI_same, fun i hi => absurd hi (by omega)⟩ ⟨0, hR.cg (fun p _ => uI_at (by omega)) (fun p => uI_at (by omega)) (fun p _ => uI_at (by omega)) (fun p => uI_at (by omega))⟩ (hO.cg (fun p _ => uI_at (by omega)) (fun p _ => uI_at (by omega)))
    have c2o : ∀ o p, o ≠ 4 → ¬ (o = 20 + 2 * pd ∧ p = 2) → ¬ (142 + 31 * pd ≤ o ∧ o < 172 + 31 * pd) → c2 o p = c o p := fun o p z1 z2 z3 => by rw [cb o p (by omega) z2 z3, uI_at z2, fc o p (by omega)]
    have m2o : ∀ o p, ¬ (o = 24 ∧ (p = 7 ∨ (9 ≤ p ∧ p ≤ 16) ∨ p = 53)) → o ≠ 31 → o ≠ 48 → m2 o p = uI m 24 5 0 o p := fun o p z1 z2 z3 => by rw [mb o p (by omega) (by omega) z3, uI_at (by omega), fm o p (by omega) z2]
    have m25 : m2 24 5 = 0 := by rw [m2o 24 5 (by omega) (by omega) (by omega), uI_same]
    have m27 : m2 24 7 = 0 := by rw [mb 24 7 (by omega) (by omega) (by omega), uI_at (by omega)]; exact m7
    have lb8 : ∀ o p, 58 ≤ o → L2 o p = L o p := fun o p z => lb o p (by omega)
    have lbU : ∀ u, u < n → L2 (U u) 3 = L (U u) 3 := fun u hu => by
      have ev : U u = 58 + 4 * u := rfl
      exact lb _ _ (by omega)
    rcases h5 with ⟨h5, h6, k', b1, b2, b3, b4⟩ | ⟨h5, h6⟩
    · have h5 : LF_X5_readFrom_7 N N (20 + 2 * pd) 4 1 0 (uI c1 (20 + 2 * pd) 2 0) L (GRf pb) = _ := h5
      have rdf : F_X5_readFrom N (20 + 2 * pd) 4 1 c1 L (GRf pb) = some (true, c2, L2) := by
        simp only [F_X5_readFrom, ck_pl hpd1, ck_4, ck_1, if_true, wre, h5, bsl]
      obtain ⟨mA, f1, f2, f3⟩ := plan53 (N := N) (pb := pb) (L := Lr) (m := uI m2 24 54 (m2 24 53)) hN
      obtain ⟨mB, f4, f5, f6⟩ := plan80 (N := N) (pb := pb) (L := Lr) (m := mA) hN
      have mBo : ∀ o p, ¬ (o = 24 ∧ p = 54) → o ≠ 49 → ¬ (50 ≤ o ∧ o < 54) → mB o p = m2 o p := fun o p z1 z2 z3 => by rw [f6 o p z3, f3 o p z2, uI_at z1]
      have mB54 : mB 24 54 = nI k' := by rw [f6 24 54 (by omega), f3 24 54 (by omega), uI_same]; exact b3
      have mB49 : ∀ j, j < 240 → mB 49 j = m2 48 j := fun j hj => by rw [f6 49 j (by omega), f2 j hj, uI_at (by omega)]
      have z15 : m2 24 15 ≤ 0 := by rw [h6.2.1]; exact Int32.le_refl _
      have ref : F_X12_plan N 24 x m Lr (GRf pb) = some (nI k', mB) := by
        simp only [F_X12_plan, ck_24, if_true, wre, e2, b2e, b2t, if_false, e3, b1e, if_pos z15, f1, f4, mB54]
      have ref2 : F_X12_plan N 24 x m Lr (GRf pd) = some (nI k', mB) := by
        rw [rr_F_X12_plan pd, ← rr_F_X12_plan pb]; exact ref
      refine ⟨nI k', uI c2 4 1 0, L2, mB, pd, ?_, ref2, ?_, ?_, hdn.Lc hn lb8⟩
      · have xp : F_X2_exchangePlan 10 (20 + 2 * pd) (uI c2 4 1 0) L2 (GRf pb) = some (20 + 2 * pb, uR (GRf pb) 10 5 (some (20 + 2 * pd))) := by
          simp only [F_X2_exchangePlan, ck_10, ck_pl hpd1, if_true, pl01 hpb, bse, wre]
        have sw : uR (uR (GRf pb) 10 5 (some (20 + 2 * pd))) 0 4 (some (20 + 2 * pb)) = GRf pd := by
          have := GR_swap hpb
          rw [show 22 - 2 * pb = 20 + 2 * pd by omega, show 1 - pb = pd by omega] at this
          exact this
        have pn : F_X2_planned 10 (uI c2 4 1 0) L2 (GRf pd) = some (20 + 2 * pd) := by
          simp only [F_X2_planned, ck_10, if_true, pl01 hpd1, bse]
        have sz : F_X5_size (20 + 2 * pd) (uI c2 4 1 0) L2 (GRf pd) = some (nI k') := by
          simp only [F_X5_size, ck_pl hpd1, if_true]
          rw [uI_at (by omega), b2]
        simp only [F_X11_plan, ck_0, if_true, if_neg x0, rf_0_0, rf_0_2, rf_0_3, r04, bse, sizeT, b1e, if_pos xl, e1, rdf, b3e, wre, emptyT, b2t, if_false, xp, b2e, ck_pl hpb, sw, pn, ck_pl hpd1, sz]
      · rw [mBo 24 5 (by omega) (by omega) (by omega)]; exact m25
      · refine RC.Lc (L := L) ?_ lbU
        have mo : ∀ o p, ¬ (o = 24 ∧ (p = 7 ∨ (9 ≤ p ∧ p ≤ 16) ∨ p = 53 ∨ p = 54)) → o ≠ 31 → o ≠ 48 → o ≠ 49 → ¬ (50 ≤ o ∧ o < 54) → mB o p = uI m 24 5 0 o p := fun o p z1 z2 z3 z4 z5 => by rw [mBo o p (by omega) z4 z5, m2o o p (by omega) z2 z3]
        have co : ∀ o p, o ≠ 4 → ¬ (o = 20 + 2 * pd ∧ p = 2) → ¬ (142 + 31 * pd ≤ o ∧ o < 172 + 31 * pd) → uI c2 4 1 0 o p = c o p := fun o p z1 z2 z3 => by rw [uI_at (by omega), c2o o p z1 z2 z3]
        refine ⟨?_, ?_, ?_⟩
        · intro o p a b ht hg
          rcases ht with ⟨u, g1, g2, g3, g4, g5, g6⟩ | ⟨g0, g⟩ | ⟨g1, g2, g⟩ | ⟨g1, g2, g3, g4, g5⟩ | ⟨g1, g2, g3, g4⟩ | ⟨g1, g2, g3, g4, g5⟩
          · rw [co o p (by omega) (by omega) (by omega), mo a b (by omega) (by omega) (by omega) (by omega) (by omega)]
            exact h0.1 o p a b (Or.inl ⟨u, g1, g2, g3, g4, g5, g6⟩) (fun z => absurd z (by omega))
          · have q1 := (scT_in _ g).1
            have q2 : ∀ x ∈ scT, 25 ≤ x.2.2 ∧ x.2.2 < 50 := by decide
            have q3 := q2 _ g
            simp only at q1 q3
            rw [co o p (by omega) (by omega) (by omega), mo a b (by omega) (by omega) (by omega) (by omega) (by omega)]
            exact h0.1 o p a b (Or.inr (Or.inl ⟨g0, g⟩)) (fun z => absurd z (by omega))
          · rw [co o p (by omega) (by omega) (by omega), mo a b (by omega) (by omega) (by omega) (by omega) (by omega)]
            exact h0.1 o p a b (Or.inr (Or.inr (Or.inl ⟨g1, g2, g⟩))) (fun z => absurd z (by omega))
          · rw [co o p (by omega) (by omega) (by omega), mo a b (by omega) (by omega) (by omega) (by omega) (by omega)]
            exact h0.1 o p a b (Or.inr (Or.inr (Or.inr (Or.inl ⟨g1, g2, g3, g4, g5⟩)))) (fun z => absurd z (by omega))
          · rw [co o p (by omega) (by omega) (by omega), mo a b (by omega) (by omega) (by omega) (by omega) (by omega)]
            exact h0.1 o p a b (Or.inr (Or.inr (Or.inr (Or.inr (Or.inl ⟨g1, g2, g3, g4⟩))))) (fun z => absurd z (by omega))
          · have y := hg (by omega)
            rw [mB54, ix_nI (by omega)] at y
            rw [f5 a b g3 g4 g1, uI_at (by omega), g2]
            exact (b4 b y).2 p (by omega) (by omega)
        · obtain ⟨g1, g2, g3, g4, g5, g6, g7, g8⟩ := h0.2.1
          refine ⟨g1, hpd1, ?_, ?_, ?_, ?_, ?_, fun u hu => ?_⟩
          · rw [co 1 3 (by omega) (by omega) (by omega)]; exact g3
          · rw [mo 24 21 (by omega) (by omega) (by omega) (by omega) (by omega)]; exact g4
          · exact g5.cg (fun o p z => mo o p (by omega) (by omega) (by omega) (by omega) (by omega))
          · refine ⟨0, by omega, uI_same, ?_, fun j hj => absurd hj (by omega), ?_, ?_⟩
            · rw [mBo 24 7 (by omega) (by omega) (by omega)]; exact m27
            · rw [uI_at (by omega), mBo 24 15 (by omega) (by omega) (by omega), h6.1, h6.2.1]
            · rw [uI_at (by omega), mBo 24 16 (by omega) (by omega) (by omega)]; exact h6.2.2
          · refine ⟨k', b1, mB54, by rw [uI_at (by omega)]; exact b2, fun i hi => ?_⟩
            refine (b4 i hi).1.cg2 (fun p _ => uI_at (by omega)) (fun j hj => ?_)
            show mB 49 _ = m2 48 _
            exact mB49 _ (by omega)
          · obtain ⟨k1, k2, k3, k4, k5, k6, k7, k8, k9⟩ := g8 u hu
            have ev : U u = 58 + 4 * u := rfl
            have hu20 : u < 20 := by omega
            have my := mny_3 (cd u)
            have m36 : ∀ p, mB 36 p = uI m 24 5 0 36 p := fun p => mo 36 p (by omega) (by omega) (by omega) (by omega) (by omega)
            have m37 : ∀ p, mB 37 p = uI m 24 5 0 37 p := fun p => mo 37 p (by omega) (by omega) (by omega) (by omega) (by omega)
            refine ⟨k1, by rw [co _ _ (by omega) (by omega) (by omega)]; exact k2, by rw [co _ _ (by omega) (by omega) (by omega)]; exact k3, fun i hi => by rw [co _ _ (by omega) (by omega) (by omega)]; exact k4 i hi, by rw [m37]; exact k5, ?_, ?_, fun i hi => by rw [co _ _ (by omega) (by omega) (by omega), m36]; exact k8 i hi, fun l hl => by rw [mo 35 _ (by omega) (by omega) (by omega) (by omega) (by omega)]; exact k9 l hl⟩
            · simp only [m37]; exact k6
            · simp only [m36]; exact k7
        · exact h0.2.2.congr (fun o p q => co o p (by unfold dyc at q; omega) (by unfold dyc at q; omega) (by unfold dyc at q; omega)) (fun o p q => mo o p (by unfold dym at q; omega) (by unfold dym at q; omega) (by unfold dym at q; omega) (by unfold dym at q; omega) (by unfold dym at q; omega)) hn
    · have h5 : LF_X5_readFrom_7 N N (20 + 2 * pd) 4 1 0 (uI c1 (20 + 2 * pd) 2 0) L (GRf pb) = _ := h5
      have rdf : F_X5_readFrom N (20 + 2 * pd) 4 1 c1 L (GRf pb) = some (false, c2, L2) := by
        simp only [F_X5_readFrom, ck_pl hpd1, ck_4, ck_1, if_true, wre, h5, bsl]
      refine ⟨-1, uI c2 4 1 0, L2, m2, pb, ?_, ?_, m25, RC.Lc (L := L) ?_ lbU, hdn.Lc hn lb8⟩
      · simp only [F_X11_plan, ck_0, if_true, if_neg x0, rf_0_0, rf_0_2, r04, bse, sizeT, b1e, if_pos xl, e1, rdf, b3e, wre, emptyT, b2f]
      · simp only [F_X12_plan, ck_24, if_true, wre, e2, b2e, b2t, if_false, e3, b1e, if_neg h6.nle]
      · have hrt : RT (uI c2 4 1 0) m2 := by
          obtain ⟨e, g1, g2, g3, g4, g5⟩ := h6
          refine ⟨0, by omega, uI_same, m27, fun j hj => absurd hj (by omega), ?_, ?_⟩
          · rw [uI_at (by omega), g3, g4]
          · rw [uI_at (by omega)]; exact g5
        -- the draft's own rows count for nothing
        have co : ∀ o p, o ≠ 4 → ¬ (o = 20 + 2 * pd ∧ p = 2) → ¬ (142 + 31 * pd ≤ o ∧ o < 172 + 31 * pd) → uI c2 4 1 0 o p = c o p := fun o p z1 z2 z3 => by rw [uI_at (by omega), c2o o p z1 z2 z3]
        refine ⟨?_, ?_, ?_⟩
        · intro o p a b ht hg
          have y54 : m2 24 54 = uI m 24 5 0 24 54 := m2o 24 54 (by omega) (by omega) (by omega)
          have old := h0.1 o p a b ht (fun z => by rw [← y54]; exact hg z)
          rcases ht with ⟨u, g1, g2, g3, g4, g5, g6⟩ | ⟨g0, g⟩ | ⟨g1, g2, g⟩ | ⟨g1, g2, g3, g4, g5⟩ | ⟨g1, g2, g3, g4⟩ | ⟨g1, g2, g3, g4, g5⟩
          · rw [co o p (by omega) (by omega) (by omega), m2o a b (by omega) (by omega) (by omega)]; exact old
          · have q1 := (scT_in _ g).1
            have q2 : ∀ x ∈ scT, 25 ≤ x.2.2 ∧ x.2.2 < 50 := by decide
            have q3 := q2 _ g
            simp only at q1 q3
            rw [co o p (by omega) (by omega) (by omega), m2o a b (by omega) (by omega) (by omega)]; exact old
          · rw [co o p (by omega) (by omega) (by omega), m2o a b (by omega) (by omega) (by omega)]; exact old
          · rw [co o p (by omega) (by omega) (by omega), m2o a b (by omega) (by omega) (by omega)]; exact old
          · rw [co o p (by omega) (by omega) (by omega), m2o a b (by omega) (by omega) (by omega)]; exact old
          · rw [co o p (by omega) (by omega) (by omega), m2o a b (by omega) (by omega) (by omega)]; exact old
        · obtain ⟨g1, g2, g3, g4, g5, g6, ⟨q, y1, y2, y3, y4⟩, g8⟩ := h0.2.1
          refine ⟨g1, hpb, ?_, ?_, ?_, hrt, ?_, fun u hu => ?_⟩
          · rw [co 1 3 (by omega) (by omega) (by omega)]; exact g3
          · rw [m2o 24 21 (by omega) (by omega) (by omega)]; exact g4
          · exact g5.cg (fun o p z => m2o o p (by omega) (by omega) (by omega))
          · refine ⟨q, y1, by rw [m2o 24 54 (by omega) (by omega) (by omega)]; exact y2, by rw [co _ _ (by omega) (by omega) (by omega)]; exact y3, fun i hi => ?_⟩
            exact (y4 i hi).congr (fun p _ => co _ _ (by omega) (by omega) (by omega)) (fun p => m2o 49 p (by omega) (by omega) (by omega))
          · obtain ⟨k1, k2, k3, k4, k5, k6, k7, k8, k9⟩ := g8 u hu
            have ev : U u = 58 + 4 * u := rfl
            have hu20 : u < 20 := by omega
            have my := mny_3 (cd u)
            have m36 : ∀ p, m2 36 p = uI m 24 5 0 36 p := fun p => m2o 36 p (by omega) (by omega) (by omega)
            have m37 : ∀ p, m2 37 p = uI m 24 5 0 37 p := fun p => m2o 37 p (by omega) (by omega) (by omega)
            refine ⟨k1, by rw [co _ _ (by omega) (by omega) (by omega)]; exact k2, by rw [co _ _ (by omega) (by omega) (by omega)]; exact k3, fun i hi => by rw [co _ _ (by omega) (by omega) (by omega)]; exact k4 i hi, by rw [m37]; exact k5, ?_, ?_, fun i hi => by rw [co _ _ (by omega) (by omega) (by omega), m36]; exact k8 i hi, fun l hl => by rw [m2o 35 _ (by omega) (by omega) (by omega)]; exact k9 l hl⟩
            · simp only [m37]; exact k6
            · simp only [m36]; exact k7
        · exact h0.2.2.congr (fun o p q => co o p (by unfold dyc at q; omega) (by unfold dyc at q; omega) (by unfold dyc at q; omega)) (fun o p q => m2o o p (by unfold dym at q; omega) (by unfold dym at q; omega) (by unfold dym at q; omega)) hn
end P43
