/-! T3: a plan's item: its act -/
theorem lf5 : ∀ c, c < 29 → (isL c 5 = true ↔ c = 5) := by decide
section P40
variable {N n tn : Nat} {cd : Nat → Nat} {pb : Nat} {L Lr : ML} {c m : MI}
theorem act_rd {x i pd : Nat} (hN : 5000 ≤ N) (hpd : pd ≤ 1) (hi : i < 30) (hx : x = 142 + 31 * pd + i) (hE : EV n cd c L m) (hR : ∃ j, RD tn j c m) (hO : OKF c m) (hx6 : c x 6 = m 48 (8 * i + 7)) :
    (∃ c' L' m', (∀ o p, ¬ (o = 4 ∧ 3 ≤ p) → ¬ (o = x ∧ 4 ≤ p ∧ p ≤ 6) → c' o p = c o p) ∧ AL L L' ∧ (∀ o p, ¬ (o = 24 ∧ 10 ≤ p ∧ p ≤ 16) → ¬ (o = 48 ∧ 8 * i + 5 ≤ p ∧ p ≤ 8 * i + 7) → m' o p = m o p) ∧ F_X12_readAct N 24 (nI (8 * i)) m Lr (GRf pb) = some m' ∧
      ((F_X5_readAct N (20 + 2 * pd) 4 1 x c L (GRf pb) = some (true, c', L') ∧ (∃ j, RD tn j c' m') ∧ OKF c' m' ∧ c' x 5 = m' 48 (8 * i + 6) ∧ c' x 6 = m' 48 (8 * i + 7) ∧
         ∃ a, a ≤ 6 ∧ m' 48 (8 * i + 5) = nI a ∧ c' x 4 = nI a ∧ ((a = 0 ∨ a = 1 ∨ a = 4) → ∃ v, v < n ∧ m' 48 (8 * i + 6) = nI v) ∧ (a = 5 → ∃ v, v < n ∧ cd v = 5 ∧ m' 48 (8 * i + 6) = nI v) ∧ (a = 2 → nn (m' 48 (8 * i + 6)) 3) ∧ (a = 3 → nn (m' 48 (8 * i + 6)) 2) ∧ (a = 6 → nn (m' 48 (8 * i + 6)) 29)) ∨
       (F_X5_readAct N (20 + 2 * pd) 4 1 x c L (GRf pb) = some (false, c', L') ∧ FL c' m'))) := by
  obtain ⟨j, hR⟩ := hR
  have n4 := hR.1.1
  have ck : (kd x = 3 ∧ x < NN) = True := by rw [hx]; exact ck_it hpd (by omega)
  obtain ⟨r0, c1, L1, m1, e1, e2, a1, a2, a3, e6⟩ := nx_ok (L := L) (Lr := Lr) (pb := pb) hN hR hO
  have hE1 : EV n cd c1 L1 m1 := hE.cg (fun o p z => a1 o p (by omega)) (fun o p z => a2 o p (by omega)) (fun o p z => a3 o p (by omega))
  have w5 : ∀ q v, wi q 48 (nI (8 * i) + 5) v = some (uI q 48 (8 * i + 5) v) := fun q v => w48 (j := 5) hi (by decide)
  have w6 : ∀ q v, wi q 48 (nI (8 * i) + 6) v = some (uI q 48 (8 * i + 6) v) := fun q v => w48 (j := 6) hi (by decide)
  have w7 : ∀ q v, wi q 48 (nI (8 * i) + 7) v = some (uI q 48 (8 * i + 7) v) := fun q v => w48 (j := 7) hi (by decide)
  have zb : ∀ b : Bool, z01 (b2i b) = some b := fun b => by cases b <;> decide
  have x6 : c1 x 6 = m1 48 (8 * i + 7) := by rw [a1 x 6 (by omega), a3 48 _ (by omega)]; exact hx6
  rcases e6 with ⟨rfl, kx, ko⟩ | ⟨rfl, kt, kf⟩
  · have z15 : (m1 24 15 ≤ 0) = True := eq_true (by rw [ko.2.1]; exact Int32.le_refl _)
    have nb15 : ∀ v : Int32, (uI (uI m1 24 15 2) 24 16 v 24 15 ≤ 0) = False := fun v => by rw [uI_at (by omega), uI_same]; exact eq_false (by decide)
    obtain ⟨j1, hR1⟩ := kx.rd
    have none_ok : F_X5_actOf N 4 c1 L1 (GRf pb) = some (-1) → F_X12_planWord N 24 10 16 m1 Lr (GRf pb) = some (-1, uI (uI m1 24 15 2) 24 16 (m1 24 12)) → (∃ c' L' m', (∀ o p, ¬ (o = 4 ∧ 3 ≤ p) → ¬ (o = x ∧ 4 ≤ p ∧ p ≤ 6) → c' o p = c o p) ∧ AL L L' ∧ (∀ o p, ¬ (o = 24 ∧ 10 ≤ p ∧ p ≤ 16) → ¬ (o = 48 ∧ 8 * i + 5 ≤ p ∧ p ≤ 8 * i + 7) → m' o p = m o p) ∧ F_X12_readAct N 24 (nI (8 * i)) m Lr (GRf pb) = some m' ∧
      ((F_X5_readAct N (20 + 2 * pd) 4 1 x c L (GRf pb) = some (true, c', L') ∧ (∃ j, RD tn j c' m') ∧ OKF c' m' ∧ c' x 5 = m' 48 (8 * i + 6) ∧ c' x 6 = m' 48 (8 * i + 7) ∧
         ∃ a, a ≤ 6 ∧ m' 48 (8 * i + 5) = nI a ∧ c' x 4 = nI a ∧ ((a = 0 ∨ a = 1 ∨ a = 4) → ∃ v, v < n ∧ m' 48 (8 * i + 6) = nI v) ∧ (a = 5 → ∃ v, v < n ∧ cd v = 5 ∧ m' 48 (8 * i + 6) = nI v) ∧ (a = 2 → nn (m' 48 (8 * i + 6)) 3) ∧ (a = 3 → nn (m' 48 (8 * i + 6)) 2) ∧ (a = 6 → nn (m' 48 (8 * i + 6)) 29)) ∨
       (F_X5_readAct N (20 + 2 * pd) 4 1 x c L (GRf pb) = some (false, c', L') ∧ FL c' m'))) := fun tm pw => by
      have n4' : uI c1 x 4 (-1) 4 4 ≠ 4 := by rw [uI_at (by omega)]; exact kx.n4
      have e5 : uI c1 x 4 (-1) 4 5 = c1 4 5 := uI_at (by omega)
      refine ⟨uI (uI (uI c1 x 4 (-1)) 4 8 2) 4 9 (c1 4 5), L1, uI (uI m1 24 15 2) 24 16 (m1 24 12), fun o p z1 z2 => ?_, a2, fun o p z1 z2 => ?_, ?_, Or.inr ⟨?_, FL.of (e := 2) (by omega) (by omega) kx.at.symm⟩⟩
      · rw [uI_at (by omega), uI_at (by omega), uI_at (by omega)]; exact a1 o p z1
      · rw [uI_at (by omega), uI_at (by omega)]; exact a3 o p z1
      · simp only [F_X12_readAct, ck_24, if_true, e2, b2e, b2t, if_false, pw, nb15]
      · simp (decide := true) only [F_X5_readAct, ck_pl hpd, ck_4, ck_1, ck, if_true, if_false, e1, b2e, tm, b1e, wre, uI_same, refC n4', e5]
    by_cases q1 : c1 4 4 = 1
    · obtain ⟨s, W, hW⟩ := kx.t1 q1
      have t1 : m1 24 11 = 1 := kx.ty.trans q1
      have pw := pw_ok (N := N) (pb := pb) (Lr := Lr) (lo := 10) (hi := 16) hN hE1.2.2.2.1 n4 hW t1 ko.2.1 (by decide) (by decide)
      rcases actOf_ok (N := N) (pb := pb) (c := c1) hN hW q1 with ⟨k, hk, fk, tm⟩ | ⟨fk, tm⟩
      · have fk : fw 22 W 10 (16 + 1) 0 = some (k + 10) := fk
        rw [fk] at pw
        have hE2 : ∀ v w : Int32, EV n cd (uI c1 x 4 v) L1 (uI m1 48 (8 * i + 5) w) := fun v w => hE1.cg (fun o p z => uI_at (by omega)) (fun _ _ _ => rfl) (fun o p z => uI_at (by omega))
        have hR2 : ∀ v w : Int32, RD tn j1 (uI c1 x 4 v) (uI m1 48 (8 * i + 5) w) := fun v w => hR1.cg (fun p _ => uI_at (by omega)) (fun p => uI_at (by omega)) (fun p _ => uI_at (by omega)) (fun p => uI_at (by omega))
        have hO2 : ∀ v w : Int32, OKF (uI c1 x 4 v) (uI m1 48 (8 * i + 5) w) := fun v w => ko.cg (fun p _ => uI_at (by omega)) (fun p _ => uI_at (by omega))
        rcases (show k = 0 ∨ k = 1 ∨ k = 2 ∨ k = 3 ∨ k = 4 ∨ k = 5 ∨ k = 6 by omega) with rfl | rfl | rfl | rfl | rfl | rfl | rfl
        · have tm : F_X5_actOf N 4 c1 L1 (GRf pb) = some 0 := tm
          have pw : F_X12_planWord N 24 10 16 m1 Lr (GRf pb) = some (10, m1) := pw
          have sb : (10 : Int32) - 10 = 0 := by decide
          obtain ⟨c2, L2, m2, d1, d2, d3, d4⟩ := name_rd (N := N) (pb := pb) (Lr := Lr) (l := 0) (pd := pd) hN hpd (by decide) (hE2 0 0) ⟨j1, hR2 0 0⟩ (hO2 0 0)
          have fc : ∀ v, ∀ o p, ¬ (o = 4 ∧ 3 ≤ p) → ¬ (o = x ∧ 4 ≤ p ∧ p ≤ 6) → uI c2 x 5 v o p = c o p := fun v o p z1 z2 => by rw [uI_at (by omega), d1 o p z1, uI_at (by omega)]; exact a1 o p z1
          have fm : ∀ v, ∀ o p, ¬ (o = 24 ∧ 10 ≤ p ∧ p ≤ 16) → ¬ (o = 48 ∧ 8 * i + 5 ≤ p ∧ p ≤ 8 * i + 7) → uI m2 48 (8 * i + 6) v o p = m o p := fun v o p z1 z2 => by rw [uI_at (by omega), d3 o p z1, uI_at (by omega)]; exact a3 o p z1
          have y6 : ∀ v w, uI c2 x 5 v x 6 = uI m2 48 (8 * i + 6) w 48 (8 * i + 7) := fun v w => by rw [uI_at (by omega), uI_at (by omega), d1 x 6 (by omega), d3 48 _ (by omega), uI_at (by omega), uI_at (by omega)]; exact x6
          have y5 : ∀ w, uI m2 48 (8 * i + 6) w 48 (8 * i + 5) = nI 0 := fun w => by rw [uI_at (by omega), d3 48 _ (by omega), uI_same]; rfl
          have y4 : ∀ v, uI c2 x 5 v x 4 = nI 0 := fun v => by rw [uI_at (by omega), d1 x 4 (by omega), uI_same]; rfl
          rcases d4 with ⟨u, hu, hl, g1, g2, ⟨j2, g3⟩, g4⟩ | ⟨w, g1, g2, g3⟩
          · have g1 : F_X5_readName N (20 + 2 * pd) 4 1 0 (uI c1 x 4 0) L1 (GRf pb) = some (nI u, c2, L2) := g1
            have g2 : F_X12_unitNext N 24 0 (uI m1 48 (8 * i + 5) 0) Lr (GRf pb) = some (nI u, m2) := g2
            have um : (nI u = (-1 : Int32)) = False := nI_m1 (by have := hE.1; omega)
            refine ⟨uI c2 x 5 (nI u), L2, uI m2 48 (8 * i + 6) (nI u), fc _, a2.t d2, fm _, ?_, Or.inl ⟨?_, ⟨j2, g3.cg (fun p _ => uI_at (by omega)) (fun p => uI_at (by omega)) (fun p _ => uI_at (by omega)) (fun p => uI_at (by omega))⟩, g4.cg (fun p _ => uI_at (by omega)) (fun p _ => uI_at (by omega)), by rw [uI_same, uI_same], y6 _ _, 0, by decide, y5 _, y4 _, fun _ => ⟨u, hu, uI_same⟩, fun z => by omega, fun z => by omega, fun z => by omega, fun z => by omega⟩⟩
            · simp (decide := true) only [F_X12_readAct, ck_24, if_true, if_false, e2, b2e, b2t, pw, z15, rf_24_55, bse, sb, w5, b1e, g2, w6]
            · simp (decide := true) only [F_X5_readAct, ck_pl hpd, ck_4, ck_1, ck, if_true, if_false, e1, b2e, tm, b1e, wre, uI_same, g1, b3e, um]
          · have g1 : F_X5_readName N (20 + 2 * pd) 4 1 0 (uI c1 x 4 0) L1 (GRf pb) = some (-1, c2, L2) := g1
            have g2 : F_X12_unitNext N 24 0 (uI m1 48 (8 * i + 5) 0) Lr (GRf pb) = some (w, m2) := g2
            refine ⟨uI c2 x 5 (-1), L2, uI m2 48 (8 * i + 6) w, fc _, a2.t d2, fm _, ?_, Or.inr ⟨?_, g3.cg (fun p _ => uI_at (by omega)) (fun p _ => uI_at (by omega))⟩⟩
            · simp (decide := true) only [F_X12_readAct, ck_24, if_true, if_false, e2, b2e, b2t, pw, z15, rf_24_55, bse, sb, w5, b1e, g2, w6]
            · simp (decide := true) only [F_X5_readAct, ck_pl hpd, ck_4, ck_1, ck, if_true, if_false, e1, b2e, tm, b1e, wre, uI_same, g1, b3e]
        · have tm : F_X5_actOf N 4 c1 L1 (GRf pb) = some 1 := tm
          have pw : F_X12_planWord N 24 10 16 m1 Lr (GRf pb) = some (11, m1) := pw
          have sb : (11 : Int32) - 10 = 1 := by decide
          obtain ⟨c2, L2, m2, d1, d2, d3, d4⟩ := name_rd (N := N) (pb := pb) (Lr := Lr) (l := 0) (pd := pd) hN hpd (by decide) (hE2 1 1) ⟨j1, hR2 1 1⟩ (hO2 1 1)
          have fc : ∀ v, ∀ o p, ¬ (o = 4 ∧ 3 ≤ p) → ¬ (o = x ∧ 4 ≤ p ∧ p ≤ 6) → uI c2 x 5 v o p = c o p := fun v o p z1 z2 => by rw [uI_at (by omega), d1 o p z1, uI_at (by omega)]; exact a1 o p z1
          have fm : ∀ v, ∀ o p, ¬ (o = 24 ∧ 10 ≤ p ∧ p ≤ 16) → ¬ (o = 48 ∧ 8 * i + 5 ≤ p ∧ p ≤ 8 * i + 7) → uI m2 48 (8 * i + 6) v o p = m o p := fun v o p z1 z2 => by rw [uI_at (by omega), d3 o p z1, uI_at (by omega)]; exact a3 o p z1
          have y6 : ∀ v w, uI c2 x 5 v x 6 = uI m2 48 (8 * i + 6) w 48 (8 * i + 7) := fun v w => by rw [uI_at (by omega), uI_at (by omega), d1 x 6 (by omega), d3 48 _ (by omega), uI_at (by omega), uI_at (by omega)]; exact x6
          have y5 : ∀ w, uI m2 48 (8 * i + 6) w 48 (8 * i + 5) = nI 1 := fun w => by rw [uI_at (by omega), d3 48 _ (by omega), uI_same]; rfl
          have y4 : ∀ v, uI c2 x 5 v x 4 = nI 1 := fun v => by rw [uI_at (by omega), d1 x 4 (by omega), uI_same]; rfl
          rcases d4 with ⟨u, hu, hl, g1, g2, ⟨j2, g3⟩, g4⟩ | ⟨w, g1, g2, g3⟩
          · have g1 : F_X5_readName N (20 + 2 * pd) 4 1 0 (uI c1 x 4 1) L1 (GRf pb) = some (nI u, c2, L2) := g1
            have g2 : F_X12_unitNext N 24 0 (uI m1 48 (8 * i + 5) 1) Lr (GRf pb) = some (nI u, m2) := g2
            have um : (nI u = (-1 : Int32)) = False := nI_m1 (by have := hE.1; omega)
            refine ⟨uI c2 x 5 (nI u), L2, uI m2 48 (8 * i + 6) (nI u), fc _, a2.t d2, fm _, ?_, Or.inl ⟨?_, ⟨j2, g3.cg (fun p _ => uI_at (by omega)) (fun p => uI_at (by omega)) (fun p _ => uI_at (by omega)) (fun p => uI_at (by omega))⟩, g4.cg (fun p _ => uI_at (by omega)) (fun p _ => uI_at (by omega)), by rw [uI_same, uI_same], y6 _ _, 1, by decide, y5 _, y4 _, fun _ => ⟨u, hu, uI_same⟩, fun z => by omega, fun z => by omega, fun z => by omega, fun z => by omega⟩⟩
            · simp (decide := true) only [F_X12_readAct, ck_24, if_true, if_false, e2, b2e, b2t, pw, z15, rf_24_55, bse, sb, w5, b1e, g2, w6]
            · simp (decide := true) only [F_X5_readAct, ck_pl hpd, ck_4, ck_1, ck, if_true, if_false, e1, b2e, tm, b1e, wre, uI_same, g1, b3e, um]
          · have g1 : F_X5_readName N (20 + 2 * pd) 4 1 0 (uI c1 x 4 1) L1 (GRf pb) = some (-1, c2, L2) := g1
            have g2 : F_X12_unitNext N 24 0 (uI m1 48 (8 * i + 5) 1) Lr (GRf pb) = some (w, m2) := g2
            refine ⟨uI c2 x 5 (-1), L2, uI m2 48 (8 * i + 6) w, fc _, a2.t d2, fm _, ?_, Or.inr ⟨?_, g3.cg (fun p _ => uI_at (by omega)) (fun p _ => uI_at (by omega))⟩⟩
            · simp (decide := true) only [F_X12_readAct, ck_24, if_true, if_false, e2, b2e, b2t, pw, z15, rf_24_55, bse, sb, w5, b1e, g2, w6]
            · simp (decide := true) only [F_X5_readAct, ck_pl hpd, ck_4, ck_1, ck, if_true, if_false, e1, b2e, tm, b1e, wre, uI_same, g1, b3e]
        · have tm : F_X5_actOf N 4 c1 L1 (GRf pb) = some 2 := tm
          have pw : F_X12_planWord N 24 10 16 m1 Lr (GRf pb) = some (12, m1) := pw
          have sb : (12 : Int32) - 10 = 2 := by decide
          obtain ⟨c2, L2, m2, v2, d1, d2, d3, d4, d5⟩ := tr_ok (N := N) (n := tn) (i := j1) (pb := pb) (L := L1) (Lr := Lr) 0 3 hN (hR2 2 2) (hO2 2 2)
          have fc : ∀ v, ∀ o p, ¬ (o = 4 ∧ 3 ≤ p) → ¬ (o = x ∧ 4 ≤ p ∧ p ≤ 6) → uI c2 x 5 v o p = c o p := fun v o p z1 z2 => by rw [uI_at (by omega), d1 o p z1, uI_at (by omega)]; exact a1 o p z1
          have fm : ∀ v, ∀ o p, ¬ (o = 24 ∧ 10 ≤ p ∧ p ≤ 16) → ¬ (o = 48 ∧ 8 * i + 5 ≤ p ∧ p ≤ 8 * i + 7) → uI m2 48 (8 * i + 6) v o p = m o p := fun v o p z1 z2 => by rw [uI_at (by omega), d3 o p z1, uI_at (by omega)]; exact a3 o p z1
          have y6 : ∀ v w, uI c2 x 5 v x 6 = uI m2 48 (8 * i + 6) w 48 (8 * i + 7) := fun v w => by rw [uI_at (by omega), uI_at (by omega), d1 x 6 (by omega), d3 48 _ (by omega), uI_at (by omega), uI_at (by omega)]; exact x6
          have y5 : ∀ w, uI m2 48 (8 * i + 6) w 48 (8 * i + 5) = nI 2 := fun w => by rw [uI_at (by omega), d3 48 _ (by omega), uI_same]; rfl
          have y4 : ∀ v, uI c2 x 5 v x 4 = nI 2 := fun v => by rw [uI_at (by omega), d1 x 4 (by omega), uI_same]; rfl
          rcases d5 with ⟨d5, g1, g2, g3, g4, g5, g6⟩ | ⟨d5, g1⟩
          · obtain ⟨u, hu, eu⟩ := nI_of2 (M := 3) (n := 3) (by decide) g5 (Int32.not_lt.mp g6)
            obtain ⟨j2, g7⟩ := g1.rd
            refine ⟨uI c2 x 5 (c2 4 6), L2, uI m2 48 (8 * i + 6) v2, fc _, a2.t d2, fm _, ?_, Or.inl ⟨?_, ⟨j2, g7.cg (fun p _ => uI_at (by omega)) (fun p => uI_at (by omega)) (fun p _ => uI_at (by omega)) (fun p => uI_at (by omega))⟩, g2.cg (fun p _ => uI_at (by omega)) (fun p _ => uI_at (by omega)), by rw [uI_same, uI_same, g3], y6 _ _, 2, by decide, y5 _, y4 _, fun z => by omega, fun z => by omega, fun _ => by rw [uI_same, g3]; exact ⟨u, hu, eu⟩, fun z => by omega, fun z => by omega⟩⟩
            · simp (decide := true) only [F_X12_readAct, ck_24, if_true, if_false, e2, b2e, b2t, pw, z15, rf_24_55, bse, sb, w5, d4, w6]
            · simp (decide := true) only [F_X5_readAct, ck_pl hpd, ck_4, ck_1, ck, if_true, if_false, e1, b2e, tm, b1e, wre, uI_same, d5, b3e, nbT, zb, bse]
          · refine ⟨uI c2 x 5 (c2 4 6), L2, uI m2 48 (8 * i + 6) v2, fc _, a2.t d2, fm _, ?_, Or.inr ⟨?_, g1.cg (fun p _ => uI_at (by omega)) (fun p _ => uI_at (by omega))⟩⟩
            · simp (decide := true) only [F_X12_readAct, ck_24, if_true, if_false, e2, b2e, b2t, pw, z15, rf_24_55, bse, sb, w5, d4, w6]
            · simp (decide := true) only [F_X5_readAct, ck_pl hpd, ck_4, ck_1, ck, if_true, if_false, e1, b2e, tm, b1e, wre, uI_same, d5, b3e, nbT, zb, bse]
        · have tm : F_X5_actOf N 4 c1 L1 (GRf pb) = some 3 := tm
          have pw : F_X12_planWord N 24 10 16 m1 Lr (GRf pb) = some (13, m1) := pw
          have sb : (13 : Int32) - 10 = 3 := by decide
          obtain ⟨c2, L2, m2, v2, d1, d2, d3, d4, d5⟩ := tr_ok (N := N) (n := tn) (i := j1) (pb := pb) (L := L1) (Lr := Lr) 0 2 hN (hR2 3 3) (hO2 3 3)
          rcases d5 with ⟨d5, g1, g2, g3, g4, g5, g6⟩ | ⟨d5, g1⟩
          · obtain ⟨u, hu, eu⟩ := nI_of2 (M := 2) (n := 2) (by decide) g5 (Int32.not_lt.mp g6)
            obtain ⟨j2, g7⟩ := g1.rd
            obtain ⟨c3, L3, m3, v3, f1, f2, f3, f4, f5⟩ := tr_ok (N := N) (n := tn) (i := j2) (pb := pb) (L := L2) (Lr := Lr) (c := uI c2 x 5 (c2 4 6)) (m := uI m2 48 (8 * i + 6) v2) 0 3599 hN (g7.cg (fun p _ => uI_at (by omega)) (fun p => uI_at (by omega)) (fun p _ => uI_at (by omega)) (fun p => uI_at (by omega))) (g2.cg (fun p _ => uI_at (by omega)) (fun p _ => uI_at (by omega)))
            have fc : ∀ v, ∀ o p, ¬ (o = 4 ∧ 3 ≤ p) → ¬ (o = x ∧ 4 ≤ p ∧ p ≤ 6) → uI c3 x 6 v o p = c o p := fun v o p z1 z2 => by rw [uI_at (by omega), f1 o p z1, uI_at (by omega), d1 o p z1, uI_at (by omega)]; exact a1 o p z1
            have fm : ∀ v, ∀ o p, ¬ (o = 24 ∧ 10 ≤ p ∧ p ≤ 16) → ¬ (o = 48 ∧ 8 * i + 5 ≤ p ∧ p ≤ 8 * i + 7) → uI m3 48 (8 * i + 7) v o p = m o p := fun v o p z1 z2 => by rw [uI_at (by omega), f3 o p z1, uI_at (by omega), d3 o p z1, uI_at (by omega)]; exact a3 o p z1
            have m6 : ∀ v, uI m3 48 (8 * i + 7) v 48 (8 * i + 6) = v2 := fun v => by rw [uI_at (by omega), f3 48 _ (by omega), uI_same]
            have c5 : ∀ v, uI c3 x 6 v x 5 = c2 4 6 := fun v => by rw [uI_at (by omega), f1 x 5 (by omega), uI_same]
            have ref : F_X12_readAct N 24 (nI (8 * i)) m Lr (GRf pb) = some (uI m3 48 (8 * i + 7) v3) := by
              simp (decide := true) only [F_X12_readAct, ck_24, if_true, if_false, e2, b2e, b2t, pw, z15, rf_24_55, bse, sb, w5, d4, w6, f4, w7]
            rcases f5 with ⟨f5, k1, k2, k3, k4, k5, k6⟩ | ⟨f5, k1⟩
            · obtain ⟨j3, k7⟩ := k1.rd
              refine ⟨uI c3 x 6 (c3 4 6), L3, uI m3 48 (8 * i + 7) v3, fc _, (a2.t d2).t f2, fm _, ref, Or.inl ⟨?_, ⟨j3, k7.cg (fun p _ => uI_at (by omega)) (fun p => uI_at (by omega)) (fun p _ => uI_at (by omega)) (fun p => uI_at (by omega))⟩, k2.cg (fun p _ => uI_at (by omega)) (fun p _ => uI_at (by omega)), by rw [c5, m6, g3], by rw [uI_same, uI_same, k3], 3, by decide, ?_, ?_, fun z => by omega, fun z => by omega, fun z => by omega, fun _ => by rw [m6, g3]; exact ⟨u, hu, eu⟩, fun z => by omega⟩⟩
              · simp (decide := true) only [F_X5_readAct, ck_pl hpd, ck_4, ck_1, ck, if_true, if_false, e1, b2e, tm, b1e, wre, uI_same, d5, b3e, nbT, b2t, f5, z01_1]
                rfl
              · rw [uI_at (by omega), f3 48 _ (by omega), uI_at (by omega), d3 48 _ (by omega), uI_same]; rfl
              · rw [uI_at (by omega), f1 x 4 (by omega), uI_at (by omega), d1 x 4 (by omega), uI_same]; rfl
            · refine ⟨uI c3 x 6 (c3 4 6), L3, uI m3 48 (8 * i + 7) v3, fc _, (a2.t d2).t f2, fm _, ref, Or.inr ⟨?_, k1.cg (fun p _ => uI_at (by omega)) (fun p _ => uI_at (by omega))⟩⟩
              simp (decide := true) only [F_X5_readAct, ck_pl hpd, ck_4, ck_1, ck, if_true, if_false, e1, b2e, tm, b1e, wre, uI_same, d5, b3e, nbT, b2t, b2f, f5, z01_0]
              rfl
          · have hF : FL (uI c2 x 5 (c2 4 6)) (uI m2 48 (8 * i + 6) v2) := g1.cg (fun p _ => uI_at (by omega)) (fun p _ => uI_at (by omega))
            have c46 : uI c2 x 5 (c2 4 6) 4 6 = c2 4 6 := uI_at (by omega)
            refine ⟨uI (uI c2 x 5 (c2 4 6)) x 6 (c2 4 6), L2, uI (uI m2 48 (8 * i + 6) v2) 48 (8 * i + 7) 0, fun o p z1 z2 => by rw [uI_at (by omega), uI_at (by omega), d1 o p z1, uI_at (by omega)]; exact a1 o p z1, a2.t d2, fun o p z1 z2 => by rw [uI_at (by omega), uI_at (by omega), d3 o p z1, uI_at (by omega)]; exact a3 o p z1, ?_, Or.inr ⟨?_, hF.cg (fun p _ => uI_at (by omega)) (fun p _ => uI_at (by omega))⟩⟩
            · simp (decide := true) only [F_X12_readAct, ck_24, if_true, if_false, e2, b2e, b2t, pw, z15, rf_24_55, bse, sb, w5, d4, w6, nr_fl (N := N) (pb := pb) (Lr := Lr) 0 3599 hF, w7]
            · simp (decide := true) only [F_X5_readAct, ck_pl hpd, ck_4, ck_1, ck, if_true, if_false, e1, b2e, tm, b1e, wre, uI_same, d5, b3e, nbT, b2f, z01_0, c46]
              rfl
        · have tm : F_X5_actOf N 4 c1 L1 (GRf pb) = some 4 := tm
          have pw : F_X12_planWord N 24 10 16 m1 Lr (GRf pb) = some (14, m1) := pw
          have sb : (14 : Int32) - 10 = 4 := by decide
          obtain ⟨c2, L2, m2, d1, d2, d3, d4⟩ := name_rd (N := N) (pb := pb) (Lr := Lr) (l := 0) (pd := pd) hN hpd (by decide) (hE2 4 4) ⟨j1, hR2 4 4⟩ (hO2 4 4)
          have fc : ∀ v, ∀ o p, ¬ (o = 4 ∧ 3 ≤ p) → ¬ (o = x ∧ 4 ≤ p ∧ p ≤ 6) → uI c2 x 5 v o p = c o p := fun v o p z1 z2 => by rw [uI_at (by omega), d1 o p z1, uI_at (by omega)]; exact a1 o p z1
          have fm : ∀ v, ∀ o p, ¬ (o = 24 ∧ 10 ≤ p ∧ p ≤ 16) → ¬ (o = 48 ∧ 8 * i + 5 ≤ p ∧ p ≤ 8 * i + 7) → uI m2 48 (8 * i + 6) v o p = m o p := fun v o p z1 z2 => by rw [uI_at (by omega), d3 o p z1, uI_at (by omega)]; exact a3 o p z1
          have y6 : ∀ v w, uI c2 x 5 v x 6 = uI m2 48 (8 * i + 6) w 48 (8 * i + 7) := fun v w => by rw [uI_at (by omega), uI_at (by omega), d1 x 6 (by omega), d3 48 _ (by omega), uI_at (by omega), uI_at (by omega)]; exact x6
          have y5 : ∀ w, uI m2 48 (8 * i + 6) w 48 (8 * i + 5) = nI 4 := fun w => by rw [uI_at (by omega), d3 48 _ (by omega), uI_same]; rfl
          have y4 : ∀ v, uI c2 x 5 v x 4 = nI 4 := fun v => by rw [uI_at (by omega), d1 x 4 (by omega), uI_same]; rfl
          rcases d4 with ⟨u, hu, hl, g1, g2, ⟨j2, g3⟩, g4⟩ | ⟨w, g1, g2, g3⟩
          · have g1 : F_X5_readName N (20 + 2 * pd) 4 1 0 (uI c1 x 4 4) L1 (GRf pb) = some (nI u, c2, L2) := g1
            have g2 : F_X12_unitNext N 24 0 (uI m1 48 (8 * i + 5) 4) Lr (GRf pb) = some (nI u, m2) := g2
            have um : (nI u = (-1 : Int32)) = False := nI_m1 (by have := hE.1; omega)
            refine ⟨uI c2 x 5 (nI u), L2, uI m2 48 (8 * i + 6) (nI u), fc _, a2.t d2, fm _, ?_, Or.inl ⟨?_, ⟨j2, g3.cg (fun p _ => uI_at (by omega)) (fun p => uI_at (by omega)) (fun p _ => uI_at (by omega)) (fun p => uI_at (by omega))⟩, g4.cg (fun p _ => uI_at (by omega)) (fun p _ => uI_at (by omega)), by rw [uI_same, uI_same], y6 _ _, 4, by decide, y5 _, y4 _, fun _ => ⟨u, hu, uI_same⟩, fun z => by omega, fun z => by omega, fun z => by omega, fun z => by omega⟩⟩
            · simp (decide := true) only [F_X12_readAct, ck_24, if_true, if_false, e2, b2e, b2t, pw, z15, rf_24_55, bse, sb, w5, b1e, g2, w6]
            · simp (decide := true) only [F_X5_readAct, ck_pl hpd, ck_4, ck_1, ck, if_true, if_false, e1, b2e, tm, b1e, wre, uI_same, g1, b3e, um]
          · have g1 : F_X5_readName N (20 + 2 * pd) 4 1 0 (uI c1 x 4 4) L1 (GRf pb) = some (-1, c2, L2) := g1
            have g2 : F_X12_unitNext N 24 0 (uI m1 48 (8 * i + 5) 4) Lr (GRf pb) = some (w, m2) := g2
            refine ⟨uI c2 x 5 (-1), L2, uI m2 48 (8 * i + 6) w, fc _, a2.t d2, fm _, ?_, Or.inr ⟨?_, g3.cg (fun p _ => uI_at (by omega)) (fun p _ => uI_at (by omega))⟩⟩
            · simp (decide := true) only [F_X12_readAct, ck_24, if_true, if_false, e2, b2e, b2t, pw, z15, rf_24_55, bse, sb, w5, b1e, g2, w6]
            · simp (decide := true) only [F_X5_readAct, ck_pl hpd, ck_4, ck_1, ck, if_true, if_false, e1, b2e, tm, b1e, wre, uI_same, g1, b3e]
        · have tm : F_X5_actOf N 4 c1 L1 (GRf pb) = some 5 := tm
          have pw : F_X12_planWord N 24 10 16 m1 Lr (GRf pb) = some (15, m1) := pw
          have sb : (15 : Int32) - 10 = 5 := by decide
          obtain ⟨c2, L2, m2, d1, d2, d3, d4⟩ := name_rd (N := N) (pb := pb) (Lr := Lr) (l := 5) (pd := pd) hN hpd (by decide) (hE2 5 5) ⟨j1, hR2 5 5⟩ (hO2 5 5)
          have fc : ∀ v, ∀ o p, ¬ (o = 4 ∧ 3 ≤ p) → ¬ (o = x ∧ 4 ≤ p ∧ p ≤ 6) → uI c2 x 5 v o p = c o p := fun v o p z1 z2 => by rw [uI_at (by omega), d1 o p z1, uI_at (by omega)]; exact a1 o p z1
          have fm : ∀ v, ∀ o p, ¬ (o = 24 ∧ 10 ≤ p ∧ p ≤ 16) → ¬ (o = 48 ∧ 8 * i + 5 ≤ p ∧ p ≤ 8 * i + 7) → uI m2 48 (8 * i + 6) v o p = m o p := fun v o p z1 z2 => by rw [uI_at (by omega), d3 o p z1, uI_at (by omega)]; exact a3 o p z1
          have y6 : ∀ v w, uI c2 x 5 v x 6 = uI m2 48 (8 * i + 6) w 48 (8 * i + 7) := fun v w => by rw [uI_at (by omega), uI_at (by omega), d1 x 6 (by omega), d3 48 _ (by omega), uI_at (by omega), uI_at (by omega)]; exact x6
          have y5 : ∀ w, uI m2 48 (8 * i + 6) w 48 (8 * i + 5) = nI 5 := fun w => by rw [uI_at (by omega), d3 48 _ (by omega), uI_same]; rfl
          have y4 : ∀ v, uI c2 x 5 v x 4 = nI 5 := fun v => by rw [uI_at (by omega), d1 x 4 (by omega), uI_same]; rfl
          rcases d4 with ⟨u, hu, hl, g1, g2, ⟨j2, g3⟩, g4⟩ | ⟨w, g1, g2, g3⟩
          · have g1 : F_X5_readName N (20 + 2 * pd) 4 1 5 (uI c1 x 4 5) L1 (GRf pb) = some (nI u, c2, L2) := g1
            have g2 : F_X12_unitNext N 24 5 (uI m1 48 (8 * i + 5) 5) Lr (GRf pb) = some (nI u, m2) := g2
            have um : (nI u = (-1 : Int32)) = False := nI_m1 (by have := hE.1; omega)
            refine ⟨uI c2 x 5 (nI u), L2, uI m2 48 (8 * i + 6) (nI u), fc _, a2.t d2, fm _, ?_, Or.inl ⟨?_, ⟨j2, g3.cg (fun p _ => uI_at (by omega)) (fun p => uI_at (by omega)) (fun p _ => uI_at (by omega)) (fun p => uI_at (by omega))⟩, g4.cg (fun p _ => uI_at (by omega)) (fun p _ => uI_at (by omega)), by rw [uI_same, uI_same], y6 _ _, 5, by decide, y5 _, y4 _, fun z => by omega, fun _ => ⟨u, hu, (lf5 _ (hE.2.2.2.2.2 u hu).1).mp hl, uI_same⟩, fun z => by omega, fun z => by omega, fun z => by omega⟩⟩
            · simp (decide := true) only [F_X12_readAct, ck_24, if_true, if_false, e2, b2e, b2t, pw, z15, rf_24_55, bse, sb, w5, b1e, g2, w6]
            · simp (decide := true) only [F_X5_readAct, ck_pl hpd, ck_4, ck_1, ck, if_true, if_false, e1, b2e, tm, b1e, wre, uI_same, g1, b3e, um]
          · have g1 : F_X5_readName N (20 + 2 * pd) 4 1 5 (uI c1 x 4 5) L1 (GRf pb) = some (-1, c2, L2) := g1
            have g2 : F_X12_unitNext N 24 5 (uI m1 48 (8 * i + 5) 5) Lr (GRf pb) = some (w, m2) := g2
            refine ⟨uI c2 x 5 (-1), L2, uI m2 48 (8 * i + 6) w, fc _, a2.t d2, fm _, ?_, Or.inr ⟨?_, g3.cg (fun p _ => uI_at (by omega)) (fun p _ => uI_at (by omega))⟩⟩
            · simp (decide := true) only [F_X12_readAct, ck_24, if_true, if_false, e2, b2e, b2t, pw, z15, rf_24_55, bse, sb, w5, b1e, g2, w6]
            · simp (decide := true) only [F_X5_readAct, ck_pl hpd, ck_4, ck_1, ck, if_true, if_false, e1, b2e, tm, b1e, wre, uI_same, g1, b3e]
        · have tm : F_X5_actOf N 4 c1 L1 (GRf pb) = some 6 := tm
          have pw : F_X12_planWord N 24 10 16 m1 Lr (GRf pb) = some (16, m1) := pw
          have sb : (16 : Int32) - 10 = 6 := by decide
          obtain ⟨c2, L2, m2, v2, d1, d2, d3, d4, d5⟩ := tr_ok (N := N) (n := tn) (i := j1) (pb := pb) (L := L1) (Lr := Lr) 0 29 hN (hR2 6 6) (hO2 6 6)
          have fc : ∀ v, ∀ o p, ¬ (o = 4 ∧ 3 ≤ p) → ¬ (o = x ∧ 4 ≤ p ∧ p ≤ 6) → uI c2 x 5 v o p = c o p := fun v o p z1 z2 => by rw [uI_at (by omega), d1 o p z1, uI_at (by omega)]; exact a1 o p z1
          have fm : ∀ v, ∀ o p, ¬ (o = 24 ∧ 10 ≤ p ∧ p ≤ 16) → ¬ (o = 48 ∧ 8 * i + 5 ≤ p ∧ p ≤ 8 * i + 7) → uI m2 48 (8 * i + 6) v o p = m o p := fun v o p z1 z2 => by rw [uI_at (by omega), d3 o p z1, uI_at (by omega)]; exact a3 o p z1
          have y6 : ∀ v w, uI c2 x 5 v x 6 = uI m2 48 (8 * i + 6) w 48 (8 * i + 7) := fun v w => by rw [uI_at (by omega), uI_at (by omega), d1 x 6 (by omega), d3 48 _ (by omega), uI_at (by omega), uI_at (by omega)]; exact x6
          have y5 : ∀ w, uI m2 48 (8 * i + 6) w 48 (8 * i + 5) = nI 6 := fun w => by rw [uI_at (by omega), d3 48 _ (by omega), uI_same]; rfl
          have y4 : ∀ v, uI c2 x 5 v x 4 = nI 6 := fun v => by rw [uI_at (by omega), d1 x 4 (by omega), uI_same]; rfl
          rcases d5 with ⟨d5, g1, g2, g3, g4, g5, g6⟩ | ⟨d5, g1⟩
          · obtain ⟨u, hu, eu⟩ := nI_of2 (M := 29) (n := 29) (by decide) g5 (Int32.not_lt.mp g6)
            obtain ⟨j2, g7⟩ := g1.rd
            refine ⟨uI c2 x 5 (c2 4 6), L2, uI m2 48 (8 * i + 6) v2, fc _, a2.t d2, fm _, ?_, Or.inl ⟨?_, ⟨j2, g7.cg (fun p _ => uI_at (by omega)) (fun p => uI_at (by omega)) (fun p _ => uI_at (by omega)) (fun p => uI_at (by omega))⟩, g2.cg (fun p _ => uI_at (by omega)) (fun p _ => uI_at (by omega)), by rw [uI_same, uI_same, g3], y6 _ _, 6, by decide, y5 _, y4 _, fun z => by omega, fun z => by omega, fun z => by omega, fun z => by omega, fun _ => by rw [uI_same, g3]; exact ⟨u, hu, eu⟩⟩⟩
            · simp (decide := true) only [F_X12_readAct, ck_24, if_true, if_false, e2, b2e, b2t, pw, z15, rf_24_55, bse, sb, w5, d4, w6]
            · simp (decide := true) only [F_X5_readAct, ck_pl hpd, ck_4, ck_1, ck, if_true, if_false, e1, b2e, tm, b1e, wre, uI_same, d5, b3e, nbT, zb, bse]
          · refine ⟨uI c2 x 5 (c2 4 6), L2, uI m2 48 (8 * i + 6) v2, fc _, a2.t d2, fm _, ?_, Or.inr ⟨?_, g1.cg (fun p _ => uI_at (by omega)) (fun p _ => uI_at (by omega))⟩⟩
            · simp (decide := true) only [F_X12_readAct, ck_24, if_true, if_false, e2, b2e, b2t, pw, z15, rf_24_55, bse, sb, w5, d4, w6]
            · simp (decide := true) only [F_X5_readAct, ck_pl hpd, ck_4, ck_1, ck, if_true, if_false, e1, b2e, tm, b1e, wre, uI_same, d5, b3e, nbT, zb, bse]
      · have fk : fw 22 W 10 (16 + 1) 0 = none := fk
        rw [fk] at pw
        exact none_ok tm pw
    · exact none_ok (actOf_no q1) (pw_no (by rw [kx.ty]; exact q1) ko.2.1)
  · have ne1 : c1 4 4 ≠ 1 := by rw [kt]; decide
    refine ⟨uI c1 x 4 (-1), L1, m1, fun o p z1 z2 => by rw [uI_at (by omega)]; exact a1 o p z1, a2, fun o p z1 z2 => a3 o p z1, ?_, Or.inr ⟨?_, kf.cg (fun p _ => uI_at (by omega)) (fun p _ => rfl)⟩⟩
    · simp only [F_X12_readAct, ck_24, if_true, e2, b2e, b2f]
    · have k4 : uI c1 x 4 (-1) 4 4 = 4 := by rw [uI_at (by omega)]; exact kt
      simp (decide := true) only [F_X5_readAct, ck_pl hpd, ck_4, ck_1, ck, if_true, if_false, e1, b2e, actOf_no (N := N) (pb := pb) (L := L1) ne1, b1e, wre, uI_same, refC4 k4]
theorem act_fl {i : Nat} (h : FL c m) : F_X12_readAct N 24 (nI (8 * i)) m Lr (GRf pb) = some m := by
  simp only [F_X12_readAct, ck_24, if_true, h.nx, b2e, b2f]
end P40
