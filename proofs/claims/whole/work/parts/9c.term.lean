/-! T3: a plan's item: its term and bound -/
def tlB (N i : Nat) (m : MI) (Lr : ML) (R : MR) : Option MI :=
  bn2 (F_X12_next N 24 m Lr R) fun b51 I52 =>
  if (b2i b51) = 0 then
    some (I52)
  else
    if (I52 24 11) = (3 : Int32) then
      if (I52 24 14) = (59 : Int32) then
        bn1 (F_X12_wrong 24 (2 : Int32) (I52 24 12) I52 Lr R) fun I68 =>
        some (I68)
      else
        bn1 (
          if (I52 24 14) = (62 : Int32) then
            some ((1 : Int32))
          else
            some ((0 : Int32))
        ) fun (s59 : Int32) =>
        (wi I52 48 (nI (8 * i) + (4 : Int32)) s59).bind fun I63 =>
        bn2 (F_X12_number N 24 (-99999 : Int32) (99999 : Int32) I63 Lr R) fun v64 I65 =>
        (wi I65 48 (nI (8 * i) + (1 : Int32)) v64).bind fun I67 =>
        some (I67)
    else
      bn1 (F_X12_wrong 24 (2 : Int32) (I52 24 12) I52 Lr R) fun I56 =>
      some (I56)
section P39
variable {N n tn : Nat} {cd : Nat → Nat} {pb : Nat} {L Lr : ML} {c m : MI}
theorem sgT {v : Int32} (h4 : c 4 4 = 3) (h6 : c 4 6 = v) : F_X8_isSign 4 v c L (GRf pb) = some true := by simp only [F_X8_isSign, ck_4, if_true, h4, h6]
theorem sgF {v : Int32} (h6 : c 4 6 ≠ v) : F_X8_isSign 4 v c L (GRf pb) = some false := by
  by_cases q : c 4 4 = 3
  · simp only [F_X8_isSign, ck_4, if_true, q, if_neg h6]
  · simp only [F_X8_isSign, ck_4, if_true, if_neg q]
theorem sgN {v : Int32} (h4 : c 4 4 ≠ 3) : F_X8_isSign 4 v c L (GRf pb) = some false := by simp only [F_X8_isSign, ck_4, if_true, if_neg h4]
theorem nbT : F_X8_number 4 c L (GRf pb) = some (c 4 6) := by simp only [F_X8_number, ck_4, if_true]
theorem w48 {i j : Nat} {q : MI} {v : Int32} (hi : i < 30) (hj : j < 8) : wi q 48 (nI (8 * i) + nI j) v = some (uI q 48 (8 * i + j) v) := by
  rw [nI_add]; exact wi_nI ln_48 (by omega) (by decide)
theorem bound_rd {x i pd : Nat} (hN : 5000 ≤ N) (hpd : pd ≤ 1) (hi : i < 30) (hx : x = 142 + 31 * pd + i) (hR : ∃ j, RD tn j c m) (hO : OKF c m) :
    ∃ c' L' m', (∀ o p, ¬ (o = 4 ∧ 3 ≤ p) → ¬ (o = x ∧ p ≤ 1) → c' o p = c o p) ∧ AL L L' ∧ (∀ o p, ¬ (o = 24 ∧ 10 ≤ p ∧ p ≤ 16) → ¬ (o = 48 ∧ (p = 8 * i + 1 ∨ p = 8 * i + 4)) → m' o p = m o p) ∧ tlB N i m Lr (GRf pb) = some m' ∧
      ((F_X5_readBound N (20 + 2 * pd) 4 x c L (GRf pb) = some (true, c', L') ∧ (∃ j, RD tn j c' m') ∧ OKF c' m' ∧ ((m' 48 (8 * i + 4) = 1 ∧ c' x 0 = 3) ∨ (m' 48 (8 * i + 4) = 0 ∧ c' x 0 = 2)) ∧ c' x 1 = m' 48 (8 * i + 1)) ∨
       (F_X5_readBound N (20 + 2 * pd) 4 x c L (GRf pb) = some (false, c', L') ∧ FL c' m')) := by
  obtain ⟨j, hR⟩ := hR
  have ck : (kd x = 3 ∧ x < NN) = True := by rw [hx]; exact ck_it hpd (by omega)
  obtain ⟨r0, c1, L1, m1, e1, e2, a1, a2, a3, e6⟩ := nx_ok (L := L) (Lr := Lr) (pb := pb) hN hR hO
  have w4 : ∀ q v, wi q 48 (nI (8 * i) + 4) v = some (uI q 48 (8 * i + 4) v) := fun q v => w48 (j := 4) hi (by decide)
  have w1 : ∀ q v, wi q 48 (nI (8 * i) + 1) v = some (uI q 48 (8 * i + 1) v) := fun q v => w48 (j := 1) hi (by decide)
  have bad2 : c1 4 4 ≠ 4 → (∀ v, (v = 60 ∨ v = 62) → F_X8_isSign 4 v c1 L1 (GRf pb) = some false) → F_X5_readBound N (20 + 2 * pd) 4 x c L (GRf pb) = some (false, uI (uI c1 4 8 2) 4 9 (c1 4 5), L1) := fun n4 hs => by
    simp only [F_X5_readBound, ck_pl hpd, ck_4, ck, if_true, e1, b2e, hs 60 (Or.inl rfl), hs 62 (Or.inr rfl), b1e, b2f, refC n4]
  have fr2 : ∀ o p, ¬ (o = 4 ∧ 3 ≤ p) → ¬ (o = x ∧ p ≤ 1) → uI (uI c1 4 8 2) 4 9 (c1 4 5) o p = c o p := fun o p z1 z2 => by rw [uI_at (by omega), uI_at (by omega)]; exact a1 o p z1
  have fm2 : ∀ o p, ¬ (o = 24 ∧ 10 ≤ p ∧ p ≤ 16) → ¬ (o = 48 ∧ (p = 8 * i + 1 ∨ p = 8 * i + 4)) → uI (uI m1 24 15 2) 24 16 (m1 24 12) o p = m o p := fun o p z1 z2 => by rw [uI_at (by omega), uI_at (by omega)]; exact a3 o p z1
  rcases e6 with ⟨rfl, kx, ko⟩ | ⟨rfl, kt, kf⟩
  · by_cases q3 : c1 4 4 = 3
    · have t3 : m1 24 11 = 3 := kx.ty.trans q3
      have v14 := kx.t3 q3
      obtain ⟨j1, hR1⟩ := kx.rd
      have go : ∀ (v s w : Int32), c1 4 6 = v → v ≠ 59 → (if v = 62 then some (1 : Int32) else some 0) = some s → ((s = 1 ∧ w = 3) ∨ (s = 0 ∧ w = 2)) →
          (∀ c4 L4 b, F_X8_takeNumber N 4 (uI c1 x 0 w) L1 (GRf pb) = some (b, c4, L4) → F_X5_readBound N (20 + 2 * pd) 4 x c L (GRf pb) = some (b, uI c4 x 1 (c4 4 6), L4)) →
          ∃ c' L' m', (∀ o p, ¬ (o = 4 ∧ 3 ≤ p) → ¬ (o = x ∧ p ≤ 1) → c' o p = c o p) ∧ AL L L' ∧ (∀ o p, ¬ (o = 24 ∧ 10 ≤ p ∧ p ≤ 16) → ¬ (o = 48 ∧ (p = 8 * i + 1 ∨ p = 8 * i + 4)) → m' o p = m o p) ∧ tlB N i m Lr (GRf pb) = some m' ∧
            ((F_X5_readBound N (20 + 2 * pd) 4 x c L (GRf pb) = some (true, c', L') ∧ (∃ j, RD tn j c' m') ∧ OKF c' m' ∧ ((m' 48 (8 * i + 4) = 1 ∧ c' x 0 = 3) ∨ (m' 48 (8 * i + 4) = 0 ∧ c' x 0 = 2)) ∧ c' x 1 = m' 48 (8 * i + 1)) ∨
             (F_X5_readBound N (20 + 2 * pd) 4 x c L (GRf pb) = some (false, c', L') ∧ FL c' m')) := by
        intro v s w hv hv59 hs hsw hb
        obtain ⟨c2, L2, m2, v2, d1, d2, d3, d4, d5⟩ := tn_ok (N := N) (n := tn) (i := j1) (pb := pb) (L := L1) (Lr := Lr) (c := uI c1 x 0 w) (m := uI m1 48 (8 * i + 4) s) hN (hR1.cg (fun p _ => uI_at (by omega)) (fun p => uI_at (by omega)) (fun p _ => uI_at (by omega)) (fun p => uI_at (by omega))) (ko.cg (fun p _ => uI_at (by omega)) (fun p _ => uI_at (by omega)))
        have fc : ∀ o p, ¬ (o = 4 ∧ 3 ≤ p) → ¬ (o = x ∧ p ≤ 1) → uI c2 x 1 (c2 4 6) o p = c o p := fun o p z1 z2 => by rw [uI_at (by omega), d1 o p z1, uI_at (by omega)]; exact a1 o p z1
        have fm : ∀ o p, ¬ (o = 24 ∧ 10 ≤ p ∧ p ≤ 16) → ¬ (o = 48 ∧ (p = 8 * i + 1 ∨ p = 8 * i + 4)) → uI m2 48 (8 * i + 1) v2 o p = m o p := fun o p z1 z2 => by rw [uI_at (by omega), d3 o p z1, uI_at (by omega)]; exact a3 o p z1
        have tl : tlB N i m Lr (GRf pb) = some (uI m2 48 (8 * i + 1) v2) := by
          simp only [tlB, e2, b2e, b2t, if_false, t3, if_true, v14, hv, if_neg hv59, hs, b1e, w4, bse, d4, w1]
        rcases d5 with ⟨d5, g1, g2, g3, g4⟩ | ⟨d5, g1⟩
        · refine ⟨uI c2 x 1 (c2 4 6), L2, uI m2 48 (8 * i + 1) v2, fc, a2.t d2, fm, tl, Or.inl ⟨hb _ _ _ d5, ?_, g2.cg (fun p _ => uI_at (by omega)) (fun p _ => uI_at (by omega)), ?_, ?_⟩⟩
          · obtain ⟨j2, g5⟩ := g1.rd
            exact ⟨j2, g5.cg (fun p _ => uI_at (by omega)) (fun p => uI_at (by omega)) (fun p _ => uI_at (by omega)) (fun p => uI_at (by omega))⟩
          · have x1 : uI m2 48 (8 * i + 1) v2 48 (8 * i + 4) = s := by rw [uI_at (by omega), d3 48 _ (by omega), uI_same]
            have x2 : uI c2 x 1 (c2 4 6) x 0 = w := by rw [uI_at (by omega), d1 x 0 (by omega), uI_same]
            rw [x1, x2]; exact hsw
          · rw [uI_same, uI_same, g3]
        · exact ⟨uI c2 x 1 (c2 4 6), L2, uI m2 48 (8 * i + 1) v2, fc, a2.t d2, fm, tl, Or.inr ⟨hb _ _ _ d5, g1.cg (fun p _ => uI_at (by omega)) (fun p _ => uI_at (by omega))⟩⟩
      have zz : ∀ b : Bool, (z01 (b2i b)).bind (fun q : Bool => some q) = some b := fun b => by cases b <;> decide
      have zb : ∀ b : Bool, z01 (b2i b) = some b := fun b => by cases b <;> decide
      rcases kx.t3s q3 with h59 | h60 | h62
      · refine ⟨uI (uI c1 4 8 2) 4 9 (c1 4 5), L1, uI (uI m1 24 15 2) 24 16 (m1 24 12), fr2, a2, fm2, ?_, Or.inr ⟨bad2 kx.n4 (fun v hv => sgF (by rw [h59]; rcases hv with rfl | rfl <;> decide)), FL.of (e := 2) (by omega) (by omega) kx.at.symm⟩⟩
        simp only [tlB, e2, b2e, b2t, if_false, t3, if_true, v14, h59, wrM ko.2.1, b1e]
      · refine go 60 0 2 h60 (by decide) (by decide) (Or.inr ⟨rfl, rfl⟩) (fun c4 L4 b hb => ?_)
        simp only [F_X5_readBound, ck_pl hpd, ck_4, ck, if_true, e1, b2e, sgT q3 h60, b1e, b2t, if_false, wre, hb, b3e, nbT, zb, bse]
      · have s60 := sgF (pb := pb) (L := L1) (c := c1) (v := 60) (by rw [h62]; decide)
        refine go 62 1 3 h62 (by decide) (by decide) (Or.inl ⟨rfl, rfl⟩) (fun c4 L4 b hb => ?_)
        simp only [F_X5_readBound, ck_pl hpd, ck_4, ck, if_true, e1, b2e, s60, sgT q3 h62, b1e, b2f, b2t, if_false, wre, hb, b3e, nbT, zb, bse]
    · have t3 : (m1 24 11 = 3) = False := by rw [kx.ty]; exact eq_false q3
      refine ⟨uI (uI c1 4 8 2) 4 9 (c1 4 5), L1, uI (uI m1 24 15 2) 24 16 (m1 24 12), fr2, a2, fm2, ?_, Or.inr ⟨bad2 kx.n4 (fun v hv => sgN q3), FL.of (e := 2) (by omega) (by omega) kx.at.symm⟩⟩
      simp only [tlB, e2, b2e, b2t, if_false, t3, wrM ko.2.1, b1e]
  · have n3 : c1 4 4 ≠ 3 := by rw [kt]; decide
    refine ⟨c1, L1, m1, fun o p z1 _ => a1 o p z1, a2, fun o p z1 _ => a3 o p z1, ?_, Or.inr ⟨?_, kf⟩⟩
    · simp only [tlB, e2, b2e, b2f, if_true]
    · simp only [F_X5_readBound, ck_pl hpd, ck_4, ck, if_true, e1, b2e, sgN n3, b1e, b2f, refC4 kt]
theorem tl_fl {i : Nat} (h : FL c m) : tlB N i m Lr (GRf pb) = some m := by
  simp only [tlB, h.nx, b2e, b2f, if_true]
theorem head_rd {x i pd : Nat} (hN : 5000 ≤ N) (hpd : pd ≤ 1) (hi : i < 30) (hx : x = 142 + 31 * pd + i) (hE : EV n cd c L m) (hR : ∃ j, RD tn j c m) (hO : OKF c m) (hx3 : c x 3 = 0) (h43 : m 48 (8 * i + 3) = 0) :
    ∃ c' L' m', (∀ o p, ¬ (o = 4 ∧ 3 ≤ p) → ¬ (o = x ∧ (p = 2 ∨ p = 3)) → c' o p = c o p) ∧ AL L L' ∧ (∀ o p, ¬ (o = 24 ∧ 10 ≤ p ∧ p ≤ 16) → ¬ (o = 48 ∧ (p = 8 * i + 2 ∨ p = 8 * i + 3)) → m' o p = m o p) ∧
      ((F_X5_readTerm N (20 + 2 * pd) 4 1 x c L (GRf pb) = some (true, c', L') ∧ F_X12_readTerm N 24 (nI (8 * i)) m Lr (GRf pb) = tlB N i m' Lr (GRf pb) ∧ (∃ j, RD tn j c' m') ∧ OKF c' m' ∧
         ∃ w s, w ≤ 6 ∧ m' 48 (8 * i + 2) = nI (w + 3) ∧ c' x 2 = nI w ∧ m' 48 (8 * i + 3) = nI s ∧ c' x 3 = nI s ∧ (w < 4 → s < n) ∧ ((w = 5 ∨ w = 6) → s < 3)) ∨
       (F_X5_readTerm N (20 + 2 * pd) 4 1 x c L (GRf pb) = some (false, c', L') ∧ F_X12_readTerm N 24 (nI (8 * i)) m Lr (GRf pb) = some m' ∧ FL c' m')) := by
  obtain ⟨j, hR⟩ := hR
  have n4 := hR.1.1
  have ck : (kd x = 3 ∧ x < NN) = True := by rw [hx]; exact ck_it hpd (by omega)
  obtain ⟨r0, c1, L1, m1, e1, e2, a1, a2, a3, e6⟩ := nx_ok (L := L) (Lr := Lr) (pb := pb) hN hR hO
  have hE1 : EV n cd c1 L1 m1 := hE.cg (fun o p z => a1 o p (by omega)) (fun o p z => a2 o p (by omega)) (fun o p z => a3 o p (by omega))
  have w2 : ∀ q v, wi q 48 (nI (8 * i) + 2) v = some (uI q 48 (8 * i + 2) v) := fun q v => w48 (j := 2) hi (by decide)
  have w3 : ∀ q v, wi q 48 (nI (8 * i) + 3) v = some (uI q 48 (8 * i + 3) v) := fun q v => w48 (j := 3) hi (by decide)
  have zb : ∀ b : Bool, z01 (b2i b) = some b := fun b => by cases b <;> decide
  rcases e6 with ⟨rfl, kx, ko⟩ | ⟨rfl, kt, kf⟩
  · have z15 : (m1 24 15 ≤ 0) = True := eq_true (by rw [ko.2.1]; exact Int32.le_refl _)
    have nb15 : ∀ v : Int32, (uI (uI m1 24 15 2) 24 16 v 24 15 ≤ 0) = False := fun v => by rw [uI_at (by omega), uI_same]; exact eq_false (by decide)
    obtain ⟨j1, hR1⟩ := kx.rd
    have none_ok : F_X5_termOf N 4 c1 L1 (GRf pb) = some (-1) → F_X12_planWord N 24 3 9 m1 Lr (GRf pb) = some (-1, uI (uI m1 24 15 2) 24 16 (m1 24 12)) → (∃ c' L' m', (∀ o p, ¬ (o = 4 ∧ 3 ≤ p) → ¬ (o = x ∧ (p = 2 ∨ p = 3)) → c' o p = c o p) ∧ AL L L' ∧ (∀ o p, ¬ (o = 24 ∧ 10 ≤ p ∧ p ≤ 16) → ¬ (o = 48 ∧ (p = 8 * i + 2 ∨ p = 8 * i + 3)) → m' o p = m o p) ∧
      ((F_X5_readTerm N (20 + 2 * pd) 4 1 x c L (GRf pb) = some (true, c', L') ∧ F_X12_readTerm N 24 (nI (8 * i)) m Lr (GRf pb) = tlB N i m' Lr (GRf pb) ∧ (∃ j, RD tn j c' m') ∧ OKF c' m' ∧
         ∃ w s, w ≤ 6 ∧ m' 48 (8 * i + 2) = nI (w + 3) ∧ c' x 2 = nI w ∧ m' 48 (8 * i + 3) = nI s ∧ c' x 3 = nI s ∧ (w < 4 → s < n) ∧ ((w = 5 ∨ w = 6) → s < 3)) ∨
       (F_X5_readTerm N (20 + 2 * pd) 4 1 x c L (GRf pb) = some (false, c', L') ∧ F_X12_readTerm N 24 (nI (8 * i)) m Lr (GRf pb) = some m' ∧ FL c' m'))) := fun tm pw => by
      have n4' : uI c1 x 2 (-1) 4 4 ≠ 4 := by rw [uI_at (by omega)]; exact kx.n4
      have e5 : uI c1 x 2 (-1) 4 5 = c1 4 5 := uI_at (by omega)
      refine ⟨uI (uI (uI c1 x 2 (-1)) 4 8 2) 4 9 (c1 4 5), L1, uI (uI m1 24 15 2) 24 16 (m1 24 12), fun o p z1 z2 => ?_, a2, fun o p z1 z2 => ?_, Or.inr ⟨?_, ?_, FL.of (e := 2) (by omega) (by omega) kx.at.symm⟩⟩
      · rw [uI_at (by omega), uI_at (by omega), uI_at (by omega)]; exact a1 o p z1
      · rw [uI_at (by omega), uI_at (by omega)]; exact a3 o p z1
      · simp (decide := true) only [F_X5_readTerm, ck_pl hpd, ck_4, ck_1, ck, if_true, if_false, e1, b2e, tm, b1e, wre, uI_same, refC n4', e5]
      · simp only [F_X12_readTerm, ck_24, if_true, e2, b2e, b2t, if_false, pw, nb15]
    by_cases q1 : c1 4 4 = 1
    · obtain ⟨s, W, hW⟩ := kx.t1 q1
      have t1 : m1 24 11 = 1 := kx.ty.trans q1
      have pw := pw_ok (N := N) (pb := pb) (Lr := Lr) (lo := 3) (hi := 9) hN hE1.2.2.2.1 n4 hW t1 ko.2.1 (by decide) (by decide)
      rcases termOf_ok (N := N) (pb := pb) (c := c1) hN hW q1 with ⟨k, hk, fk, tm⟩ | ⟨fk, tm⟩
      · have fk : fw 22 W 3 (9 + 1) 0 = some (k + 3) := fk
        rw [fk] at pw
        have hE2 : ∀ v w : Int32, EV n cd (uI c1 x 2 v) L1 (uI m1 48 (8 * i + 2) w) := fun v w => hE1.cg (fun o p z => uI_at (by omega)) (fun _ _ _ => rfl) (fun o p z => uI_at (by omega))
        have hR2 : ∀ v w : Int32, RD tn j1 (uI c1 x 2 v) (uI m1 48 (8 * i + 2) w) := fun v w => hR1.cg (fun p _ => uI_at (by omega)) (fun p => uI_at (by omega)) (fun p _ => uI_at (by omega)) (fun p => uI_at (by omega))
        have hO2 : ∀ v w : Int32, OKF (uI c1 x 2 v) (uI m1 48 (8 * i + 2) w) := fun v w => ko.cg (fun p _ => uI_at (by omega)) (fun p _ => uI_at (by omega))
        rcases (show k = 0 ∨ k = 1 ∨ k = 2 ∨ k = 3 ∨ k = 4 ∨ k = 5 ∨ k = 6 by omega) with rfl | rfl | rfl | rfl | rfl | rfl | rfl
        · have tm : F_X5_termOf N 4 c1 L1 (GRf pb) = some 0 := tm
          have pw : F_X12_planWord N 24 3 9 m1 Lr (GRf pb) = some (3, m1) := pw
          obtain ⟨c2, L2, m2, d1, d2, d3, d4⟩ := name_rd (N := N) (pb := pb) (Lr := Lr) (l := 1) (pd := pd) hN hpd (by decide) (hE2 0 3) ⟨j1, hR2 0 3⟩ (hO2 0 3)
          have fc : ∀ v, ∀ o p, ¬ (o = 4 ∧ 3 ≤ p) → ¬ (o = x ∧ (p = 2 ∨ p = 3)) → uI c2 x 3 v o p = c o p := fun v o p z1 z2 => by rw [uI_at (by omega), d1 o p z1, uI_at (by omega)]; exact a1 o p z1
          have fm : ∀ v, ∀ o p, ¬ (o = 24 ∧ 10 ≤ p ∧ p ≤ 16) → ¬ (o = 48 ∧ (p = 8 * i + 2 ∨ p = 8 * i + 3)) → uI m2 48 (8 * i + 3) v o p = m o p := fun v o p z1 z2 => by rw [uI_at (by omega), d3 o p z1, uI_at (by omega)]; exact a3 o p z1
          rcases d4 with ⟨u, hu, hl, g1, g2, ⟨j2, g3⟩, g4⟩ | ⟨w, g1, g2, g3⟩
          · have g1 : F_X5_readName N (20 + 2 * pd) 4 1 1 (uI c1 x 2 0) L1 (GRf pb) = some (nI u, c2, L2) := g1
            have g2 : F_X12_unitNext N 24 1 (uI m1 48 (8 * i + 2) 3) Lr (GRf pb) = some (nI u, m2) := g2
            have um : (nI u = (-1 : Int32)) = False := nI_m1 (by have := hE.1; omega)
            refine ⟨uI c2 x 3 (nI u), L2, uI m2 48 (8 * i + 3) (nI u), fc _, a2.t d2, fm _, Or.inl ⟨?_, ?_, ⟨j2, g3.cg (fun p _ => uI_at (by omega)) (fun p => uI_at (by omega)) (fun p _ => uI_at (by omega)) (fun p => uI_at (by omega))⟩, g4.cg (fun p _ => uI_at (by omega)) (fun p _ => uI_at (by omega)), 0, u, by decide, ?_, ?_, uI_same, uI_same, fun _ => hu, fun z => by omega⟩⟩
            · simp (decide := true) only [F_X5_readTerm, ck_pl hpd, ck_4, ck_1, ck, if_true, if_false, e1, b2e, tm, b1e, wre, uI_same, g1, b3e, um]
            · unfold tlB
              simp (decide := true) only [F_X12_readTerm, ck_24, if_true, if_false, e2, b2e, b2t, pw, z15, rf_24_55, bse, w2, g2, w3, b1e]
            · rw [uI_at (by omega), d3 48 _ (by omega), uI_same]; rfl
            · rw [uI_at (by omega), d1 x 2 (by omega), uI_same]; rfl
          · have g1 : F_X5_readName N (20 + 2 * pd) 4 1 1 (uI c1 x 2 0) L1 (GRf pb) = some (-1, c2, L2) := g1
            have g2 : F_X12_unitNext N 24 1 (uI m1 48 (8 * i + 2) 3) Lr (GRf pb) = some (w, m2) := g2
            have hF : FL (uI c2 x 3 (-1)) (uI m2 48 (8 * i + 3) w) := g3.cg (fun p _ => uI_at (by omega)) (fun p _ => uI_at (by omega))
            refine ⟨uI c2 x 3 (-1), L2, uI m2 48 (8 * i + 3) w, fc _, a2.t d2, fm _, Or.inr ⟨?_, ?_, hF⟩⟩
            · simp (decide := true) only [F_X5_readTerm, ck_pl hpd, ck_4, ck_1, ck, if_true, if_false, e1, b2e, tm, b1e, wre, uI_same, g1, b3e]
            · simp (decide := true) only [F_X12_readTerm, ck_24, if_true, if_false, e2, b2e, b2t, b2f, pw, z15, rf_24_55, bse, w2, g2, w3, b1e, hF.nx]
        · have tm : F_X5_termOf N 4 c1 L1 (GRf pb) = some 1 := tm
          have pw : F_X12_planWord N 24 3 9 m1 Lr (GRf pb) = some (4, m1) := pw
          obtain ⟨c2, L2, m2, d1, d2, d3, d4⟩ := name_rd (N := N) (pb := pb) (Lr := Lr) (l := 0) (pd := pd) hN hpd (by decide) (hE2 1 4) ⟨j1, hR2 1 4⟩ (hO2 1 4)
          have fc : ∀ v, ∀ o p, ¬ (o = 4 ∧ 3 ≤ p) → ¬ (o = x ∧ (p = 2 ∨ p = 3)) → uI c2 x 3 v o p = c o p := fun v o p z1 z2 => by rw [uI_at (by omega), d1 o p z1, uI_at (by omega)]; exact a1 o p z1
          have fm : ∀ v, ∀ o p, ¬ (o = 24 ∧ 10 ≤ p ∧ p ≤ 16) → ¬ (o = 48 ∧ (p = 8 * i + 2 ∨ p = 8 * i + 3)) → uI m2 48 (8 * i + 3) v o p = m o p := fun v o p z1 z2 => by rw [uI_at (by omega), d3 o p z1, uI_at (by omega)]; exact a3 o p z1
          rcases d4 with ⟨u, hu, hl, g1, g2, ⟨j2, g3⟩, g4⟩ | ⟨w, g1, g2, g3⟩
          · have g1 : F_X5_readName N (20 + 2 * pd) 4 1 0 (uI c1 x 2 1) L1 (GRf pb) = some (nI u, c2, L2) := g1
            have g2 : F_X12_unitNext N 24 0 (uI m1 48 (8 * i + 2) 4) Lr (GRf pb) = some (nI u, m2) := g2
            have um : (nI u = (-1 : Int32)) = False := nI_m1 (by have := hE.1; omega)
            refine ⟨uI c2 x 3 (nI u), L2, uI m2 48 (8 * i + 3) (nI u), fc _, a2.t d2, fm _, Or.inl ⟨?_, ?_, ⟨j2, g3.cg (fun p _ => uI_at (by omega)) (fun p => uI_at (by omega)) (fun p _ => uI_at (by omega)) (fun p => uI_at (by omega))⟩, g4.cg (fun p _ => uI_at (by omega)) (fun p _ => uI_at (by omega)), 1, u, by decide, ?_, ?_, uI_same, uI_same, fun _ => hu, fun z => by omega⟩⟩
            · simp (decide := true) only [F_X5_readTerm, ck_pl hpd, ck_4, ck_1, ck, if_true, if_false, e1, b2e, tm, b1e, wre, uI_same, g1, b3e, um]
            · unfold tlB
              simp (decide := true) only [F_X12_readTerm, ck_24, if_true, if_false, e2, b2e, b2t, pw, z15, rf_24_55, bse, w2, g2, w3, b1e]
            · rw [uI_at (by omega), d3 48 _ (by omega), uI_same]; rfl
            · rw [uI_at (by omega), d1 x 2 (by omega), uI_same]; rfl
          · have g1 : F_X5_readName N (20 + 2 * pd) 4 1 0 (uI c1 x 2 1) L1 (GRf pb) = some (-1, c2, L2) := g1
            have g2 : F_X12_unitNext N 24 0 (uI m1 48 (8 * i + 2) 4) Lr (GRf pb) = some (w, m2) := g2
            have hF : FL (uI c2 x 3 (-1)) (uI m2 48 (8 * i + 3) w) := g3.cg (fun p _ => uI_at (by omega)) (fun p _ => uI_at (by omega))
            refine ⟨uI c2 x 3 (-1), L2, uI m2 48 (8 * i + 3) w, fc _, a2.t d2, fm _, Or.inr ⟨?_, ?_, hF⟩⟩
            · simp (decide := true) only [F_X5_readTerm, ck_pl hpd, ck_4, ck_1, ck, if_true, if_false, e1, b2e, tm, b1e, wre, uI_same, g1, b3e]
            · simp (decide := true) only [F_X12_readTerm, ck_24, if_true, if_false, e2, b2e, b2t, b2f, pw, z15, rf_24_55, bse, w2, g2, w3, b1e, hF.nx]
        · have tm : F_X5_termOf N 4 c1 L1 (GRf pb) = some 2 := tm
          have pw : F_X12_planWord N 24 3 9 m1 Lr (GRf pb) = some (5, m1) := pw
          obtain ⟨c2, L2, m2, d1, d2, d3, d4⟩ := name_rd (N := N) (pb := pb) (Lr := Lr) (l := 16) (pd := pd) hN hpd (by decide) (hE2 2 5) ⟨j1, hR2 2 5⟩ (hO2 2 5)
          have fc : ∀ v, ∀ o p, ¬ (o = 4 ∧ 3 ≤ p) → ¬ (o = x ∧ (p = 2 ∨ p = 3)) → uI c2 x 3 v o p = c o p := fun v o p z1 z2 => by rw [uI_at (by omega), d1 o p z1, uI_at (by omega)]; exact a1 o p z1
          have fm : ∀ v, ∀ o p, ¬ (o = 24 ∧ 10 ≤ p ∧ p ≤ 16) → ¬ (o = 48 ∧ (p = 8 * i + 2 ∨ p = 8 * i + 3)) → uI m2 48 (8 * i + 3) v o p = m o p := fun v o p z1 z2 => by rw [uI_at (by omega), d3 o p z1, uI_at (by omega)]; exact a3 o p z1
          rcases d4 with ⟨u, hu, hl, g1, g2, ⟨j2, g3⟩, g4⟩ | ⟨w, g1, g2, g3⟩
          · have g1 : F_X5_readName N (20 + 2 * pd) 4 1 16 (uI c1 x 2 2) L1 (GRf pb) = some (nI u, c2, L2) := g1
            have g2 : F_X12_unitNext N 24 16 (uI m1 48 (8 * i + 2) 5) Lr (GRf pb) = some (nI u, m2) := g2
            have um : (nI u = (-1 : Int32)) = False := nI_m1 (by have := hE.1; omega)
            refine ⟨uI c2 x 3 (nI u), L2, uI m2 48 (8 * i + 3) (nI u), fc _, a2.t d2, fm _, Or.inl ⟨?_, ?_, ⟨j2, g3.cg (fun p _ => uI_at (by omega)) (fun p => uI_at (by omega)) (fun p _ => uI_at (by omega)) (fun p => uI_at (by omega))⟩, g4.cg (fun p _ => uI_at (by omega)) (fun p _ => uI_at (by omega)), 2, u, by decide, ?_, ?_, uI_same, uI_same, fun _ => hu, fun z => by omega⟩⟩
            · simp (decide := true) only [F_X5_readTerm, ck_pl hpd, ck_4, ck_1, ck, if_true, if_false, e1, b2e, tm, b1e, wre, uI_same, g1, b3e, um]
            · unfold tlB
              simp (decide := true) only [F_X12_readTerm, ck_24, if_true, if_false, e2, b2e, b2t, pw, z15, rf_24_55, bse, w2, g2, w3, b1e]
            · rw [uI_at (by omega), d3 48 _ (by omega), uI_same]; rfl
            · rw [uI_at (by omega), d1 x 2 (by omega), uI_same]; rfl
          · have g1 : F_X5_readName N (20 + 2 * pd) 4 1 16 (uI c1 x 2 2) L1 (GRf pb) = some (-1, c2, L2) := g1
            have g2 : F_X12_unitNext N 24 16 (uI m1 48 (8 * i + 2) 5) Lr (GRf pb) = some (w, m2) := g2
            have hF : FL (uI c2 x 3 (-1)) (uI m2 48 (8 * i + 3) w) := g3.cg (fun p _ => uI_at (by omega)) (fun p _ => uI_at (by omega))
            refine ⟨uI c2 x 3 (-1), L2, uI m2 48 (8 * i + 3) w, fc _, a2.t d2, fm _, Or.inr ⟨?_, ?_, hF⟩⟩
            · simp (decide := true) only [F_X5_readTerm, ck_pl hpd, ck_4, ck_1, ck, if_true, if_false, e1, b2e, tm, b1e, wre, uI_same, g1, b3e]
            · simp (decide := true) only [F_X12_readTerm, ck_24, if_true, if_false, e2, b2e, b2t, b2f, pw, z15, rf_24_55, bse, w2, g2, w3, b1e, hF.nx]
        · have tm : F_X5_termOf N 4 c1 L1 (GRf pb) = some 3 := tm
          have pw : F_X12_planWord N 24 3 9 m1 Lr (GRf pb) = some (6, m1) := pw
          obtain ⟨c2, L2, m2, d1, d2, d3, d4⟩ := name_rd (N := N) (pb := pb) (Lr := Lr) (l := 9) (pd := pd) hN hpd (by decide) (hE2 3 6) ⟨j1, hR2 3 6⟩ (hO2 3 6)
          have fc : ∀ v, ∀ o p, ¬ (o = 4 ∧ 3 ≤ p) → ¬ (o = x ∧ (p = 2 ∨ p = 3)) → uI c2 x 3 v o p = c o p := fun v o p z1 z2 => by rw [uI_at (by omega), d1 o p z1, uI_at (by omega)]; exact a1 o p z1
          have fm : ∀ v, ∀ o p, ¬ (o = 24 ∧ 10 ≤ p ∧ p ≤ 16) → ¬ (o = 48 ∧ (p = 8 * i + 2 ∨ p = 8 * i + 3)) → uI m2 48 (8 * i + 3) v o p = m o p := fun v o p z1 z2 => by rw [uI_at (by omega), d3 o p z1, uI_at (by omega)]; exact a3 o p z1
          rcases d4 with ⟨u, hu, hl, g1, g2, ⟨j2, g3⟩, g4⟩ | ⟨w, g1, g2, g3⟩
          · have g1 : F_X5_readName N (20 + 2 * pd) 4 1 9 (uI c1 x 2 3) L1 (GRf pb) = some (nI u, c2, L2) := g1
            have g2 : F_X12_unitNext N 24 9 (uI m1 48 (8 * i + 2) 6) Lr (GRf pb) = some (nI u, m2) := g2
            have um : (nI u = (-1 : Int32)) = False := nI_m1 (by have := hE.1; omega)
            refine ⟨uI c2 x 3 (nI u), L2, uI m2 48 (8 * i + 3) (nI u), fc _, a2.t d2, fm _, Or.inl ⟨?_, ?_, ⟨j2, g3.cg (fun p _ => uI_at (by omega)) (fun p => uI_at (by omega)) (fun p _ => uI_at (by omega)) (fun p => uI_at (by omega))⟩, g4.cg (fun p _ => uI_at (by omega)) (fun p _ => uI_at (by omega)), 3, u, by decide, ?_, ?_, uI_same, uI_same, fun _ => hu, fun z => by omega⟩⟩
            · simp (decide := true) only [F_X5_readTerm, ck_pl hpd, ck_4, ck_1, ck, if_true, if_false, e1, b2e, tm, b1e, wre, uI_same, g1, b3e, um]
            · unfold tlB
              simp (decide := true) only [F_X12_readTerm, ck_24, if_true, if_false, e2, b2e, b2t, pw, z15, rf_24_55, bse, w2, g2, w3, b1e]
            · rw [uI_at (by omega), d3 48 _ (by omega), uI_same]; rfl
            · rw [uI_at (by omega), d1 x 2 (by omega), uI_same]; rfl
          · have g1 : F_X5_readName N (20 + 2 * pd) 4 1 9 (uI c1 x 2 3) L1 (GRf pb) = some (-1, c2, L2) := g1
            have g2 : F_X12_unitNext N 24 9 (uI m1 48 (8 * i + 2) 6) Lr (GRf pb) = some (w, m2) := g2
            have hF : FL (uI c2 x 3 (-1)) (uI m2 48 (8 * i + 3) w) := g3.cg (fun p _ => uI_at (by omega)) (fun p _ => uI_at (by omega))
            refine ⟨uI c2 x 3 (-1), L2, uI m2 48 (8 * i + 3) w, fc _, a2.t d2, fm _, Or.inr ⟨?_, ?_, hF⟩⟩
            · simp (decide := true) only [F_X5_readTerm, ck_pl hpd, ck_4, ck_1, ck, if_true, if_false, e1, b2e, tm, b1e, wre, uI_same, g1, b3e]
            · simp (decide := true) only [F_X12_readTerm, ck_24, if_true, if_false, e2, b2e, b2t, b2f, pw, z15, rf_24_55, bse, w2, g2, w3, b1e, hF.nx]
        · have tm : F_X5_termOf N 4 c1 L1 (GRf pb) = some 4 := tm
          have pw : F_X12_planWord N 24 3 9 m1 Lr (GRf pb) = some (7, m1) := pw
          refine ⟨uI c1 x 2 4, L1, uI m1 48 (8 * i + 2) 7, fun o p z1 z2 => ?_, a2, fun o p z1 z2 => ?_, Or.inl ⟨?_, ?_, ⟨j1, hR2 4 7⟩, hO2 4 7, 4, 0, by decide, uI_same, uI_same, ?_, ?_, fun z => by omega, fun z => by omega⟩⟩
          · rw [uI_at (by omega)]; exact a1 o p z1
          · rw [uI_at (by omega)]; exact a3 o p z1
          · simp (decide := true) only [F_X5_readTerm, ck_pl hpd, ck_4, ck_1, ck, if_true, if_false, e1, b2e, tm, b1e, wre, uI_same]
          · unfold tlB
            simp (decide := true) only [F_X12_readTerm, ck_24, if_true, if_false, e2, b2e, b2t, pw, z15, rf_24_55, bse, w2, b1e]
          · rw [uI_at (by omega), a3 48 _ (by omega)]; exact h43
          · rw [uI_at (by omega), a1 x 3 (by omega)]; exact hx3
        · have tm : F_X5_termOf N 4 c1 L1 (GRf pb) = some 5 := tm
          have pw : F_X12_planWord N 24 3 9 m1 Lr (GRf pb) = some (8, m1) := pw
          obtain ⟨c2, L2, m2, v2, d1, d2, d3, d4, d5⟩ := tr_ok (N := N) (n := tn) (i := j1) (pb := pb) (L := L1) (Lr := Lr) 0 2 hN (hR2 5 8) (hO2 5 8)
          have fc : ∀ v, ∀ o p, ¬ (o = 4 ∧ 3 ≤ p) → ¬ (o = x ∧ (p = 2 ∨ p = 3)) → uI c2 x 3 v o p = c o p := fun v o p z1 z2 => by rw [uI_at (by omega), d1 o p z1, uI_at (by omega)]; exact a1 o p z1
          have fm : ∀ v, ∀ o p, ¬ (o = 24 ∧ 10 ≤ p ∧ p ≤ 16) → ¬ (o = 48 ∧ (p = 8 * i + 2 ∨ p = 8 * i + 3)) → uI m2 48 (8 * i + 3) v o p = m o p := fun v o p z1 z2 => by rw [uI_at (by omega), d3 o p z1, uI_at (by omega)]; exact a3 o p z1
          rcases d5 with ⟨d5, g1, g2, g3, g4, g5, g6⟩ | ⟨d5, g1⟩
          · obtain ⟨u, hu, eu⟩ := nI_of2 (M := 2) (n := 2) (by decide) g5 (Int32.not_lt.mp g6)
            obtain ⟨j2, g7⟩ := g1.rd
            refine ⟨uI c2 x 3 (c2 4 6), L2, uI m2 48 (8 * i + 3) v2, fc _, a2.t d2, fm _, Or.inl ⟨?_, ?_, ⟨j2, g7.cg (fun p _ => uI_at (by omega)) (fun p => uI_at (by omega)) (fun p _ => uI_at (by omega)) (fun p => uI_at (by omega))⟩, g2.cg (fun p _ => uI_at (by omega)) (fun p _ => uI_at (by omega)), 5, u, by decide, ?_, ?_, ?_, ?_, fun z => by omega, fun _ => by omega⟩⟩
            · simp (decide := true) only [F_X5_readTerm, ck_pl hpd, ck_4, ck_1, ck, if_true, if_false, e1, b2e, tm, b1e, wre, uI_same, d5, b3e, nbT, zb, bse]
            · unfold tlB
              simp (decide := true) only [F_X12_readTerm, ck_24, if_true, if_false, e2, b2e, b2t, pw, z15, rf_24_55, bse, w2, d4, w3, b1e]
            · rw [uI_at (by omega), d3 48 _ (by omega), uI_same]; rfl
            · rw [uI_at (by omega), d1 x 2 (by omega), uI_same]; rfl
            · rw [uI_same, g3]; exact eu
            · rw [uI_same]; exact eu
          · have hF : FL (uI c2 x 3 (c2 4 6)) (uI m2 48 (8 * i + 3) v2) := g1.cg (fun p _ => uI_at (by omega)) (fun p _ => uI_at (by omega))
            refine ⟨uI c2 x 3 (c2 4 6), L2, uI m2 48 (8 * i + 3) v2, fc _, a2.t d2, fm _, Or.inr ⟨?_, ?_, hF⟩⟩
            · simp (decide := true) only [F_X5_readTerm, ck_pl hpd, ck_4, ck_1, ck, if_true, if_false, e1, b2e, tm, b1e, wre, uI_same, d5, b3e, nbT, zb, bse]
            · simp (decide := true) only [F_X12_readTerm, ck_24, if_true, if_false, e2, b2e, b2t, b2f, pw, z15, rf_24_55, bse, w2, d4, w3, b1e, hF.nx]
        · have tm : F_X5_termOf N 4 c1 L1 (GRf pb) = some 6 := tm
          have pw : F_X12_planWord N 24 3 9 m1 Lr (GRf pb) = some (9, m1) := pw
          obtain ⟨c2, L2, m2, v2, d1, d2, d3, d4, d5⟩ := tr_ok (N := N) (n := tn) (i := j1) (pb := pb) (L := L1) (Lr := Lr) 0 2 hN (hR2 6 9) (hO2 6 9)
          have fc : ∀ v, ∀ o p, ¬ (o = 4 ∧ 3 ≤ p) → ¬ (o = x ∧ (p = 2 ∨ p = 3)) → uI c2 x 3 v o p = c o p := fun v o p z1 z2 => by rw [uI_at (by omega), d1 o p z1, uI_at (by omega)]; exact a1 o p z1
          have fm : ∀ v, ∀ o p, ¬ (o = 24 ∧ 10 ≤ p ∧ p ≤ 16) → ¬ (o = 48 ∧ (p = 8 * i + 2 ∨ p = 8 * i + 3)) → uI m2 48 (8 * i + 3) v o p = m o p := fun v o p z1 z2 => by rw [uI_at (by omega), d3 o p z1, uI_at (by omega)]; exact a3 o p z1
          rcases d5 with ⟨d5, g1, g2, g3, g4, g5, g6⟩ | ⟨d5, g1⟩
          · obtain ⟨u, hu, eu⟩ := nI_of2 (M := 2) (n := 2) (by decide) g5 (Int32.not_lt.mp g6)
            obtain ⟨j2, g7⟩ := g1.rd
            refine ⟨uI c2 x 3 (c2 4 6), L2, uI m2 48 (8 * i + 3) v2, fc _, a2.t d2, fm _, Or.inl ⟨?_, ?_, ⟨j2, g7.cg (fun p _ => uI_at (by omega)) (fun p => uI_at (by omega)) (fun p _ => uI_at (by omega)) (fun p => uI_at (by omega))⟩, g2.cg (fun p _ => uI_at (by omega)) (fun p _ => uI_at (by omega)), 6, u, by decide, ?_, ?_, ?_, ?_, fun z => by omega, fun _ => by omega⟩⟩
            · simp (decide := true) only [F_X5_readTerm, ck_pl hpd, ck_4, ck_1, ck, if_true, if_false, e1, b2e, tm, b1e, wre, uI_same, d5, b3e, nbT, zb, bse]
            · unfold tlB
              simp (decide := true) only [F_X12_readTerm, ck_24, if_true, if_false, e2, b2e, b2t, pw, z15, rf_24_55, bse, w2, d4, w3, b1e]
            · rw [uI_at (by omega), d3 48 _ (by omega), uI_same]; rfl
            · rw [uI_at (by omega), d1 x 2 (by omega), uI_same]; rfl
            · rw [uI_same, g3]; exact eu
            · rw [uI_same]; exact eu
          · have hF : FL (uI c2 x 3 (c2 4 6)) (uI m2 48 (8 * i + 3) v2) := g1.cg (fun p _ => uI_at (by omega)) (fun p _ => uI_at (by omega))
            refine ⟨uI c2 x 3 (c2 4 6), L2, uI m2 48 (8 * i + 3) v2, fc _, a2.t d2, fm _, Or.inr ⟨?_, ?_, hF⟩⟩
            · simp (decide := true) only [F_X5_readTerm, ck_pl hpd, ck_4, ck_1, ck, if_true, if_false, e1, b2e, tm, b1e, wre, uI_same, d5, b3e, nbT, zb, bse]
            · simp (decide := true) only [F_X12_readTerm, ck_24, if_true, if_false, e2, b2e, b2t, b2f, pw, z15, rf_24_55, bse, w2, d4, w3, b1e, hF.nx]
      · have fk : fw 22 W 3 (9 + 1) 0 = none := fk
        rw [fk] at pw
        exact none_ok tm pw
    · exact none_ok (termOf_no q1) (pw_no (by rw [kx.ty]; exact q1) ko.2.1)
  · have ne1 : c1 4 4 ≠ 1 := by rw [kt]; decide
    refine ⟨uI c1 x 2 (-1), L1, m1, fun o p z1 z2 => by rw [uI_at (by omega)]; exact a1 o p z1, a2, fun o p z1 z2 => a3 o p z1, Or.inr ⟨?_, ?_, kf.cg (fun p _ => uI_at (by omega)) (fun p _ => rfl)⟩⟩
    · have k4 : uI c1 x 2 (-1) 4 4 = 4 := by rw [uI_at (by omega)]; exact kt
      simp (decide := true) only [F_X5_readTerm, ck_pl hpd, ck_4, ck_1, ck, if_true, if_false, e1, b2e, termOf_no (N := N) (pb := pb) (L := L1) ne1, b1e, wre, uI_same, refC4 k4]
    · simp only [F_X12_readTerm, ck_24, if_true, e2, b2e, b2f]
end P39
