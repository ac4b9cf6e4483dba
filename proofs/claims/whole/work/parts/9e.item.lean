/-! T3: an item of a plan -/
def actC (N P x : Nat) (c : MI) (L : ML) (R : MR) : Option (Bool × MI × ML) :=
  bn3 (F_X5_readAct N P 4 1 x c L R) fun b82 I83 L84 =>
  if (b2i b82) = 0 then
    some (false, I83, L84)
  else
    bn3 (F_X8_takeSign N 4 (59 : Int32) I83 L84 R) fun b87 I88 L89 =>
    if (b2i b87) = 0 then
      some (false, I88, L89)
    else
      wr (uI I88 P 2 ((I88 P 2) + (1 : Int32))) fun (I92 : MI) =>
      some (true, I92, L89)
def actM (N k : Nat) (m : MI) (Lr : ML) (R : MR) : Option (Bool × MI) :=
  bn1 (F_X12_readAct N 24 (nI (8 * k)) m Lr R) fun I30 =>
  bn1 (F_X12_sign N 24 (59 : Int32) I30 Lr R) fun I32 =>
  wr (uI I32 24 53 ((I32 24 53) + (1 : Int32))) fun (I34 : MI) =>
  if (I34 24 15) = 0 then
    some (true, I34)
  else
    some (false, I34)
theorem IT.cg2 {n : Nat} {cd : Nat → Nat} {x i : Nat} {c m c' m' : MI} (h : IT n cd x i c m) (hc : ∀ p, p ≤ 6 → c' x p = c x p) (hm : ∀ j, j < 8 → m' 49 (8 * i + j) = m 49 (8 * i + j)) : IT n cd x i c' m' := by
  have h0 := hm 0 (by decide)
  rw [Nat.add_zero] at h0
  unfold IT
  rw [hc 0 (by decide), hc 1 (by decide), hc 2 (by decide), hc 3 (by decide), hc 4 (by decide), hc 5 (by decide), hc 6 (by decide), h0, hm 1 (by decide), hm 2 (by decide), hm 3 (by decide), hm 4 (by decide), hm 5 (by decide), hm 6 (by decide), hm 7 (by decide)]
  exact h
theorem ra_itd {pb pd i : Nat} (h : pd ≤ 1) (hi : i < 30) : rf (GRf pb) (20 + 2 * pd) 0 24 = some (21 + 2 * pd) ∧ ln (21 + 2 * pd) = 30 ∧ ra (GRf pb) (21 + 2 * pd) (nI i) 3 = some (142 + 31 * pd + i) := by
  have q := of_eq_true (ck_it h (show i < 31 by omega))
  rcases (show pd = 0 ∨ pd = 1 by omega) with rfl | rfl
  · refine ⟨rfl, by decide, ?_⟩
    unfold ra
    rw [show ln (21 + 2 * 0) = 30 by decide, if_pos (inb_nI hi (by decide)), ix_nI (by omega)]
    have e : GRf pb (21 + 2 * 0) i = some (142 + 31 * 0 + i) := by
      unfold GRf
      rw [if_neg (by omega), if_neg (by omega), if_neg (by omega), if_pos (by omega), if_pos hi]
    unfold rf
    rw [e]
    simp only [Option.bind_some]
    rw [if_pos q]
  · refine ⟨rfl, by decide, ?_⟩
    unfold ra
    rw [show ln (21 + 2 * 1) = 30 by decide, if_pos (inb_nI hi (by decide)), ix_nI (by omega)]
    have e : GRf pb (21 + 2 * 1) i = some (142 + 31 * 1 + i) := by
      unfold GRf
      rw [if_neg (by omega), if_neg (by omega), if_neg (by omega), if_neg (by omega), if_pos (by omega), if_pos hi]
    unfold rf
    rw [e]
    simp only [Option.bind_some]
    rw [if_pos q]
/-- so many items are read -/
def PK (n : Nat) (cd : Nat → Nat) (pd k : Nat) (c m : MI) : Prop := k ≤ 30 ∧ c (20 + 2 * pd) 2 = nI k ∧ m 24 53 = nI k ∧ ∀ i, i < k → IT n cd (142 + 31 * pd + i) i c (fun _ p => m 48 p) ∧ ∀ p, 7 ≤ p → p ≤ 10 → c (142 + 31 * pd + i) p = 0
def CP (pd : Nat) (c c' : MI) : Prop := ∀ o p, ¬ (o = 4 ∧ 3 ≤ p) → ¬ (o = 20 + 2 * pd ∧ p = 2) → ¬ (142 + 31 * pd ≤ o ∧ o < 172 + 31 * pd) → c' o p = c o p
def MP (m m' : MI) : Prop := ∀ o p, ¬ (o = 24 ∧ 10 ≤ p ∧ p ≤ 16) → ¬ (o = 24 ∧ p = 53) → o ≠ 48 → m' o p = m o p
section P41
variable {N n tn : Nat} {cd : Nat → Nat} {pb : Nat} {L Lr : ML} {c m : MI}
theorem tail_fl {k : Nat} (h : FL c m) : actM N k m Lr (GRf pb) = some (false, uI m 24 53 (m 24 53 + 1)) := by
  have z : ∀ v, (uI m 24 53 v 24 15 = 0) = False := fun v => by rw [uI_at (by omega)]; exact eq_false h.ne
  simp only [actM, act_fl h, b1e, sg_fl 59 h, wre, z, if_false]
theorem tail_rd {x k pd : Nat} (hN : 5000 ≤ N) (hpd : pd ≤ 1) (hk : k < 30) (hx : x = 142 + 31 * pd + k) (hE : EV n cd c L m) (hR : ∃ j, RD tn j c m) (hO : OKF c m) (hx6 : c x 6 = m 48 (8 * k + 7)) (hP : c (20 + 2 * pd) 2 = nI k) (h53 : m 24 53 = nI k) :
    ∃ r c' L' m', actC N (20 + 2 * pd) x c L (GRf pb) = some (r, c', L') ∧ actM N k m Lr (GRf pb) = some (r, m') ∧ (∀ o p, ¬ (o = 4 ∧ 3 ≤ p) → ¬ (o = x ∧ 4 ≤ p ∧ p ≤ 6) → ¬ (o = 20 + 2 * pd ∧ p = 2) → c' o p = c o p) ∧ AL L L' ∧ (∀ o p, ¬ (o = 24 ∧ 10 ≤ p ∧ p ≤ 16) → ¬ (o = 24 ∧ p = 53) → ¬ (o = 48 ∧ 8 * k + 5 ≤ p ∧ p ≤ 8 * k + 7) → m' o p = m o p) ∧
      ((r = false ∧ FL c' m') ∨ (r = true ∧ (∃ j, RD tn j c' m') ∧ OKF c' m' ∧ c' (20 + 2 * pd) 2 = nI (k + 1) ∧ m' 24 53 = nI (k + 1) ∧ c' x 5 = m' 48 (8 * k + 6) ∧ c' x 6 = m' 48 (8 * k + 7) ∧ ∃ a, a ≤ 6 ∧ m' 48 (8 * k + 5) = nI a ∧ c' x 4 = nI a ∧ ((a = 0 ∨ a = 1 ∨ a = 4) → ∃ v, v < n ∧ m' 48 (8 * k + 6) = nI v) ∧ (a = 5 → ∃ v, v < n ∧ cd v = 5 ∧ m' 48 (8 * k + 6) = nI v) ∧ (a = 2 → nn (m' 48 (8 * k + 6)) 3) ∧ (a = 3 → nn (m' 48 (8 * k + 6)) 2) ∧ (a = 6 → nn (m' 48 (8 * k + 6)) 29))) := by
  obtain ⟨c1, L1, m1, a1, a2, a3, e2, e1⟩ := act_rd (N := N) (pb := pb) (Lr := Lr) hN hpd hk hx hE hR hO hx6
  have m153 : m1 24 53 = nI k := by rw [a3 24 53 (by omega) (by omega)]; exact h53
  have c1P : c1 (20 + 2 * pd) 2 = nI k := by rw [a1 _ 2 (by omega) (by omega)]; exact hP
  rcases e1 with ⟨e1, hR1, hO1, g5, g6, ga⟩ | ⟨e1, hF⟩
  · obtain ⟨j1, hR1⟩ := hR1
    obtain ⟨c2, L2, m2, d1, d2, d3, d4, d5⟩ := ts_ok (N := N) (pb := pb) (L := L1) (Lr := Lr) 59 hN hR1 hO1
    have m253 : m2 24 53 = nI k := by rw [d3 24 53 (by omega)]; exact m153
    have c2P : c2 (20 + 2 * pd) 2 = nI k := by rw [d1 _ 2 (by omega)]; exact c1P
    have fm : ∀ v, ∀ o p, ¬ (o = 24 ∧ 10 ≤ p ∧ p ≤ 16) → ¬ (o = 24 ∧ p = 53) → ¬ (o = 48 ∧ 8 * k + 5 ≤ p ∧ p ≤ 8 * k + 7) → uI m2 24 53 v o p = m o p := fun v o p z1 z2 z3 => by rw [uI_at z2, d3 o p z1]; exact a3 o p z1 z3
    rcases d5 with ⟨d5, k1, k2⟩ | ⟨d5, k1⟩
    · have z : ∀ v, (uI m2 24 53 v 24 15 = 0) = True := fun v => by rw [uI_at (by omega)]; exact eq_true k2.2.1
      obtain ⟨j2, k3⟩ := k1.rd
      have c2x : ∀ p, uI c2 (20 + 2 * pd) 2 (nI (k + 1)) x p = c1 x p := fun p => by rw [uI_at (by omega)]; exact d1 x p (by omega)
      have m2x : ∀ p, uI m2 24 53 (nI (k + 1)) 48 p = m1 48 p := fun p => by rw [uI_at (by omega)]; exact d3 48 p (by omega)
      refine ⟨true, uI c2 (20 + 2 * pd) 2 (nI (k + 1)), L2, uI m2 24 53 (nI (k + 1)), ?_, ?_, fun o p z1 z2 z3 => ?_, a2.t d2, fm _, Or.inr ⟨rfl, ⟨j2, k3.cg (fun p _ => uI_at (by omega)) (fun p => uI_at (by omega)) (fun p _ => uI_at (by omega)) (fun p => uI_at (by omega))⟩, k2.cg (fun p _ => uI_at (by omega)) (fun p _ => uI_at (by omega)), uI_same, uI_same, by rw [c2x, m2x]; exact g5, by rw [c2x, m2x]; exact g6, ?_⟩⟩
      · simp only [actC, e1, b3e, b2t, if_false, d5, c2P, wre, nI_1]
      · simp only [actM, e2, b1e, d4, m253, wre, nI_1, z, if_true]
      · rw [uI_at z3, d1 o p z1]; exact a1 o p z1 z2
      · simp only [c2x, m2x]; exact ga
    · have z : ∀ v, (uI m2 24 53 v 24 15 = 0) = False := fun v => by rw [uI_at (by omega)]; exact eq_false k1.ne
      refine ⟨false, c2, L2, uI m2 24 53 (nI (k + 1)), ?_, ?_, fun o p z1 z2 z3 => ?_, a2.t d2, fm _, Or.inl ⟨rfl, k1.cg (fun _ _ => rfl) (fun p _ => uI_at (by omega))⟩⟩
      · simp only [actC, e1, b3e, b2t, if_false, d5, b2f, if_true]
      · simp only [actM, e2, b1e, d4, m253, wre, nI_1, z, if_false]
      · rw [d1 o p z1]; exact a1 o p z1 z2
  · have z : ∀ v, (uI m1 24 53 v 24 15 = 0) = False := fun v => by rw [uI_at (by omega)]; exact eq_false hF.ne
    refine ⟨false, c1, L1, uI m1 24 53 (nI (k + 1)), ?_, ?_, fun o p z1 z2 z3 => a1 o p z1 z2, a2, fun o p z1 z2 z3 => by rw [uI_at z2]; exact a3 o p z1 z3, Or.inl ⟨rfl, hF.cg (fun _ _ => rfl) (fun p _ => uI_at (by omega))⟩⟩
    · simp only [actC, e1, b3e, b2f, if_true]
    · simp only [actM, e2, b1e, sg_fl (N := N) (pb := pb) (Lr := Lr) 59 hF, m153, wre, nI_1, z, if_false]
theorem clrI {x : Nat} (ck : (kd x = 3 ∧ x < NN) = True) : ∃ c', F_X3_clear x c L (GRf pb) = some c' ∧ (∀ p, p ≤ 10 → p ≠ 2 → c' x p = 0) ∧ ∀ o p, o ≠ x → c' o p = c o p := by
  refine ⟨uI (uI (uI (uI (uI (uI (uI (uI (uI (uI (uI c x 0 0) x 1 0) x 2 4) x 3 0) x 4 0) x 5 0) x 6 0) x 7 0) x 8 0) x 9 0) x 10 0, by simp only [F_X3_clear, ck, if_true, wre], fun p hp h2 => ?_, fun o p ho => ?_⟩
  · simp only [uI]
    rcases (show p = 0 ∨ p = 1 ∨ p = 3 ∨ p = 4 ∨ p = 5 ∨ p = 6 ∨ p = 7 ∨ p = 8 ∨ p = 9 ∨ p = 10 by omega) with rfl | rfl | rfl | rfl | rfl | rfl | rfl | rfl | rfl | rfl <;> simp
  · rw [uI_at (by omega), uI_at (by omega), uI_at (by omega), uI_at (by omega), uI_at (by omega), uI_at (by omega), uI_at (by omega), uI_at (by omega), uI_at (by omega), uI_at (by omega), uI_at (by omega)]
theorem row0 {k : Nat} {y1 : Int32} (hN : 5000 ≤ N) (hk : k < 30) : ∃ m', LF_X12_readItem_62 N N 24 y1 (nI (8 * k)) 0 m Lr (GRf pb) = some m' ∧ (∀ j, j < 8 → m' 48 (8 * k + j) = 0) ∧ ∀ o p, ¬ (o = 48 ∧ 8 * k ≤ p ∧ p < 8 * k + 8) → m' o p = m o p := by
  refine loop1 (f := fun z i I => LF_X12_readItem_62 N z 24 y1 (nI (8 * k)) (nI i) I Lr (GRf pb)) (R := fun i a => (∀ j, j < i → a 48 (8 * k + j) = 0) ∧ ∀ o p, ¬ (o = 48 ∧ 8 * k ≤ p ∧ p < 8 * k + 8) → a o p = m o p) (Q := fun a => (∀ j, j < 8 → a 48 (8 * k + j) = 0) ∧ ∀ o p, ¬ (o = 48 ∧ 8 * k ≤ p ∧ p < 8 * k + 8) → a o p = m o p) 8 ?_ ?_ 8 0 N m (by omega) (by omega) ⟨fun j hj => absurd hj (by omega), fun _ _ _ => rfl⟩
  · intro z a ha
    exact ⟨a, by simp only [LF_X12_readItem_62, if_pos (show (8 : Int32) ≤ nI 8 by decide)], ha⟩
  · intro z i a hi ha
    have z1 : ¬ (8 : Int32) ≤ nI i := nI_ge (a := i) (b := 8) hi (by decide)
    refine ⟨uI a 48 (8 * k + i) 0, ?_, fun j hj => ?_, fun o p q => ?_⟩
    · show LF_X12_readItem_62 N (z + 1) 24 y1 (nI (8 * k)) (nI i) a Lr (GRf pb) = _
      rw [LF_X12_readItem_62]
      simp only [if_neg z1, rf_24_55, bse, w48 hk hi, wre, nI_1]
    · by_cases q : j = i
      · subst q; exact uI_same
      · rw [uI_at (by omega)]; exact ha.1 j (by omega)
    · rw [uI_at (by omega)]; exact ha.2 o p q
theorem item_rd {k pd : Nat} (hN : 5000 ≤ N) (hpd : pd ≤ 1) (hpdb : pd + pb = 1) (hE : EV n cd c L m) (hP : PK n cd pd k c m) (hR : ∃ j, RD tn j c m) (hO : OKF c m) :
    ∃ c1 L1 r m', F_X8_next N 4 c L (GRf pb) = some (c1, L1) ∧ F_X12_readItem N 24 m Lr (GRf pb) = some (r, m') ∧ MP m m' ∧
      ((r = false ∧ F_X8_isEnd 4 c1 L1 (GRf pb) = some true ∧ CP pd c c1 ∧ AL L L1 ∧ PK n cd pd k c1 m' ∧ OKF c1 m') ∨
       (F_X8_isEnd 4 c1 L1 (GRf pb) = some false ∧ ∃ c' L', CP pd c c' ∧ AL L L' ∧
        ((r = false ∧ F_X5_readItem N (20 + 2 * pd) 4 1 c1 L1 (GRf pb) = some (false, c', L') ∧ FL c' m') ∨
         (r = true ∧ k < 30 ∧ F_X5_readItem N (20 + 2 * pd) 4 1 c1 L1 (GRf pb) = some (true, c', L') ∧ PK n cd pd (k + 1) c' m' ∧ (∃ j, RD tn j c' m') ∧ OKF c' m')))) := by
  obtain ⟨j, hR⟩ := hR
  have n4 := hR.1.1
  obtain ⟨b1, b2, b3, b4⟩ := hP
  obtain ⟨r0, c1, L1, m1, e1, e2, a1, a2, a3, e6⟩ := nx_ok (L := L) (Lr := Lr) (pb := pb) hN hR hO
  have hE1 : EV n cd c1 L1 m1 := hE.cg (fun o p z => a1 o p (by omega)) (fun o p z => a2 o p (by omega)) (fun o p z => a3 o p (by omega))
  have cp1 : CP pd c c1 := fun o p z1 z2 z3 => a1 o p z1
  have mp1 : MP m m1 := fun o p z1 z2 z3 => a3 o p z1
  have c1P : c1 (20 + 2 * pd) 2 = nI k := by rw [a1 _ 2 (by omega)]; exact b2
  have m153 : m1 24 53 = nI k := by rw [a3 24 53 (by omega)]; exact b3
  have cpU : ∀ v w : Int32, CP pd c (uI (uI c1 4 8 v) 4 9 w) := fun v w o p z1 z2 z3 => by rw [uI_at (by omega), uI_at (by omega)]; exact a1 o p z1
  have mpU : ∀ v w : Int32, MP m (uI (uI m1 24 15 v) 24 16 w) := fun v w o p z1 z2 z3 => by rw [uI_at (by omega), uI_at (by omega)]; exact a3 o p z1
  rcases e6 with ⟨rfl, kx, ko⟩ | ⟨rfl, kt, kf⟩
  · have z15 : (m1 24 15 ≤ 0) = True := eq_true (by rw [ko.2.1]; exact Int32.le_refl _)
    have nb15 : ∀ v : Int32, (uI (uI m1 24 15 2) 24 16 v 24 15 ≤ 0) = False := fun v => by rw [uI_at (by omega), uI_same]; exact eq_false (by decide)
    by_cases q0 : c1 4 4 = 0
    · have t0 : m1 24 11 = 0 := kx.ty.trans q0
      refine ⟨c1, L1, false, m1, e1, ?_, mp1, Or.inl ⟨rfl, wEnd0 q0, cp1, a2, ⟨b1, c1P, m153, fun i hi => ?_⟩, ko⟩⟩
      · simp only [F_X12_readItem, ck_24, if_true, e2, b2e, b2t, if_false, t0]
      · obtain ⟨g1, g2⟩ := b4 i hi
        exact ⟨g1.cg2 (fun p _ => a1 _ p (by omega)) (fun j _ => a3 48 _ (by omega)), fun p h1 h2 => by rw [a1 _ p (by omega)]; exact g2 p h1 h2⟩
    have t0 : (m1 24 11 = 0) = False := by rw [kx.ty]; exact eq_false q0
    have none_ok : (∀ w, (w = 422 ∨ w = 423 ∨ w = 424) → F_X8_isWord N 4 w c1 L1 (GRf pb) = some false) → F_X12_planWord N 24 0 2 m1 Lr (GRf pb) = some (-1, uI (uI m1 24 15 2) 24 16 (m1 24 12)) → F_X5_readItem N (20 + 2 * pd) 4 1 c1 L1 (GRf pb) = some (false, uI (uI c1 4 8 2) 4 9 (c1 4 5), L1) ∧ F_X12_readItem N 24 m Lr (GRf pb) = some (false, uI (uI m1 24 15 2) 24 16 (m1 24 12)) := fun hw pw => by
      refine ⟨?_, ?_⟩
      · simp only [F_X5_readItem, ck_pl hpd, ck_4, ck_1, if_true, hw 422 (by omega), hw 423 (by omega), hw 424 (by omega), b1e, wre, b2f, refC kx.n4, b2e]
      · simp only [F_X12_readItem, ck_24, if_true, e2, b2e, b2t, if_false, t0, pw, nb15]
    by_cases q1 : c1 4 4 = 1
    · obtain ⟨s, W, hW⟩ := kx.t1 q1
      have t1 : m1 24 11 = 1 := kx.ty.trans q1
      have pw := pw_ok (N := N) (pb := pb) (Lr := Lr) (lo := 0) (hi := 2) hN hE1.2.2.2.1 n4 hW t1 ko.2.1 (by decide) (by decide)
      have i0 : F_X8_isWord N 4 422 c1 L1 (GRf pb) = some (decide (sTx.getD (22 + 0) [] = W)) := isWord_ok (i := 22) hN hW q1 (by decide)
      have i1 : F_X8_isWord N 4 423 c1 L1 (GRf pb) = some (decide (sTx.getD (22 + 1) [] = W)) := isWord_ok (i := 23) hN hW q1 (by decide)
      have i2 : F_X8_isWord N 4 424 c1 L1 (GRf pb) = some (decide (sTx.getD (22 + 2) [] = W)) := isWord_ok (i := 24) hN hW q1 (by decide)
      have ord : (∃ w, w ≤ 2 ∧ fw 22 W 0 (2 + 1) 0 = some w ∧ decide (sTx.getD (22 + 0) [] = W) = decide (w = 0) ∧ decide (sTx.getD (22 + 1) [] = W) = decide (w = 1) ∧ decide (sTx.getD (22 + 2) [] = W) = decide (w = 2)) ∨ (fw 22 W 0 (2 + 1) 0 = none ∧ ¬ sTx.getD (22 + 0) [] = W ∧ ¬ sTx.getD (22 + 1) [] = W ∧ ¬ sTx.getD (22 + 2) [] = W) := by
        have n01 : sTx.getD (22 + 0) [] ≠ sTx.getD (22 + 1) [] := by decide
        have n02 : sTx.getD (22 + 0) [] ≠ sTx.getD (22 + 2) [] := by decide
        have n12 : sTx.getD (22 + 1) [] ≠ sTx.getD (22 + 2) [] := by decide
        by_cases h0 : sTx.getD (22 + 0) [] = W
        · refine Or.inl ⟨0, by decide, by rw [fw, if_pos ⟨h0, by decide⟩], by rw [decide_eq_true h0]; rfl, ?_, ?_⟩
          · rw [decide_eq_false (fun z => n01 (h0.trans z.symm))]; rfl
          · rw [decide_eq_false (fun z => n02 (h0.trans z.symm))]; rfl
        · by_cases h1 : sTx.getD (22 + 1) [] = W
          · refine Or.inl ⟨1, by decide, by rw [fw, if_neg (fun z => h0 z.1), fw, if_pos ⟨h1, by decide⟩], by rw [decide_eq_false h0]; rfl, by rw [decide_eq_true h1]; rfl, ?_⟩
            rw [decide_eq_false (fun z => n12 (h1.trans z.symm))]; rfl
          · by_cases h2 : sTx.getD (22 + 2) [] = W
            · exact Or.inl ⟨2, by decide, by rw [fw, if_neg (fun z => h0 z.1), fw, if_neg (fun z => h1 z.1), fw, if_pos ⟨h2, by decide⟩], by rw [decide_eq_false h0]; rfl, by rw [decide_eq_false h1]; rfl, by rw [decide_eq_true h2]; rfl⟩
            · exact Or.inr ⟨by rw [fw, if_neg (fun z => h0 z.1), fw, if_neg (fun z => h1 z.1), fw, if_neg (fun z => h2 z.1), fw], h0, h1, h2⟩
      rcases ord with ⟨w, hw, fk, o0, o1, o2⟩ | ⟨fk, o0, o1, o2⟩
      · rw [fk] at pw
        have pw : F_X12_planWord N 24 0 2 m1 Lr (GRf pb) = some (nI w, m1) := pw
        rw [o0] at i0
        rw [o1] at i1
        rw [o2] at i2
        obtain ⟨r1, r2, -⟩ := ra_itd (pb := pb) (pd := pd) (i := 0) hpd (by omega)
        have k0 : (nI k < 0) = False := eq_false (nI_pos (by omega))
        by_cases h30 : k = 30
        · have x1 : (nI k < Int32.ofNat 30) = False := by rw [h30]; exact eq_false (by decide)
          have x2 : (nI k = (30 : Int32)) = True := by rw [h30]; exact eq_true rfl
          refine ⟨c1, L1, false, uI (uI m1 24 15 4) 24 16 (m1 24 12), e1, ?_, mpU _ _, Or.inr ⟨wEnd q0, uI (uI c1 4 8 4) 4 9 (c1 4 5), L1, cpU _ _, a2, Or.inl ⟨rfl, ?_, FL.of (e := 4) (by omega) (by omega) kx.at.symm⟩⟩⟩
          · simp only [F_X12_readItem, ck_24, if_true, e2, b2e, b2t, if_false, t0, pw, z15, m153, x2, wrM ko.2.1, b1e]
          · rcases (show w = 0 ∨ w = 1 ∨ w = 2 by omega) with rfl | rfl | rfl
            · simp (decide := true) only [F_X5_readItem, ck_pl hpd, ck_4, ck_1, if_true, if_false, i0, i1, b1e, wre, b2t, b2f, decide_true, decide_false, c1P, k0, r1, bse, r2, x1, refC kx.n4, b2e]
            · simp (decide := true) only [F_X5_readItem, ck_pl hpd, ck_4, ck_1, if_true, if_false, i0, i1, b1e, wre, b2t, b2f, decide_true, decide_false, c1P, k0, r1, bse, r2, x1, refC kx.n4, b2e]
            · simp (decide := true) only [F_X5_readItem, ck_pl hpd, ck_4, ck_1, if_true, if_false, i0, i1, i2, b1e, wre, b2t, b2f, decide_true, decide_false, c1P, k0, r1, bse, r2, x1, refC kx.n4, b2e]
        · have hk : k < 30 := by omega
          have x1 : (nI k < Int32.ofNat 30) = True := eq_true (nI_lt (b := 30) hk (by decide))
          have x2 : (nI k = (30 : Int32)) = False := eq_false (fun z => by have := (nI_eq (a := k) (b := 30) (by omega) (by decide)).mp z; omega)
          obtain ⟨-, -, r3⟩ := ra_itd (pb := pb) (pd := pd) (i := k) hpd hk
          obtain ⟨x, hx⟩ : ∃ x, x = 142 + 31 * pd + k := ⟨_, rfl⟩
          rw [← hx] at r3
          have ck : (kd x = 3 ∧ x < NN) = True := by rw [hx]; exact ck_it hpd (by omega)
          obtain ⟨c2, f1, f2, f3⟩ := clrI (pb := pb) (L := L1) (c := c1) ck
          obtain ⟨m2, f4, f5, f6⟩ := row0 (N := N) (pb := pb) (Lr := Lr) (m := m1) (k := k) (y1 := nI w) hN hk
          have w0 : wi m2 48 (nI (8 * k)) (nI w) = some (uI m2 48 (8 * k) (nI w)) := wi_nI ln_48 (by omega) (by decide)
          have m3o : ∀ o p, ¬ (o = 48 ∧ 8 * k ≤ p ∧ p < 8 * k + 8) → uI m2 48 (8 * k) (nI w) o p = m1 o p := fun o p z => by rw [uI_at (by omega)]; exact f6 o p z
          have m3z : ∀ j, 1 ≤ j → j < 8 → uI m2 48 (8 * k) (nI w) 48 (8 * k + j) = 0 := fun j h1 h2 => by rw [uI_at (by omega)]; exact f5 j h2
          obtain ⟨j1, hR1⟩ := kx.rd
          have hR3 : ∀ v, RD tn j1 (uI c2 x 0 v) (uI m2 48 (8 * k) (nI w)) := fun v => hR1.cg (fun p _ => by rw [uI_at (by omega)]; exact f3 4 p (by omega)) (fun p => by rw [uI_at (by omega)]; exact f3 5 p (by omega)) (fun p _ => m3o 24 p (by omega)) (fun p => m3o 31 p (by omega))
          have hR3' : RD tn j1 c2 (uI m2 48 (8 * k) (nI w)) := hR1.cg (fun p _ => f3 4 p (by omega)) (fun p => f3 5 p (by omega)) (fun p _ => m3o 24 p (by omega)) (fun p => m3o 31 p (by omega))
          have hO3 : ∀ v, OKF (uI c2 x 0 v) (uI m2 48 (8 * k) (nI w)) := fun v => ko.cg (fun p _ => by rw [uI_at (by omega)]; exact f3 4 p (by omega)) (fun p _ => m3o 24 p (by omega))
          have hO3' : OKF c2 (uI m2 48 (8 * k) (nI w)) := ko.cg (fun p _ => f3 4 p (by omega)) (fun p _ => m3o 24 p (by omega))
          have hE3' : EV n cd c2 L1 (uI m2 48 (8 * k) (nI w)) := hE1.cg (fun o p z => f3 o p (by omega)) (fun _ _ _ => rfl) (fun o p z => m3o o p (by omega))
          have m8 : (8 : Int32) * nI k = nI (8 * k) := nI_m8 k
          -- what is left when the first part of the item has come
          have fin : ∀ (c4 : MI) (L4 : ML) (m4 : MI), (∀ o p, ¬ (o = 4 ∧ 3 ≤ p) → ¬ (o = x ∧ p ≤ 3) → c4 o p = c2 o p) → AL L1 L4 → (∀ o p, ¬ (o = 24 ∧ 10 ≤ p ∧ p ≤ 16) → ¬ (o = 48 ∧ 8 * k + 1 ≤ p ∧ p ≤ 8 * k + 4) → m4 o p = uI m2 48 (8 * k) (nI w) o p) →
              F_X12_readItem N 24 m Lr (GRf pb) = actM N k m4 Lr (GRf pb) →
              ((F_X5_readItem N (20 + 2 * pd) 4 1 c1 L1 (GRf pb) = some (false, c4, L4) ∧ FL c4 m4) ∨ (F_X5_readItem N (20 + 2 * pd) 4 1 c1 L1 (GRf pb) = actC N (20 + 2 * pd) x c4 L4 (GRf pb) ∧ (∃ j, RD tn j c4 m4) ∧ OKF c4 m4 ∧ c4 x 1 = m4 48 (8 * k + 1) ∧
                ((m4 48 (8 * k) = 0 ∧ c4 x 0 = 0) ∨ (m4 48 (8 * k) = 1 ∧ c4 x 0 = 1 ∧ n1 (m4 48 (8 * k + 1)) 9999) ∨
                 (m4 48 (8 * k) = 2 ∧ ((m4 48 (8 * k + 4) = 1 ∧ c4 x 0 = 3) ∨ (m4 48 (8 * k + 4) = 0 ∧ c4 x 0 = 2)) ∧
                  ∃ w s, w ≤ 6 ∧ m4 48 (8 * k + 2) = nI (w + 3) ∧ c4 x 2 = nI w ∧ m4 48 (8 * k + 3) = nI s ∧ c4 x 3 = nI s ∧ (w < 4 → s < n) ∧ ((w = 5 ∨ w = 6) → s < 3))))) →
              ∃ c1 L1 r m', F_X8_next N 4 c L (GRf pb) = some (c1, L1) ∧ F_X12_readItem N 24 m Lr (GRf pb) = some (r, m') ∧ MP m m' ∧
                ((r = false ∧ F_X8_isEnd 4 c1 L1 (GRf pb) = some true ∧ CP pd c c1 ∧ AL L L1 ∧ PK n cd pd k c1 m' ∧ OKF c1 m') ∨
                 (F_X8_isEnd 4 c1 L1 (GRf pb) = some false ∧ ∃ c' L', CP pd c c' ∧ AL L L' ∧
                  ((r = false ∧ F_X5_readItem N (20 + 2 * pd) 4 1 c1 L1 (GRf pb) = some (false, c', L') ∧ FL c' m') ∨
                   (r = true ∧ k < 30 ∧ F_X5_readItem N (20 + 2 * pd) 4 1 c1 L1 (GRf pb) = some (true, c', L') ∧ PK n cd pd (k + 1) c' m' ∧ (∃ j, RD tn j c' m') ∧ OKF c' m')))) := by
            intro c4 L4 m4 p1 p2 p3 p4 p5
            have cp4 : CP pd c c4 := fun o p z1 z2 z3 => by rw [p1 o p z1 (by omega), f3 o p (by omega)]; exact a1 o p z1
            have mp4 : MP m m4 := fun o p z1 z2 z3 => by rw [p3 o p z1 (by omega), m3o o p (by omega)]; exact a3 o p z1
            have c4P : c4 (20 + 2 * pd) 2 = nI k := by rw [p1 _ 2 (by omega) (by omega), f3 _ 2 (by omega)]; exact c1P
            have m453 : m4 24 53 = nI k := by rw [p3 24 53 (by omega) (by omega), m3o 24 53 (by omega)]; exact m153
            rcases p5 with ⟨p5, p6⟩ | ⟨p5, p6, p7, p8, p9⟩
            · refine ⟨c1, L1, false, uI m4 24 53 (m4 24 53 + 1), e1, by rw [p4]; exact tail_fl p6, fun o p z1 z2 z3 => by rw [uI_at z2]; exact mp4 o p z1 z2 z3, Or.inr ⟨wEnd q0, c4, L4, cp4, a2.t p2, Or.inl ⟨rfl, p5, p6.cg (fun _ _ => rfl) (fun p _ => uI_at (by omega))⟩⟩⟩
            · have hE4 : EV n cd c4 L4 m4 := hE3'.cg (fun o p z => p1 o p (by omega) (by omega)) (fun o p z => p2 o p (by omega)) (fun o p z => p3 o p (by omega) (by omega))
              obtain ⟨r, c5, L5, m5, s1, s2, s3, s4, s5, s6⟩ := tail_rd (N := N) (pb := pb) (Lr := Lr) hN hpd hk hx hE4 p6 p7 (by rw [p1 x 6 (by omega) (by omega), f2 6 (by omega) (by omega), p3 48 _ (by omega) (by omega), m3z 7 (by omega) (by omega)]) c4P m453
              have cp5 : CP pd c c5 := fun o p z1 z2 z3 => by rw [s3 o p z1 (by omega) z2]; exact cp4 o p z1 z2 z3
              have mp5 : MP m m5 := fun o p z1 z2 z3 => by rw [s5 o p z1 z2 (by omega)]; exact mp4 o p z1 z2 z3
              rcases s6 with ⟨rfl, s6⟩ | ⟨rfl, s6, s7, s8, s9, s10, s11, s12⟩
              · exact ⟨c1, L1, false, m5, e1, by rw [p4]; exact s2, mp5, Or.inr ⟨wEnd q0, c5, L5, cp5, (a2.t p2).t s4, Or.inl ⟨rfl, by rw [p5]; exact s1, s6⟩⟩⟩
              · refine ⟨c1, L1, true, m5, e1, by rw [p4]; exact s2, mp5, Or.inr ⟨wEnd q0, c5, L5, cp5, (a2.t p2).t s4, Or.inr ⟨rfl, hk, by rw [p5]; exact s1, ⟨hk, s8, s9, fun i hi => ?_⟩, s6, s7⟩⟩⟩
                rcases Nat.lt_or_ge i k with z | z
                · obtain ⟨g1, g2⟩ := b4 i z
                  have fc : ∀ p, c5 (142 + 31 * pd + i) p = c (142 + 31 * pd + i) p := fun p => by rw [s3 _ p (by omega) (by omega) (by omega), p1 _ p (by omega) (by omega), f3 _ p (by omega)]; exact a1 _ p (by omega)
                  refine ⟨g1.cg2 (fun p _ => fc p) (fun j hj => ?_), fun p h1 h2 => by rw [fc]; exact g2 p h1 h2⟩
                  show m5 48 _ = m 48 _
                  rw [s5 48 _ (by omega) (by omega) (by omega), p3 48 _ (by omega) (by omega), m3o 48 _ (by omega)]; exact a3 48 _ (by omega)
                · have : i = k := by omega
                  subst this
                  rw [← hx]
                  have cx : ∀ p, p ≤ 3 → c5 x p = c4 x p := fun p hp => s3 x p (by omega) (by omega) (by omega)
                  have mx : ∀ p, p ≤ 8 * i + 4 → m5 48 p = m4 48 p := fun p hp => s5 48 p (by omega) (by omega) (by omega)
                  refine ⟨⟨?_, ?_, s10, s11, s12⟩, fun p h1 h2 => ?_⟩
                  · show ((m5 48 (8 * i) = 0 ∧ c5 x 0 = 0) ∨ (m5 48 (8 * i) = 1 ∧ c5 x 0 = 1 ∧ n1 (m5 48 (8 * i + 1)) 9999) ∨ (m5 48 (8 * i) = 2 ∧ ((m5 48 (8 * i + 4) = 1 ∧ c5 x 0 = 3) ∨ (m5 48 (8 * i + 4) = 0 ∧ c5 x 0 = 2)) ∧ ∃ w s, w ≤ 6 ∧ m5 48 (8 * i + 2) = nI (w + 3) ∧ c5 x 2 = nI w ∧ m5 48 (8 * i + 3) = nI s ∧ c5 x 3 = nI s ∧ (w < 4 → s < n) ∧ ((w = 5 ∨ w = 6) → s < 3)))
                    rw [mx _ (by omega), mx _ (by omega), mx _ (by omega), mx _ (by omega), mx _ (by omega), cx 0 (by omega), cx 2 (by omega), cx 3 (by omega)]
                    exact p9
                  · show c5 x 1 = m5 48 (8 * i + 1)
                    rw [cx 1 (by omega), mx _ (by omega)]; exact p8
                  · rw [s3 x p (by omega) (by omega) (by omega), p1 x p (by omega) (by omega)]; exact f2 p (by omega) (by omega)
          rcases (show w = 0 ∨ w = 1 ∨ w = 2 by omega) with rfl | rfl | rfl
          · have w1 : ∀ q v, wi q 48 (nI (8 * k) + 1) v = some (uI q 48 (8 * k + 1) v) := fun q v => w48 (j := 1) hk (by decide)
            have pw : F_X12_planWord N 24 0 2 m1 Lr (GRf pb) = some (0, m1) := pw
            have w0 : wi m2 48 (nI (8 * k)) 0 = some (uI m2 48 (8 * k) 0) := w0
            have f4 : LF_X12_readItem_62 N N 24 0 (nI (8 * k)) 0 m1 Lr (GRf pb) = some m2 := f4
            obtain ⟨c3, L3, m3, v3, d1, d2, d3, d4, d5⟩ := tr_ok (N := N) (n := tn) (i := j1) (pb := pb) (L := L1) (Lr := Lr) 0 9999 hN (hR3 0) (hO3 0)
            have ref : F_X12_readItem N 24 m Lr (GRf pb) = actM N k (uI m3 48 (8 * k + 1) v3) Lr (GRf pb) := by
              have d4 : F_X12_number N 24 0 9999 (uI m2 48 (8 * k) 0) Lr (GRf pb) = some (v3, m3) := d4
              unfold actM
              simp (decide := true) only [F_X12_readItem, ck_24, if_true, if_false, e2, b2e, b2t, t0, pw, z15, m153, x2, m8, wre, f4, b1e, rf_24_55, bse, w0, d4, w1]
            have g0 : ∀ v, uI c3 x 1 v x 0 = 0 := fun v => by rw [uI_at (by omega), d1 x 0 (by omega), uI_same]
            have h0 : ∀ v, uI m3 48 (8 * k + 1) v 48 (8 * k) = 0 := fun v => by rw [uI_at (by omega), d3 48 _ (by omega), uI_same]; rfl
            refine fin (uI c3 x 1 (c3 4 6)) L3 (uI m3 48 (8 * k + 1) v3) (fun o p z1 z2 => by rw [uI_at (by omega), d1 o p z1, uI_at (by omega)]) d2 (fun o p z1 z2 => by rw [uI_at (by omega)]; exact d3 o p z1) ref ?_
            rcases d5 with ⟨d5, g1, g2, g3, g4, g5, g6⟩ | ⟨d5, g1⟩
            · obtain ⟨j2, g7⟩ := g1.rd
              refine Or.inr ⟨?_, ⟨j2, g7.cg (fun p _ => uI_at (by omega)) (fun p => uI_at (by omega)) (fun p _ => uI_at (by omega)) (fun p => uI_at (by omega))⟩, g2.cg (fun p _ => uI_at (by omega)) (fun p _ => uI_at (by omega)), by rw [uI_same, uI_same, g3], Or.inl ⟨h0 _, g0 _⟩⟩
              unfold actC
              simp (decide := true) only [F_X5_readItem, ck_pl hpd, ck_4, ck_1, if_true, if_false, i0, i1, b1e, wre, b2t, b2f, b2i_t, b2i_f, decide_true, decide_false, c1P, k0, r1, bse, r2, x1, r3, f1, d5, b3e, nbT]
            · refine Or.inl ⟨?_, g1.cg (fun p _ => uI_at (by omega)) (fun p _ => uI_at (by omega))⟩
              simp (decide := true) only [F_X5_readItem, ck_pl hpd, ck_4, ck_1, if_true, if_false, i0, i1, b1e, wre, b2t, b2f, b2i_t, b2i_f, decide_true, decide_false, c1P, k0, r1, bse, r2, x1, r3, f1, d5, b3e, nbT]
          · have w1 : ∀ q v, wi q 48 (nI (8 * k) + 1) v = some (uI q 48 (8 * k + 1) v) := fun q v => w48 (j := 1) hk (by decide)
            have pw : F_X12_planWord N 24 0 2 m1 Lr (GRf pb) = some (1, m1) := pw
            have w0 : wi m2 48 (nI (8 * k)) 1 = some (uI m2 48 (8 * k) 1) := w0
            have f4 : LF_X12_readItem_62 N N 24 1 (nI (8 * k)) 0 m1 Lr (GRf pb) = some m2 := f4
            obtain ⟨c3, L3, m3, v3, d1, d2, d3, d4, d5⟩ := tr_ok (N := N) (n := tn) (i := j1) (pb := pb) (L := L1) (Lr := Lr) 1 9999 hN (hR3 1) (hO3 1)
            have ref : F_X12_readItem N 24 m Lr (GRf pb) = actM N k (uI m3 48 (8 * k + 1) v3) Lr (GRf pb) := by
              have d4 : F_X12_number N 24 1 9999 (uI m2 48 (8 * k) 1) Lr (GRf pb) = some (v3, m3) := d4
              unfold actM
              simp (decide := true) only [F_X12_readItem, ck_24, if_true, if_false, e2, b2e, b2t, t0, pw, z15, m153, x2, m8, wre, f4, b1e, rf_24_55, bse, w0, d4, w1]
            have g0 : ∀ v, uI c3 x 1 v x 0 = 1 := fun v => by rw [uI_at (by omega), d1 x 0 (by omega), uI_same]
            have h0 : ∀ v, uI m3 48 (8 * k + 1) v 48 (8 * k) = 1 := fun v => by rw [uI_at (by omega), d3 48 _ (by omega), uI_same]; rfl
            refine fin (uI c3 x 1 (c3 4 6)) L3 (uI m3 48 (8 * k + 1) v3) (fun o p z1 z2 => by rw [uI_at (by omega), d1 o p z1, uI_at (by omega)]) d2 (fun o p z1 z2 => by rw [uI_at (by omega)]; exact d3 o p z1) ref ?_
            rcases d5 with ⟨d5, g1, g2, g3, g4, g5, g6⟩ | ⟨d5, g1⟩
            · obtain ⟨j2, g7⟩ := g1.rd
              refine Or.inr ⟨?_, ⟨j2, g7.cg (fun p _ => uI_at (by omega)) (fun p => uI_at (by omega)) (fun p _ => uI_at (by omega)) (fun p => uI_at (by omega))⟩, g2.cg (fun p _ => uI_at (by omega)) (fun p _ => uI_at (by omega)), by rw [uI_same, uI_same, g3], Or.inr (Or.inl ⟨h0 _, g0 _, by rw [uI_same, g3]; exact inV_n1 1 9999 (by decide) (by decide) (by decide) (by unfold inV; rw [if_neg (show ¬ c3 4 6 < nI 1 from g5), if_neg (show ¬ nI 9999 < c3 4 6 from g6)])⟩)⟩
              unfold actC
              simp (decide := true) only [F_X5_readItem, ck_pl hpd, ck_4, ck_1, if_true, if_false, i0, i1, b1e, wre, b2t, b2f, b2i_t, b2i_f, decide_true, decide_false, c1P, k0, r1, bse, r2, x1, r3, f1, d5, b3e, nbT]
            · refine Or.inl ⟨?_, g1.cg (fun p _ => uI_at (by omega)) (fun p _ => uI_at (by omega))⟩
              simp (decide := true) only [F_X5_readItem, ck_pl hpd, ck_4, ck_1, if_true, if_false, i0, i1, b1e, wre, b2t, b2f, b2i_t, b2i_f, decide_true, decide_false, c1P, k0, r1, bse, r2, x1, r3, f1, d5, b3e, nbT]
          · have pw : F_X12_planWord N 24 0 2 m1 Lr (GRf pb) = some (2, m1) := pw
            have w0 : wi m2 48 (nI (8 * k)) 2 = some (uI m2 48 (8 * k) 2) := w0
            have f4 : LF_X12_readItem_62 N N 24 2 (nI (8 * k)) 0 m1 Lr (GRf pb) = some m2 := f4
            have ref : ∀ mm, F_X12_readTerm N 24 (nI (8 * k)) (uI m2 48 (8 * k) 2) Lr (GRf pb) = some mm → F_X12_readItem N 24 m Lr (GRf pb) = actM N k mm Lr (GRf pb) := fun mm hm => by
              unfold actM
              simp (decide := true) only [F_X12_readItem, ck_24, if_true, if_false, e2, b2e, b2t, t0, pw, z15, m153, x2, m8, wre, f4, b1e, rf_24_55, bse, w0, hm]
            obtain ⟨c3, L3, m3, d1, d2, d3, d4⟩ := head_rd (N := N) (pb := pb) (Lr := Lr) (x := x) (i := k) hN hpd hk hx hE3' ⟨j1, hR3'⟩ hO3' (f2 3 (by omega) (by omega)) (m3z 3 (by omega) (by omega))
            rcases d4 with ⟨d4, d5, g1, g2, ga⟩ | ⟨d4, d5, g1⟩
            · obtain ⟨c4, L4, m4, s1, s2, s3, s4, s5⟩ := bound_rd (N := N) (pb := pb) (L := L3) (Lr := Lr) hN hpd hk hx g1 g2
              have d5 : F_X12_readTerm N 24 (nI (8 * k)) (uI m2 48 (8 * k) 2) Lr (GRf pb) = some m4 := d5.trans s4
              refine fin c4 L4 m4 (fun o p z1 z2 => by rw [s1 o p z1 (by omega)]; exact d1 o p z1 (by omega)) (d2.t s2) (fun o p z1 z2 => by rw [s3 o p z1 (by omega)]; exact d3 o p z1 (by omega)) (ref _ d5) ?_
              rcases s5 with ⟨s5, k1, k2, k3, k4⟩ | ⟨s5, k1⟩
              · refine Or.inr ⟨?_, k1, k2, k4, Or.inr (Or.inr ⟨?_, k3, ?_⟩)⟩
                · unfold actC
                  simp (decide := true) only [F_X5_readItem, ck_pl hpd, ck_4, ck_1, if_true, if_false, i0, i1, i2, b1e, wre, b2t, b2f, b2i_t, b2i_f, decide_true, decide_false, c1P, k0, r1, bse, r2, x1, r3, f1, d4, s5, b3e]
                · rw [s3 48 _ (by omega) (by omega), d3 48 _ (by omega) (by omega)]; exact uI_same
                · obtain ⟨w, s, y1, y2, y3, y4, y5, y6⟩ := ga
                  exact ⟨w, s, y1, by rw [s3 48 _ (by omega) (by omega)]; exact y2, by rw [s1 x 2 (by omega) (by omega)]; exact y3, by rw [s3 48 _ (by omega) (by omega)]; exact y4, by rw [s1 x 3 (by omega) (by omega)]; exact y5, y6⟩
              · refine Or.inl ⟨?_, k1⟩
                simp (decide := true) only [F_X5_readItem, ck_pl hpd, ck_4, ck_1, if_true, if_false, i0, i1, i2, b1e, wre, b2t, b2f, b2i_t, b2i_f, decide_true, decide_false, c1P, k0, r1, bse, r2, x1, r3, f1, d4, s5, b3e]
            · refine fin c3 L3 m3 (fun o p z1 z2 => d1 o p z1 (by omega)) d2 (fun o p z1 z2 => d3 o p z1 (by omega)) (ref _ d5) (Or.inl ⟨?_, g1⟩)
              simp (decide := true) only [F_X5_readItem, ck_pl hpd, ck_4, ck_1, if_true, if_false, i0, i1, i2, b1e, wre, b2t, b2f, b2i_t, b2i_f, decide_true, decide_false, c1P, k0, r1, bse, r2, x1, r3, f1, d4, b3e]
      · rw [fk] at pw
        obtain ⟨y1, y2⟩ := none_ok (fun w hw => by
          rcases hw with rfl | rfl | rfl
          · rw [i0, decide_eq_false o0]
          · rw [i1, decide_eq_false o1]
          · rw [i2, decide_eq_false o2]) pw
        exact ⟨c1, L1, false, _, e1, y2, mpU _ _, Or.inr ⟨wEnd q0, _, L1, cpU _ _, a2, Or.inl ⟨rfl, y1, FL.of (e := 2) (by omega) (by omega) kx.at.symm⟩⟩⟩
    · obtain ⟨y1, y2⟩ := none_ok (fun w hw => by
        rcases hw with rfl | rfl | rfl
        · exact isWord_no (i := 22) q1 (by decide)
        · exact isWord_no (i := 23) q1 (by decide)
        · exact isWord_no (i := 24) q1 (by decide)) (pw_no (by rw [kx.ty]; exact q1) ko.2.1)
      exact ⟨c1, L1, false, _, e1, y2, mpU _ _, Or.inr ⟨wEnd q0, _, L1, cpU _ _, a2, Or.inl ⟨rfl, y1, FL.of (e := 2) (by omega) (by omega) kx.at.symm⟩⟩⟩
  · have ne0 : c1 4 4 ≠ 0 := by rw [kt]; decide
    have ne1 : c1 4 4 ≠ 1 := by rw [kt]; decide
    have i0 : F_X8_isWord N 4 422 c1 L1 (GRf pb) = some false := isWord_no (i := 22) ne1 (by decide)
    have i1 : F_X8_isWord N 4 423 c1 L1 (GRf pb) = some false := isWord_no (i := 23) ne1 (by decide)
    have i2 : F_X8_isWord N 4 424 c1 L1 (GRf pb) = some false := isWord_no (i := 24) ne1 (by decide)
    refine ⟨c1, L1, false, m1, e1, ?_, mp1, Or.inr ⟨wEnd ne0, c1, L1, cp1, a2, Or.inl ⟨rfl, ?_, kf⟩⟩⟩
    · simp only [F_X12_readItem, ck_24, if_true, e2, b2e, b2f]
    · simp only [F_X5_readItem, ck_pl hpd, ck_4, ck_1, if_true, i0, i1, i2, b1e, wre, b2f, refC4 kt, b2e]
end P41
