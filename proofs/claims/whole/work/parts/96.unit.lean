/-! T3: a book is read, unit by unit -/
def BU (k : Nat) (c : MI) (L : ML) (m : MI) : Prop :=
  (∀ u, u < k → c 7 u = m 32 u ∧ (∃ i, i < 22 ∧ m 32 u = nI (kcN.getD i 0)) ∧ (∀ l, l < 8 → letL (L 8 u) l = m 33 (8 * u + l)) ∧ (∀ y, y < mny (cdM m u) → c 9 (3 * u + y) = m 34 (3 * u + y)) ∧ FT u (cdM m) u (fun y => m 34 (3 * u + y))) ∧
  ∀ u v, u < v → v < k → ∃ l, l < 8 ∧ m 33 (8 * u + l) ≠ m 33 (8 * v + l)
def BK (k : Nat) (c : MI) (L : ML) (m : MI) : Prop := k ≤ 20 ∧ c 6 3 = nI k ∧ m 24 17 = nI k ∧ BU k c L m
def CB (c c' : MI) : Prop := ∀ o p, ¬ ((o = 4 ∧ 3 ≤ p) ∨ o = 6 ∨ o = 7 ∨ o = 9) → c' o p = c o p
def LB (L L' : ML) : Prop := ∀ o p, o ≠ 4 → o ≠ 8 → L' o p = L o p
def MB (m m' : MI) : Prop := ∀ o p, ¬ ((o = 24 ∧ 10 ≤ p ∧ p ≤ 17) ∨ o = 32 ∨ o = 33 ∨ o = 34) → m' o p = m o p
theorem CB.a {a b c : MI} (h : CB a b) (h2 : A4 b c) : CB a c := fun o p z => (h2 o p (by omega)).trans (h o p z)
theorem LB.a {a b c : ML} (h : LB a b) (h2 : AL b c) : LB a c := fun o p z y => (h2 o p z).trans (h o p z y)
theorem MB.a {a b c : MI} (h : MB a b) (h2 : A24 b c) : MB a c := fun o p z => (h2 o p (by omega)).trans (h o p z)
theorem CB.r {c : MI} : CB c c := fun _ _ _ => rfl
theorem LB.r {L : ML} : LB L L := fun _ _ _ _ => rfl
theorem MB.r {m : MI} : MB m m := fun _ _ _ => rfl
theorem FT.cgx {n u : Nat} {cd cd' : Nat → Nat} {X X' : Nat → Int32} (h : FT n cd u X) (e1 : ∀ v, v < n → cd' v = cd v) (e0 : cd' u = cd u) (e2 : ∀ y, y < 3 → X' y = X y) : FT n cd' u X' := by
  unfold FT at *
  rw [e0, e2 0 (by decide), e2 1 (by decide), e2 2 (by decide)]
  obtain ⟨h1, h2, h3, h4, h5, h6, h7, h8, h9, h10, h11, h12, h13, h14, h15, h16⟩ := h
  refine ⟨h1, h2, h3, h4, fun q => ?_, fun q => ?_, h7, h8, h9, h10, h11, h12, fun q => ?_, h14, fun q => ?_, h16⟩
  · obtain ⟨v, a1, a2, a3⟩ := h5 q; exact ⟨v, a1, by rw [e1 v a1]; exact a2, a3⟩
  · obtain ⟨v, w, a1, a2, a3, a4, a5⟩ := h6 q; exact ⟨v, w, a1, a2, a3, a4, fun z => by rw [e1 v a1, e1 w a2]; exact a5 z⟩
  · obtain ⟨v, a1, a2, a3⟩ := h13 q; exact ⟨v, a1, by rw [e1 v a1]; exact a2, a3⟩
  · obtain ⟨v, a1, a2, a3⟩ := h15 q; exact ⟨v, a1, by rw [e1 v a1]; exact a2, a3⟩
theorem FT.mono {n n' u : Nat} {cd : Nat → Nat} {X : Nat → Int32} (h : FT n cd u X) (e : n ≤ n') : FT n' cd u X := by
  unfold FT at *
  obtain ⟨h1, h2, h3, h4, h5, h6, h7, h8, h9, h10, h11, h12, h13, h14, h15, h16⟩ := h
  refine ⟨h1, h2, h3, h4, fun q => ?_, fun q => ?_, h7, h8, fun q => ?_, h10, h11, fun q => ?_, fun q => ?_, h14, fun q => ?_, h16⟩
  · obtain ⟨v, a1, a2, a3⟩ := h5 q; exact ⟨v, by omega, a2, a3⟩
  · obtain ⟨v, w, a1, a2, a3⟩ := h6 q; exact ⟨v, w, by omega, by omega, a3⟩
  · obtain ⟨v, a1, a2⟩ := h9 q; exact ⟨v, by omega, a2⟩
  · obtain ⟨v, a1, a2⟩ := h12 q; exact ⟨v, by omega, a2⟩
  · obtain ⟨v, a1, a2⟩ := h13 q; exact ⟨v, by omega, a2⟩
  · obtain ⟨v, a1, a2⟩ := h15 q; exact ⟨v, by omega, a2⟩
theorem mny_3 (c : Nat) : mny c ≤ 3 := by unfold mny; split <;> (try split) <;> omega
/-- what is told of the units ahead stays where their rows stay -/
theorem BU.cg {k : Nat} {c c' : MI} {L L' : ML} {m m' : MI} (h : BU k c L m) (h1 : ∀ o p, (o = 7 ∧ p < k) ∨ (o = 9 ∧ p < 3 * k) → c' o p = c o p) (h2 : ∀ p, p < k → L' 8 p = L 8 p) (h3 : ∀ o p, (o = 32 ∧ p < k) ∨ (o = 33 ∧ p < 8 * k) ∨ (o = 34 ∧ p < 3 * k) → m' o p = m o p) : BU k c' L' m' := by
  obtain ⟨a4, a5⟩ := h
  have ecd : ∀ u, u < k → cdM m' u = cdM m u := fun u hu => by unfold cdM; rw [h3 32 u (by omega)]
  refine ⟨fun u hu => ?_, fun u v huv hv => ?_⟩
  · obtain ⟨b1, b2, b3, b4, b5⟩ := a4 u hu
    refine ⟨by rw [h1 7 u (by omega), h3 32 u (by omega)]; exact b1, by rw [h3 32 u (by omega)]; exact b2, fun l hl => by rw [h2 u hu, h3 33 _ (by omega)]; exact b3 l hl, fun y hy => ?_, ?_⟩
    · rw [ecd u hu] at hy
      have := mny_3 (cdM m u)
      rw [h1 9 _ (by omega), h3 34 _ (by omega)]; exact b4 y hy
    · exact b5.cgx (fun v hv => ecd v (by omega)) (ecd u hu) (fun y hy => h3 34 _ (by omega))
  · obtain ⟨l, hl, hne⟩ := a5 u v huv hv
    exact ⟨l, hl, by rw [h3 33 _ (by omega), h3 33 _ (by omega)]; exact hne⟩
theorem TM.cg {m m' : MI} (h : TM m) (e : ∀ o p, (25 ≤ o ∧ o ≤ 29) ∨ o = 54 → m' o p = m o p) : TM m' := by
  obtain ⟨t1, t2, t3, t4, t5, t6⟩ := h
  refine ⟨fun j hj => ?_, fun j => ?_, fun j => ?_, fun j => ?_, fun j => ?_, fun j => ?_⟩
  · rw [e 25 j (by omega)]; exact t1 j hj
  · rw [e 26 j (by omega)]; exact t2 j
  · rw [e 27 j (by omega)]; exact t3 j
  · rw [e 28 j (by omega)]; exact t4 j
  · rw [e 29 j (by omega)]; exact t5 j
  · rw [e 54 j (by omega)]; exact t6 j
section P29
variable {N n : Nat} {pb : Nat} {L Lr : ML} {c m : MI}
theorem wEnd (h : c 4 4 ≠ 0) : F_X8_isEnd 4 c L (GRf pb) = some false := by simp only [F_X8_isEnd, ck_4, if_true, if_neg h]
theorem wEnd0 (h : c 4 4 = 0) : F_X8_isEnd 4 c L (GRf pb) = some true := by simp only [F_X8_isEnd, ck_4, if_true, h]
theorem anyW (h : c 4 4 = 1) : F_X8_isAnyWord 4 c L (GRf pb) = some true := by simp only [F_X8_isAnyWord, ck_4, if_true, h]
theorem anyW0 (h : c 4 4 ≠ 1) : F_X8_isAnyWord 4 c L (GRf pb) = some false := by simp only [F_X8_isAnyWord, ck_4, if_true, if_neg h]
theorem wRd : F_X8_wordRead 4 c L (GRf pb) = some (L 4 7) := by simp only [F_X8_wordRead, ck_4, if_true]
theorem kF_0 : ∀ i, i < 22 → kF (310 + i) 0 = nI (kcN.getD i 0) := by decide
theorem kcT_N : ∀ i, i < 22 → kcT.getD i 0 = nI (kcN.getD i 0) := by decide
theorem bnoN {α γ : Type} {g0 : Option γ} {g1 : α → Option γ} : bno none g0 g1 = g0 := (Eq.refl _).trans rfl
theorem bnoS {α γ : Type} {a : α} {g0 : Option γ} {g1 : α → Option γ} : bno (some a) g0 g1 = g1 a := (Eq.refl _).trans rfl
/-- the reference goes on behind a fault of a unit's name or numbers: nothing more is read -/
theorem ru_tail {i k : Nat} {cc mm : MI} (hN : 5000 ≤ N) (hi : i < 22) (hk : k < 20) (h32 : mm 32 k = nI (kcN.getD i 0)) (hF : FL cc mm) :
    LF_X12_readUnit_144 N N 24 (nI k) 0 mm Lr (GRf pb) = some mm ∧ LF_X12_readUnit_199 N N 24 (nI k) 0 mm Lr (GRf pb) = some mm ∧ F_X12_sign N 24 59 mm Lr (GRf pb) = some mm := by
  refine ⟨nm_stop hN hF.ne, ?_, sg_fl 59 hF⟩
  obtain ⟨z, rfl⟩ : ∃ y, N = y + 1 := ⟨N - 1, by omega⟩
  exact ru_stop (y := 0) hi hk h32 hF.ne
theorem FL.u17 {cc mm : MI} {v : Int32} (h : FL cc mm) : FL cc (uI mm 24 17 v) := h.cg (fun _ _ => rfl) (fun p _ => uI_at (by omega))
end P29
section P30
variable {N n : Nat} {pb : Nat} {L Lr : ML} {c m : MI}
/-- one unit of the book, on both sides -/
theorem unit_ok {k : Nat} (hN : 5000 ≤ N) (ht : TM m) (hb : BK k c L m) (hR : ∃ j, RD n j c m) (hO : OKF c m) :
    ∃ c1 L1 r m', F_X8_next N 4 c L (GRf pb) = some (c1, L1) ∧ F_X12_readUnit N 24 m Lr (GRf pb) = some (r, m') ∧ MB m m' ∧
      ((r = false ∧ F_X8_isEnd 4 c1 L1 (GRf pb) = some true ∧ CB c c1 ∧ LB L L1 ∧ BK k c1 L1 m' ∧ OKF c1 m') ∨
       (F_X8_isEnd 4 c1 L1 (GRf pb) = some false ∧ ∃ c' L', CB c c' ∧ LB L L' ∧
        ((r = false ∧ F_X0_readUnit N 6 4 c1 L1 (GRf pb) = some (false, c', L') ∧ FL c' m') ∨
         (r = true ∧ k < 20 ∧ F_X0_readUnit N 6 4 c1 L1 (GRf pb) = some (true, c', L') ∧ BK (k + 1) c' L' m' ∧ (∃ j, RD n j c' m') ∧ OKF c' m')))) := by
  obtain ⟨j, hR⟩ := hR
  have n4 := hR.1.1
  obtain ⟨b1, b2, b3, b4⟩ := hb
  obtain ⟨r0, c1, L1, m1, e1, e2, a1, a2, a3, e6⟩ := nx_ok (L := L) (Lr := Lr) (pb := pb) hN hR hO
  have ht1 : TM m1 := ht.cg (fun o p z => a3 o p (by omega))
  have c63 : c1 6 3 = nI k := by rw [a1 6 3 (by omega)]; exact b2
  have m17 : m1 24 17 = nI k := by rw [a3 24 17 (by omega)]; exact b3
  have b41 : BU k c1 L1 m1 := b4.cg (fun o p z => a1 o p (by omega)) (fun p _ => a2 8 p (by omega)) (fun o p z => a3 o p (by omega))
  rcases e6 with ⟨rfl, kx, ko⟩ | ⟨rfl, kt, kf⟩
  · by_cases q0 : c1 4 4 = 0
    · refine ⟨c1, L1, false, m1, e1, ?_, MB.r.a a3, Or.inl ⟨rfl, wEnd0 q0, CB.r.a a1, LB.r.a a2, ⟨b1, c63, m17, b41⟩, ko⟩⟩
      have t1 : m1 24 11 = 0 := kx.ty.trans q0
      simp only [F_X12_readUnit, ck_24, if_true, e2, b2e, b2t, if_false, t1]
    · by_cases q1 : c1 4 4 = 1
      · obtain ⟨s, W, hW⟩ := kx.t1 q1
        have wo : F_X12_wordOf N 24 27 0 22 m1 Lr (GRf pb) = some (oI (fw 0 W 0 22 0)) := wordOf_ok (N := N) (pb := pb) (Lr := Lr) (lo := 0) (hi := 22) (TB_k ht1) hW n4 hN (by decide) (by decide) (by decide)
        have kc := kindC (N := N) (pb := pb) (c := c1) hN hW q1
        have t1 : m1 24 11 = 1 := kx.ty.trans q1
        have one : ((1 : Int32) = 0) = False := eq_false (by decide)
        cases hf : fw 0 W 0 22 0 with
        | none =>
          rw [hf] at wo kc
          have kc : F_X4_readIn N 4 c1 L1 (GRf pb) = some none := kc
          have wo : F_X12_wordOf N 24 27 0 22 m1 Lr (GRf pb) = some (-1) := wo
          refine ⟨c1, L1, false, uI (uI m1 24 15 2) 24 16 (m1 24 12), e1, ?_, (MB.r.a a3).a ((A24.r.u (by omega)).u (by omega)), Or.inr ⟨wEnd q0, uI (uI c1 4 8 2) 4 9 (c1 4 5), L1, (CB.r.a a1).a ((A4.r.u (by omega)).u (by omega)), LB.r.a a2, Or.inl ⟨rfl, ?_, FL.of (e := 2) (by omega) (by omega) kx.at.symm⟩⟩⟩
          · simp only [F_X12_readUnit, ck_24, if_true, e2, b2e, b2t, if_false, t1, one, rf_24_2, bse, wo, b1e, wrM ko.2.1]
          · simp only [F_X0_readUnit, ck_6, ck_4, if_true, kc, b1e, bnoN, refC kx.n4, b2e]
        | some i =>
          have hi : i < 22 := by have := fw_lt _ _ _ hf; omega
          rw [hf] at wo kc
          have kc : F_X4_readIn N 4 c1 L1 (GRf pb) = some (some (310 + i)) := kc
          have wo : F_X12_wordOf N 24 27 0 22 m1 Lr (GRf pb) = some (nI i) := wo
          have ir : (310 ≤ 310 + i ∧ 310 + i < 332) = True := eq_true (by omega)
          have im : (nI i = (-1 : Int32)) = False := nI_m1 (by omega)
          have k0 : (nI k < 0) = False := eq_false (nI_pos (by omega))
          by_cases h20 : k = 20
          · have x1 : (nI k < (20 : Int32)) = False := by rw [h20]; exact eq_false (by decide)
            have x2 : (nI k = (20 : Int32)) = True := by rw [h20]; exact eq_true rfl
            refine ⟨c1, L1, false, uI (uI m1 24 15 4) 24 16 (m1 24 12), e1, ?_, (MB.r.a a3).a ((A24.r.u (by omega)).u (by omega)), Or.inr ⟨wEnd q0, uI (uI c1 4 8 4) 4 9 (c1 4 5), L1, (CB.r.a a1).a ((A4.r.u (by omega)).u (by omega)), LB.r.a a2, Or.inl ⟨rfl, ?_, FL.of (e := 4) (by omega) (by omega) kx.at.symm⟩⟩⟩
            · simp only [F_X12_readUnit, ck_24, if_true, e2, b2e, b2t, if_false, t1, one, rf_24_2, bse, wo, b1e, im, m17, x2, wrM ko.2.1]
            · simp only [F_X0_readUnit, ck_6, ck_4, if_true, kc, b1e, bnoS, ir, c63, k0, x1, if_false, refC kx.n4, b2e]
          · have hk : k < 20 := by omega
            have x1 : (nI k < (20 : Int32)) = True := eq_true (nI_lt (b := 20) hk (by decide))
            have x2 : (nI k = (20 : Int32)) = False := eq_false (fun z => by have := (nI_eq (a := k) (b := 20) (by omega) (by decide)).mp z; omega)
            have r28 : ri m1 28 (nI i) = some (nI (kcN.getD i 0)) := by
              rw [ri_nI ln_28 hi (by decide), ht1.2.2.2.1 i, kcT_N i hi]
            have w32 : wi m1 32 (nI k) (nI (kcN.getD i 0)) = some (uI m1 32 k (nI (kcN.getD i 0))) := wi_nI ln_32 hk (by decide)
            obtain ⟨j1, hR1⟩ := kx.rd
            obtain ⟨r1, c2, L2, m2, f1, f2, a4, a5, a6, f6⟩ := nx_ok (L := L1) (Lr := Lr) (pb := pb) (c := c1) (m := uI m1 32 k (nI (kcN.getD i 0))) hN (hR1.cg (fun _ _ => rfl) (fun _ => rfl) (fun p _ => uI_at (by omega)) (fun p => uI_at (by omega))) (ko.cg (fun _ _ => rfl) (fun p _ => uI_at (by omega)))
            have m2o : ∀ o p, ¬ (o = 24 ∧ 10 ≤ p ∧ p ≤ 16) → ¬ (o = 32 ∧ p = k) → m2 o p = m1 o p := fun o p z1 z2 => by rw [a6 o p z1, uI_at z2]
            have m232 : m2 32 k = nI (kcN.getD i 0) := by rw [a6 32 k (by omega), uI_same]
            have m217 : m2 24 17 = nI k := by rw [m2o 24 17 (by omega) (by omega)]; exact m17
            have c263 : c2 6 3 = nI k := by rw [a4 6 3 (by omega)]; exact c63
            have mb2 : MB m m2 := fun o p z => by rw [m2o o p (by omega) (by omega)]; exact a3 o p (by omega)
            have cb2 : CB c c2 := (CB.r.a a1).a a4
            have lb2 : LB L L2 := (LB.r.a a2).a a5
            have b42 : BU k c2 L2 m2 := b41.cg (fun o p z => a4 o p (by omega)) (fun p _ => a5 8 p (by omega)) (fun o p z => m2o o p (by omega) (by omega))
            rcases f6 with ⟨rfl, kx2, ko2⟩ | ⟨rfl, kt2, kf2⟩
            · by_cases p1 : c2 4 4 = 1
              · obtain ⟨s2, W2, hW2⟩ := kx2.t1 p1
                have t2 : m2 24 11 = 1 := kx2.ty.trans p1
                have tk := taken_ok (N := N) (pb := pb) (c := c2) (Lk := L2) hW2 hN b1 c263 (fun u hu => (b42.1 u hu).2.2.1)
                have nd := named_ok (N := N) (pb := pb) (Lr := Lr) (a := 33) hW2 hN n4 (by decide) ln_33 b1
                cases hl : lmO (nmB 33 m2 W2) k with
                | some v =>
                  have hv := (lmO_some k v hl).1
                  rw [hl] at tk nd
                  have tk : F_X0_isTaken N 6 (L2 4 7) c2 L2 (GRf pb) = some true := tk
                  have nd : F_X12_named N 24 33 (nI k) m2 Lr (GRf pb) = some (nI v) := nd
                  have hv1 : (nI v = (-1 : Int32)) = False := nI_m1 (by omega)
                  have hF : FL (uI (uI c2 4 8 3) 4 9 (c2 4 5)) (uI (uI m2 24 15 3) 24 16 (m2 24 12)) := FL.of (e := 3) (by omega) (by omega) kx2.at.symm
                  obtain ⟨s1, s2, s3⟩ := ru_tail (N := N) (pb := pb) (Lr := Lr) (i := i) (k := k) hN hi hk (by rw [uI_at (by omega), uI_at (by omega)]; exact m232) hF
                  have h15 : ∀ v, (uI (uI (uI m2 24 15 3) 24 16 (m2 24 12)) 24 17 v 24 15 = 0) = False := fun v => by rw [uI_at (by omega), uI_at (by omega), uI_same]; exact eq_false (by decide)
                  refine ⟨c1, L1, false, uI (uI (uI m2 24 15 3) 24 16 (m2 24 12)) 24 17 ((uI (uI m2 24 15 3) 24 16 (m2 24 12)) 24 17 + 1), e1, ?_, fun o p z => ?_, Or.inr ⟨wEnd q0, uI (uI c2 4 8 3) 4 9 (c2 4 5), L2, cb2.a ((A4.r.u (by omega)).u (by omega)), lb2, Or.inl ⟨rfl, ?_, hF.u17⟩⟩⟩
                  · simp only [F_X12_readUnit, ck_24, if_true, e2, b2e, b2t, if_false, t1, one, rf_24_2, bse, wo, b1e, im, m17, x2, wre, rf_24_18, rf_24_3, r28, w32, f2, t2, rf_24_19, nd, hv1, wrM ko2.2.1, s1, s2, s3, h15]
                  · rw [uI_at (by omega), uI_at (by omega), uI_at (by omega)]; exact mb2 o p z
                  · simp only [F_X0_readUnit, ck_6, ck_4, if_true, kc, b1e, bnoS, ir, c63, k0, x1, if_false, f1, b2e, anyW p1, b2t, wRd, tk, refC kx2.n4]
                | none =>
                  rw [hl] at tk nd
                  have tk : F_X0_isTaken N 6 (L2 4 7) c2 L2 (GRf pb) = some false := tk
                  have nd : F_X12_named N 24 33 (nI k) m2 Lr (GRf pb) = some (-1) := nd
                  obtain ⟨m3, g1, g2, g3, g4⟩ := nm_loop (N := N) (pb := pb) (Lr := Lr) hN n4 hk 8 0 N m2 rfl (by omega) hW2 ko2.2.1
                  have g1 : LF_X12_readUnit_144 N N 24 (nI k) 0 m2 Lr (GRf pb) = some m3 := g1
                  have m3o : ∀ o p, ¬ (o = 33 ∧ 8 * k ≤ p ∧ p < 8 * k + 8) → m3 o p = m2 o p := g2
                  have w7 : ∀ v, wi c2 7 (nI k) v = some (uI c2 7 k v) := fun v => wi_nI ln_7 hk (by decide)
                  have w8 : ∀ v, wg L2 8 (nI k) v = some (uL L2 8 k v) := fun v => wg_nI ln_8 hk (by decide)
                  have c3o : ∀ o p v, ¬ (o = 7 ∧ p = k) → uI c2 7 k v o p = c2 o p := fun o p v z => uI_at z
                  obtain ⟨j2, hR2⟩ := kx2.rd
                  obtain ⟨c4, L4, m4, d1, d2, d3, d4, d5⟩ := nums_ok (N := N) (n := n) (pb := pb) (Lr := Lr) (i := i) (k := k) hN hi hk 3 0 N N (uI c2 7 k (nI (kcN.getD i 0))) (uL L2 8 k (L2 4 7)) m3 rfl (by omega) (by omega)
                    ⟨j2, hR2.cg (fun p _ => c3o 4 p _ (by omega)) (fun p => c3o 5 p _ (by omega)) (fun p _ => m3o 24 p (by omega)) (fun p => m3o 31 p (by omega))⟩ (ko2.cg (fun p _ => c3o 4 p _ (by omega)) (fun p _ => m3o 24 p (by omega)))
                    (by rw [c3o 6 3 _ (by omega)]; exact c263) (by rw [m3o 24 17 (by omega)]; exact m217) (fun u hu => by rw [c3o 7 u _ (by omega), m3o 32 u (by omega)]; exact (b42.1 u hu).1) (by rw [m3o 32 k (by omega)]; exact m232)
                  have d4 : LF_X12_readUnit_199 N N 24 (nI k) 0 m3 Lr (GRf pb) = some m4 := d4
                  have cb4 : CB c c4 := fun o p z => by rw [d1 o p (by omega), c3o o p _ (by omega)]; exact cb2 o p z
                  have lb4 : LB L L4 := fun o p z1 z2 => by rw [d2 o p z1, uL_at (by omega)]; exact lb2 o p z1 z2
                  have mb4 : MB m m4 := fun o p z => by rw [d3 o p (by omega), m3o o p (by omega)]; exact mb2 o p z
                  have c463 : c4 6 3 = nI k := by rw [d1 6 3 (by omega), c3o 6 3 _ (by omega)]; exact c263
                  have m417 : m4 24 17 = nI k := by rw [d3 24 17 (by omega), m3o 24 17 (by omega)]; exact m217
                  have m432 : ∀ u, m4 32 u = m2 32 u := fun u => by rw [d3 32 u (by omega), m3o 32 u (by omega)]
                  have kf0 := kF_0 i hi
                  have n1m : ((-1 : Int32) = -1) = True := eq_true rfl
                  rcases d5 with ⟨d5, d6, d7, d8⟩ | ⟨d5, d6⟩
                  · have rn : F_X0_readNumbers N 6 4 (310 + i) (uI c2 7 k (nI (kcN.getD i 0))) (uL L2 8 k (L2 4 7)) (GRf pb) = some (true, c4, L4) := by
                      simp only [F_X0_readNumbers, ck_6, ck_4, ir, if_true]; exact d5
                    obtain ⟨j4, d6⟩ := d6
                    obtain ⟨c5, L5, m5, h1, h2, h3, h4, h5⟩ := ts_ok (L := L4) (Lr := Lr) (pb := pb) 59 hN d6 d7
                    have cb5 : CB c c5 := cb4.a h1
                    have lb5 : LB L L5 := lb4.a h2
                    have mb5 : MB m m5 := mb4.a h3
                    have c563 : c5 6 3 = nI k := by rw [h1 6 3 (by omega)]; exact c463
                    have m517 : m5 24 17 = nI k := by rw [h3 24 17 (by omega)]; exact m417
                    rcases h5 with ⟨h5, h6, h7⟩ | ⟨h5, h6⟩
                    · have m515 : ∀ v, (uI m5 24 17 v 24 15 = 0) = True := fun v => by rw [uI_at (by omega)]; exact eq_true h7.2.1
                      have c6o : ∀ o p, (o = 7 ∨ o = 9) → uI c5 6 3 (nI (k + 1)) o p = c4 o p := fun o p z => by rw [uI_at (by omega)]; exact h1 o p (by omega)
                      have m6o : ∀ o p, (o = 32 ∨ o = 33 ∨ o = 34) → uI m5 24 17 (nI (k + 1)) o p = m4 o p := fun o p z => by rw [uI_at (by omega)]; exact h3 o p (by omega)
                      have L6o : ∀ p, L5 8 p = uL L2 8 k (L2 4 7) 8 p := fun p => by rw [h2 8 p (by omega)]; exact d2 8 p (by omega)
                      have m33 : ∀ p, m4 33 p = m3 33 p := fun p => d3 33 p (by omega)
                      have b46 : BU k (uI c5 6 3 (nI (k + 1))) L5 (uI m5 24 17 (nI (k + 1))) := b42.cg (fun o p z => by rw [c6o o p (by omega), d1 o p (by omega), c3o o p _ (by omega)]) (fun p hp => by rw [L6o, uL_at (by omega)]) (fun o p z => by rw [m6o o p (by omega), d3 o p (by omega), m3o o p (by omega)])
                      have m6k : uI m5 24 17 (nI (k + 1)) 32 k = nI (kcN.getD i 0) := by rw [m6o 32 k (by omega), m432]; exact m232
                      have cdk : cdM (uI m5 24 17 (nI (k + 1))) k = kcN.getD i 0 := by
                        unfold cdM
                        rw [m6k, vN_nI (by have := (kcN_kin i hi).lt; omega)]
                      have nmk : ∀ l, l < 8 → uI m5 24 17 (nI (k + 1)) 33 (8 * k + l) = nI (W2.getD l 0) := fun l hl => by rw [m6o 33 _ (by omega), m33]; exact g4 l (Nat.zero_le _) hl
                      have nmo : ∀ p, p < 8 * k → uI m5 24 17 (nI (k + 1)) 33 p = m2 33 p := fun p hp => by rw [m6o 33 _ (by omega), m33]; exact m3o 33 p (by omega)
                      refine ⟨c1, L1, true, uI m5 24 17 (nI (k + 1)), e1, ?_, fun o p z => by rw [uI_at (by omega)]; exact mb5 o p z, Or.inr ⟨wEnd q0, uI c5 6 3 (nI (k + 1)), L5, fun o p z => by rw [uI_at (by omega)]; exact cb5 o p z, lb5, Or.inr ⟨rfl, hk, ?_, ⟨hk, uI_same, uI_same, ?_, ?_⟩, ?_, h7.cg (fun p _ => uI_at (by omega)) (fun p _ => uI_at (by omega))⟩⟩⟩
                      · simp only [F_X12_readUnit, ck_24, if_true, e2, b2e, b2t, if_false, t1, one, rf_24_2, bse, wo, b1e, im, m17, x2, wre, rf_24_18, rf_24_3, r28, w32, f2, t2, rf_24_19, nd, n1m, g1, d4, h4, m517, nI_1, m515]
                      · simp only [F_X0_readUnit, ck_6, ck_4, if_true, kc, b1e, bnoS, ir, c63, k0, x1, if_false, f1, b2e, anyW p1, b2t, wRd, tk, b2f, rf_6_0, rf_6_1, bse, c263, kf0, w7, c3o 6 3 _ (show ¬ (6 = 7 ∧ 3 = k) by omega), w8, rn, b3e, h5, c563, wre, nI_1]
                      · intro u hu
                        rcases Nat.lt_or_ge u k with z | z
                        · exact b46.1 u z
                        · have : u = k := by omega
                          subst this
                          refine ⟨?_, ⟨i, hi, m6k⟩, fun l hl => ?_, fun y hy => ?_, FT_of hi cdk (fun y hy hf => ?_)⟩
                          · rw [m6k, c6o 7 u (by omega), d1 7 u (by omega), uI_same]
                          · rw [L6o, uL_same, letW hW2 hl, nmk l hl]
                          · rw [cdk] at hy
                            rw [c6o 9 _ (by omega), m6o 34 _ (by omega)]
                            exact (d8 y (Nat.zero_le _) hy).1
                          · obtain ⟨fm, f13⟩ := form_many i hi y hy
                            rw [m6o 34 _ (by omega)]
                            exact (d8 y (Nat.zero_le _) (Nat.lt_of_not_le (fun q => hf (fm.mpr q)))).2.cg (fun j hj => by rw [m6o 32 j (by omega), m432]; exact m3o 32 j (by omega)) f13
                      · intro u v huv hv
                        rcases Nat.lt_or_ge v k with z | z
                        · exact b46.2 u v huv z
                        · have : v = k := by omega
                          subst this
                          have nf := (lmO_none v).mp hl u huv
                          refine Classical.byContradiction (fun hc => ?_)
                          have nt : nmB 33 m2 W2 u = true := nmB_iff.mpr (fun l hl' => Classical.byContradiction (fun hne => hc ⟨l, hl', fun e => hne (by rw [nmo _ (by omega), nmk l hl'] at e; exact e)⟩))
                          rw [nf] at nt
                          cases nt
                      · obtain ⟨j5, h8⟩ := h6.rd
                        exact ⟨j5, h8.cg (fun p _ => uI_at (by omega)) (fun p => uI_at (by omega)) (fun p _ => uI_at (by omega)) (fun p => uI_at (by omega))⟩
                    · have m515 : ∀ v, (uI m5 24 17 v 24 15 = 0) = False := fun v => by rw [uI_at (by omega)]; exact eq_false h6.ne
                      refine ⟨c1, L1, false, uI m5 24 17 (nI (k + 1)), e1, ?_, fun o p z => by rw [uI_at (by omega)]; exact mb5 o p z, Or.inr ⟨wEnd q0, c5, L5, cb5, lb5, Or.inl ⟨rfl, ?_, h6.u17⟩⟩⟩
                      · simp only [F_X12_readUnit, ck_24, if_true, e2, b2e, b2t, if_false, t1, one, rf_24_2, bse, wo, b1e, im, m17, x2, wre, rf_24_18, rf_24_3, r28, w32, f2, t2, rf_24_19, nd, n1m, g1, d4, h4, m517, nI_1, m515]
                      · simp only [F_X0_readUnit, ck_6, ck_4, if_true, kc, b1e, bnoS, ir, c63, k0, x1, if_false, f1, b2e, anyW p1, b2t, wRd, tk, b2f, rf_6_0, rf_6_1, bse, c263, kf0, w7, c3o 6 3 _ (show ¬ (6 = 7 ∧ 3 = k) by omega), w8, rn, b3e, h5]
                  · have rn : F_X0_readNumbers N 6 4 (310 + i) (uI c2 7 k (nI (kcN.getD i 0))) (uL L2 8 k (L2 4 7)) (GRf pb) = some (false, c4, L4) := by
                      simp only [F_X0_readNumbers, ck_6, ck_4, ir, if_true]; exact d5
                    have m415 : ∀ v, (uI m4 24 17 v 24 15 = 0) = False := fun v => by rw [uI_at (by omega)]; exact eq_false d6.ne
                    refine ⟨c1, L1, false, uI m4 24 17 (nI (k + 1)), e1, ?_, fun o p z => by rw [uI_at (by omega)]; exact mb4 o p z, Or.inr ⟨wEnd q0, c4, L4, cb4, lb4, Or.inl ⟨rfl, ?_, d6.u17⟩⟩⟩
                    · simp only [F_X12_readUnit, ck_24, if_true, e2, b2e, b2t, if_false, t1, one, rf_24_2, bse, wo, b1e, im, m17, x2, wre, rf_24_18, rf_24_3, r28, w32, f2, t2, rf_24_19, nd, n1m, g1, d4, sg_fl (N := N) (pb := pb) (Lr := Lr) 59 d6, m417, nI_1, m415]
                    · simp only [F_X0_readUnit, ck_6, ck_4, if_true, kc, b1e, bnoS, ir, c63, k0, x1, if_false, f1, b2e, anyW p1, b2t, wRd, tk, b2f, rf_6_0, rf_6_1, bse, c263, kf0, w7, c3o 6 3 _ (show ¬ (6 = 7 ∧ 3 = k) by omega), w8, rn, b3e]
              · have t2 : (m2 24 11 = 1) = False := by rw [kx2.ty]; exact eq_false p1
                have hF : FL (uI (uI c2 4 8 2) 4 9 (c2 4 5)) (uI (uI m2 24 15 2) 24 16 (m2 24 12)) := FL.of (e := 2) (by omega) (by omega) kx2.at.symm
                obtain ⟨s1, s2, s3⟩ := ru_tail (N := N) (pb := pb) (Lr := Lr) (i := i) (k := k) hN hi hk (by rw [uI_at (by omega), uI_at (by omega)]; exact m232) hF
                have h15 : ∀ v, (uI (uI (uI m2 24 15 2) 24 16 (m2 24 12)) 24 17 v 24 15 = 0) = False := fun v => by rw [uI_at (by omega), uI_at (by omega), uI_same]; exact eq_false (by decide)
                refine ⟨c1, L1, false, uI (uI (uI m2 24 15 2) 24 16 (m2 24 12)) 24 17 ((uI (uI m2 24 15 2) 24 16 (m2 24 12)) 24 17 + 1), e1, ?_, fun o p z => ?_, Or.inr ⟨wEnd q0, uI (uI c2 4 8 2) 4 9 (c2 4 5), L2, cb2.a ((A4.r.u (by omega)).u (by omega)), lb2, Or.inl ⟨rfl, ?_, hF.u17⟩⟩⟩
                · simp only [F_X12_readUnit, ck_24, if_true, e2, b2e, b2t, if_false, t1, one, rf_24_2, bse, wo, b1e, im, m17, x2, wre, rf_24_18, rf_24_3, r28, w32, f2, t2, wrM ko2.2.1, s1, s2, s3, h15]
                · rw [uI_at (by omega), uI_at (by omega), uI_at (by omega)]; exact mb2 o p z
                · simp only [F_X0_readUnit, ck_6, ck_4, if_true, kc, b1e, bnoS, ir, c63, k0, x1, if_false, f1, b2e, anyW0 p1, b2f, refC kx2.n4]
            · have ne1 : c2 4 4 ≠ 1 := by rw [kt2]; decide
              refine ⟨c1, L1, false, m2, e1, ?_, mb2, Or.inr ⟨wEnd q0, c2, L2, cb2, lb2, Or.inl ⟨rfl, ?_, kf2⟩⟩⟩
              · simp only [F_X12_readUnit, ck_24, if_true, e2, b2e, b2t, if_false, t1, one, rf_24_2, bse, wo, b1e, im, m17, x2, wre, rf_24_18, rf_24_3, r28, w32, f2, b2f]
              · simp only [F_X0_readUnit, ck_6, ck_4, if_true, kc, b1e, bnoS, ir, c63, k0, x1, if_false, f1, b2e, anyW0 ne1, b2f, refC4 kt2]
      · have t1 : (m1 24 11 = 1) = False := by rw [kx.ty]; exact eq_false q1
        have t0 : (m1 24 11 = 0) = False := by rw [kx.ty]; exact eq_false q0
        have n1m : ((-1 : Int32) = -1) = True := eq_true rfl
        refine ⟨c1, L1, false, uI (uI m1 24 15 2) 24 16 (m1 24 12), e1, ?_, (MB.r.a a3).a ((A24.r.u (by omega)).u (by omega)), Or.inr ⟨wEnd q0, uI (uI c1 4 8 2) 4 9 (c1 4 5), L1, (CB.r.a a1).a ((A4.r.u (by omega)).u (by omega)), LB.r.a a2, Or.inl ⟨rfl, ?_, FL.of (e := 2) (by omega) (by omega) kx.at.symm⟩⟩⟩
        · simp only [F_X12_readUnit, ck_24, if_true, e2, b2e, b2t, if_false, t0, t1, b1e, n1m, wrM ko.2.1]
        · simp only [F_X0_readUnit, ck_6, ck_4, if_true, kindC_no (N := N) (pb := pb) (c := c1) (L := L1) hN q1, b1e, bnoN, refC kx.n4, b2e]
  · have ne0 : c1 4 4 ≠ 0 := by rw [kt]; decide
    have ne1 : c1 4 4 ≠ 1 := by rw [kt]; decide
    refine ⟨c1, L1, false, m1, e1, ?_, MB.r.a a3, Or.inr ⟨wEnd ne0, c1, L1, CB.r.a a1, LB.r.a a2, Or.inl ⟨rfl, ?_, kf⟩⟩⟩
    · simp only [F_X12_readUnit, ck_24, if_true, e2, b2e, b2f]
    · simp only [F_X0_readUnit, ck_6, ck_4, if_true, kindC_no (N := N) (pb := pb) (c := c1) (L := L1) hN ne1, b1e, bnoN, refC4 kt, b2e]
end P30
