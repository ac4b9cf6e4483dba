/-! T3: the numbers of a unit, and its kind -/
def BF (k y : Nat) (c c' : MI) : Prop := ∀ o p, ¬ ((o = 4 ∧ 3 ≤ p) ∨ (o = 9 ∧ 3 * k + y ≤ p ∧ p < 3 * k + 3)) → c' o p = c o p
def BG (k y : Nat) (m m' : MI) : Prop := ∀ o p, ¬ ((o = 24 ∧ 10 ≤ p ∧ p ≤ 16) ∨ (o = 34 ∧ 3 * k + y ≤ p ∧ p < 3 * k + 3)) → m' o p = m o p
theorem mny3 : ∀ i, i < 22 → mny (kcN.getD i 0) ≤ 3 := by decide
theorem FP.cg {k f : Nat} {m m' : MI} {v : Int32} (h : FP k m' f v) (e : ∀ j, j < k → m' 32 j = m 32 j) (hf : f ≤ 13) : FP k m f v := by
  rcases (show f = 0 ∨ f = 1 ∨ f = 2 ∨ f = 3 ∨ f = 4 ∨ f = 5 ∨ f = 6 ∨ f = 7 ∨ f = 8 ∨ f = 9 ∨ f = 10 ∨ f = 11 ∨ f = 12 ∨ f = 13 by omega) with rfl | rfl | rfl | rfl | rfl | rfl | rfl | rfl | rfl | rfl | rfl | rfl | rfl | rfl
  · exact h
  · exact h
  · exact h
  · exact h
  · exact h
  · exact h
  · obtain ⟨j, h1, h2, h3⟩ := h; exact ⟨j, h1, by rw [← e j h1]; exact h2, h3⟩
  · obtain ⟨j, h1, h2, h3⟩ := h; exact ⟨j, h1, by rw [← e j h1]; exact h2, h3⟩
  · exact h
  · exact h
  · exact h
  · exact h
  · exact h
  · exact h
theorem RD.cg {n j : Nat} {c m c' m' : MI} (h : RD n j c m) (h1 : ∀ p, p = 2 ∨ p = 3 → c' 4 p = c 4 p) (h2 : ∀ p, c' 5 p = c 5 p) (h3 : ∀ p, p = 9 ∨ p = 10 → m' 24 p = m 24 p) (h4 : ∀ p, m' 31 p = m 31 p) : RD n j c' m' := by
  obtain ⟨⟨a1, a2, a3, a4⟩, a5, a6, a7⟩ := h
  refine ⟨⟨a1, by rw [h1 2 (by omega)]; exact a2, by rw [h3 9 (by omega)]; exact a3, fun l hl => by rw [h2, h4]; exact a4 l hl⟩, by rw [h1 3 (by omega)]; exact a5, by rw [h3 10 (by omega)]; exact a6, a7⟩
theorem OKF.cg {c m c' m' : MI} (h : OKF c m) (h1 : ∀ p, p = 8 ∨ p = 9 → c' 4 p = c 4 p) (h2 : ∀ p, p = 15 ∨ p = 16 → m' 24 p = m 24 p) : OKF c' m' := by
  obtain ⟨a1, a2, a3⟩ := h
  exact ⟨by rw [h1 8 (by omega)]; exact a1, by rw [h2 15 (by omega)]; exact a2, by rw [h1 9 (by omega), h2 16 (by omega)]; exact a3⟩
theorem FL.cg {c m c' m' : MI} (h : FL c m) (h1 : ∀ p, p = 8 ∨ p = 9 → c' 4 p = c 4 p) (h2 : ∀ p, p = 15 ∨ p = 16 → m' 24 p = m 24 p) : FL c' m' := by
  obtain ⟨e, a0, a1, a2, a3, a4⟩ := h
  exact ⟨e, a0, a1, by rw [h1 8 (by omega)]; exact a2, by rw [h2 15 (by omega)]; exact a3, by rw [h1 9 (by omega), h2 16 (by omega)]; exact a4⟩
section P28
variable {N n : Nat} {pb : Nat} {Lr : ML}
theorem ru_stop {k y i z : Nat} {m : MI} (hi : i < 22) (hk : k < 20) (h32 : m 32 k = nI (kcN.getD i 0)) (h15 : m 24 15 ≠ 0) : LF_X12_readUnit_199 N (z + 1) 24 (nI k) (nI y) m Lr (GRf pb) = some m := by
  simp only [LF_X12_readUnit_199, rf_24_18, bse, ri_nI ln_32 hk (by decide), h32, manyM i hi, b1e, if_neg h15, ite_self]
theorem nums_ok {i k : Nat} (hN : 5000 ≤ N) (hi : i < 22) (hk : k < 20) : ∀ (d y zc zr : Nat) (c : MI) (L : ML) (m : MI), y + d = 3 → d < zc → d + 1 < zr → (∃ j, RD n j c m) → OKF c m → c 6 3 = nI k → m 24 17 = nI k → (∀ u, u < k → c 7 u = m 32 u) → m 32 k = nI (kcN.getD i 0) →
    ∃ c' L' m', BF k y c c' ∧ AL L L' ∧ BG k y m m' ∧ LF_X12_readUnit_199 N zr 24 (nI k) (nI y) m Lr (GRf pb) = some m' ∧
      ((bsm (LF_X0_readNumbers_2 N zc 6 4 (310 + i) (nI y) c L (GRf pb)) (fun z => some z) (fun z => some (true, z.1, z.2)) = some (true, c', L') ∧ (∃ j, RD n j c' m') ∧ OKF c' m' ∧ ∀ y', y ≤ y' → y' < mny (kcN.getD i 0) → c' 9 (3 * k + y') = m' 34 (3 * k + y') ∧ FP k m ((kfN.getD i []).getD y' 0) (m' 34 (3 * k + y'))) ∨
       (bsm (LF_X0_readNumbers_2 N zc 6 4 (310 + i) (nI y) c L (GRf pb)) (fun z => some z) (fun z => some (true, z.1, z.2)) = some (false, c', L') ∧ FL c' m')) := by
  intro d
  induction d with
  | zero =>
    intro y zc zr c L m hy hzc hzr hR hO h63 h17 h7 h32
    obtain ⟨zc, rfl⟩ : ∃ z, zc = z + 1 := ⟨zc - 1, by omega⟩
    obtain ⟨zr, rfl⟩ : ∃ z, zr = z + 1 := ⟨zr - 1, by omega⟩
    have y3 : y = 3 := by omega
    subst y3
    have m3 := mny3 i hi
    have z3 : (3 : Int32) ≤ nI 3 := by decide
    have zm : nI (mny (kcN.getD i 0)) ≤ nI 3 := nI_le m3 (by decide)
    refine ⟨c, L, m, fun _ _ _ => rfl, AL.r, fun _ _ _ => rfl, ?_, Or.inl ⟨?_, hR, hO, fun y' h1 h2 => by omega⟩⟩
    · simp only [LF_X12_readUnit_199, rf_24_18, bse, ri_nI ln_32 hk (by decide), h32, manyM i hi, b1e, if_pos zm]
    · simp only [LF_X0_readNumbers_2, if_pos z3, bsr]
  | succ d ih =>
    intro y zc zr c L m hy hzc hzr hR hO h63 h17 h7 h32
    obtain ⟨zc, rfl⟩ : ∃ z, zc = z + 1 := ⟨zc - 1, by omega⟩
    obtain ⟨zr, rfl⟩ : ∃ z, zr = z + 1 := ⟨zr - 1, by omega⟩
    have hy3 : y < 3 := by omega
    have z3 : ¬ (3 : Int32) ≤ nI y := nI_ge (a := y) (b := 3) hy3 (by decide)
    obtain ⟨fm, f13⟩ := form_many i hi y hy3
    have fC := fun c L => formC (pb := pb) (c := c) (L := L) i y hi hy3
    have m3 := mny3 i hi
    by_cases f0 : (kfN.getD i []).getD y 0 = 0
    · have zm : nI (mny (kcN.getD i 0)) ≤ nI y := nI_le (fm.mp f0) (by omega)
      have e0 : (nI 0 = 0) = True := eq_true rfl
      refine ⟨c, L, m, fun _ _ _ => rfl, AL.r, fun _ _ _ => rfl, ?_, Or.inl ⟨?_, hR, hO, fun y' h1 h2 => ?_⟩⟩
      · simp only [LF_X12_readUnit_199, rf_24_18, bse, ri_nI ln_32 hk (by decide), h32, manyM i hi, b1e, if_pos zm]
      · simp only [LF_X0_readNumbers_2, if_neg z3, fC, b1e, f0, wre, e0, if_true, bsl]
      · have := fm.mp f0
        omega
    · have ylt : y < mny (kcN.getD i 0) := Nat.lt_of_not_le (fun z => f0 (fm.mpr z))
      have zm : ¬ nI (mny (kcN.getD i 0)) ≤ nI y := nI_ge ylt (by omega)
      have fn0 : (nI ((kfN.getD i []).getD y 0) = 0) = False := eq_false (nI_ne0 (by omega) (by omega))
      have u0 : ¬ nI (3 * k + y) < 0 := nI_pos (by omega)
      have u60 : nI (3 * k + y) < Int32.ofNat 60 := (nI_ltI (b := 60) (by omega) (by decide)).mpr (by omega)
      obtain ⟨j, hR⟩ := hR
      obtain ⟨c1, L1, m1, v, a1, a2, a3, e2, e3⟩ := tn_ok (L := L) (Lr := Lr) (pb := pb) hN hR hO
      have g17 : m1 24 17 = nI k := by rw [a3 24 17 (by omega)]; exact h17
      have g63 : c1 6 3 = nI k := by rw [a1 6 3 (by omega)]; exact h63
      have w34 : wi m1 34 (nI (3 * k + y)) v = some (uI m1 34 (3 * k + y) v) := wi_nI ln_34 (by omega) (by decide)
      have x32 : ∀ u w, uI m1 34 (3 * k + y) w 32 u = m 32 u := fun u w => by rw [uI_at (by omega)]; exact a3 32 u (by omega)
      have x24 : ∀ p w, uI m1 34 (3 * k + y) w 24 p = m1 24 p := fun p w => uI_at (by omega)
      have bG : BG k y m (uI m1 34 (3 * k + y) v) := fun o p g => by rw [uI_at (by omega)]; exact a3 o p (by omega)
      rcases e3 with ⟨e3, kx, ko, hv, h14⟩ | ⟨e3, kf⟩
      · have hC : F_X0_fits 6 (nI ((kfN.getD i []).getD y 0)) (c1 4 6) c1 L1 (GRf pb) = some (fitB k (uI m1 34 (3 * k + y) v) ((kfN.getD i []).getD y 0) v) := by
          rw [hv]
          exact fitC (by omega) g63 (fun u hu => by rw [x32, a1 7 u (by omega)]; exact h7 u hu) _ ⟨by omega, f13⟩
        have hM : F_X12_fits 24 (nI (kcN.getD i 0)) (nI y) (c1 4 6) (uI m1 34 (3 * k + y) v) Lr (GRf pb) = some (fitB k (uI m1 34 (3 * k + y) v) ((kfN.getD i []).getD y 0) v) := by
          rw [← hv]
          exact fitM (by omega) (by rw [x24]; exact g17) i y hi hy3 f0
        have ko15 := ko.2.1
        cases q : fitB k (uI m1 34 (3 * k + y) v) ((kfN.getD i []).getD y 0) v with
        | true =>
          rw [q] at hC hM
          obtain ⟨j1, hR1⟩ := kx.rd
          have w9 : wi c1 9 (nI (3 * k + y)) (c1 4 6) = some (uI c1 9 (3 * k + y) (c1 4 6)) := wi_nI ln_9 (by omega) (by decide)
          obtain ⟨c', L', m', b1, b2, b3, b4, b5⟩ := ih (y + 1) zc zr (uI c1 9 (3 * k + y) (c1 4 6)) L1 (uI m1 34 (3 * k + y) v) (by omega) (by omega) (by omega)
            ⟨j1, hR1.cg (fun p _ => uI_at (by omega)) (fun p => uI_at (by omega)) (fun p _ => uI_at (by omega)) (fun p => uI_at (by omega))⟩ (ko.cg (fun p _ => uI_at (by omega)) (fun p _ => uI_at (by omega)))
            (by rw [uI_at (by omega)]; exact g63) (by rw [x24]; exact g17) (fun u hu => by rw [x32, uI_at (by omega), a1 7 u (by omega)]; exact h7 u hu) (by rw [x32]; exact h32)
          have ref : LF_X12_readUnit_199 N (zr + 1) 24 (nI k) (nI y) m Lr (GRf pb) = some m' := by
            rw [← b4]
            simp only [LF_X12_readUnit_199, rf_24_18, rf_24_20, bse, ri_nI ln_32 hk (show 20 < 2 ^ 31 by decide), h32, manyM i hi, b1e, if_neg zm, hO.2.1, if_true, e2, b2e, nI_m3, nI_add, w34, x24, ko15, x32, h14, hM, b2t, if_false, wre, nI_1]
          have cls : ∀ (g1 : Bool × MI × ML → Option (Bool × MI × ML)) (g2 : MI × ML → Option (Bool × MI × ML)), bsm (LF_X0_readNumbers_2 N (zc + 1) 6 4 (310 + i) (nI y) c L (GRf pb)) g1 g2 = bsm (LF_X0_readNumbers_2 N zc 6 4 (310 + i) (nI (y + 1)) (uI c1 9 (3 * k + y) (c1 4 6)) L1 (GRf pb)) g1 g2 := fun g1 g2 => by
            have nb : F_X8_number 4 c1 L1 (GRf pb) = some (c1 4 6) := by simp only [F_X8_number, ck_4, if_true]
            have lf : LF_X0_readNumbers_2 N (zc + 1) 6 4 (310 + i) (nI y) c L (GRf pb) = LF_X0_readNumbers_2 N zc 6 4 (310 + i) (nI (y + 1)) (uI c1 9 (3 * k + y) (c1 4 6)) L1 (GRf pb) := by
              rw [LF_X0_readNumbers_2]
              simp only [if_neg z3, fC, b1e, h63, nI_m3, nI_add, wre, fn0, if_false, if_neg u0, rf_6_2, bse, ln_9, if_pos u60, e3, b3e, b2t, nb, hC, w9, nI_1]
            rw [lf]
          have cB : BF k y c c' := fun o p g => by rw [b1 o p (by omega), uI_at (by omega)]; exact a1 o p (by omega)
          have mB : BG k y m m' := fun o p g => by rw [b3 o p (by omega)]; exact bG o p g
          refine ⟨c', L', m', cB, a2.t b2, mB, ref, ?_⟩
          rw [cls]
          rcases b5 with ⟨b5, b6, b7, b8⟩ | b5
          · refine Or.inl ⟨b5, b6, b7, fun y' h1 h2 => ?_⟩
            have f13' := (form_many i hi y' (by omega)).2
            rcases Nat.lt_or_ge y y' with g | g
            · obtain ⟨t1, t2⟩ := b8 y' g h2
              exact ⟨t1, t2.cg (fun u hu => x32 u v) f13'⟩
            · have : y' = y := by omega
              subst this
              rw [b1 9 _ (by omega), b3 34 _ (by omega), uI_same, uI_same]
              exact ⟨hv.symm, (fit_FP (by omega) _ ⟨by omega, f13⟩ q).cg (fun u hu => x32 u v) f13⟩
          · exact Or.inr b5
        | false =>
          rw [q] at hC hM
          obtain ⟨zr, rfl⟩ : ∃ z, zr = z + 1 := ⟨zr - 1, by omega⟩
          have w15 : F_X12_wrong 24 5 (m1 24 12) (uI m1 34 (3 * k + y) v) Lr (GRf pb) = some (uI (uI (uI m1 34 (3 * k + y) v) 24 15 5) 24 16 (m1 24 12)) := wrM (by rw [x24]; exact ko15)
          have stp : LF_X12_readUnit_199 N (zr + 1) 24 (nI k) (nI (y + 1)) (uI (uI (uI m1 34 (3 * k + y) v) 24 15 5) 24 16 (m1 24 12)) Lr (GRf pb) = some (uI (uI (uI m1 34 (3 * k + y) v) 24 15 5) 24 16 (m1 24 12)) :=
            ru_stop hi hk (by rw [uI_at (by omega), uI_at (by omega), x32]; exact h32) (by rw [uI_at (by omega), uI_same]; decide)
          refine ⟨uI (uI c1 4 8 5) 4 9 (c1 4 5), L1, uI (uI (uI m1 34 (3 * k + y) v) 24 15 5) 24 16 (m1 24 12), fun o p g => ?_, a2, fun o p g => ?_, ?_, Or.inr ⟨?_, FL.of (e := 5) (by omega) (by omega) kx.at.symm⟩⟩
          · rw [uI_at (by omega), uI_at (by omega)]; exact a1 o p (by omega)
          · rw [uI_at (by omega), uI_at (by omega)]; exact bG o p g
          · rw [← stp]
            rw [LF_X12_readUnit_199]
            simp only [rf_24_18, rf_24_20, bse, ri_nI ln_32 hk (show 20 < 2 ^ 31 by decide), h32, manyM i hi, b1e, if_neg zm, hO.2.1, if_true, e2, b2e, nI_m3, nI_add, w34, x24, ko15, x32, h14, hM, b2f, w15, wre, nI_1]
          · have nb : F_X8_number 4 c1 L1 (GRf pb) = some (c1 4 6) := by simp only [F_X8_number, ck_4, if_true]
            simp only [LF_X0_readNumbers_2, if_neg z3, fC, b1e, h63, nI_m3, nI_add, wre, fn0, if_false, if_neg u0, rf_6_2, bse, ln_9, if_pos u60, e3, b3e, b2t, nb, hC, b2f, if_true, refC kx.n4, b2e, bsl]
      · obtain ⟨zr, rfl⟩ : ∃ z, zr = z + 1 := ⟨zr - 1, by omega⟩
        have h15' : (uI m1 34 (3 * k + y) v) 24 15 ≠ 0 := by rw [x24]; exact kf.ne
        have h15'' : (m1 24 15 = 0) = False := eq_false kf.ne
        have stp : LF_X12_readUnit_199 N (zr + 1) 24 (nI k) (nI (y + 1)) (uI m1 34 (3 * k + y) v) Lr (GRf pb) = some (uI m1 34 (3 * k + y) v) := ru_stop hi hk (by rw [x32]; exact h32) h15'
        refine ⟨c1, L1, uI m1 34 (3 * k + y) v, fun o p g => a1 o p (by omega), a2, bG, ?_, Or.inr ⟨?_, kf.cg (fun _ _ => rfl) (fun p _ => x24 p v)⟩⟩
        · rw [← stp]
          rw [LF_X12_readUnit_199]
          simp only [rf_24_18, rf_24_20, bse, ri_nI ln_32 hk (show 20 < 2 ^ 31 by decide), h32, manyM i hi, b1e, if_neg zm, hO.2.1, if_true, e2, b2e, nI_m3, nI_add, w34, x24, h15'', if_false, wre, nI_1]
        · simp only [LF_X0_readNumbers_2, if_neg z3, fC, b1e, h63, nI_m3, nI_add, wre, fn0, if_false, if_neg u0, rf_6_2, bse, ln_9, if_pos u60, e3, b3e, b2f, if_true, bsl]
theorem rkN_ok {j : Nat} (hj : j < 22) : rk (nI j) = some (310 + j) := by
  unfold rk
  rw [if_pos (inb_nI hj (by decide)), ix_nI (by omega)]
theorem kind_loop {s : Nat} {L : ML} {c m : MI} {W : List Nat} (hN : 5000 ≤ N) (h : WW n s L m W) (h4 : c 4 4 = 1) : ∀ (d j k : Nat), j + d = 22 → d < k →
    LF_X4_readIn_2 N k 4 (nI j) c L (GRf pb) = some (match fw 0 W 0 d j with | some i => .inl (some (310 + i)) | none => .inr ()) := by
  intro d
  induction d with
  | zero =>
    intro j k hj hk
    obtain ⟨k, rfl⟩ : ∃ z, k = z + 1 := ⟨k - 1, by omega⟩
    have z : (22 : Int32) ≤ nI j := nI_le (a := 22) (b := j) (by omega) (by omega)
    simp only [LF_X4_readIn_2, if_pos z, fw]
  | succ d ih =>
    intro j k hj hk
    obtain ⟨k, rfl⟩ : ∃ z, k = z + 1 := ⟨k - 1, by omega⟩
    have z : ¬ (22 : Int32) ≤ nI j := nI_ge (a := j) (b := 22) (by omega) (by decide)
    have iw := isWord_ok (N := N) (pb := pb) (i := j) hN h h4 (by omega)
    have iw : F_X8_isWord N 4 (310 + j + 90) c L (GRf pb) = some (decide (sTx.getD (0 + j) [] = W)) := by
      rw [show 310 + j + 90 = 400 + j by omega, Nat.zero_add]; exact iw
    by_cases q : sTx.getD (0 + j) [] = W
    · simp only [LF_X4_readIn_2, if_neg z, rkN_ok (show j < 22 by omega), bse, iw, decide_eq_true q, b1e, b2t, if_false, fw, if_pos (And.intro q (Nat.zero_le j))]
    · have i1 := ih (j + 1) k (by omega) (by omega)
      simp only [LF_X4_readIn_2, if_neg z, rkN_ok (show j < 22 by omega), bse, iw, decide_eq_false q, b1e, b2f, if_true, wre, nI_1, fw, if_neg (fun g : _ ∧ _ => q g.1), i1]
theorem kind_no {L : ML} {c : MI} (h4 : c 4 4 ≠ 1) : ∀ (d j k : Nat), j + d = 22 → d < k → LF_X4_readIn_2 N k 4 (nI j) c L (GRf pb) = some (.inr ()) := by
  intro d
  induction d with
  | zero =>
    intro j k hj hk
    obtain ⟨k, rfl⟩ : ∃ z, k = z + 1 := ⟨k - 1, by omega⟩
    have z : (22 : Int32) ≤ nI j := nI_le (a := 22) (b := j) (by omega) (by omega)
    simp only [LF_X4_readIn_2, if_pos z]
  | succ d ih =>
    intro j k hj hk
    obtain ⟨k, rfl⟩ : ∃ z, k = z + 1 := ⟨k - 1, by omega⟩
    have z : ¬ (22 : Int32) ≤ nI j := nI_ge (a := j) (b := 22) (by omega) (by decide)
    have iw : F_X8_isWord N 4 (310 + j + 90) c L (GRf pb) = some false := by
      rw [show 310 + j + 90 = 400 + j by omega]; exact isWord_no h4 (by omega)
    have i1 := ih (j + 1) k (by omega) (by omega)
    simp only [LF_X4_readIn_2, if_neg z, rkN_ok (show j < 22 by omega), bse, iw, b1e, b2f, if_true, wre, nI_1, i1]
def kOp : Option Nat → Option Nat
  | some i => some (310 + i)
  | none => none
theorem kindC {s : Nat} {L : ML} {c m : MI} {W : List Nat} (hN : 5000 ≤ N) (h : WW n s L m W) (h4 : c 4 4 = 1) : F_X4_readIn N 4 c L (GRf pb) = some (kOp (fw 0 W 0 22 0)) := by
  have e : LF_X4_readIn_2 N N 4 0 c L (GRf pb) = _ := kind_loop (N := N) (pb := pb) hN h h4 22 0 N rfl (by omega)
  cases q : fw 0 W 0 22 0 with
  | none => rw [q] at e; simp only [F_X4_readIn, ck_4, if_true, e, bsr, kOp]
  | some i => rw [q] at e; simp only [F_X4_readIn, ck_4, if_true, e, bsl, kOp]
theorem kindC_no {L : ML} {c : MI} (hN : 5000 ≤ N) (h4 : c 4 4 ≠ 1) : F_X4_readIn N 4 c L (GRf pb) = some none := by
  have e : LF_X4_readIn_2 N N 4 0 c L (GRf pb) = _ := kind_no (N := N) (pb := pb) h4 22 0 N rfl (by omega)
  simp only [F_X4_readIn, ck_4, if_true, e, bsr]
theorem fw_lt {b lo : Nat} {W : List Nat} : ∀ d j i, fw b W lo d j = some i → j ≤ i ∧ i < j + d := by
  intro d
  induction d with
  | zero => intro j i h; cases h
  | succ d ih =>
    intro j i h
    unfold fw at h
    by_cases q : sTx.getD (b + j) [] = W ∧ lo ≤ j
    · rw [if_pos q] at h; cases h; omega
    · rw [if_neg q] at h; have := ih _ _ h; omega
end P28
