/-! T3: a plan is read: names of units, words of the plan -/
def EV (n : Nat) (cd : Nat → Nat) (c : MI) (L : ML) (m : MI) : Prop := n ≤ 20 ∧ c 1 3 = nI n ∧ m 24 21 = nI n ∧ TM m ∧ DN n L ∧ ∀ u, u < n → cd u < 29 ∧ c (U u) 8 = bitsI (cd u) ∧ m 37 (65 * u) = nI (cd u) ∧ ∀ l, l < 8 → letL (L (U u) 3) l = m 35 (8 * u + l)
theorem EV.cg {n : Nat} {cd : Nat → Nat} {c c' : MI} {L L' : ML} {m m' : MI} (h : EV n cd c L m) (hc : ∀ o p, o = 1 ∨ (58 ≤ o ∧ o < 142) → c' o p = c o p) (hL : ∀ o p, 58 ≤ o → L' o p = L o p) (hm : ∀ o p, (o = 24 ∧ p = 21) ∨ (25 ≤ o ∧ o ≤ 29) ∨ o = 54 ∨ o = 35 ∨ o = 37 → m' o p = m o p) : EV n cd c' L' m' := by
  obtain ⟨h1, h2, h3, h4, h5, h6⟩ := h
  refine ⟨h1, by rw [hc 1 3 (by omega)]; exact h2, by rw [hm 24 21 (by omega)]; exact h3, h4.cg (fun o p z => hm o p (by omega)), h5.Lc h1 (fun o p z => hL o p z), fun u hu => ?_⟩
  obtain ⟨a1, a2, a3, a4⟩ := h6 u hu
  have e : U u = 58 + 4 * u := rfl
  exact ⟨a1, by rw [hc _ _ (by omega)]; exact a2, by rw [hm 37 _ (by omega)]; exact a3, fun l hl => by rw [hL _ _ (by omega), hm 35 _ (by omega)]; exact a4 l hl⟩
section P38
variable {N n tn s : Nat} {cd : Nat → Nat} {pb : Nat} {L Lr : ML} {c m : MI} {W : List Nat}
theorem titled_loop (h : WW tn s L m W) (hE : EV n cd c L m) : ∀ (d j z : Nat), j + d = n → d < z → (∀ u, u < j → nmB 35 m W u = false) →
    LF_X10_unitTitled_2 N z 1 (L 4 7) (nI j) c L (GRf pb) = some (match lmO (nmB 35 m W) n with | some u => .inl (nI u) | none => .inr ()) := by
  obtain ⟨h1, h2, h3, h4, h5, h6⟩ := hE
  intro d
  induction d with
  | zero =>
    intro j z hj hz hf
    obtain ⟨z, rfl⟩ : ∃ y, z = y + 1 := ⟨z - 1, by omega⟩
    have hjn : j = n := by omega
    subst hjn
    have e : lmO (nmB 35 m W) j = none := (lmO_none j).mpr hf
    rw [e]
    simp only [LF_X10_unitTitled_2, h2, if_pos (Int32.le_refl (nI j))]
  | succ d ih =>
    intro j z hj hz hf
    obtain ⟨z, rfl⟩ : ∃ y, z = y + 1 := ⟨z - 1, by omega⟩
    have hjn : j < n := by omega
    have q : ¬ nI n ≤ nI j := nI_ge hjn (by omega)
    have at0 : F_X10_unitAt 1 (nI j) c L (GRf pb) = some (U j) := unitAt_ok h1 hjn h2
    have hi := nm_iff h (h6 j hjn).2.2.2
    by_cases e : L (U j) 3 = L 4 7
    · have pj := hi.mp e
      cases el : lmO (nmB 35 m W) n with
      | none =>
        have := (lmO_none n).mp el j hjn
        rw [pj] at this
        cases this
      | some u =>
        obtain ⟨u1, u2⟩ := lmO_some n u el
        have eu : L (U u) 3 = L 4 7 := (nm_iff h (h6 u u1).2.2.2).mpr u2
        have : u = j := by
          rcases Nat.lt_trichotomy u j with g | g | g
          · exact absurd (eu.trans e.symm) (h5 u j g hjn)
          · exact g
          · exact absurd (e.trans eu.symm) (h5 j u g u1)
        subst this
        simp only [LF_X10_unitTitled_2, h2, if_neg q, at0, b1e, ck_U (show u ≤ 20 by omega), if_true, if_pos ((lg_cmp_eq _ _).mpr e)]
    · have i1 := ih (j + 1) z (by omega) (by omega) (fun u hu => by
        rcases Nat.lt_or_ge u j with g | g
        · exact hf u g
        · have : u = j := by omega
          subst this
          cases y : nmB 35 m W u with
          | false => rfl
          | true => exact absurd (hi.mpr y) e)
      rw [← i1]
      rw [LF_X10_unitTitled_2]
      simp only [h2, if_neg q, at0, b1e, ck_U (show j ≤ 20 by omega), if_true, if_neg (fun g => e ((lg_cmp_eq _ _).mp g)), wre, nI_1]
theorem titled_ok (hN : 5000 ≤ N) (h : WW tn s L m W) (hE : EV n cd c L m) : F_X10_unitTitled N 1 (L 4 7) c L (GRf pb) = some (oI (lmO (nmB 35 m W) n)) := by
  have e : LF_X10_unitTitled_2 N N 1 (L 4 7) 0 c L (GRf pb) = _ := titled_loop (N := N) (pb := pb) h hE n 0 N (by omega) (by have := hE.1; omega) (fun u hu => absurd hu (by omega))
  cases el : lmO (nmB 35 m W) n with
  | none => rw [el] at e; simp only [F_X10_unitTitled, ck_1, if_true, e, bsr, oI]
  | some u => rw [el] at e; simp only [F_X10_unitTitled, ck_1, if_true, e, bsl, oI]
/-- a unit's name is read -/
theorem name_rd {l pd : Nat} (hN : 5000 ≤ N) (hpd : pd ≤ 1) (hl : l < 29) (hE : EV n cd c L m) (hR : ∃ j, RD tn j c m) (hO : OKF c m) :
    ∃ c' L' m', A4 c c' ∧ AL L L' ∧ A24 m m' ∧
      ((∃ u, u < n ∧ isL (cd u) l = true ∧ F_X5_readName N (20 + 2 * pd) 4 1 (nI l) c L (GRf pb) = some (nI u, c', L') ∧ F_X12_unitNext N 24 (nI l) m Lr (GRf pb) = some (nI u, m') ∧ (∃ j, RD tn j c' m') ∧ OKF c' m') ∨
       (∃ w, F_X5_readName N (20 + 2 * pd) 4 1 (nI l) c L (GRf pb) = some (-1, c', L') ∧ F_X12_unitNext N 24 (nI l) m Lr (GRf pb) = some (w, m') ∧ FL c' m')) := by
  obtain ⟨j, hR⟩ := hR
  have n4 := hR.1.1
  obtain ⟨r0, c1, L1, m1, e1, e2, a1, a2, a3, e6⟩ := nx_ok (L := L) (Lr := Lr) (pb := pb) hN hR hO
  have hE1 : EV n cd c1 L1 m1 := hE.cg (fun o p z => a1 o p (by omega)) (fun o p z => a2 o p (by omega)) (fun o p z => a3 o p (by omega))
  obtain ⟨h1, h2, h3, h4, h5, h6⟩ := id hE1
  rcases e6 with ⟨rfl, kx, ko⟩ | ⟨rfl, kt, kf⟩
  · by_cases q1 : c1 4 4 = 1
    · obtain ⟨s, W, hW⟩ := kx.t1 q1
      have t1 : m1 24 11 = 1 := kx.ty.trans q1
      have ti := titled_ok (N := N) (pb := pb) hN hW hE1
      have nd := named_ok (N := N) (pb := pb) (Lr := Lr) (a := 35) hW hN n4 (by decide) ln_35 h1
      cases el : lmO (nmB 35 m1 W) n with
      | none =>
        rw [el] at ti nd
        have ti : F_X10_unitTitled N 1 (L1 4 7) c1 L1 (GRf pb) = some (-1) := ti
        have nd : F_X12_named N 24 35 (nI n) m1 Lr (GRf pb) = some (-1) := nd
        have n1m : ((-1 : Int32) = -1) = True := eq_true rfl
        refine ⟨uI (uI c1 4 8 3) 4 9 (c1 4 5), L1, uI (uI m1 24 15 3) 24 16 (m1 24 12), (a1.u (by omega)).u (by omega), a2, (a3.u (by omega)).u (by omega), Or.inr ⟨-1, ?_, ?_, FL.of (e := 3) (by omega) (by omega) kx.at.symm⟩⟩
        · simp only [F_X5_readName, ck_pl hpd, ck_4, ck_1, if_true, e1, b2e, anyW q1, b1e, b2t, if_false, wRd, ti, n1m, refC kx.n4]
        · simp only [F_X12_unitNext, ck_24, if_true, e2, b2e, b2t, if_false, t1, rf_24_22, bse, h3, nd, b1e, n1m, wrM ko.2.1]
      | some u =>
        have hu := (lmO_some n u el).1
        obtain ⟨g1, g2, g3, g4⟩ := h6 u hu
        rw [el] at ti nd
        have ti : F_X10_unitTitled N 1 (L1 4 7) c1 L1 (GRf pb) = some (nI u) := ti
        have nd : F_X12_named N 24 35 (nI n) m1 Lr (GRf pb) = some (nI u) := nd
        have um : (nI u = (-1 : Int32)) = False := nI_m1 (by omega)
        have at0 : F_X10_unitAt 1 (nI u) c1 L1 (GRf pb) = some (U u) := unitAt_ok h1 hu h2
        have is := is_ok (pb := pb) (L := L1) (m := c1) (show u ≤ 20 by omega) g1 hl g2
        have ia := isA_ok (N := N) (pb := pb) (L := Lr) (show 6 ≤ N by omega) h4.1 (show u < 20 by omega) g1 hl g3
        cases q : isL (cd u) l with
        | true =>
          rw [q] at is ia
          refine ⟨c1, L1, m1, a1, a2, a3, Or.inl ⟨u, hu, q, ?_, ?_, kx.rd, ko⟩⟩
          · simp only [F_X5_readName, ck_pl hpd, ck_4, ck_1, if_true, e1, b2e, anyW q1, b1e, b2t, if_false, wRd, ti, um, at0, ck_U (show u ≤ 20 by omega), is]
          · simp only [F_X12_unitNext, ck_24, if_true, e2, b2e, b2t, if_false, t1, rf_24_22, bse, h3, nd, b1e, um, ia]
        | false =>
          rw [q] at is ia
          refine ⟨uI (uI c1 4 8 3) 4 9 (c1 4 5), L1, uI (uI m1 24 15 3) 24 16 (m1 24 12), (a1.u (by omega)).u (by omega), a2, (a3.u (by omega)).u (by omega), Or.inr ⟨nI u, ?_, ?_, FL.of (e := 3) (by omega) (by omega) kx.at.symm⟩⟩
          · simp only [F_X5_readName, ck_pl hpd, ck_4, ck_1, if_true, e1, b2e, anyW q1, b1e, b2t, if_false, wRd, ti, um, at0, ck_U (show u ≤ 20 by omega), is, b2f, refC kx.n4]
          · simp only [F_X12_unitNext, ck_24, if_true, e2, b2e, b2t, if_false, t1, rf_24_22, bse, h3, nd, b1e, um, ia, b2f, wrM ko.2.1]
    · have t1 : (m1 24 11 = 1) = False := by rw [kx.ty]; exact eq_false q1
      refine ⟨uI (uI c1 4 8 2) 4 9 (c1 4 5), L1, uI (uI m1 24 15 2) 24 16 (m1 24 12), (a1.u (by omega)).u (by omega), a2, (a3.u (by omega)).u (by omega), Or.inr ⟨0, ?_, ?_, FL.of (e := 2) (by omega) (by omega) kx.at.symm⟩⟩
      · simp only [F_X5_readName, ck_pl hpd, ck_4, ck_1, if_true, e1, b2e, anyW0 q1, b1e, b2f, refC kx.n4]
      · simp only [F_X12_unitNext, ck_24, if_true, e2, b2e, b2t, if_false, t1, wrM ko.2.1, b1e]
  · have ne1 : c1 4 4 ≠ 1 := by rw [kt]; decide
    refine ⟨c1, L1, m1, a1, a2, a3, Or.inr ⟨0, ?_, ?_, kf⟩⟩
    · simp only [F_X5_readName, ck_pl hpd, ck_4, ck_1, if_true, e1, b2e, anyW0 ne1, b1e, b2f, refC4 kt]
    · simp only [F_X12_unitNext, ck_24, if_true, e2, b2e, b2f]
theorem un_fl {l : Nat} (h : FL c m) : F_X12_unitNext N 24 (nI l) m Lr (GRf pb) = some (0, m) := by
  simp only [F_X12_unitNext, ck_24, if_true, h.nx, b2e, b2f]
/-- a word of the plan, on the reference's side -/
theorem pw_ok {lo hi : Nat} (hN : 5000 ≤ N) (ht : TM m) (hn : tn ≤ 4000) (h : WW tn s L m W) (t11 : m 24 11 = 1) (h15 : m 24 15 = 0) (hh : hi + 1 ≤ 17) (hlo : lo ≤ 39) :
    F_X12_planWord N 24 (nI lo) (nI hi) m Lr (GRf pb) = some (match fw 22 W lo (hi + 1) 0 with | some j => (nI j, m) | none => (-1, uI (uI m 24 15 2) 24 16 (m 24 12))) := by
  have wo := wordOf_ok (N := N) (pb := pb) (Lr := Lr) (lo := lo) (hi := hi + 1) (TB_p ht) h hn hN hh (by decide) hlo
  cases e : fw 22 W lo (hi + 1) 0 with
  | none =>
    rw [e] at wo
    have wo : F_X12_wordOf N 24 29 (nI lo) (nI (hi + 1)) m Lr (GRf pb) = some (-1) := wo
    have n1m : ((-1 : Int32) = -1) = True := eq_true rfl
    simp only [F_X12_planWord, ck_24, if_true, t11, rf_24_4, bse, nI_1, wo, b1e, n1m, wrM h15]
  | some j =>
    rw [e] at wo
    have jl := fw_lt _ _ _ e
    have wo : F_X12_wordOf N 24 29 (nI lo) (nI (hi + 1)) m Lr (GRf pb) = some (nI j) := wo
    have jm : (nI j = (-1 : Int32)) = False := nI_m1 (by omega)
    simp only [F_X12_planWord, ck_24, if_true, t11, rf_24_4, bse, nI_1, wo, b1e, jm, if_false]
theorem pw_no {lo hi : Int32} (t11 : m 24 11 ≠ 1) (h15 : m 24 15 = 0) : F_X12_planWord N 24 lo hi m Lr (GRf pb) = some (-1, uI (uI m 24 15 2) 24 16 (m 24 12)) := by
  have n1m : ((-1 : Int32) = -1) = True := eq_true rfl
  simp only [F_X12_planWord, ck_24, if_true, if_neg t11, b1e, n1m, wrM h15]
theorem termOf_ok (hN : 5000 ≤ N) (h : WW tn s L m W) (h4 : c 4 4 = 1) : (∃ k, k ≤ 6 ∧ fw 22 W 3 10 0 = some (k + 3) ∧ F_X5_termOf N 4 c L (GRf pb) = some (nI k)) ∨ (fw 22 W 3 10 0 = none ∧ F_X5_termOf N 4 c L (GRf pb) = some (-1)) := by
  have w0 : F_X8_isWord N 4 425 c L (GRf pb) = some (decide (sTx.getD (22 + 3) [] = W)) := isWord_ok (i := 25) hN h h4 (by decide)
  have w1 : F_X8_isWord N 4 426 c L (GRf pb) = some (decide (sTx.getD (22 + 4) [] = W)) := isWord_ok (i := 26) hN h h4 (by decide)
  have w2 : F_X8_isWord N 4 427 c L (GRf pb) = some (decide (sTx.getD (22 + 5) [] = W)) := isWord_ok (i := 27) hN h h4 (by decide)
  have w3 : F_X8_isWord N 4 428 c L (GRf pb) = some (decide (sTx.getD (22 + 6) [] = W)) := isWord_ok (i := 28) hN h h4 (by decide)
  have w4 : F_X8_isWord N 4 429 c L (GRf pb) = some (decide (sTx.getD (22 + 7) [] = W)) := isWord_ok (i := 29) hN h h4 (by decide)
  have w5 : F_X8_isWord N 4 430 c L (GRf pb) = some (decide (sTx.getD (22 + 8) [] = W)) := isWord_ok (i := 30) hN h h4 (by decide)
  have w6 : F_X8_isWord N 4 431 c L (GRf pb) = some (decide (sTx.getD (22 + 9) [] = W)) := isWord_ok (i := 31) hN h h4 (by decide)
  have s0 : fw 22 W 3 10 0 = fw 22 W 3 7 3 := by
    rw [fw, if_neg (fun z => absurd z.2 (by decide)), fw, if_neg (fun z => absurd z.2 (by decide)), fw, if_neg (fun z => absurd z.2 (by decide))]
  rw [s0]
  by_cases h0 : sTx.getD (22 + 3) [] = W
  · refine Or.inl ⟨0, by decide, by rw [fw, if_pos ⟨h0, by decide⟩], ?_⟩
    simp only [F_X5_termOf, ck_4, if_true, if_false, b1e, b2f, b2t, w0, decide_eq_true h0]
    rfl
  by_cases h1 : sTx.getD (22 + 4) [] = W
  · refine Or.inl ⟨1, by decide, by rw [fw, if_neg (fun z => h0 z.1), fw, if_pos ⟨h1, by decide⟩], ?_⟩
    simp only [F_X5_termOf, ck_4, if_true, if_false, b1e, b2f, b2t, w0, decide_eq_false h0, w1, decide_eq_true h1]
    rfl
  by_cases h2 : sTx.getD (22 + 5) [] = W
  · refine Or.inl ⟨2, by decide, by rw [fw, if_neg (fun z => h0 z.1), fw, if_neg (fun z => h1 z.1), fw, if_pos ⟨h2, by decide⟩], ?_⟩
    simp only [F_X5_termOf, ck_4, if_true, if_false, b1e, b2f, b2t, w0, decide_eq_false h0, w1, decide_eq_false h1, w2, decide_eq_true h2]
    rfl
  by_cases h3 : sTx.getD (22 + 6) [] = W
  · refine Or.inl ⟨3, by decide, by rw [fw, if_neg (fun z => h0 z.1), fw, if_neg (fun z => h1 z.1), fw, if_neg (fun z => h2 z.1), fw, if_pos ⟨h3, by decide⟩], ?_⟩
    simp only [F_X5_termOf, ck_4, if_true, if_false, b1e, b2f, b2t, w0, decide_eq_false h0, w1, decide_eq_false h1, w2, decide_eq_false h2, w3, decide_eq_true h3]
    rfl
  by_cases h4 : sTx.getD (22 + 7) [] = W
  · refine Or.inl ⟨4, by decide, by rw [fw, if_neg (fun z => h0 z.1), fw, if_neg (fun z => h1 z.1), fw, if_neg (fun z => h2 z.1), fw, if_neg (fun z => h3 z.1), fw, if_pos ⟨h4, by decide⟩], ?_⟩
    simp only [F_X5_termOf, ck_4, if_true, if_false, b1e, b2f, b2t, w0, decide_eq_false h0, w1, decide_eq_false h1, w2, decide_eq_false h2, w3, decide_eq_false h3, w4, decide_eq_true h4]
    rfl
  by_cases h5 : sTx.getD (22 + 8) [] = W
  · refine Or.inl ⟨5, by decide, by rw [fw, if_neg (fun z => h0 z.1), fw, if_neg (fun z => h1 z.1), fw, if_neg (fun z => h2 z.1), fw, if_neg (fun z => h3 z.1), fw, if_neg (fun z => h4 z.1), fw, if_pos ⟨h5, by decide⟩], ?_⟩
    simp only [F_X5_termOf, ck_4, if_true, if_false, b1e, b2f, b2t, w0, decide_eq_false h0, w1, decide_eq_false h1, w2, decide_eq_false h2, w3, decide_eq_false h3, w4, decide_eq_false h4, w5, decide_eq_true h5]
    rfl
  by_cases h6 : sTx.getD (22 + 9) [] = W
  · refine Or.inl ⟨6, by decide, by rw [fw, if_neg (fun z => h0 z.1), fw, if_neg (fun z => h1 z.1), fw, if_neg (fun z => h2 z.1), fw, if_neg (fun z => h3 z.1), fw, if_neg (fun z => h4 z.1), fw, if_neg (fun z => h5 z.1), fw, if_pos ⟨h6, by decide⟩], ?_⟩
    simp only [F_X5_termOf, ck_4, if_true, if_false, b1e, b2f, b2t, w0, decide_eq_false h0, w1, decide_eq_false h1, w2, decide_eq_false h2, w3, decide_eq_false h3, w4, decide_eq_false h4, w5, decide_eq_false h5, w6, decide_eq_true h6]
    rfl
  · refine Or.inr ⟨by rw [fw, if_neg (fun z => h0 z.1), fw, if_neg (fun z => h1 z.1), fw, if_neg (fun z => h2 z.1), fw, if_neg (fun z => h3 z.1), fw, if_neg (fun z => h4 z.1), fw, if_neg (fun z => h5 z.1), fw, if_neg (fun z => h6 z.1), fw], ?_⟩
    simp only [F_X5_termOf, ck_4, if_true, b1e, b2f, w0, decide_eq_false h0, w1, decide_eq_false h1, w2, decide_eq_false h2, w3, decide_eq_false h3, w4, decide_eq_false h4, w5, decide_eq_false h5, w6, decide_eq_false h6]
theorem termOf_no (h4 : c 4 4 ≠ 1) : F_X5_termOf N 4 c L (GRf pb) = some (-1) := by
  have w0 : F_X8_isWord N 4 425 c L (GRf pb) = some false := isWord_no (i := 25) h4 (by decide)
  have w1 : F_X8_isWord N 4 426 c L (GRf pb) = some false := isWord_no (i := 26) h4 (by decide)
  have w2 : F_X8_isWord N 4 427 c L (GRf pb) = some false := isWord_no (i := 27) h4 (by decide)
  have w3 : F_X8_isWord N 4 428 c L (GRf pb) = some false := isWord_no (i := 28) h4 (by decide)
  have w4 : F_X8_isWord N 4 429 c L (GRf pb) = some false := isWord_no (i := 29) h4 (by decide)
  have w5 : F_X8_isWord N 4 430 c L (GRf pb) = some false := isWord_no (i := 30) h4 (by decide)
  have w6 : F_X8_isWord N 4 431 c L (GRf pb) = some false := isWord_no (i := 31) h4 (by decide)
  simp only [F_X5_termOf, ck_4, if_true, b1e, b2f, w0, w1, w2, w3, w4, w5, w6]
theorem actOf_ok (hN : 5000 ≤ N) (h : WW tn s L m W) (h4 : c 4 4 = 1) : (∃ k, k ≤ 6 ∧ fw 22 W 10 17 0 = some (k + 10) ∧ F_X5_actOf N 4 c L (GRf pb) = some (nI k)) ∨ (fw 22 W 10 17 0 = none ∧ F_X5_actOf N 4 c L (GRf pb) = some (-1)) := by
  have w0 : F_X8_isWord N 4 432 c L (GRf pb) = some (decide (sTx.getD (22 + 10) [] = W)) := isWord_ok (i := 32) hN h h4 (by decide)
  have w1 : F_X8_isWord N 4 433 c L (GRf pb) = some (decide (sTx.getD (22 + 11) [] = W)) := isWord_ok (i := 33) hN h h4 (by decide)
  have w2 : F_X8_isWord N 4 434 c L (GRf pb) = some (decide (sTx.getD (22 + 12) [] = W)) := isWord_ok (i := 34) hN h h4 (by decide)
  have w3 : F_X8_isWord N 4 435 c L (GRf pb) = some (decide (sTx.getD (22 + 13) [] = W)) := isWord_ok (i := 35) hN h h4 (by decide)
  have w4 : F_X8_isWord N 4 436 c L (GRf pb) = some (decide (sTx.getD (22 + 14) [] = W)) := isWord_ok (i := 36) hN h h4 (by decide)
  have w5 : F_X8_isWord N 4 437 c L (GRf pb) = some (decide (sTx.getD (22 + 15) [] = W)) := isWord_ok (i := 37) hN h h4 (by decide)
  have w6 : F_X8_isWord N 4 438 c L (GRf pb) = some (decide (sTx.getD (22 + 16) [] = W)) := isWord_ok (i := 38) hN h h4 (by decide)
  have s0 : fw 22 W 10 17 0 = fw 22 W 10 7 10 := by
    rw [fw, if_neg (fun z => absurd z.2 (by decide)), fw, if_neg (fun z => absurd z.2 (by decide)), fw, if_neg (fun z => absurd z.2 (by decide)), fw, if_neg (fun z => absurd z.2 (by decide)), fw, if_neg (fun z => absurd z.2 (by decide)), fw, if_neg (fun z => absurd z.2 (by decide)), fw, if_neg (fun z => absurd z.2 (by decide)), fw, if_neg (fun z => absurd z.2 (by decide)), fw, if_neg (fun z => absurd z.2 (by decide)), fw, if_neg (fun z => absurd z.2 (by decide))]
  rw [s0]
  by_cases h0 : sTx.getD (22 + 10) [] = W
  · refine Or.inl ⟨0, by decide, by rw [fw, if_pos ⟨h0, by decide⟩], ?_⟩
    simp only [F_X5_actOf, ck_4, if_true, if_false, b1e, b2f, b2t, w0, decide_eq_true h0]
    rfl
  by_cases h1 : sTx.getD (22 + 11) [] = W
  · refine Or.inl ⟨1, by decide, by rw [fw, if_neg (fun z => h0 z.1), fw, if_pos ⟨h1, by decide⟩], ?_⟩
    simp only [F_X5_actOf, ck_4, if_true, if_false, b1e, b2f, b2t, w0, decide_eq_false h0, w1, decide_eq_true h1]
    rfl
  by_cases h2 : sTx.getD (22 + 12) [] = W
  · refine Or.inl ⟨2, by decide, by rw [fw, if_neg (fun z => h0 z.1), fw, if_neg (fun z => h1 z.1), fw, if_pos ⟨h2, by decide⟩], ?_⟩
    simp only [F_X5_actOf, ck_4, if_true, if_false, b1e, b2f, b2t, w0, decide_eq_false h0, w1, decide_eq_false h1, w2, decide_eq_true h2]
    rfl
  by_cases h3 : sTx.getD (22 + 13) [] = W
  · refine Or.inl ⟨3, by decide, by rw [fw, if_neg (fun z => h0 z.1), fw, if_neg (fun z => h1 z.1), fw, if_neg (fun z => h2 z.1), fw, if_pos ⟨h3, by decide⟩], ?_⟩
    simp only [F_X5_actOf, ck_4, if_true, if_false, b1e, b2f, b2t, w0, decide_eq_false h0, w1, decide_eq_false h1, w2, decide_eq_false h2, w3, decide_eq_true h3]
    rfl
  by_cases h4 : sTx.getD (22 + 14) [] = W
  · refine Or.inl ⟨4, by decide, by rw [fw, if_neg (fun z => h0 z.1), fw, if_neg (fun z => h1 z.1), fw, if_neg (fun z => h2 z.1), fw, if_neg (fun z => h3 z.1), fw, if_pos ⟨h4, by decide⟩], ?_⟩
    simp only [F_X5_actOf, ck_4, if_true, if_false, b1e, b2f, b2t, w0, decide_eq_false h0, w1, decide_eq_false h1, w2, decide_eq_false h2, w3, decide_eq_false h3, w4, decide_eq_true h4]
    rfl
  by_cases h5 : sTx.getD (22 + 15) [] = W
  · refine Or.inl ⟨5, by decide, by rw [fw, if_neg (fun z => h0 z.1), fw, if_neg (fun z => h1 z.1), fw, if_neg (fun z => h2 z.1), fw, if_neg (fun z => h3 z.1), fw, if_neg (fun z => h4 z.1), fw, if_pos ⟨h5, by decide⟩], ?_⟩
    simp only [F_X5_actOf, ck_4, if_true, if_false, b1e, b2f, b2t, w0, decide_eq_false h0, w1, decide_eq_false h1, w2, decide_eq_false h2, w3, decide_eq_false h3, w4, decide_eq_false h4, w5, decide_eq_true h5]
    rfl
  by_cases h6 : sTx.getD (22 + 16) [] = W
  · refine Or.inl ⟨6, by decide, by rw [fw, if_neg (fun z => h0 z.1), fw, if_neg (fun z => h1 z.1), fw, if_neg (fun z => h2 z.1), fw, if_neg (fun z => h3 z.1), fw, if_neg (fun z => h4 z.1), fw, if_neg (fun z => h5 z.1), fw, if_pos ⟨h6, by decide⟩], ?_⟩
    simp only [F_X5_actOf, ck_4, if_true, if_false, b1e, b2f, b2t, w0, decide_eq_false h0, w1, decide_eq_false h1, w2, decide_eq_false h2, w3, decide_eq_false h3, w4, decide_eq_false h4, w5, decide_eq_false h5, w6, decide_eq_true h6]
    rfl
  · refine Or.inr ⟨by rw [fw, if_neg (fun z => h0 z.1), fw, if_neg (fun z => h1 z.1), fw, if_neg (fun z => h2 z.1), fw, if_neg (fun z => h3 z.1), fw, if_neg (fun z => h4 z.1), fw, if_neg (fun z => h5 z.1), fw, if_neg (fun z => h6 z.1), fw], ?_⟩
    simp only [F_X5_actOf, ck_4, if_true, b1e, b2f, w0, decide_eq_false h0, w1, decide_eq_false h1, w2, decide_eq_false h2, w3, decide_eq_false h3, w4, decide_eq_false h4, w5, decide_eq_false h5, w6, decide_eq_false h6]
theorem actOf_no (h4 : c 4 4 ≠ 1) : F_X5_actOf N 4 c L (GRf pb) = some (-1) := by
  have w0 : F_X8_isWord N 4 432 c L (GRf pb) = some false := isWord_no (i := 32) h4 (by decide)
  have w1 : F_X8_isWord N 4 433 c L (GRf pb) = some false := isWord_no (i := 33) h4 (by decide)
  have w2 : F_X8_isWord N 4 434 c L (GRf pb) = some false := isWord_no (i := 34) h4 (by decide)
  have w3 : F_X8_isWord N 4 435 c L (GRf pb) = some false := isWord_no (i := 35) h4 (by decide)
  have w4 : F_X8_isWord N 4 436 c L (GRf pb) = some false := isWord_no (i := 36) h4 (by decide)
  have w5 : F_X8_isWord N 4 437 c L (GRf pb) = some false := isWord_no (i := 37) h4 (by decide)
  have w6 : F_X8_isWord N 4 438 c L (GRf pb) = some false := isWord_no (i := 38) h4 (by decide)
  simp only [F_X5_actOf, ck_4, if_true, b1e, b2f, w0, w1, w2, w3, w4, w5, w6]
end P38
