/-! T3: a unit is described: its layers in their order; made, with two sorts of longs -/
def skB : Nat → Nat → Int32 → Int32
  | 0, _, b => b
  | f + 1, c, b => if c = 0 then b ||| iS 1 (nI c) else skB f (lbN c) (b ||| iS 1 (nI c))
theorem skB_ok : ∀ c, c < 29 → skB 5 c 0 = bitsI c := by decide +kernel
theorem rt_300 {j : Nat} (hj : j < 29) : rt 300 (nI j) = some (lbI j) := by
  have e : ∀ j, j < 29 → stv 300 j = lbI j := by decide
  unfold rt
  rw [if_pos (inb_nI (n := (stT 300).length) hj (by decide)), ix_nI (by omega), e j hj]
def chJ (c j : Nat) : List Nat := (List.range j).filter (isL c)
theorem chJ_s (c j : Nat) : chJ c (j + 1) = chJ c j ++ (if isL c j = true then [j] else []) := by
  unfold chJ
  rw [List.range_succ, List.filter_append]
  congr 1
  cases h : isL c j <;> simp [h]
theorem chJ_5 : ∀ c, c < 29 → ∀ j, j < 29 → (chJ c j).length ≤ 5 ∧ (isL c j = true → (chJ c j).length < 5) := by decide +kernel
section P33
variable {N u : Nat} {pb : Nat} {L Lr : ML} {c m : MI}
theorem sk1 {y1 : Int32} (hu : u ≤ 20) : ∀ (f i k cc : Nat) (I : MI), okf f cc = true → cc < 29 → i + f ≤ 5 → f < k → LF_X9_stackLayers_14 N k (U u) y1 (nI cc) (nI i) I L (GRf pb) = some (uI I (U u) 8 (skB f cc (I (U u) 8))) := by
  intro f
  induction f with
  | zero => intro i k cc I h; cases h
  | succ f ih =>
    intro i k cc I ho hc hi hk
    obtain ⟨k, rfl⟩ : ∃ z, k = z + 2 := ⟨k - 2, by omega⟩
    have z5 : ¬ (5 : Int32) ≤ nI i := nI_ge (a := i) (b := 5) (by omega) (by decide)
    have z0 : ¬ nI cc < 0 := nI_pos (by omega)
    have z29 : ¬ (29 : Int32) ≤ nI cc := nI_ge (a := cc) (b := 29) hc (by decide)
    by_cases q : cc = 0
    · subst q
      have m1 : lbI 0 = -1 := rfl
      have neg : (-1 : Int32) < 0 := by decide
      simp only [LF_X9_stackLayers_14, if_neg z5, if_neg z0, if_neg z29, wre, rt_300 hc, bse, m1, if_pos neg, ite_self, skB, if_true]
    · have l1 : lbI cc = nI (lbN cc) := by simp [lbI, q]
      have i1 := ih (i + 1) (k + 1) (lbN cc) (uI I (U u) 8 (I (U u) 8 ||| iS 1 (nI cc))) (by simpa [okf, q] using ho) (lbN_lt cc hc) (by omega) (by omega)
      rw [uI_two, uI_same] at i1
      rw [LF_X9_stackLayers_14]
      simp only [if_neg z5, if_neg z0, if_neg z29, wre, rt_300 hc, bse, l1, nI_1, i1, skB, if_neg q]
theorem sk2 {cc : Nat} {y1 : Int32} (hN : 5000 ≤ N) (hu : u ≤ 20) (hc : cc < 29) (h8 : c (U u) 8 = bitsI cc) (h7 : c (U u) 7 = 0) :
    ∃ c', LF_X9_stackLayers_57 N N (U u) y1 0 c L (GRf pb) = some c' ∧ c' (U u) 7 = nI (chn cc).length ∧ (∀ i, i < (chn cc).length → c' (U u + 2) i = nI ((chn cc).getD i 0)) ∧ ∀ o p, ¬ (o = U u ∧ p = 7) → o ≠ U u + 2 → c' o p = c o p := by
  have e : U u = 58 + 4 * u := rfl
  obtain ⟨c', g1, g2, g3, g4⟩ := loop1 (f := fun z i I => LF_X9_stackLayers_57 N z (U u) y1 (nI i) I L (GRf pb)) (R := fun j a => a (U u) 7 = nI (chJ cc j).length ∧ (∀ i, i < (chJ cc j).length → a (U u + 2) i = nI ((chJ cc j).getD i 0)) ∧ ∀ o p, ¬ (o = U u ∧ p = 7) → o ≠ U u + 2 → a o p = c o p) (Q := fun a => a (U u) 7 = nI (chn cc).length ∧ (∀ i, i < (chn cc).length → a (U u + 2) i = nI ((chn cc).getD i 0)) ∧ ∀ o p, ¬ (o = U u ∧ p = 7) → o ≠ U u + 2 → a o p = c o p) 29 (by
    intro z a ha
    exact ⟨a, by simp only [LF_X9_stackLayers_57, if_pos (show (29 : Int32) ≤ nI 29 by decide)], ha⟩) (by
    intro z i a hi ha
    have z29 : ¬ (29 : Int32) ≤ nI i := nI_ge (a := i) (b := 29) hi (by decide)
    obtain ⟨c5, c5'⟩ := chJ_5 cc hc i hi
    have is := is_ok (pb := pb) (L := L) (m := a) hu hc hi (by rw [ha.2.2 _ 8 (by omega) (by omega)]; exact h8)
    cases q : isL cc i with
    | false =>
      rw [q] at is
      refine ⟨a, ?_, ?_⟩
      · rw [LF_X9_stackLayers_57]
        simp only [if_neg z29, is, b1e, b2f, if_true, wre, nI_1]
      · have e1 : chJ cc (i + 1) = chJ cc i := by rw [chJ_s, q, if_neg (by decide), List.append_nil]
        rw [e1]; exact ha
    | true =>
      rw [q] at is
      have l5 := c5' q
      have zl : ¬ Int32.ofNat 5 ≤ nI (chJ cc i).length := nI_ge (b := 5) l5 (by decide)
      have w2 : ∀ v, wi a (U u + 2) (nI (chJ cc i).length) v = some (uI a (U u + 2) (chJ cc i).length v) := fun v => wi_nI (ln_U2 hu) l5 (by decide)
      have x7 : ∀ v, uI a (U u + 2) (chJ cc i).length v (U u) 7 = nI (chJ cc i).length := fun v => by rw [uI_at (by omega)]; exact ha.1
      refine ⟨uI (uI a (U u + 2) (chJ cc i).length (nI i)) (U u) 7 (nI ((chJ cc i).length + 1)), ?_, ?_⟩
      · rw [LF_X9_stackLayers_57]
        simp only [if_neg z29, is, b1e, b2t, if_false, rf_U1 hu, bse, ln_U2 hu, ha.1, if_neg zl, w2, wre, x7, nI_1]
      · have e1 : chJ cc (i + 1) = chJ cc i ++ [i] := by rw [chJ_s, q, if_pos rfl]
        have e2 : (chJ cc (i + 1)).length = (chJ cc i).length + 1 := by rw [e1, List.length_append]; rfl
        refine ⟨by rw [uI_same, e2], fun j hj => ?_, fun o p z1 z2 => ?_⟩
        · rw [uI_at (by omega)]
          by_cases p : j = (chJ cc i).length
          · subst p
            rw [uI_same, e1, List.getD_eq_getElem?_getD, List.getElem?_append_right (Nat.le_refl _), Nat.sub_self]
            rfl
          · rw [uI_at (by omega), ha.2.1 j (by omega), e1, List.getD_eq_getElem?_getD, List.getD_eq_getElem?_getD, List.getElem?_append_left (by omega)]
        · rw [uI_at z1, uI_at (fun w => z2 w.1)]; exact ha.2.2 o p z1 z2) 29 0 N c (by omega) (by omega) ⟨h7, fun i hi => absurd hi (by simp [chJ]), fun _ _ _ _ => rfl⟩
  exact ⟨c', g1, g2, g3, g4⟩
theorem stack_ok {cc : Nat} (hN : 5000 ≤ N) (hu : u ≤ 20) (hc : cc < 29) :
    ∃ c', F_X9_stackLayers N (U u) (nI cc) c L (GRf pb) = some c' ∧ c' (U u) 7 = nI (chn cc).length ∧ c' (U u) 8 = bitsI cc ∧ (∀ i, i < (chn cc).length → c' (U u + 2) i = nI ((chn cc).getD i 0)) ∧ c' (U u + 1) 0 = nI cc ∧
      ∀ o p, ¬ (o = U u ∧ (p = 7 ∨ p = 8)) → ¬ (o = U u + 1 ∧ p = 0) → o ≠ U u + 2 → c' o p = c o p := by
  have e : U u = 58 + 4 * u := rfl
  have s1 := sk1 (N := N) (pb := pb) (L := L) (y1 := nI cc) hu 5 0 N cc (uI (uI c (U u) 7 0) (U u) 8 0) (okf_5 cc hc) hc (by omega) (by omega)
  rw [uI_two, uI_same, skB_ok cc hc] at s1
  have s1 : LF_X9_stackLayers_14 N N (U u) (nI cc) (nI cc) 0 (uI (uI c (U u) 7 0) (U u) 8 0) L (GRf pb) = some (uI (uI c (U u) 7 0) (U u) 8 (bitsI cc)) := s1
  obtain ⟨c2, g1, g2, g3, g4⟩ := sk2 (N := N) (pb := pb) (L := L) (y1 := nI cc) (c := uI (uI c (U u) 7 0) (U u) 8 (bitsI cc)) hN hu hc uI_same (by rw [uI_at (by omega), uI_same])
  refine ⟨uI c2 (U u + 1) 0 (nI cc), ?_, ?_, ?_, fun i hi => ?_, uI_same, fun o p z1 z2 z3 => ?_⟩
  · simp only [F_X9_stackLayers, ck_U hu, if_true, wre, s1, b1e, g1, rf_U0 hu, bse, wp_0 hu]
  · rw [uI_at (by omega)]; exact g2
  · rw [uI_at (by omega), g4 _ 8 (by omega) (by omega), uI_same]
  · rw [uI_at (by omega)]; exact g3 i hi
  · rw [uI_at z2, g4 o p (by omega) z3, uI_at (by omega), uI_at (by omega)]
theorem title_ok (hu : u < 20) : F_X0_titleOf 6 (nI u) c L (GRf pb) = some (L 8 u) := by
  have z : ¬ Int32.ofNat 20 ≤ nI u := nI_ge (b := 20) hu (by decide)
  simp only [F_X0_titleOf, ck_6, if_true, if_neg (nI_pos (show u < 2 ^ 31 by omega)), rf_6_1, bse, ln_8, if_neg z, rl_nI ln_8 hu (show 20 < 2 ^ 31 by decide)]
theorem numb_ok {j : Nat} (hu : u < 20) (hj : j < 3) : F_X0_numberOf 6 (nI u) (nI j) c L (GRf pb) = some (c 9 (3 * u + j)) := by
  have z : ¬ Int32.ofNat 60 ≤ nI (3 * u + j) := nI_ge (b := 60) (by omega) (by decide)
  simp only [F_X0_numberOf, ck_6, if_true, wre, nI_m3, nI_add, if_neg (nI_pos (show 3 * u + j < 2 ^ 31 by omega)), rf_6_2, bse, ln_9, if_neg z, ri_nI ln_9 (show 3 * u + j < 60 by omega) (show 60 < 2 ^ 31 by decide)]
theorem desc_ok {cc : Nat} (hN : 5000 ≤ N) (hu : u < 20) (hc : cc < 29) (h7 : c 7 u = nI cc) :
    ∃ c', F_X9_describe N (U u) 6 (nI u) c L (GRf pb) = some (c', uL L (U u) 3 (L 8 u)) ∧ c' (U u) 7 = nI (chn cc).length ∧ c' (U u) 8 = bitsI cc ∧ (∀ i, i < (chn cc).length → c' (U u + 2) i = nI ((chn cc).getD i 0)) ∧ c' (U u + 1) 0 = nI cc ∧ (∀ j, j < 3 → c' (U u) (4 + j) = c 9 (3 * u + j)) ∧
      ∀ o p, ¬ (o = U u ∧ 4 ≤ p ∧ p ≤ 8) → ¬ (o = U u + 1 ∧ p = 0) → o ≠ U u + 2 → c' o p = c o p := by
  have e : U u = 58 + 4 * u := rfl
  have hu' : u ≤ 20 := by omega
  obtain ⟨c', g1, g2, g3, g4, g5, g6⟩ := stack_ok (N := N) (pb := pb) (L := uL L (U u) 3 (L 8 u)) (c := uI (uI (uI c (U u) 4 (c 9 (3 * u + 0))) (U u) 5 (c 9 (3 * u + 1))) (U u) 6 (c 9 (3 * u + 2))) hN hu' hc
  have n0 : ∀ (I : MI) (L : ML), (∀ p, I 9 p = c 9 p) → ∀ j, j < 3 → F_X0_numberOf 6 (nI u) (nI j) I L (GRf pb) = some (c 9 (3 * u + j)) := fun I L hI j hj => by rw [numb_ok hu hj, hI]
  have k0 : F_X0_numberOf 6 (nI u) 0 c (uL L (U u) 3 (L 8 u)) (GRf pb) = some (c 9 (3 * u + 0)) := n0 _ _ (fun _ => rfl) 0 (by decide)
  have k1 : F_X0_numberOf 6 (nI u) 1 (uI c (U u) 4 (c 9 (3 * u + 0))) (uL L (U u) 3 (L 8 u)) (GRf pb) = some (c 9 (3 * u + 1)) := n0 _ _ (fun p => uI_at (by omega)) 1 (by decide)
  have k2 : F_X0_numberOf 6 (nI u) 2 (uI (uI c (U u) 4 (c 9 (3 * u + 0))) (U u) 5 (c 9 (3 * u + 1))) (uL L (U u) 3 (L 8 u)) (GRf pb) = some (c 9 (3 * u + 2)) := n0 _ _ (fun p => by rw [uI_at (by omega), uI_at (by omega)]) 2 (by decide)
  have k3 : F_X0_layerOf 6 (nI u) (uI (uI (uI c (U u) 4 (c 9 (3 * u + 0))) (U u) 5 (c 9 (3 * u + 1))) (U u) 6 (c 9 (3 * u + 2))) (uL L (U u) 3 (L 8 u)) (GRf pb) = some (nI cc) := by
    rw [layC hu, uI_at (by omega), uI_at (by omega), uI_at (by omega), h7]
  refine ⟨c', ?_, g2, g3, g4, g5, fun j hj => ?_, fun o p z1 z2 z3 => ?_⟩
  · simp only [F_X9_describe, ck_U hu', ck_6, if_true, title_ok hu, b1e, wre, k0, k1, k2, k3, g1]
  · rw [g6 _ _ (by omega) (by omega) (by omega)]
    rcases (show j = 0 ∨ j = 1 ∨ j = 2 by omega) with rfl | rfl | rfl
    · rw [uI_at (by omega), uI_at (by omega), uI_same]
    · rw [uI_at (by omega), uI_same]
    · rw [uI_same]
  · rw [g6 o p (by omega) z2 z3, uI_at (by omega), uI_at (by omega), uI_at (by omega)]
end P33
section P34
variable {N n u : Nat} {cd : Nat → Nat} {pb : Nat} {L Lr : ML} {c m : MI}
/-- make_ok, the reference seeing other longs than the class -/
theorem make_ok2 {Kd Ka Kn : Nat} (hN : 5000 ≤ N) (hn : n ≤ 20) (hu : u < 20) (hc : cd u < 29) (hkn : kin (cd u)) (ft : FT n cd u (fun k => m 36 (3 * u + k))) (hM : CM m) (hKd : Kd + 31 ≤ 1500) (hKa : Ka ≤ 900) (hKn : Kn + 31 < 2 ^ 20) (h7 : c (U u) 7 = nI (chn (cd u)).length) (hl : ∀ i, i < (chn (cd u)).length → c (U u + 2) i = nI ((chn (cd u)).getD i 0)) (hXc : ∀ i, i < mny (cd u) → c (U u) (4 + i) = m 36 (3 * u + i)) (h0 : c (U u + 1) 0 = nI (cd u)) (hs : ∀ j, j ≤ 3 → c 1 (4 + j) = m 24 (25 + j)) (hnt : ∀ i j, i < 100 → j < 3 → c 3 (3 * i + j) = m (38 + j) i) (hd : nn (m 24 25) Kd) (ha : nn (m 24 26) Ka) (hno : nn (m 24 28) Kn) :
    ∃ S x y, F_X10_make N 1 (U u) (nI u) c L (GRf pb) = some (cS u S (uI c (U u) 9 0)) ∧ F_X12_make N 24 (nI u) (nI (cd u)) m Lr (GRf pb) = some (mS u (uI S 0 64 ((ansV 3 (cd u) (S 0) - S 0 6) &&& 1)) m x y) ∧ INV cd u (fun k => m 36 (3 * u + k)) (loC (cd u) (chn (cd u)).length) Kd Ka Kn S ∧ S 0 63 = 0 ∧ (cd u = 5 → S 0 10 = 0) := by
  have e : U u = 58 + 4 * u := rfl
  have hu' : u ≤ 20 := by omega
  have cl := clear_ok (N := N) (pb := pb) (L := L) (S := S0 (cd u) m) (cc := cd u) hN hu' h0 (fun k _ => S0_0) (fun j hj => by rw [S0_1 hj]; exact hs j hj) (fun i j hi hj => by rw [S0_n hj hi]; exact hnt i j hi hj)
  obtain ⟨x, y, hy, pre⟩ := presets (N := N) (pb := pb) (L := Lr) hN hu hM hc
  have hm : mny (cd u) ≤ 3 := mny_3 _
  have all := fun LL : ML => mk_all (c0 := uI c (U u) 9 0) (m0 := m) (pb := pb) (L := LL) (y := y) (X := fun k => m 36 (3 * u + k)) hN hn hu hc hkn ft hM hKd hKa hKn (by rw [uI_at (by omega)]; exact h7) (fun i hi => by rw [uI_at (by omega)]; exact hl i hi) (fun i hi => by
    rw [uI_at (by omega)]; exact hXc i hi) (fun j _ => rfl) hy (chn (cd u)).length 0 N N (S0 (cd u) m) x (by omega) (by have := chn_len (cd u) hc; omega) (by have := chn_len (cd u) hc; omega) (INV.start hd ha hno)
  obtain ⟨_, e1, _, inv⟩ := all L
  obtain ⟨x2, _, e2, _⟩ := all Lr
  rw [List.drop_zero] at e1 e2 inv
  have e63 : ((chn (cd u)).foldl (fun S l => layN u (cd u) (fun k => m 36 (3 * u + k)) l S) (S0 (cd u) m)) 0 63 = 0 := by
    rw [fold63 _ _ (chn_lt _ hc)]; exact S0_z (k := 63) (by decide) (by decide) (by decide) (by decide) (by decide)
  have e10 : cd u = 5 → ((chn (cd u)).foldl (fun S l => layN u (cd u) (fun k => m 36 (3 * u + k)) l S) (S0 (cd u) m)) 0 10 = 0 := fun q => by rw [q]; exact fold5
  generalize (chn (cd u)).foldl (fun S l => layN u (cd u) (fun k => m 36 (3 * u + k)) l S) (S0 (cd u) m) = S at *
  have e1 : LF_X10_make_7 N N 1 (U u) 0 (cS u (S0 (cd u) m) (uI c (U u) 9 0)) L (GRf pb) = _ := e1
  have e2 : LF_X12_make_122 N N 24 (nI u) (nI (chn (cd u)).length) 0 (mS u (S0 (cd u) m) m x y) Lr (GRf pb) = _ := e2
  have an := mans_3 (N := N) (pb := pb) (L := Lr) (x := x2) (y := y) (m0 := m) hN hu hM hc inv.an
  refine ⟨S, ax N u 3 pb S m x2 y Lr, y, ?_, ?_, inv, e63, e10⟩
  · simp only [F_X10_make, ck_1, ck_U hu', if_true, cl, b1e, e1]
  · rw [F_X12_make, if_pos (of_eq_true ck_24)]
    refine (pre (fun v31 z40 => bn1 (LF_X12_make_122 N N 24 (nI u) v31 (0 : Int32) z40 Lr (GRf pb)) fun z48 =>
      bn2 (F_X12_answer N 24 (nI u) (3 : Int32) z48 Lr (GRf pb)) fun v50 I51 =>
      bn1 (F_X12_get 24 (nI u) (6 : Int32) I51 Lr (GRf pb)) fun v53 =>
      bn1 (F_X12_set 24 (nI u) (64 : Int32) ((v50 - v53) &&& (1 : Int32)) I51 Lr (GRf pb)) fun I55 =>
      some (I55))).trans ?_
    rw [e2, b1e, an, b2e, mgt_6 hu, b1e, mst_64 hu, b1e]
end P34
