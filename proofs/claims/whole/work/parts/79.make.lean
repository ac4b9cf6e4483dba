/-! T3: a unit is made anew -/
def P0 (c k : Nat) : Int32 := if k = 0 then nI c else if k = 62 then 200 else if k = 12 ∧ isL c 2 = true then 3 else if k = 46 ∧ c = 17 then 7 else if k = 55 ∧ c = 24 then 5 else 0
def S0 (c : Nat) (m : MI) : MI := fun r k => if r = 0 then P0 c k else if r = 1 ∧ k ≤ 3 then m 24 (25 + k) else if 2 ≤ r ∧ r ≤ 4 ∧ k < 100 then m (36 + r) k else 0
section P12
variable {N n u : Nat} {cd : Nat → Nat} {pb : Nat} {L : ML} {c m : MI} {X : Nat → Int32}
theorem clear_ok {S : MI} {cc : Nat} (hN : 5000 ≤ N) (hu : u ≤ 20) (h0 : c (U u + 1) 0 = nI cc) (hP : ∀ k, k < 65 → S 0 k = P0 cc k) (hs : ∀ j, j ≤ 3 → c 1 (4 + j) = S 1 j) (hn : ∀ i j, i < 100 → j < 3 → c 3 (3 * i + j) = S (2 + j) i) : F_X9_clear N (U u) (nI u) c L (GRf pb) = some (cS u S (uI c (U u) 9 0)) := by
  have e : U u = 58 + 4 * u := rfl
  obtain ⟨a, e1, ha⟩ := loop1 (f := fun k i I => LF_X9_clear_2 N k (U u) (nI u) (nI (1 + i)) I L (GRf pb)) (R := fun i a => ∀ o p, a o p = if o = U u + 1 ∧ 1 ≤ p ∧ p < 1 + i then 0 else c o p) (Q := fun a => ∀ o p, a o p = if o = U u + 1 ∧ 1 ≤ p ∧ p < 1 + 64 then 0 else c o p) 64 (by
    intro k a ha
    have z : (Int32.ofNat 65 ≤ nI (1 + 64)) = True := eq_true (by decide)
    exact ⟨a, by simp only [LF_X9_clear_2, rf_U0 hu, bse, ln_U1 hu, z, if_true], ha⟩) (by
    intro k i a hi ha
    have z : (Int32.ofNat 65 ≤ nI (1 + i)) = False := eq_false (nI_ge (b := 65) (by omega) (by decide))
    refine ⟨uI a (U u + 1) (1 + i) 0, by simp only [LF_X9_clear_2, rf_U0 hu, bse, ln_U1 hu, z, if_false, wi_nI (ln_U1 hu) (show 1 + i < 65 by omega) (show 65 < 2 ^ 31 by decide), wre, nI_1, Nat.add_assoc], ?_⟩
    intro o p
    by_cases q : o = U u + 1 ∧ p = 1 + i
    · obtain ⟨rfl, rfl⟩ := q
      rw [uI_same, if_pos (by omega)]
    · rw [uI_at q, ha]
      by_cases q2 : o = U u + 1 ∧ 1 ≤ p ∧ p < 1 + i
      · rw [if_pos q2, if_pos (by omega)]
      · rw [if_neg q2, if_neg (by omega)]) 64 0 N c (by omega) (by omega) (fun o p => by rw [if_neg (by omega)])
  have e1 : LF_X9_clear_2 N N (U u) (nI u) 1 c L (GRf pb) = some a := e1
  have key : uI (uI (uI (uI (uI (uI a (U u) 9 0) (U u + 1) 1 (nI u)) (U u + 1) 12 3) (U u + 1) 46 7) (U u + 1) 55 5) (U u + 1) 62 200 = cS u S (uI c (U u) 9 0) := by
    funext o p
    by_cases ho : o = U u + 1
    · subst ho
      by_cases hp : p < 65
      · have q : cS u S (uI c (U u) 9 0) (U u + 1) p = ovl u (S 0) p := by unfold cS; rw [if_pos ⟨rfl, hp⟩]
        rw [q]
        unfold ovl
        rw [hP p hp]
        unfold P0
        by_cases p62 : p = 62
        · subst p62; rw [uI_same]; rfl
        rw [uI_at (fun z => p62 z.2)]
        by_cases p55 : p = 55
        · subst p55; rw [uI_same]; rfl
        rw [uI_at (fun z => p55 z.2)]
        by_cases p46 : p = 46
        · subst p46; rw [uI_same]; rfl
        rw [uI_at (fun z => p46 z.2)]
        by_cases p12 : p = 12
        · subst p12; rw [uI_same]; rfl
        rw [uI_at (fun z => p12 z.2)]
        by_cases p1 : p = 1
        · subst p1; rw [uI_same]; rfl
        rw [uI_at (fun z => p1 z.2), uI_at (by omega), ha, if_neg p1, if_neg p12, if_neg p46, if_neg p55]
        by_cases p0 : p = 0
        · subst p0; rw [if_neg (by omega), if_pos rfl]; exact h0
        · rw [if_pos (by omega), if_neg p0, if_neg p62, if_neg (fun z => p12 z.1), if_neg (fun z => p46 z.1), if_neg (fun z => p55 z.1)]
      · rw [cS_o (by omega) (by omega) (by omega), uI_at (by omega), uI_at (by omega), uI_at (by omega), uI_at (by omega), uI_at (by omega), uI_at (by omega), uI_at (by omega), ha, if_neg (by omega)]
    · rw [uI_at (fun z => ho z.1), uI_at (fun z => ho z.1), uI_at (fun z => ho z.1), uI_at (fun z => ho z.1), uI_at (fun z => ho z.1)]
      unfold cS
      rw [if_neg (fun z => ho z.1)]
      by_cases z1 : o = 1 ∧ 4 ≤ p ∧ p ≤ 7
      · rw [if_pos z1, uI_at (by omega), ha, if_neg (by omega), z1.1, ← hs (p - 4) (by omega), show 4 + (p - 4) = p by omega]
      · rw [if_neg z1]
        by_cases z2 : o = 3 ∧ p < 300
        · rw [if_pos z2, uI_at (by omega), ha, if_neg (by omega), z2.1, ← hn (p / 3) (p % 3) (by omega) (by omega), show 3 * (p / 3) + p % 3 = p by omega]
        · rw [if_neg z2]
          by_cases z3 : o = U u ∧ p = 9
          · rw [z3.1, z3.2, uI_same, uI_same]
          · rw [uI_at z3, uI_at z3, ha, if_neg (fun z => ho z.1)]
  simp only [F_X9_clear, ck_U hu, if_true, e1, b1e, wre, rf_U0 hu, bse, wp_1 hu, wp_12 hu, wp_46 hu, wp_55 hu, wp_62 hu, key]
theorem odd0 (x q : Int32) : (x - q * 2) &&& 1 = x &&& 1 := by
  rw [pk_and (x - q * 2) (m := 1) 1 (by decide), pk_and x (m := 1) 1 (by decide)]
  refine congrArg nI ?_
  rw [Int32.toBitVec_sub, Int32.toBitVec_mul, BitVec.toNat_sub, BitVec.toNat_mul, show (2 : Int32).toBitVec.toNat = 2 from rfl]
  have h1 := x.toBitVec.isLt
  have h2 := q.toBitVec.isLt
  omega
theorem odd2 (x : Int32) : (x + 2) &&& 1 = x &&& 1 := by
  have := odd0 x (-1)
  rw [show (-1 : Int32) * 2 = -2 by decide, Int32.sub_eq_add_neg, show -(-2 : Int32) = 2 by decide] at this
  exact this
theorem odd1 (x : Int32) : (if md x 2 = 1 then (1 : Int32) else 0) = x &&& 1 := by
  obtain ⟨k, k1, k2⟩ := md_nn (x := x) (d := 2) (by decide) (by decide)
  have k2 : md x 2 = nI k := k2
  have e : md x 2 &&& 1 = x &&& 1 := by
    unfold md
    have e1 : iR x 2 &&& 1 = x &&& 1 := odd0 x (x / 2)
    by_cases q : 0 ≤ iR x 2
    · rw [if_pos q]; exact e1
    · rw [if_neg q, odd2]; exact e1
  rw [← e, k2]
  rcases (show k = 0 ∨ k = 1 by omega) with rfl | rfl
  · decide
  · decide
theorem judge_ok {S c0 : MI} {cc : Nat} (hN : 5000 ≤ N) (hu : u ≤ 20) (hc : cc < 29) (h7 : c0 (U u) 7 = nI (chn cc).length) (hl : ∀ i, i < (chn cc).length → c0 (U u + 2) i = nI ((chn cc).getD i 0)) (hp : HP u cc S) : F_X10_judge N 1 (U u) (cS u S c0) L (GRf pb) = some (cS u (uI S 0 64 ((ansV 3 cc (S 0) - S 0 6) &&& 1)) c0) := by
  have fm : ∀ x (I : MI), F_J9_floorMod_7cf53 x 2 I L (GRf pb) = some (md x 2) := fun x I => fm_val (by decide)
  rw [← odd1]
  have t := testS (N := N) (pb := pb) (L := L) hN hu hc h7 hl hp
  by_cases q : md (ansV 3 cc (S 0) - S 0 6) 2 = 1
  · simp only [F_X10_judge, ck_1, ck_U hu, if_true, if_false, t, b1e, rf_U0 hu, bse, rp_6 hu, cSr_6, fm, if_pos q, one0, wp_64 hu, cSw_64]
  · simp only [F_X10_judge, ck_1, ck_U hu, if_true, t, b1e, rf_U0 hu, bse, rp_6 hu, cSr_6, fm, if_neg q, zer0, wp_64 hu, cSw_64]
theorem presets {cc : Nat} (hN : 5000 ≤ N) (hu : u < 20) (hM : CM m) (hc : cc < 29) : ∃ x y, (∀ i, i < (chn cc).length → y i = nI ((chn cc).getD i 0)) ∧ ∀ {γ : Type} (f : Int32 → MI → Option γ), (bn1 (LF_X12_make_2 N N 24 (nI u) (nI cc) (0 : Int32) m L (GRf pb)) fun z5 =>
  bn1 (F_X12_set 24 (nI u) (0 : Int32) (nI cc) z5 L (GRf pb)) fun I7 =>
  bn1 (F_X12_set 24 (nI u) (62 : Int32) (200 : Int32) I7 L (GRf pb)) fun I9 =>
  bn1 (F_X12_has N 24 (nI cc) (2 : Int32) I9 L (GRf pb)) fun b11 =>
  bn1 (
    if (b2i b11) = 0 then
      some (I9)
    else
      bn1 (F_X12_set 24 (nI u) (12 : Int32) (3 : Int32) I9 L (GRf pb)) fun I17 =>
      some (I17)
  ) fun (I13 : MI) =>
  bn1 (
    if nI cc = (17 : Int32) then
      bn1 (F_X12_set 24 (nI u) (46 : Int32) (7 : Int32) I13 L (GRf pb)) fun I23 =>
      some (I23)
    else
      some (I13)
  ) fun (I19 : MI) =>
  bn1 (
    if nI cc = (24 : Int32) then
      bn1 (F_X12_set 24 (nI u) (55 : Int32) (5 : Int32) I19 L (GRf pb)) fun I29 =>
      some (I29)
    else
      some (I19)
  ) fun (I25 : MI) =>
  bn2 (F_X12_findLayers N 24 (nI cc) I25 L (GRf pb)) fun v31 I32 =>
  bn1 (LF_X12_make_93 N N 24 (nI u) v31 (0 : Int32) I32 L (GRf pb)) fun z40 => f v31 z40) = f (nI (chn cc).length) (mS u (S0 cc m) m x y) := by
  have h5 := chn_len cc hc
  -- all parts 0
  obtain ⟨a, e1, ha⟩ := loop1 (f := fun k i I => LF_X12_make_2 N k 24 (nI u) (nI cc) (nI i) I L (GRf pb)) (R := fun i a => ∀ o p, a o p = if o = 37 ∧ 65 * u ≤ p ∧ p < 65 * u + i then 0 else m o p) (Q := fun a => ∀ o p, a o p = if o = 37 ∧ 65 * u ≤ p ∧ p < 65 * u + 65 then 0 else m o p) 65 (by
    intro k a ha
    exact ⟨a, by simp only [LF_X12_make_2, if_pos (show (65 : Int32) ≤ nI 65 by decide)], ha⟩) (by
    intro k i a hi ha
    have z : ((65 : Int32) ≤ nI i) = False := eq_false (nI_ge (b := 65) hi (by decide))
    refine ⟨uI a 37 (65 * u + i) 0, by simp only [LF_X12_make_2, z, if_false, set_ok hu hi, b1e, wre, nI_1], ?_⟩
    intro o p
    by_cases q : o = 37 ∧ p = 65 * u + i
    · obtain ⟨rfl, rfl⟩ := q
      rw [uI_same, if_pos (by omega)]
    · rw [uI_at q, ha]
      by_cases q2 : o = 37 ∧ 65 * u ≤ p ∧ p < 65 * u + i
      · rw [if_pos q2, if_pos (by omega)]
      · rw [if_neg q2, if_neg (by omega)]) 65 0 N m (by omega) (by omega) (fun o p => by rw [if_neg (by omega)])
  have e1 : LF_X12_make_2 N N 24 (nI u) (nI cc) 0 m L (GRf pb) = some a := e1
  -- the numbers ahead of the layers
  have hM2 : ∀ b : MI, (∀ o p, o ≠ 37 → b o p = m o p) → CM b := fun b hb j hj => by rw [hb 25 j (by decide)]; exact hM j hj
  have pre : ∃ b : MI, (∀ o p, b o p = if o = 37 ∧ 65 * u ≤ p ∧ p < 65 * u + 65 then P0 cc (p - 65 * u) else m o p) ∧ ∀ {γ : Type} (g : MI → Option γ), (bn1 (F_X12_set 24 (nI u) (0 : Int32) (nI cc) a L (GRf pb)) fun I7 =>
  bn1 (F_X12_set 24 (nI u) (62 : Int32) (200 : Int32) I7 L (GRf pb)) fun I9 =>
  bn1 (F_X12_has N 24 (nI cc) (2 : Int32) I9 L (GRf pb)) fun b11 =>
  bn1 (
    if (b2i b11) = 0 then
      some (I9)
    else
      bn1 (F_X12_set 24 (nI u) (12 : Int32) (3 : Int32) I9 L (GRf pb)) fun I17 =>
      some (I17)
  ) fun (I13 : MI) =>
  bn1 (
    if nI cc = (17 : Int32) then
      bn1 (F_X12_set 24 (nI u) (46 : Int32) (7 : Int32) I13 L (GRf pb)) fun I23 =>
      some (I23)
    else
      some (I13)
  ) fun (I19 : MI) =>
  bn1 (
    if nI cc = (24 : Int32) then
      bn1 (F_X12_set 24 (nI u) (55 : Int32) (5 : Int32) I19 L (GRf pb)) fun I29 =>
      some (I29)
    else
      some (I19)
  ) fun (I25 : MI) => g I25) = g b := by
    have s0 : ∀ (I : MI) v, F_X12_set 24 (nI u) (0 : Int32) v I L (GRf pb) = some (uI I 37 (65 * u + 0) v) := fun I v => set_ok (k := 0) hu (by decide)
    have hs : F_X12_has N 24 (nI cc) 2 (uI (uI a 37 (65 * u + 0) (nI cc)) 37 (65 * u + 62) 200) L (GRf pb) = some (isL cc 2) := has_ok (l := 2) (by omega) (hM2 _ (fun o p z => by rw [uI_at (fun q => z q.1), uI_at (fun q => z q.1), ha, if_neg (fun q => z q.1)])) hc (by decide)
    have c17 : (nI cc = 17) = (cc = 17) := propext (nI_eq (b := 17) (by omega) (by decide))
    have c24 : (nI cc = 24) = (cc = 24) := propext (nI_eq (b := 24) (by omega) (by decide))
    refine ⟨fun o p => if o = 37 ∧ 65 * u ≤ p ∧ p < 65 * u + 65 then P0 cc (p - 65 * u) else m o p, fun _ _ => rfl, ?_⟩
    intro γ g
    have fin : ∀ b : MI, (∀ k, k < 65 → b 37 (65 * u + k) = P0 cc k) → (∀ o p, ¬ (o = 37 ∧ 65 * u ≤ p ∧ p < 65 * u + 65) → b o p = m o p) → (fun o p => if o = 37 ∧ 65 * u ≤ p ∧ p < 65 * u + 65 then P0 cc (p - 65 * u) else m o p) = b := by
      intro b h1 h2
      funext o p
      by_cases z : o = 37 ∧ 65 * u ≤ p ∧ p < 65 * u + 65
      · rw [if_pos z, z.1, ← h1 (p - 65 * u) (by omega), show 65 * u + (p - 65 * u) = p by omega]
      · rw [if_neg z, h2 o p z]
    have ha0 : ∀ k, k < 65 → a 37 (65 * u + k) = 0 := fun k hk => by rw [ha, if_pos (by omega)]
    have hao : ∀ o p, ¬ (o = 37 ∧ 65 * u ≤ p ∧ p < 65 * u + 65) → a o p = m o p := fun o p z => by rw [ha, if_neg z]
    cases e2 : isL cc 2 with
    | true =>
      have n17 : ¬ cc = 17 := fun q => by rw [q] at e2; exact absurd e2 (by decide)
      have n24 : ¬ cc = 24 := fun q => by rw [q] at e2; exact absurd e2 (by decide)
      rw [fin (uI (uI (uI a 37 (65 * u + 0) (nI cc)) 37 (65 * u + 62) 200) 37 (65 * u + 12) 3) (by
        intro k hk
        unfold P0
        by_cases k12 : k = 12
        · subst k12; rw [uI_same, if_neg (by omega), if_neg (by omega), if_pos ⟨rfl, e2⟩]
        · rw [uI_at (by omega), if_neg (show ¬ (k = 12 ∧ _) from fun z => k12 z.1), if_neg (show ¬ (k = 46 ∧ _) from fun z => n17 z.2), if_neg (show ¬ (k = 55 ∧ _) from fun z => n24 z.2)]
          by_cases k62 : k = 62
          · subst k62; rw [uI_same]; rfl
          · rw [uI_at (by omega), if_neg k62]
            by_cases k0 : k = 0
            · subst k0; rw [uI_same, if_pos rfl]
            · rw [uI_at (by omega), if_neg k0, ha0 k hk]) (fun o p z => by rw [uI_at (by omega), uI_at (by omega), uI_at (by omega)]; exact hao o p z)]
      simp only [s0, b1e, st_62 hu, hs, e2, b2t, if_false, st_12 hu, c17, if_neg n17, c24, if_neg n24]
    | false =>
      by_cases q17 : cc = 17
      · have n24 : ¬ cc = 24 := by omega
        rw [fin (uI (uI (uI a 37 (65 * u + 0) (nI cc)) 37 (65 * u + 62) 200) 37 (65 * u + 46) 7) (by
          intro k hk
          unfold P0
          by_cases k12 : k = 46
          · subst k12; rw [uI_same, if_neg (by omega), if_neg (by omega), if_neg (by omega), if_pos ⟨rfl, q17⟩]
          · rw [uI_at (by omega), if_neg (show ¬ (k = 46 ∧ _) from fun z => k12 z.1), if_neg (show ¬ (k = 12 ∧ isL cc 2 = true) from fun z => by rw [e2] at z; exact absurd z.2 (by decide)), if_neg (show ¬ (k = 55 ∧ _) from fun z => n24 z.2)]
            by_cases k62 : k = 62
            · subst k62; rw [uI_same]; rfl
            · rw [uI_at (by omega), if_neg k62]
              by_cases k0 : k = 0
              · subst k0; rw [uI_same, if_pos rfl]
              · rw [uI_at (by omega), if_neg k0, ha0 k hk]) (fun o p z => by rw [uI_at (by omega), uI_at (by omega), uI_at (by omega)]; exact hao o p z)]
        simp only [s0, b1e, st_62 hu, hs, e2, b2f, if_true, st_46 hu, c17, if_pos q17, c24, if_neg n24]
      · by_cases q24 : cc = 24
        · rw [fin (uI (uI (uI a 37 (65 * u + 0) (nI cc)) 37 (65 * u + 62) 200) 37 (65 * u + 55) 5) (by
            intro k hk
            unfold P0
            by_cases k12 : k = 55
            · subst k12; rw [uI_same, if_neg (by omega), if_neg (by omega), if_neg (by omega), if_neg (by omega), if_pos ⟨rfl, q24⟩]
            · rw [uI_at (by omega), if_neg (show ¬ (k = 55 ∧ _) from fun z => k12 z.1), if_neg (show ¬ (k = 12 ∧ isL cc 2 = true) from fun z => by rw [e2] at z; exact absurd z.2 (by decide)), if_neg (show ¬ (k = 46 ∧ _) from fun z => q17 z.2)]
              by_cases k62 : k = 62
              · subst k62; rw [uI_same]; rfl
              · rw [uI_at (by omega), if_neg k62]
                by_cases k0 : k = 0
                · subst k0; rw [uI_same, if_pos rfl]
                · rw [uI_at (by omega), if_neg k0, ha0 k hk]) (fun o p z => by rw [uI_at (by omega), uI_at (by omega), uI_at (by omega)]; exact hao o p z)]
          simp only [s0, b1e, st_62 hu, hs, e2, b2f, if_true, st_55 hu, c17, if_neg q17, c24, if_pos q24]
        · rw [fin (uI (uI a 37 (65 * u + 0) (nI cc)) 37 (65 * u + 62) 200) (by
            intro k hk
            unfold P0
            rw [if_neg (show ¬ (k = 12 ∧ isL cc 2 = true) from fun z => by rw [e2] at z; exact absurd z.2 (by decide)), if_neg (show ¬ (k = 46 ∧ _) from fun z => q17 z.2), if_neg (show ¬ (k = 55 ∧ _) from fun z => q24 z.2)]
            by_cases k62 : k = 62
            · subst k62; rw [uI_same]; rfl
            · rw [uI_at (by omega), if_neg k62]
              by_cases k0 : k = 0
              · subst k0; rw [uI_same, if_pos rfl]
              · rw [uI_at (by omega), if_neg k0, ha0 k hk]) (fun o p z => by rw [uI_at (by omega), uI_at (by omega)]; exact hao o p z)]
          simp only [s0, b1e, st_62 hu, hs, e2, b2f, if_true, c17, if_neg q17, c24, if_neg q24]
  obtain ⟨b, hb, epre⟩ := pre
  obtain ⟨m6, f1, f2, f3⟩ := fl_ok (N := N) (pb := pb) (L := L) (m := b) (c := cc) (by omega) (hM2 b (fun o p z => by rw [hb, if_neg (fun q => z q.1)])) hc
  obtain ⟨m7, g1, g2, g3⟩ := loop1 (f := fun k i I => LF_X12_make_93 N k 24 (nI u) (nI (chn cc).length) (nI i) I L (GRf pb)) (R := fun i a => (∀ o p, o ≠ 42 → a o p = m6 o p) ∧ ∀ j, j < i → a 42 j = m6 41 j) (Q := fun a => (∀ o p, o ≠ 42 → a o p = m6 o p) ∧ ∀ j, j < (chn cc).length → a 42 j = m6 41 j) (chn cc).length (by
    intro k a ha
    exact ⟨a, by simp only [LF_X12_make_93, if_pos (nI_le (Nat.le_refl (chn cc).length) (by omega))], ha⟩) (by
    intro k i a hi ha
    refine ⟨uI a 42 i (m6 41 i), ?_, ?_, ?_⟩
    · simp only [LF_X12_make_93, if_neg (nI_ge hi (by omega)), rf_24_33, bse, rf_24_32, ri_nI ln_41 (show i < 6 by omega) (show 6 < 2 ^ 31 by decide), ha.1 41 i (by decide), wi_nI ln_42 (show i < 6 by omega) (show 6 < 2 ^ 31 by decide), wre, nI_1]
    · intro o p z; rw [uI_at (fun q => z q.1)]; exact ha.1 o p z
    · intro j hj
      by_cases q : j = i
      · subst q; rw [uI_same]
      · rw [uI_at (by omega)]; exact ha.2 j (by omega)) (chn cc).length 0 N m6 (by omega) (by omega) ⟨fun _ _ _ => rfl, fun j hj => by omega⟩
  have g1 : LF_X12_make_93 N N 24 (nI u) (nI (chn cc).length) 0 m6 L (GRf pb) = some m7 := g1
  refine ⟨m7 41, m7 42, fun i hi => by rw [g3 i hi]; exact f2 i hi, ?_⟩
  intro γ f
  have em : m7 = mS u (S0 cc m) m (m7 41) (m7 42) := by
    funext o p
    by_cases z41 : o = 41
    · subst z41; unfold mS; rw [if_pos rfl]
    by_cases z42 : o = 42
    · subst z42; unfold mS; rw [if_neg (by decide), if_pos rfl]
    rw [g2 o p z42, f3 o p (fun q => z41 q.1), hb]
    unfold mS S0
    rw [if_neg z41, if_neg z42]
    by_cases z1 : o = 37 ∧ 65 * u ≤ p ∧ p < 65 * u + 65
    · rw [if_pos z1, if_pos z1, if_pos rfl]
    · rw [if_neg z1, if_neg z1]
      by_cases z2 : o = 24 ∧ 25 ≤ p ∧ p ≤ 28
      · rw [if_pos z2, if_neg (by decide), if_pos (by omega), z2.1, show 25 + (p - 25) = p by omega]
      · rw [if_neg z2]
        by_cases z3 : 38 ≤ o ∧ o ≤ 40 ∧ p < 100
        · rw [if_pos z3, if_neg (by omega), if_neg (by omega), if_pos (by omega), show 36 + (o - 36) = o by omega]
        · rw [if_neg z3]
  rw [e1, b1e, epre, f1, b2e, g1, b1e, ← em]
end P12
