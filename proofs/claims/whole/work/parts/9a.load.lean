/-! T3: load -/
/-- no two units have one name -/
def DN (n : Nat) (L : ML) : Prop := ∀ u v, u < v → v < n → L (U u) 3 ≠ L (U v) 3
section P36
variable {N n : Nat} {cd : Nat → Nat} {pb : Nat} {L : ML} {B D : Nat} {c m c4 : MI}
/-- the relation behind a load -/
theorem RC_fresh (hn : n ≤ 20) (hpb : pb ≤ 1) (hB : B < 2 ^ 30) (hD : D < 2 ^ 30) (h3 : c 1 3 = nI n) (h21 : m 24 21 = nI n) (htm : TM m) (hrt : RT c m) (hk : ∀ v, v < n → kin (cd v)) (hft : ∀ v, v < n → FT n cd v (fun k => m 36 (3 * v + k)))
    (huf : ∀ v, v < n → UF n cd L v c4 m) (hc4 : ∀ o p, (58 ≤ o ∧ o < 142) → ¬ (p = 64 ∧ ∃ v, v < n ∧ o = U v + 1) → c o p = c4 o p) (h64 : ∀ v, v < n → c (U v + 1) 64 = m 37 (65 * v + 64))
    (hs : ∀ j, j ≤ 3 → c 1 (4 + j) = m 24 (25 + j)) (h18 : c 1 8 = 0) (hno : ∀ k j, k < 100 → j < 3 → c 3 (3 * k + j) = m (38 + j) k) (hd : nn (m 24 25) (29 * n)) (ha : nn (m 24 26) (6 * n)) (hnn : nn (m 24 28) (29 * n))
    (zm : ∀ p, clP p → ¬ (25 ≤ p ∧ p ≤ 28) → m 24 p = 0) (zc10 : ∀ p, 6 ≤ p → p ≤ 12 → c 10 p = 0) (zc16 : ∀ p, 2 ≤ p → p ≤ 5 → c 16 p = 0) (zc18 : c 18 1 = 0) (zpl : c (20 + 2 * pb) 2 = 0)
    (zca : ∀ p, p < 3 → c 13 p = 0 ∧ c 14 p = 0 ∧ c 15 p = 0) (zma : ∀ p, p < 3 → m 43 p = 0 ∧ m 44 p = 0 ∧ m 45 p = 0) (hdn : ∀ p, p < 500 → c 19 p = m 46 p) : ∃ s', RC n cd pb L 0 s' B D c m := by
  have sc : ∀ x ∈ scT, c x.1 x.2.1 = m 24 x.2.2 := by
    intro x hx
    simp only [scT, List.mem_cons, List.not_mem_nil, or_false] at hx
    rcases hx with rfl | rfl | rfl | rfl | rfl | rfl | rfl | rfl | rfl | rfl | rfl | rfl | rfl | rfl | rfl | rfl | rfl
    · exact hs 0 (by decide)
    · exact hs 1 (by decide)
    · exact hs 2 (by decide)
    · exact hs 3 (by decide)
    · exact h18.trans (zm 46 (by unfold clP; omega) (by omega)).symm
    · exact (zc10 6 (by omega) (by omega)).trans (zm 34 (by unfold clP; omega) (by omega)).symm
    · exact (zc10 7 (by omega) (by omega)).trans (zm 35 (by unfold clP; omega) (by omega)).symm
    · exact (zc10 8 (by omega) (by omega)).trans (zm 47 (by unfold clP; omega) (by omega)).symm
    · exact (zc10 9 (by omega) (by omega)).trans (zm 41 (by unfold clP; omega) (by omega)).symm
    · exact (zc10 10 (by omega) (by omega)).trans (zm 42 (by unfold clP; omega) (by omega)).symm
    · exact (zc10 11 (by omega) (by omega)).trans (zm 44 (by unfold clP; omega) (by omega)).symm
    · exact (zc10 12 (by omega) (by omega)).trans (zm 45 (by unfold clP; omega) (by omega)).symm
    · exact (zc16 2 (by omega) (by omega)).trans (zm 48 (by unfold clP; omega) (by omega)).symm
    · exact (zc16 3 (by omega) (by omega)).trans (zm 49 (by unfold clP; omega) (by omega)).symm
    · exact (zc16 4 (by omega) (by omega)).trans (zm 39 (by unfold clP; omega) (by omega)).symm
    · exact (zc16 5 (by omega) (by omega)).trans (zm 40 (by unfold clP; omega) (by omega)).symm
    · exact zc18.trans (zm 43 (by unfold clP; omega) (by omega)).symm
  have nv : ∀ v p, v < n → (p ≤ 9) → c (U v) p = c4 (U v) p := fun v p hv hp => by
    have e : U v = 58 + 4 * v := rfl
    refine hc4 _ _ (by omega) ?_
    rintro ⟨z, -⟩
    omega
  have n2 : ∀ v p, v < n → p < 5 → c (U v + 2) p = c4 (U v + 2) p := fun v p hv hp => by
    have e : U v = 58 + 4 * v := rfl
    refine hc4 _ _ (by omega) ?_
    rintro ⟨z, -⟩
    omega
  refine ⟨if m 24 50 = 0 then 0 else 2 ^ 40, ?_, ⟨hn, hpb, h3, h21, htm, hrt, ⟨0, by omega, zm 54 (by unfold clP; omega) (by omega), zpl, fun i hi => absurd hi (by omega)⟩, fun v hv => ?_⟩, ⟨zm 34 (by unfold clP; omega) (by omega), by omega, ?_, ?_, hD, hB, ⟨0, 0, ?_, ?_, by omega, ?_, ?_⟩, ?_, fun v hv h5 => ?_, fun v hv => ?_⟩⟩
  · intro o p a b ht hg
    rcases ht with ⟨u, g1, g2, g3, g4, g5, g6⟩ | ⟨g0, g⟩ | ⟨g1, g2, g⟩ | g | ⟨g1, g2, g3, g4⟩ | ⟨g1, g2, g3, g4, g5⟩
    · obtain ⟨P, a1, b1, b2, b3, b4, b5, b6, b7⟩ := huf u g3.1
      have e : U u = 58 + 4 * u := rfl
      rw [g4, g5, g6, show 59 + 4 * u = U u + 1 by omega]
      by_cases q : p = 64
      · rw [q]; exact h64 u g3.1
      · rw [hc4 _ _ (by omega) (fun z => q z.1), b1 p g2, b2 p g2 q]
        unfold ovl
        by_cases z1 : p = 1
        · rw [if_pos z1, z1]; exact b6.1.symm
        rw [if_neg z1]
        by_cases z2 : p = 12
        · rw [if_pos z2, z2]; exact (b6.2.1 (g3.2.1 z2)).symm
        rw [if_neg z2]
        by_cases z3 : p = 46
        · rw [if_pos z3, z3]; exact (b6.2.2.1 (g3.2.2.1 z3)).symm
        rw [if_neg z3]
        by_cases z4 : p = 55
        · rw [if_pos z4, z4]; exact (b6.2.2.2 (g3.2.2.2.1 z4)).symm
        rw [if_neg z4]
    · rw [g0]; exact sc _ g
    · rw [g2]
      rcases g with ⟨rfl, rfl⟩ | ⟨rfl, rfl⟩ | ⟨rfl, rfl⟩
      · rw [(zca p g1).1, (zma p g1).1]
      · rw [(zca p g1).2.1, (zma p g1).2.1]
      · rw [(zca p g1).2.2, (zma p g1).2.2]
    · obtain ⟨g1, g2, g3, g4, g5⟩ := g
      have := hno b (a - 38) g2 (by omega)
      rw [show 38 + (a - 38) = a by omega, ← g5] at this
      rw [g1]; exact this
    · rw [g1, g2, g4]; exact hdn p g3
    · have y := hg (by omega)
      rw [zm 54 (by unfold clP; omega) (by omega)] at y
      exact absurd y (Nat.not_lt_zero _)
  · obtain ⟨P, ⟨a1, a2, a3, a4, a5⟩, b1, b2, b3, b4, b5, b6, b7, b8, b9⟩ := huf v hv
    have my := mny_3 (cd v)
    have hl := chn_len (cd v) (hk v hv).lt
    refine ⟨hk v hv, by rw [nv v 8 hv (by omega)]; exact a1, by rw [nv v 7 hv (by omega)]; exact a2, fun i hi => by rw [n2 v i hv (by omega)]; exact a3 i hi, ?_, b5.congr (fun k hk hdy => b2 k hk (fun z => hdy (by unfold dynP; omega))), hft v hv, fun i hi => by rw [nv v _ hv (by omega)]; exact a4 i hi, b9⟩
    have := b2 0 (by decide) (by decide)
    rw [Nat.add_zero] at this
    rw [this]; exact b4
  · rw [zm 35 (by unfold clP; omega) (by omega)]; exact nn0
  · rw [zm 43 (by unfold clP; omega) (by omega)]; exact nn0
  · exact zm 39 (by unfold clP; omega) (by omega)
  · exact zm 40 (by unfold clP; omega) (by omega)
  · by_cases q : m 24 50 = 0
    · rw [if_pos q]; exact Or.inl (by omega)
    · rw [if_neg q]; exact Or.inr rfl
  · by_cases q : m 24 50 = 0
    · rw [if_pos q]; exact ⟨fun _ => rfl, fun _ => q⟩
    · rw [if_neg q]; exact ⟨fun z => absurd z q, fun z => absurd z (by decide)⟩
  · obtain ⟨d, d1, d2⟩ := hd
    obtain ⟨a, a1, a2⟩ := ha
    exact ⟨0, d, a, by omega, by omega, by omega, zm 46 (by unfold clP; omega) (by omega), d2, a2, hnn.mono (by omega)⟩
  · obtain ⟨P, ⟨a1, a2, a3, a4, a5⟩, b1, b2, b3, b4, b5, b6, b7, b8, b9⟩ := huf v hv
    obtain ⟨r, r1, r2⟩ := b5.1
    refine ⟨0, 0, r, by decide, by omega, r1, ?_, ?_, ?_, fun i hi => absurd hi (by omega)⟩
    · rw [nv v 9 hv (by omega)]; exact a5
    · rw [b2 10 (by decide) (by decide), b8 h5]; rfl
    · rw [b2 9 (by decide) (by decide)]; exact r2
  · obtain ⟨P, -, -, b2, -, -, -, -, b7, -⟩ := huf v hv
    rw [b2 63 (by decide) (by decide)]; exact Or.inl b7
end P36
section P37
variable {N n : Nat} {cd : Nat → Nat} {pb : Nat} {L Lr : ML} {t s0 B D : Nat} {c m : MI}
theorem sizeT : F_X8_size 4 c L (GRf pb) = some (c 4 1) := by simp only [F_X8_size, ck_4, if_true]
theorem emptyT : F_X8_empty 4 c L (GRf pb) = some (uI c 4 1 0) := by simp only [F_X8_empty, ck_4, if_true, wre]
theorem DN.Lc {L' : ML} (h : DN n L) (hn : n ≤ 20) (e : ∀ o p, 58 ≤ o → L' o p = L o p) : DN n L' := fun u v h1 h2 => by
  have e1 : U u = 58 + 4 * u := rfl
  have e2 : U v = 58 + 4 * v := rfl
  rw [e _ _ (by omega), e _ _ (by omega)]
  exact h u v h1 h2
theorem load_ok (hN : 5000 ≤ N) (x : Int32) (h : RC n cd pb L t s0 B D c m) (hdn : DN n L) :
    (∃ v c' L' m' n' cd' t' s', F_X11_load N 0 x c L (GRf pb) = some (.inr (v, c', L')) ∧ F_X12_load N 24 x m Lr (GRf pb) = some (v, m') ∧ m' 24 5 = 0 ∧ t' ≤ t ∧ RC n' cd' pb L' t' s' B D c' m' ∧ DN n' L') ∨
    (∃ v m', F_X11_load N 0 x c L (GRf pb) = some (.inl "java/lang/IllegalArgumentException") ∧ F_X12_load N 24 x m Lr (GRf pb) = some (v, m') ∧ m' 24 5 = 1 ∧ RC n cd pb L t s0 B D c m') := by
  have h0 := h.t5 (v := 0)
  have hpb := h.pb1
  rcases begins_ok (N := N) (pb := pb) (L := L) (Lr := Lr) hN h0.rt x with ⟨hx, e⟩ | ⟨k, c1, m1, x0, xl, e1, e2, hR, hO, fc, fm, m7⟩
  · refine Or.inr ⟨0, uI (uI m 24 5 0) 24 5 1, ?_, ?_, uI_same, h0.t5⟩
    · rcases hx with hx | ⟨hx, hy⟩
      · simp only [F_X11_load, ck_0, if_true, if_pos hx]
      · simp only [F_X11_load, ck_0, if_true, if_neg hx, rf_0_0, bse, sizeT, b1e, if_neg hy]
    · simp only [F_X12_load, ck_24, if_true, wre, e, b2e, b2f]
  · left
    have tm1 : TM m1 := h0.tm.cg (fun o p z => fm o p (by omega) (by omega))
    obtain ⟨c2, L2, m2, cb, lb, mb, e3, h5⟩ := book_ok (N := N) (pb := pb) (L := L) (Lr := Lr) hN tm1 ⟨0, hR⟩ hO
    have c2o : ∀ o p, o ≠ 4 → o ≠ 6 → o ≠ 7 → o ≠ 9 → c2 o p = c o p := fun o p z1 z2 z3 z4 => by rw [cb o p (by omega), fc o p (by omega)]
    have m2o : ∀ o p, ¬ (o = 24 ∧ (p = 7 ∨ (9 ≤ p ∧ p ≤ 17))) → ¬ (31 ≤ o ∧ o ≤ 34) → m2 o p = uI m 24 5 0 o p := fun o p z1 z2 => by rw [mb o p (by omega), fm o p (by omega) (by omega)]
    have m25 : m2 24 5 = 0 := by rw [m2o 24 5 (by omega) (by omega), uI_same]
    have m27 : m2 24 7 = 0 := by rw [mb 24 7 (by omega)]; exact m7
    rcases h5 with ⟨h5, h6, k', h7⟩ | ⟨h5, h6⟩
    · obtain ⟨b1, b2, b3, b4, b5⟩ := h7
      -- the class's memory when the making begins, and the reference's
      generalize hcb : uI (uI (uI (uI (uI (uI (uI c2 4 1 0) 1 3 (nI k')) 1 4 0) 1 5 0) 1 6 0) 1 7 0) 1 8 0 = c3
      have c3o : ∀ o p, ¬ (o = 4 ∧ p = 1) → ¬ (o = 1 ∧ 3 ≤ p ∧ p ≤ 8) → c3 o p = c2 o p := fun o p z1 z2 => by
        rw [← hcb, uI_at (by omega), uI_at (by omega), uI_at (by omega), uI_at (by omega), uI_at (by omega), uI_at (by omega), uI_at (by omega)]
      have c313 : c3 1 3 = nI k' := by rw [← hcb, uI_at (by omega), uI_at (by omega), uI_at (by omega), uI_at (by omega), uI_at (by omega), uI_same]
      have c314 : c3 1 4 = 0 := by rw [← hcb, uI_at (by omega), uI_at (by omega), uI_at (by omega), uI_at (by omega), uI_same]
      have c315 : c3 1 5 = 0 := by rw [← hcb, uI_at (by omega), uI_at (by omega), uI_at (by omega), uI_same]
      have c316 : c3 1 6 = 0 := by rw [← hcb, uI_at (by omega), uI_at (by omega), uI_same]
      have c317 : c3 1 7 = 0 := by rw [← hcb, uI_at (by omega), uI_same]
      have c318 : c3 1 8 = 0 := by rw [← hcb]; exact uI_same
      have c341 : c3 4 1 = 0 := by rw [← hcb, uI_at (by omega), uI_at (by omega), uI_at (by omega), uI_at (by omega), uI_at (by omega), uI_at (by omega), uI_same]
      obtain ⟨mA, f1, f2, f3⟩ := copy_53 (N := N) (pb := pb) (L := Lr) (m := uI m2 24 21 (m2 24 17)) hN
      obtain ⟨mB, f4, f5, f6⟩ := copy_80 (N := N) (pb := pb) (L := Lr) (m := mA) hN
      obtain ⟨mC, f7, f8, f9, f10⟩ := clearM_ok (N := N) (pb := pb) (L := Lr) (m := mB) hN
      have mCo : ∀ o p, ¬ (o = 24 ∧ (clP p ∨ p = 21)) → o ≠ 35 → o ≠ 36 → o ≠ 43 → o ≠ 44 → o ≠ 45 → mC o p = m2 o p := fun o p z1 z2 z3 z4 z5 z6 => by
        rw [f10 o p (fun q => z1 ⟨q.1, Or.inl q.2⟩) z4 z5 z6, f6 o p z3, f3 o p z2, uI_at (fun q => z1 ⟨q.1, Or.inr q.2⟩)]
      have mC21 : mC 24 21 = nI k' := by
        rw [f10 24 21 (by unfold clP; omega) (by omega) (by omega) (by omega), f6 24 21 (by omega), f3 24 21 (by omega), uI_same]; exact b3
      have mC35 : ∀ j, j < 160 → mC 35 j = m2 33 j := fun j hj => by
        rw [f10 35 j (by omega) (by omega) (by omega) (by omega), f6 35 j (by omega), f2 j hj, uI_at (by omega)]
      have mC36 : ∀ j, j < 60 → mC 36 j = m2 34 j := fun j hj => by
        rw [f10 36 j (by omega) (by omega) (by omega) (by omega), f5 j hj, f3 34 j (by omega), uI_at (by omega)]
      have tmC : TM mC := h0.tm.cg (fun o p z => by rw [mCo o p (by omega) (by omega) (by omega) (by omega) (by omega) (by omega)]; exact m2o o p (by omega) (by omega))
      have cdk : ∀ u, u < k' → ∃ i, i < 22 ∧ m2 32 u = nI (kcN.getD i 0) ∧ cdM m2 u = kcN.getD i 0 := fun u hu => by
        obtain ⟨i, i1, i2⟩ := (b4 u hu).2.1
        refine ⟨i, i1, i2, ?_⟩
        unfold cdM
        rw [i2, vN_nI (by have := (kcN_kin i i1).lt; omega)]
      have hkin : ∀ u, u < k' → kin (cdM m2 u) := fun u hu => by
        obtain ⟨i, i1, -, i3⟩ := cdk u hu
        rw [i3]; exact kcN_kin i i1
      have h32 : ∀ u, u < k' → m2 32 u = nI (cdM m2 u) := fun u hu => by
        obtain ⟨i, -, i2, i3⟩ := cdk u hu
        rw [i2, i3]
      have ftC : ∀ u, u < k' → FT k' (cdM m2) u (fun y => mC 36 (3 * u + y)) := fun u hu => ((b4 u hu).2.2.2.2.mono (by omega)).cgx (fun _ _ => rfl) rfl (fun y hy => mC36 _ (by omega))
      have bq : BQ k' (cdM m2) c3 L2 mC := fun u hu => by
        obtain ⟨g1, g2, g3, g4, g5⟩ := b4 u hu
        have my := mny_3 (cdM m2 u)
        refine ⟨hkin u hu, ?_, ?_, ftC u hu, fun y hy => ?_, fun l hl => ?_⟩
        · rw [c3o 7 u (by omega) (by omega), g1]; exact h32 u hu
        · rw [mCo 32 u (by omega) (by omega) (by omega) (by omega) (by omega) (by omega)]; exact h32 u hu
        · rw [c3o 9 _ (by omega) (by omega), mC36 _ (by omega)]; exact g4 y hy
        · rw [mC35 _ (by omega)]; exact g3 l hl
      have n38 : ∀ k j, k < 100 → j < 3 → c3 3 (3 * k + j) = mC (38 + j) k := fun k j hk hj => by
        rw [c3o 3 _ (by omega) (by omega), c2o 3 _ (by omega) (by omega) (by omega) (by omega), mCo _ _ (by omega) (by omega) (by omega) (by omega) (by omega) (by omega), m2o _ _ (by omega) (by omega)]
        exact h0.1 3 (3 * k + j) (38 + j) k (Or.inr (Or.inr (Or.inr (Or.inl ⟨rfl, hk, by omega, by omega, by omega⟩)))) (fun z => absurd z (by decide))
      have rb0 : RB k' (cdM m2) c3 L2 mC 0 (c3, L2) mC := by
        refine ⟨fun v hv => absurd hv (by omega), fun j hj => ?_, n38, ?_, ?_, ?_, fun _ _ _ _ _ => rfl, fun _ _ _ _ => rfl, fun _ _ _ => rfl⟩
        · show c3 1 (4 + j) = _
          rcases (show j = 0 ∨ j = 1 ∨ j = 2 ∨ j = 3 by omega) with rfl | rfl | rfl | rfl
          · exact c314.trans (f9 25 (by unfold clP; omega)).symm
          · exact c315.trans (f9 26 (by unfold clP; omega)).symm
          · exact c316.trans (f9 27 (by unfold clP; omega)).symm
          · exact c317.trans (f9 28 (by unfold clP; omega)).symm
        · rw [f9 25 (by unfold clP; omega)]; exact nn0
        · rw [f9 26 (by unfold clP; omega)]; exact nn0
        · rw [f9 28 (by unfold clP; omega)]; exact nn0
      obtain ⟨⟨c4, L4⟩, mE, i1, i2, r1, r2, r3, r4, r5, r6, r7, r8, r9⟩ := build_ok (N := N) (pb := pb) (Lr := Lr) hN b1 c313 mC21 tmC.1 bq rb0
      have r1 : ∀ v, v < k' → UF k' (cdM m2) L4 v c4 mE := r1
      have r7 : ∀ o p, ¬ (o = 1 ∧ 4 ≤ p ∧ p ≤ 7) → o ≠ 3 → (o < 58 ∨ 142 ≤ o) → c4 o p = c3 o p := r7
      have r9 : ∀ o p, ¬ (58 ≤ o ∧ o < 142) → L4 o p = L2 o p := r9
      obtain ⟨c5, j1, j2, j3⟩ := judge_all (N := N) (pb := pb) (Lr := L4) hN b1 (by rw [r7 1 3 (by omega) (by omega) (by omega)]; exact c313) hkin r1
      obtain ⟨c6, l1, l2, l3, l4, l5, l6, l7⟩ := begin_ok (N := N) (pb := pb) (L := L4) (c := c5) hN hpb
      have c6o : ∀ o p, o ≠ 10 → o ≠ 13 → o ≠ 14 → o ≠ 15 → o ≠ 16 → ¬ (o = 18 ∧ p = 1) → ¬ (o = 20 + 2 * pb ∧ p = 2) → (o < 58 ∨ 142 ≤ o) → c6 o p = c4 o p := fun o p z1 z2 z3 z4 z5 z6 z7 z8 => by
        rw [l7 o p z1 z2 z3 z4 z5 z6 z7]
        refine j2 o p ?_
        rintro ⟨-, v, hv, q⟩
        have ev : U v = 58 + 4 * v := rfl
        omega
      have c6c : ∀ o p, o ≠ 1 → o ≠ 3 → o ≠ 4 → o ≠ 6 → o ≠ 7 → o ≠ 9 → o ≠ 10 → o ≠ 13 → o ≠ 14 → o ≠ 15 → o ≠ 16 → ¬ (o = 18 ∧ p = 1) → ¬ (o = 20 + 2 * pb ∧ p = 2) → (o < 58 ∨ 142 ≤ o) → c6 o p = c o p := fun o p y1 y2 y3 y4 y5 y6 z1 z2 z3 z4 z5 z6 z7 z8 => by
        rw [c6o o p z1 z2 z3 z4 z5 z6 z7 z8, r7 o p (by omega) y2 z8, c3o o p (by omega) (by omega), c2o o p y3 y4 y5 y6]
      have mEo : ∀ o p, ¬ (o = 24 ∧ (clP p ∨ p = 21 ∨ p = 7 ∨ (9 ≤ p ∧ p ≤ 17))) → ¬ (31 ≤ o ∧ o ≤ 45) → mE o p = uI m 24 5 0 o p := fun o p z1 z2 => by
        rw [r8 o p (fun q => z1 ⟨q.1, Or.inl (by unfold clP; omega)⟩) (by omega), mCo o p (fun q => z1 ⟨q.1, q.2.elim (fun w => Or.inl w) (fun w => Or.inr (Or.inl w))⟩) (by omega) (by omega) (by omega) (by omega) (by omega), m2o o p (fun q => z1 ⟨q.1, Or.inr (Or.inr q.2)⟩) (by omega)]
      have mE21 : mE 24 21 = nI k' := by rw [r8 24 21 (by omega) (by omega)]; exact mC21
      have mE5 : mE 24 5 = 0 := by rw [r8 24 5 (by omega) (by omega), mCo 24 5 (by unfold clP; omega) (by omega) (by omega) (by omega) (by omega) (by omega)]; exact m25
      have mE24 : ∀ p, ¬ clP p → p ≠ 21 → mE 24 p = m2 24 p := fun p z1 z2 => by
        rw [r8 24 p (by unfold clP at z1; omega) (by omega), mCo 24 p (by rintro ⟨-, q⟩; rcases q with q | q; exact z1 q; exact z2 q) (by omega) (by omega) (by omega) (by omega) (by omega)]
      obtain ⟨-, -, -, -, hD, hB, -⟩ := h.2.2
      have fin : ∃ s', RC k' (cdM m2) pb L4 0 s' B D c6 mE := by
        refine RC_fresh (c4 := c4) b1 hpb hB hD ?_ mE21 ?_ ?_ hkin ?_ r1 (fun o p z1 z2 => ?_) (fun v hv => ?_) (fun j hj => ?_) ?_ (fun k j hk hj => ?_) r4 r5 r6 (fun p z1 z2 => ?_) l6 l3 l4 l5 l2 (fun p hp => ?_) (fun p hp => ?_)
        · rw [c6o 1 3 (by omega) (by omega) (by omega) (by omega) (by omega) (by omega) (by omega) (by omega), r7 1 3 (by omega) (by omega) (by omega)]; exact c313
        · exact tmC.cg (fun o p z => r8 o p (by omega) (by omega))
        · refine ⟨0, by omega, ?_, ?_, fun j hj => absurd hj (by omega), ?_, ?_⟩
          · rw [c6o 4 1 (by omega) (by omega) (by omega) (by omega) (by omega) (by omega) (by omega) (by omega), r7 4 1 (by omega) (by omega) (by omega)]; exact c341
          · rw [mE24 7 (by unfold clP; omega) (by omega)]; exact m27
          · rw [c6o 4 8 (by omega) (by omega) (by omega) (by omega) (by omega) (by omega) (by omega) (by omega), r7 4 8 (by omega) (by omega) (by omega), c3o 4 8 (by omega) (by omega), mE24 15 (by unfold clP; omega) (by omega), h6.1, h6.2.1]
          · rw [c6o 4 9 (by omega) (by omega) (by omega) (by omega) (by omega) (by omega) (by omega) (by omega), r7 4 9 (by omega) (by omega) (by omega), c3o 4 9 (by omega) (by omega), mE24 16 (by unfold clP; omega) (by omega)]; exact h6.2.2
        · intro v hv
          exact (ftC v hv).cgx (fun _ _ => rfl) rfl (fun y hy => r8 36 _ (by omega) (by omega))
        · rw [l7 o p (by omega) (by omega) (by omega) (by omega) (by omega) (by omega) (by omega)]
          exact j2 o p z2
        · have ev : U v = 58 + 4 * v := rfl
          rw [l7 _ _ (by omega) (by omega) (by omega) (by omega) (by omega) (by omega) (by omega)]
          exact j3 v hv
        · rw [c6o 1 _ (by omega) (by omega) (by omega) (by omega) (by omega) (by omega) (by omega) (by omega)]; exact r2 j hj
        · rw [c6o 1 8 (by omega) (by omega) (by omega) (by omega) (by omega) (by omega) (by omega) (by omega), r7 1 8 (by omega) (by omega) (by omega)]; exact c318
        · rw [c6o 3 _ (by omega) (by omega) (by omega) (by omega) (by omega) (by omega) (by omega) (by omega)]; exact r3 k j hk hj
        · rw [r8 24 p (by omega) (by omega)]; exact f9 p z1
        · rw [r8 43 p (by omega) (by omega), r8 44 p (by omega) (by omega), r8 45 p (by omega) (by omega)]; exact f8 p hp
        · rw [c6c 19 p (by omega) (by omega) (by omega) (by omega) (by omega) (by omega) (by omega) (by omega) (by omega) (by omega) (by omega) (by omega) (by omega) (by omega), mEo 46 p (by omega) (by omega)]
          exact h0.1 19 p 46 p (Or.inr (Or.inr (Or.inr (Or.inr (Or.inl ⟨rfl, rfl, hp, rfl⟩))))) (fun z => absurd z (by decide))
      obtain ⟨s', fin⟩ := fin
      have L4n : ∀ u, u < k' → ∀ l, l < 8 → letL (L4 (U u) 3) l = mE 35 (8 * u + l) := fun u hu => by
        obtain ⟨P, -, -, -, -, -, -, -, -, -, b9⟩ := r1 u hu
        exact b9
      refine ⟨nI k', c6, L4, mE, k', cdM m2, 0, s', ?_, ?_, mE5, Nat.zero_le _, fin, fun u v huv hv he => ?_⟩
      · have sz0 : F_X0_size 6 (uI c2 4 1 0) L2 (GRf pb) = some (nI k') := by
          simp only [F_X0_size, ck_6, if_true]
          rw [uI_at (by omega), b2]
        have sz1 : F_X10_size 1 c6 L4 (GRf pb) = some (nI k') := fin.size
        have bd : F_X10_build N 1 6 (uI c2 4 1 0) L2 (GRf pb) = some (c5, L4) := by
          simp only [F_X10_build, ck_1, ck_6, if_true, sz0, b1e, wre, hcb, i1, j1]
        simp only [F_X11_load, ck_0, if_true, if_neg x0, rf_0_0, rf_0_1, rf_0_2, rf_0_3, bse, sizeT, b1e, if_pos xl, e1, h5, b3e, wre, emptyT, b2t, if_false, bd, b2e, l1, sz1]
      · have z15 : m2 24 15 ≤ 0 := by rw [h6.2.1]; exact Int32.le_refl _
        simp only [F_X12_load, ck_24, if_true, wre, e2, b2e, b2t, if_false, e3, b1e, if_pos z15, f1, f4, f7, i2, mE21]
      · obtain ⟨l, hl, hne⟩ := b5 u v huv hv
        refine hne ?_
        rw [← mC35 _ (by omega), ← mC35 _ (by omega), ← r8 35 _ (by omega) (by omega), ← r8 35 _ (by omega) (by omega), ← L4n u (by omega) l hl, ← L4n v hv l hl, he]
    · refine ⟨-1, uI c2 4 1 0, L2, m2, n, cd, t, s0, ?_, ?_, m25, Nat.le_refl _, (h0.txt ?_ (fun o p z1 z2 z3 z4 z5 => ?_) (fun o p z1 z2 => ?_)).Lc (fun u hu => ?_), hdn.Lc h.n20 (fun o p z => lb o p (by omega) (by omega))⟩
      · simp only [F_X11_load, ck_0, if_true, if_neg x0, rf_0_0, rf_0_1, bse, sizeT, b1e, if_pos xl, e1, h5, b3e, wre, emptyT, b2f]
      · simp only [F_X12_load, ck_24, if_true, wre, e2, b2e, b2t, if_false, e3, b1e, if_neg h6.nle]
      · obtain ⟨e, g1, g2, g3, g4, g5⟩ := h6
        refine ⟨0, by omega, uI_same, m27, fun j hj => absurd hj (by omega), ?_, ?_⟩
        · rw [uI_at (by omega), g3, g4]
        · rw [uI_at (by omega)]; exact g5
      · rw [uI_at (by omega)]; exact c2o o p z1 z3 z4 z5
      · exact m2o o p (by omega) (by omega)
      · have ev : U u = 58 + 4 * u := rfl
        exact lb _ _ (by omega) (by omega)
end P37
