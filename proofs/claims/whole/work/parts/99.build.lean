/-! T3: the units of a book are made -/
/-- a unit that is made, not judged yet on the class's side -/
def UF (n : Nat) (cd : Nat → Nat) (L : ML) (v : Nat) (c m : MI) : Prop := ∃ P : Nat → Int32,
  (c (U v) 8 = bitsI (cd v) ∧ c (U v) 7 = nI (chn (cd v)).length ∧ (∀ i, i < (chn (cd v)).length → c (U v + 2) i = nI ((chn (cd v)).getD i 0)) ∧ (∀ i, i < mny (cd v) → c (U v) (4 + i) = m 36 (3 * v + i)) ∧ c (U v) 9 = 0) ∧
  (∀ p, p < 65 → c (U v + 1) p = ovl v P p) ∧ (∀ k, k < 65 → k ≠ 64 → m 37 (65 * v + k) = P k) ∧ m 37 (65 * v + 64) = (ansV 3 (cd v) P - P 6) &&& 1 ∧
  P 0 = nI (cd v) ∧ SI n cd v P ∧ (P 1 = nI v ∧ (isL (cd v) 2 = true → P 12 = 3) ∧ (cd v = 17 → P 46 = 7) ∧ (cd v = 24 → P 55 = 5)) ∧ P 63 = 0 ∧ (cd v = 5 → P 10 = 0) ∧ (∀ k, k < 8 → letL (L (U v) 3) k = m 35 (8 * v + k))
theorem UF.cg {n : Nat} {cd : Nat → Nat} {L L' : ML} {v : Nat} {c m c' m' : MI} (h : UF n cd L v c m) (hc : ∀ o p, (o = U v ∧ p ≤ 9) ∨ o = U v + 1 ∨ o = U v + 2 → c' o p = c o p) (hm : ∀ o p, (o = 37 ∧ 65 * v ≤ p ∧ p < 65 * v + 65) ∨ o = 36 ∨ o = 35 → m' o p = m o p) (hL : L' (U v) 3 = L (U v) 3) : UF n cd L' v c' m' := by
  obtain ⟨P, ⟨a1, a2, a3, a4, a5⟩, b1, b2, b3, b4, b5, b6, b7, b8, b9⟩ := h
  have := mny_3 (cd v)
  refine ⟨P, ⟨by rw [hc _ _ (by omega)]; exact a1, by rw [hc _ _ (by omega)]; exact a2, fun i hi => by rw [hc _ _ (by omega)]; exact a3 i hi, fun i hi => by rw [hc _ _ (by omega), hm _ _ (by omega)]; exact a4 i hi, by rw [hc _ _ (by omega)]; exact a5⟩, fun p hp => by rw [hc _ _ (by omega)]; exact b1 p hp, fun k hk h64 => by rw [hm _ _ (by omega)]; exact b2 k hk h64, by rw [hm _ _ (by omega)]; exact b3, b4, b5, b6, b7, b8, fun k hk => by rw [hL, hm _ _ (by omega)]; exact b9 k hk⟩
def RB (n : Nat) (cd : Nat → Nat) (c0 : MI) (L0 : ML) (m0 : MI) (i : Nat) (a : MI × ML) (m : MI) : Prop :=
  (∀ v, v < i → UF n cd a.2 v a.1 m) ∧ (∀ j, j ≤ 3 → a.1 1 (4 + j) = m 24 (25 + j)) ∧ (∀ k j, k < 100 → j < 3 → a.1 3 (3 * k + j) = m (38 + j) k) ∧
  nn (m 24 25) (29 * i) ∧ nn (m 24 26) (6 * i) ∧ nn (m 24 28) (29 * i) ∧
  (∀ o p, ¬ (o = 1 ∧ 4 ≤ p ∧ p ≤ 7) → o ≠ 3 → (o < 58 ∨ 142 ≤ o) → a.1 o p = c0 o p) ∧ (∀ o p, ¬ (o = 24 ∧ 25 ≤ p ∧ p ≤ 28) → ¬ (37 ≤ o ∧ o ≤ 42) → m o p = m0 o p) ∧ (∀ o p, ¬ (58 ≤ o ∧ o < 142) → a.2 o p = L0 o p)
/-- what a book says of its units -/
def BQ (n : Nat) (cd : Nat → Nat) (c : MI) (L : ML) (m : MI) : Prop := ∀ u, u < n → kin (cd u) ∧ c 7 u = nI (cd u) ∧ m 32 u = nI (cd u) ∧ FT n cd u (fun k => m 36 (3 * u + k)) ∧ (∀ y, y < mny (cd u) → c 9 (3 * u + y) = m 36 (3 * u + y)) ∧ ∀ l, l < 8 → letL (L 8 u) l = m 35 (8 * u + l)
section P35
variable {N n : Nat} {cd : Nat → Nat} {pb : Nat} {L Lr : ML} {c m : MI}
theorem build_step {i : Nat} {c0 : MI} {L0 : ML} {m0 : MI} {a : MI × ML} {b : MI} (hN : 5000 ≤ N) (hn : n ≤ 20) (hi : i < n) (h3 : c0 1 3 = nI n) (hM : CM m0) (hq : BQ n cd c0 L0 m0) (h : RB n cd c0 L0 m0 i a b) :
    ∃ a' b', F_X10_unitAt 1 (nI i) a.1 a.2 (GRf pb) = some (U i) ∧ (∃ c1, F_X9_describe N (U i) 6 (nI i) a.1 a.2 (GRf pb) = some (c1, a'.2) ∧ F_X10_unitAt 1 (nI i) c1 a'.2 (GRf pb) = some (U i) ∧ F_X10_make N 1 (U i) (nI i) c1 a'.2 (GRf pb) = some a'.1) ∧ F_X12_make N 24 (nI i) (nI (cd i)) b Lr (GRf pb) = some b' ∧ RB n cd c0 L0 m0 (i + 1) a' b' := by
  obtain ⟨k1, k2, k3, k4, k5, k6, k7, k8, k9⟩ := h
  obtain ⟨q1, q2, q3, q4, q5, q6⟩ := hq i hi
  have hc := q1.lt
  have e : U i = 58 + 4 * i := rfl
  have m36 : ∀ p, b 36 p = m0 36 p := fun p => k8 36 p (by omega) (by omega)
  have m35 : ∀ p, b 35 p = m0 35 p := fun p => k8 35 p (by omega) (by omega)
  have at0 : F_X10_unitAt 1 (nI i) a.1 a.2 (GRf pb) = some (U i) := unitAt_ok hn hi (by rw [k7 1 3 (by omega) (by omega) (by omega)]; exact h3)
  obtain ⟨c1, d1, d2, d3, d4, d5, d6, d7⟩ := desc_ok (N := N) (pb := pb) (L := a.2) (c := a.1) (u := i) hN (by omega) hc (by rw [k7 7 i (by omega) (by omega) (by omega)]; exact q2)
  have l8 : a.2 8 i = L0 8 i := k9 8 i (by omega)
  have at1 : ∀ LL, F_X10_unitAt 1 (nI i) c1 LL (GRf pb) = some (U i) := fun LL => unitAt_ok hn hi (by rw [d7 1 3 (by omega) (by omega) (by omega), k7 1 3 (by omega) (by omega) (by omega)]; exact h3)
  have my := mny_3 (cd i)
  have fe : (fun k => b 36 (3 * i + k)) = fun k => m0 36 (3 * i + k) := funext fun k => m36 _
  obtain ⟨S, x, y, e1, e2, inv, e63, e10⟩ := make_ok2 (N := N) (n := n) (u := i) (cd := cd) (pb := pb) (L := uL a.2 (U i) 3 (a.2 8 i)) (Lr := Lr) (c := c1) (m := b) (Kd := 29 * i) (Ka := 6 * i) (Kn := 29 * i) hN hn (by omega) hc q1 (by rw [fe]; exact q4) (fun j hj => by rw [k8 25 j (by omega) (by omega)]; exact hM j hj) (by omega) (by omega) (by omega) d2 d4 (fun y hy => by rw [d6 y (by omega), k7 9 _ (by omega) (by omega) (by omega), m36]; exact q5 y hy) d5
    (fun j hj => by rw [d7 1 _ (by omega) (by omega) (by omega)]; exact k2 j hj) (fun k j hk hj => by rw [d7 3 _ (by omega) (by omega) (by omega)]; exact k3 k j hk hj) k4 k5 k6
  obtain ⟨ce1, ce2, ce3⟩ := chn_end (cd i) hc
  have lo0 : 0 < loC (cd i) (chn (cd i)).length := ce3 0 (by decide) ((show ∀ c, c < 29 → isL c 0 = true by decide) _ hc)
  have hp := inv.hp lo0
  have si0 := inv.si ce3 (by rw [fe]; exact q4)
  generalize hw : (ansV 3 (cd i) (S 0) - S 0 6) &&& 1 = w at *
  have co : ∀ o p, ¬ (o = U i + 1 ∧ p < 65) → ¬ (o = 1 ∧ 4 ≤ p ∧ p ≤ 7) → ¬ (o = 3 ∧ p < 300) → ¬ (o = U i ∧ p = 9) → cS i S (uI c1 (U i) 9 0) o p = c1 o p := fun o p z1 z2 z3 z4 => by rw [cS_o z1 z2 z3, uI_at z4]
  have mo : ∀ o p, ¬ (o = 37 ∧ 65 * i ≤ p ∧ p < 65 * i + 65) → ¬ (o = 24 ∧ 25 ≤ p ∧ p ≤ 28) → ¬ (38 ≤ o ∧ o ≤ 40 ∧ p < 100) → o ≠ 41 → o ≠ 42 → mS i (uI S 0 64 w) b x y o p = b o p := fun o p z1 z2 z3 z4 z5 => mS_o z1 z2 z3 z4 z5
  have s1 : ∀ j, uI S 0 64 w 1 j = S 1 j := fun j => uI_at (by omega)
  have mc : ∀ j, j ≤ 3 → mS i (uI S 0 64 w) b x y 24 (25 + j) = S 1 j := fun j hj => by rw [mS_c hj, s1]
  refine ⟨(cS i S (uI c1 (U i) 9 0), uL a.2 (U i) 3 (a.2 8 i)), mS i (uI S 0 64 w) b x y, at0, ⟨c1, d1, at1 _, e1⟩, e2, fun v hv => ?_, fun j hj => ?_, fun k j hk hj => ?_, ?_, ?_, ?_, fun o p z1 z2 z3 => ?_, fun o p z1 z2 => ?_, fun o p z => ?_⟩
  · rcases Nat.lt_or_ge v i with z | z
    · have ev : U v = 58 + 4 * v := rfl
      refine (k1 v z).cg (fun o p g => ?_) (fun o p g => mo o p (by omega) (by omega) (by omega) (by omega) (by omega)) (by show uL _ _ _ _ _ _ = _; rw [uL_at (by omega)])
      show cS i S (uI c1 (U i) 9 0) o p = _
      rw [co o p (by omega) (by omega) (by omega) (by omega), d7 o p (by omega) (by omega) (by omega)]
    · have : v = i := by omega
      subst this
      refine ⟨S 0, ⟨?_, ?_, fun j hj => ?_, fun j hj => ?_, ?_⟩, fun p hp => ?_, fun k hk h64 => ?_, ?_, inv.1, si0, hp, e63, e10, fun k hk => ?_⟩
      · show cS v S (uI c1 (U v) 9 0) _ _ = _
        rw [co _ _ (by omega) (by omega) (by omega) (by omega)]; exact d3
      · show cS v S (uI c1 (U v) 9 0) _ _ = _
        rw [co _ _ (by omega) (by omega) (by omega) (by omega)]; exact d2
      · show cS v S (uI c1 (U v) 9 0) _ _ = _
        rw [co _ _ (by omega) (by omega) (by omega) (by omega)]; exact d4 j hj
      · show cS v S (uI c1 (U v) 9 0) _ _ = _
        rw [co _ _ (by omega) (by omega) (by omega) (by omega), mo _ _ (by omega) (by omega) (by omega) (by omega) (by omega), d6 j (by omega), k7 9 _ (by omega) (by omega) (by omega), m36]; exact q5 j hj
      · show cS v S (uI c1 (U v) 9 0) _ _ = _
        rw [cS_o (by omega) (by omega) (by omega), uI_same]
      · show cS v S (uI c1 (U v) 9 0) _ _ = _
        unfold cS
        rw [if_pos ⟨rfl, hp⟩]
      · rw [mS_r hk, uI_at (fun z => h64 z.2)]
      · rw [mS_r (by decide), uI_same, hw]
      · show letL (uL a.2 (U v) 3 (a.2 8 v) (U v) 3) k = _
        rw [uL_same, l8, mo _ _ (by omega) (by omega) (by omega) (by omega) (by omega), m35]; exact q6 k hk
  · show cS i S (uI c1 (U i) 9 0) 1 (4 + j) = _
    rw [cS_c hj, mc j hj]
  · show cS i S (uI c1 (U i) 9 0) 3 (3 * k + j) = _
    unfold cS mS
    rw [if_neg (by omega), if_neg (by omega), if_pos (by omega), if_neg (by omega), if_neg (by omega), if_neg (by omega), if_neg (by omega), if_pos (by omega), show 2 + (3 * k + j) % 3 = 2 + j by omega, show (3 * k + j) / 3 = k by omega, show 38 + j - 36 = 2 + j by omega, uI_at (by omega)]
  · show nn (mS i (uI S 0 64 w) b x y 24 (25 + 0)) _
    rw [mc 0 (by omega)]
    exact (inv.2.2.2.2.2.1).mono (by omega)
  · show nn (mS i (uI S 0 64 w) b x y 24 (25 + 1)) _
    rw [mc 1 (by omega)]
    exact (inv.2.2.2.2.2.2.2.1).mono (by omega)
  · show nn (mS i (uI S 0 64 w) b x y 24 (25 + 3)) _
    rw [mc 3 (by omega)]
    exact (inv.2.2.2.2.2.2.2.2.1).mono (by omega)
  · show cS i S (uI c1 (U i) 9 0) o p = _
    rw [co o p (by omega) z1 (fun w => z2 w.1) (by omega), d7 o p (by omega) (by omega) (by omega)]
    exact k7 o p z1 z2 z3
  · rw [mo o p (by omega) z1 (by omega) (by omega) (by omega)]; exact k8 o p z1 z2
  · show uL a.2 (U i) 3 (a.2 8 i) o p = _
    rw [uL_at (by omega)]; exact k9 o p z
theorem build_ok {c0 : MI} {L0 : ML} {m0 : MI} (hN : 5000 ≤ N) (hn : n ≤ 20) (h3 : c0 1 3 = nI n) (h21 : m0 24 21 = nI n) (hM : CM m0) (hq : BQ n cd c0 L0 m0) (h : RB n cd c0 L0 m0 0 (c0, L0) m0) :
    ∃ a b, LF_X10_build_35 N N 1 6 0 c0 L0 (GRf pb) = some a ∧ LF_X12_load_110 N N 24 0 m0 Lr (GRf pb) = some b ∧ RB n cd c0 L0 m0 n a b := by
  refine loop2 (f := fun k i (a : MI × ML) => LF_X10_build_35 N k 1 6 (nI i) a.1 a.2 (GRf pb)) (g := fun k i b => LF_X12_load_110 N k 24 (nI i) b Lr (GRf pb)) (R := fun i a b => RB n cd c0 L0 m0 i a b) (Q := RB n cd c0 L0 m0 n) n ?_ ?_ n 0 N N (c0, L0) m0 (by omega) (by omega) (by omega) h
  · intro k l a b hr
    have x1 : a.1 1 3 = nI n := by rw [hr.2.2.2.2.2.2.1 1 3 (by omega) (by omega) (by omega)]; exact h3
    have x2 : b 24 21 = nI n := by rw [hr.2.2.2.2.2.2.2.1 24 21 (by omega) (by omega)]; exact h21
    have nl : nI n ≤ nI n := Int32.le_refl _
    refine ⟨a, b, ?_, ?_, hr⟩
    · simp only [LF_X10_build_35, x1, if_pos nl]
    · simp only [LF_X12_load_110, x2, if_pos nl]
  · intro k l i a b hi hr
    have x1 : a.1 1 3 = nI n := by rw [hr.2.2.2.2.2.2.1 1 3 (by omega) (by omega) (by omega)]; exact h3
    have x2 : b 24 21 = nI n := by rw [hr.2.2.2.2.2.2.2.1 24 21 (by omega) (by omega)]; exact h21
    have x3 : ri b 32 (nI i) = some (nI (cd i)) := by
      rw [ri_nI ln_32 (show i < 20 by omega) (by decide), hr.2.2.2.2.2.2.2.1 32 i (by omega) (by omega)]
      exact congrArg some (hq i hi).2.2.1
    have nl : ¬ nI n ≤ nI i := nI_ge hi (by omega)
    obtain ⟨a', b', s1, ⟨c1, s2, s3, s4⟩, s5, s6⟩ := build_step (N := N) (pb := pb) (Lr := Lr) hN hn hi h3 hM hq hr
    refine ⟨a', b', ?_, ?_, s6⟩
    · show LF_X10_build_35 N (k + 1) 1 6 (nI i) a.1 a.2 (GRf pb) = _
      rw [LF_X10_build_35]
      simp only [x1, if_neg nl, s1, b1e, ck_U (show i ≤ 20 by omega), if_true, s2, b2e, s3, s4, wre, nI_1]
    · show LF_X12_load_110 N (l + 1) 24 (nI i) b Lr (GRf pb) = _
      rw [LF_X12_load_110]
      simp only [x2, if_neg nl, rf_24_18, bse, x3, s5, b1e, wre, nI_1]
/-- a unit is judged -/
theorem judge1 {v : Nat} (hN : 5000 ≤ N) (hv : v < 20) (hk : kin (cd v)) (h : UF n cd L v c m) : F_X10_judge N 1 (U v) c Lr (GRf pb) = some (uI c (U v + 1) 64 (m 37 (65 * v + 64))) := by
  obtain ⟨P, ⟨a1, a2, a3, a4, a5⟩, b1, b2, b3, b4, b5, b6, b7, b8, b9⟩ := h
  have e : U v = 58 + 4 * v := rfl
  obtain ⟨S, hS, ec⟩ : ∃ S : MI, S 0 = P ∧ c = cS v S c := by
    refine ⟨fun r k => if r = 0 then P k else if r = 1 then c 1 (4 + k) else c 3 (3 * k + (r - 2)), funext fun k => if_pos rfl, ?_⟩
    funext o p
    unfold cS
    by_cases z1 : o = U v + 1 ∧ p < 65
    · rw [if_pos z1, z1.1, b1 p z1.2]
      rfl
    · rw [if_neg z1]
      by_cases z2 : o = 1 ∧ 4 ≤ p ∧ p ≤ 7
      · rw [if_pos z2]
        show c o p = c 1 (4 + (p - 4))
        rw [z2.1, show 4 + (p - 4) = p by omega]
      · rw [if_neg z2]
        by_cases z3 : o = 3 ∧ p < 300
        · rw [if_pos z3]
          show c o p = if 2 + p % 3 = 0 then P (p / 3) else if 2 + p % 3 = 1 then c 1 (4 + p / 3) else c 3 (3 * (p / 3) + (2 + p % 3 - 2))
          rw [if_neg (by omega), if_neg (by omega), z3.1, show 3 * (p / 3) + (2 + p % 3 - 2) = p by omega]
        · rw [if_neg z3]
  have jd := judge_ok (N := N) (pb := pb) (L := Lr) (u := v) (S := S) (c0 := c) (cc := cd v) hN (by omega) hk.lt a2 a3 (by unfold HP; rw [hS]; exact b6)
  rw [← cSw_64, ← ec, hS, ← b3] at jd
  exact jd
theorem judge_all (hN : 5000 ≤ N) (hn : n ≤ 20) (h3 : c 1 3 = nI n) (hk : ∀ v, v < n → kin (cd v)) (h : ∀ v, v < n → UF n cd L v c m) :
    ∃ c', LF_X10_build_71 N N 1 0 c Lr (GRf pb) = some c' ∧ (∀ o p, ¬ (p = 64 ∧ ∃ v, v < n ∧ o = U v + 1) → c' o p = c o p) ∧ ∀ v, v < n → c' (U v + 1) 64 = m 37 (65 * v + 64) := by
  refine loop1 (f := fun z i I => LF_X10_build_71 N z 1 (nI i) I Lr (GRf pb)) (R := fun j a => (∀ o p, ¬ (p = 64 ∧ ∃ v, v < j ∧ o = U v + 1) → a o p = c o p) ∧ ∀ v, v < j → a (U v + 1) 64 = m 37 (65 * v + 64)) (Q := fun a => (∀ o p, ¬ (p = 64 ∧ ∃ v, v < n ∧ o = U v + 1) → a o p = c o p) ∧ ∀ v, v < n → a (U v + 1) 64 = m 37 (65 * v + 64)) n ?_ ?_ n 0 N c (by omega) (by omega) ⟨fun _ _ _ => rfl, fun v hv => absurd hv (by omega)⟩
  · intro z a ha
    have x1 : a 1 3 = nI n := by rw [ha.1 1 3 (fun q => by omega)]; exact h3
    exact ⟨a, by simp only [LF_X10_build_71, x1, if_pos (Int32.le_refl (nI n))], ha⟩
  · intro z i a hi ha
    have x1 : a 1 3 = nI n := by rw [ha.1 1 3 (fun q => by omega)]; exact h3
    have nl : ¬ nI n ≤ nI i := nI_ge hi (by omega)
    have ei : U i = 58 + 4 * i := rfl
    have at0 : F_X10_unitAt 1 (nI i) a Lr (GRf pb) = some (U i) := unitAt_ok hn hi x1
    have uf : UF n cd L i a m := (h i hi).cg (fun o p g => ha.1 o p (by
      rintro ⟨-, v, hv, q⟩
      have ev : U v = 58 + 4 * v := rfl
      omega)) (fun _ _ _ => rfl) rfl
    have jd := judge1 (N := N) (pb := pb) (Lr := Lr) hN (by omega) (hk i hi) uf
    refine ⟨uI a (U i + 1) 64 (m 37 (65 * i + 64)), ?_, fun o p g => ?_, fun v hv => ?_⟩
    · show LF_X10_build_71 N (z + 1) 1 (nI i) a Lr (GRf pb) = _
      rw [LF_X10_build_71]
      simp only [x1, if_neg nl, at0, b1e, ck_U (show i ≤ 20 by omega), if_true, jd, wre, nI_1]
    · rw [uI_at (fun q => g ⟨q.2, i, by omega, q.1⟩)]
      exact ha.1 o p (fun q => g ⟨q.1, by obtain ⟨v, hv, e⟩ := q.2; exact ⟨v, by omega, e⟩⟩)
    · have ev : U v = 58 + 4 * v := rfl
      rcases Nat.lt_or_ge v i with z | z
      · rw [uI_at (by omega)]; exact ha.2 v z
      · have : v = i := by omega
        subst this
        exact uI_same
/-- the flight begins anew -/
theorem begin_ok (hN : 5000 ≤ N) (hpb : pb ≤ 1) : ∃ c', F_X2_begin N 10 c L (GRf pb) = some c' ∧ (∀ p, p < 3 → c' 13 p = 0 ∧ c' 14 p = 0 ∧ c' 15 p = 0) ∧ (∀ p, 2 ≤ p → p ≤ 5 → c' 16 p = 0) ∧ c' 18 1 = 0 ∧ c' (20 + 2 * pb) 2 = 0 ∧ (∀ p, 6 ≤ p → p ≤ 12 → c' 10 p = 0) ∧
    ∀ o p, o ≠ 10 → o ≠ 13 → o ≠ 14 → o ≠ 15 → o ≠ 16 → ¬ (o = 18 ∧ p = 1) → ¬ (o = 20 + 2 * pb ∧ p = 2) → c' o p = c o p := by
  obtain ⟨c2, g1, g2, g3⟩ := loop1 (f := fun z i I => LF_X7_begin_2 N z 12 (nI i) I L (GRf pb)) (R := fun j a => (∀ p, p < j → a 13 p = 0 ∧ a 14 p = 0 ∧ a 15 p = 0) ∧ ∀ o p, o ≠ 13 → o ≠ 14 → o ≠ 15 → a o p = c o p) (Q := fun a => (∀ p, p < 3 → a 13 p = 0 ∧ a 14 p = 0 ∧ a 15 p = 0) ∧ ∀ o p, o ≠ 13 → o ≠ 14 → o ≠ 15 → a o p = c o p) 3 (by
    intro z a ha
    exact ⟨a, by simp only [LF_X7_begin_2, if_pos (show (3 : Int32) ≤ nI 3 by decide)], ha⟩) (by
    intro z i a hi ha
    have z3 : ¬ (3 : Int32) ≤ nI i := nI_ge (a := i) (b := 3) hi (by decide)
    refine ⟨uI (uI (uI a 13 i 0) 14 i 0) 15 i 0, ?_, fun p hp => ?_, fun o p z1 z2 z4 => ?_⟩
    · show LF_X7_begin_2 N (z + 1) 12 (nI i) a L (GRf pb) = _
      rw [LF_X7_begin_2]
      simp only [if_neg z3, rf_12_1, rf_12_2, rf_12_3, bse, wi_nI ln_13 hi (show 3 < 2 ^ 31 by decide), wi_nI ln_14 hi (show 3 < 2 ^ 31 by decide), wi_nI ln_15 hi (show 3 < 2 ^ 31 by decide), wre, nI_1]
    · by_cases q : p = i
      · subst q
        exact ⟨by rw [uI_at (by omega), uI_at (by omega), uI_same], by rw [uI_at (by omega), uI_same], uI_same⟩
      · rw [uI_at (by omega), uI_at (by omega), uI_at (by omega), uI_at (by omega), uI_at (by omega), uI_at (by omega), uI_at (by omega), uI_at (by omega), uI_at (by omega)]
        exact ha.1 p (by omega)
    · rw [uI_at (by omega), uI_at (by omega), uI_at (by omega)]; exact ha.2 o p z1 z2 z4) 3 0 N c (by omega) (by omega) ⟨fun p hp => absurd hp (by omega), fun _ _ _ _ _ => rfl⟩
  have g1 : LF_X7_begin_2 N N 12 0 c L (GRf pb) = some c2 := g1
  refine ⟨uI (uI (uI (uI (uI (uI (uI (uI (uI (uI (uI (uI (uI c2 16 2 0) 16 3 0) 16 4 0) 16 5 0) 18 1 0) (20 + 2 * pb) 2 0) 10 6 0) 10 7 0) 10 8 0) 10 9 0) 10 10 0) 10 11 0) 10 12 0, ?_, fun p hp => ?_, fun p h1 h2 => ?_, ?_, ?_, fun p h1 h2 => ?_, fun o p z1 z2 z3 z4 z5 z6 z7 => ?_⟩
  · simp only [F_X2_begin, ck_10, if_true, rf_10_1, rf_10_2, rf_10_3, bse, F_X7_begin, ck_12, g1, b1e, F_X6_begin, ck_16, wre, F_X1_begin, ck_18, pl01 hpb, F_X5_clear, ck_pl hpb]
  · have f : ∀ o, (o = 13 ∨ o = 14 ∨ o = 15) → uI (uI (uI (uI (uI (uI (uI (uI (uI (uI (uI (uI (uI c2 16 2 0) 16 3 0) 16 4 0) 16 5 0) 18 1 0) (20 + 2 * pb) 2 0) 10 6 0) 10 7 0) 10 8 0) 10 9 0) 10 10 0) 10 11 0) 10 12 0 o p = c2 o p := fun o ho => by
      rw [uI_at (by omega), uI_at (by omega), uI_at (by omega), uI_at (by omega), uI_at (by omega), uI_at (by omega), uI_at (by omega), uI_at (by omega), uI_at (by omega), uI_at (by omega), uI_at (by omega), uI_at (by omega), uI_at (by omega)]
    rw [f 13 (by omega), f 14 (by omega), f 15 (by omega)]
    exact g2 p hp
  · rw [uI_at (by omega), uI_at (by omega), uI_at (by omega), uI_at (by omega), uI_at (by omega), uI_at (by omega), uI_at (by omega), uI_at (by omega), uI_at (by omega)]
    rcases (show p = 2 ∨ p = 3 ∨ p = 4 ∨ p = 5 by omega) with rfl | rfl | rfl | rfl
    · rw [uI_at (by omega), uI_at (by omega), uI_at (by omega), uI_same]
    · rw [uI_at (by omega), uI_at (by omega), uI_same]
    · rw [uI_at (by omega), uI_same]
    · exact uI_same
  · rw [uI_at (by omega), uI_at (by omega), uI_at (by omega), uI_at (by omega), uI_at (by omega), uI_at (by omega), uI_at (by omega), uI_at (by omega), uI_same]
  · rw [uI_at (by omega), uI_at (by omega), uI_at (by omega), uI_at (by omega), uI_at (by omega), uI_at (by omega), uI_at (by omega), uI_same]
  · rcases (show p = 6 ∨ p = 7 ∨ p = 8 ∨ p = 9 ∨ p = 10 ∨ p = 11 ∨ p = 12 by omega) with rfl | rfl | rfl | rfl | rfl | rfl | rfl
    · rw [uI_at (by omega), uI_at (by omega), uI_at (by omega), uI_at (by omega), uI_at (by omega), uI_at (by omega), uI_same]
    · rw [uI_at (by omega), uI_at (by omega), uI_at (by omega), uI_at (by omega), uI_at (by omega), uI_same]
    · rw [uI_at (by omega), uI_at (by omega), uI_at (by omega), uI_at (by omega), uI_same]
    · rw [uI_at (by omega), uI_at (by omega), uI_at (by omega), uI_same]
    · rw [uI_at (by omega), uI_at (by omega), uI_same]
    · rw [uI_at (by omega), uI_same]
    · exact uI_same
  · rw [uI_at (by omega), uI_at (by omega), uI_at (by omega), uI_at (by omega), uI_at (by omega), uI_at (by omega), uI_at (by omega), uI_at (by omega), uI_at (by omega), uI_at (by omega), uI_at (by omega), uI_at (by omega), uI_at (by omega)]
    exact g3 o p z2 z3 z4
def clP (p : Nat) : Prop := (25 ≤ p ∧ p ≤ 28) ∨ p = 34 ∨ p = 35 ∨ (39 ≤ p ∧ p ≤ 49) ∨ p = 54
theorem clearM_ok (hN : 5000 ≤ N) : ∃ m', F_X12_clear N 24 m L (GRf pb) = some m' ∧ (∀ p, p < 3 → m' 43 p = 0 ∧ m' 44 p = 0 ∧ m' 45 p = 0) ∧ (∀ p, clP p → m' 24 p = 0) ∧
    ∀ o p, ¬ (o = 24 ∧ clP p) → o ≠ 43 → o ≠ 44 → o ≠ 45 → m' o p = m o p := by
  obtain ⟨m2, g1, g2, g3⟩ := loop1 (f := fun z i I => LF_X12_clear_32 N z 24 (nI i) I L (GRf pb)) (R := fun j a => (∀ p, p < j → a 43 p = 0 ∧ a 44 p = 0 ∧ a 45 p = 0) ∧ ∀ o p, o ≠ 43 → o ≠ 44 → o ≠ 45 → a o p = uI (uI (uI (uI (uI (uI m 24 25 0) 24 26 0) 24 27 0) 24 28 0) 24 34 0) 24 35 0 o p) (Q := fun a => (∀ p, p < 3 → a 43 p = 0 ∧ a 44 p = 0 ∧ a 45 p = 0) ∧ ∀ o p, o ≠ 43 → o ≠ 44 → o ≠ 45 → a o p = uI (uI (uI (uI (uI (uI m 24 25 0) 24 26 0) 24 27 0) 24 28 0) 24 34 0) 24 35 0 o p) 3 (by
    intro z a ha
    exact ⟨a, by simp only [LF_X12_clear_32, if_pos (show (3 : Int32) ≤ nI 3 by decide)], ha⟩) (by
    intro z i a hi ha
    have z3 : ¬ (3 : Int32) ≤ nI i := nI_ge (a := i) (b := 3) hi (by decide)
    refine ⟨uI (uI (uI a 43 i 0) 44 i 0) 45 i 0, ?_, fun p hp => ?_, fun o p z1 z2 z4 => ?_⟩
    · show LF_X12_clear_32 N (z + 1) 24 (nI i) a L (GRf pb) = _
      rw [LF_X12_clear_32]
      simp only [if_neg z3, rf_24_36, rf_24_37, rf_24_38, bse, wi_nI ln_43 hi (show 3 < 2 ^ 31 by decide), wi_nI ln_44 hi (show 3 < 2 ^ 31 by decide), wi_nI ln_45 hi (show 3 < 2 ^ 31 by decide), wre, nI_1]
    · by_cases q : p = i
      · subst q
        exact ⟨by rw [uI_at (by omega), uI_at (by omega), uI_same], by rw [uI_at (by omega), uI_same], uI_same⟩
      · rw [uI_at (by omega), uI_at (by omega), uI_at (by omega), uI_at (by omega), uI_at (by omega), uI_at (by omega), uI_at (by omega), uI_at (by omega), uI_at (by omega)]
        exact ha.1 p (by omega)
    · rw [uI_at (by omega), uI_at (by omega), uI_at (by omega)]; exact ha.2 o p z1 z2 z4) 3 0 N _ (by omega) (by omega) ⟨fun p hp => absurd hp (by omega), fun _ _ _ _ _ => rfl⟩
  have g1 : LF_X12_clear_32 N N 24 0 (uI (uI (uI (uI (uI (uI m 24 25 0) 24 26 0) 24 27 0) 24 28 0) 24 34 0) 24 35 0) L (GRf pb) = some m2 := g1
  refine ⟨uI (uI (uI (uI (uI (uI (uI (uI (uI (uI (uI (uI m2 24 39 0) 24 40 0) 24 41 0) 24 42 0) 24 43 0) 24 44 0) 24 45 0) 24 46 0) 24 47 0) 24 48 0) 24 49 0) 24 54 0, ?_, fun p hp => ?_, fun p hp => ?_, fun o p z1 z2 z3 z4 => ?_⟩
  · simp only [F_X12_clear, ck_24, if_true, wre, g1, b1e]
  · have f : ∀ o, o ≠ 24 → uI (uI (uI (uI (uI (uI (uI (uI (uI (uI (uI (uI m2 24 39 0) 24 40 0) 24 41 0) 24 42 0) 24 43 0) 24 44 0) 24 45 0) 24 46 0) 24 47 0) 24 48 0) 24 49 0) 24 54 0 o p = m2 o p := fun o ho => by
      rw [uI_at (by omega), uI_at (by omega), uI_at (by omega), uI_at (by omega), uI_at (by omega), uI_at (by omega), uI_at (by omega), uI_at (by omega), uI_at (by omega), uI_at (by omega), uI_at (by omega), uI_at (by omega)]
    rw [f 43 (by omega), f 44 (by omega), f 45 (by omega)]
    exact g2 p hp
  · have e := g3 24 p (by omega) (by omega) (by omega)
    unfold clP at hp
    unfold uI
    by_cases z : 39 ≤ p
    · by_cases y54 : p = 54
      · rw [if_pos (by omega)]
      rw [if_neg (by omega)]
      by_cases y49 : p = 49
      · rw [if_pos (by omega)]
      rw [if_neg (by omega)]
      by_cases y48 : p = 48
      · rw [if_pos (by omega)]
      rw [if_neg (by omega)]
      by_cases y47 : p = 47
      · rw [if_pos (by omega)]
      rw [if_neg (by omega)]
      by_cases y46 : p = 46
      · rw [if_pos (by omega)]
      rw [if_neg (by omega)]
      by_cases y45 : p = 45
      · rw [if_pos (by omega)]
      rw [if_neg (by omega)]
      by_cases y44 : p = 44
      · rw [if_pos (by omega)]
      rw [if_neg (by omega)]
      by_cases y43 : p = 43
      · rw [if_pos (by omega)]
      rw [if_neg (by omega)]
      by_cases y42 : p = 42
      · rw [if_pos (by omega)]
      rw [if_neg (by omega)]
      by_cases y41 : p = 41
      · rw [if_pos (by omega)]
      rw [if_neg (by omega)]
      by_cases y40 : p = 40
      · rw [if_pos (by omega)]
      rw [if_neg (by omega), if_pos (by omega)]
    · rw [if_neg (by omega), if_neg (by omega), if_neg (by omega), if_neg (by omega), if_neg (by omega), if_neg (by omega), if_neg (by omega), if_neg (by omega), if_neg (by omega), if_neg (by omega), if_neg (by omega), if_neg (by omega), e]
      unfold uI
      by_cases y35 : p = 35
      · rw [if_pos (by omega)]
      rw [if_neg (by omega)]
      by_cases y34 : p = 34
      · rw [if_pos (by omega)]
      rw [if_neg (by omega)]
      by_cases y28 : p = 28
      · rw [if_pos (by omega)]
      rw [if_neg (by omega)]
      by_cases y27 : p = 27
      · rw [if_pos (by omega)]
      rw [if_neg (by omega)]
      by_cases y26 : p = 26
      · rw [if_pos (by omega)]
      rw [if_neg (by omega), if_pos (by omega)]
  · have e := g3 o p z2 z3 z4
    unfold clP at z1
    rw [uI_at (by omega), uI_at (by omega), uI_at (by omega), uI_at (by omega), uI_at (by omega), uI_at (by omega), uI_at (by omega), uI_at (by omega), uI_at (by omega), uI_at (by omega), uI_at (by omega), uI_at (by omega), e, uI_at (by omega), uI_at (by omega), uI_at (by omega), uI_at (by omega), uI_at (by omega), uI_at (by omega)]
theorem copy_53 (hN : 5000 ≤ N) : ∃ m', LF_X12_load_53 N N 24 0 m L (GRf pb) = some m' ∧ (∀ j, j < 160 → m' 35 j = m 33 j) ∧ ∀ o p, o ≠ 35 → m' o p = m o p := by
  refine loop1 (f := fun z i I => LF_X12_load_53 N z 24 (nI i) I L (GRf pb)) (R := fun i a => (∀ j, j < i → a 35 j = m 33 j) ∧ ∀ o p, o ≠ 35 → a o p = m o p) (Q := fun a => (∀ j, j < 160 → a 35 j = m 33 j) ∧ ∀ o p, o ≠ 35 → a o p = m o p) 160 ?_ ?_ 160 0 N m (by omega) (by omega) ⟨fun j hj => absurd hj (by omega), fun _ _ _ => rfl⟩
  · intro z a ha
    exact ⟨a, by simp only [LF_X12_load_53, if_pos (show (160 : Int32) ≤ nI 160 by decide)], ha⟩
  · intro z i a hi ha
    have z1 : ¬ (160 : Int32) ≤ nI i := nI_ge (a := i) (b := 160) hi (by decide)
    refine ⟨uI a 35 i (m 33 i), ?_, fun j hj => ?_, fun o p q => ?_⟩
    · show LF_X12_load_53 N (z + 1) 24 (nI i) a L (GRf pb) = _
      rw [LF_X12_load_53]
      simp only [if_neg z1, rf_24_22, rf_24_19, bse, ri_nI ln_33 hi (show 160 < 2 ^ 31 by decide), ha.2 33 i (by decide), wi_nI ln_35 hi (show 160 < 2 ^ 31 by decide), wre, nI_1]
    · by_cases q : j = i
      · subst q; exact uI_same
      · rw [uI_at (by omega)]; exact ha.1 j (by omega)
    · rw [uI_at (fun e => q e.1)]; exact ha.2 o p q
theorem copy_80 (hN : 5000 ≤ N) : ∃ m', LF_X12_load_80 N N 24 0 m L (GRf pb) = some m' ∧ (∀ j, j < 60 → m' 36 j = m 34 j) ∧ ∀ o p, o ≠ 36 → m' o p = m o p := by
  refine loop1 (f := fun z i I => LF_X12_load_80 N z 24 (nI i) I L (GRf pb)) (R := fun i a => (∀ j, j < i → a 36 j = m 34 j) ∧ ∀ o p, o ≠ 36 → a o p = m o p) (Q := fun a => (∀ j, j < 60 → a 36 j = m 34 j) ∧ ∀ o p, o ≠ 36 → a o p = m o p) 60 ?_ ?_ 60 0 N m (by omega) (by omega) ⟨fun j hj => absurd hj (by omega), fun _ _ _ => rfl⟩
  · intro z a ha
    exact ⟨a, by simp only [LF_X12_load_80, if_pos (show (60 : Int32) ≤ nI 60 by decide)], ha⟩
  · intro z i a hi ha
    have z1 : ¬ (60 : Int32) ≤ nI i := nI_ge (a := i) (b := 60) hi (by decide)
    refine ⟨uI a 36 i (m 34 i), ?_, fun j hj => ?_, fun o p q => ?_⟩
    · show LF_X12_load_80 N (z + 1) 24 (nI i) a L (GRf pb) = _
      rw [LF_X12_load_80]
      simp only [if_neg z1, rf_24_23, rf_24_20, bse, ri_nI ln_34 hi (show 60 < 2 ^ 31 by decide), ha.2 34 i (by decide), wi_nI ln_36 hi (show 60 < 2 ^ 31 by decide), wre, nI_1]
    · by_cases q : j = i
      · subst q; exact uI_same
      · rw [uI_at (by omega)]; exact ha.1 j (by omega)
    · rw [uI_at (fun e => q e.1)]; exact ha.2 o p q
end P35
