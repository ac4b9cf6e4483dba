/-! T3: a number, and the whole token -/
def nvV (f : Nat → Nat) : Nat → Nat
  | 0 => 0
  | k + 1 => 10 * nvV f k + (f k - 48)
theorem nvV_lt {f : Nat → Nat} : ∀ k, (∀ j, j < k → f j ≤ 57) → nvV f k < 10 ^ k := by
  intro k
  induction k with
  | zero => intro _; exact Nat.one_pos
  | succ k ih =>
    intro h
    have h1 := ih (fun j hj => h j (by omega))
    have h2 := h k (by omega)
    rw [nvV, Nat.pow_succ]
    omega
theorem dig_step {v b : Nat} (h : 48 ≤ b) : nI v * 10 + nI b - 48 = nI (10 * v + (b - 48)) := by
  have e : nI v * 10 = nI (v * 10) := (Int32.ofNat_mul v 10).symm
  rw [e, nI_add, show v * 10 + b = 10 * v + (b - 48) + 48 by omega, ← nI_add _ 48]
  exact Int32.add_sub_cancel _ _
theorem dig_step2 {v b : Nat} (h : 48 ≤ b) : 10 * nI v + nI b - 48 = nI (10 * v + (b - 48)) := by
  rw [Int32.mul_comm]; exact dig_step h
def Nc (c : MI) (v i : Nat) : MI := uI (uI c 4 6 (nI v)) 4 3 (nI i)
def Nm (m : MI) (v i : Nat) : MI := uI (uI m 24 14 (nI v)) 24 10 (nI i)
theorem Nc_3 {c : MI} {v i : Nat} : Nc c v i 4 3 = nI i := uI_same
theorem Nc_6 {c : MI} {v i : Nat} : Nc c v i 4 6 = nI v := by unfold Nc; rw [uI_at (by omega), uI_same]
theorem Nc_o {c : MI} {v i o p : Nat} (h : ¬ (o = 4 ∧ (p = 6 ∨ p = 3))) : Nc c v i o p = c o p := by unfold Nc; rw [uI_at (by omega), uI_at (by omega)]
theorem Nc_st {c : MI} {v i v' i' : Nat} : uI (uI (Nc c v i) 4 6 (nI v')) 4 3 (nI i') = Nc c v' i' := by
  unfold Nc
  rw [uI_comm (a := 4) (k := 3) (b := 4) (l := 6) (by omega), uI_two, uI_two]
theorem Nc_a {c : MI} {v i : Nat} : A4 c (Nc c v i) := (A4.r.u (by omega)).u (by omega)
theorem Nm_10 {m : MI} {v i : Nat} : Nm m v i 24 10 = nI i := uI_same
theorem Nm_14 {m : MI} {v i : Nat} : Nm m v i 24 14 = nI v := by unfold Nm; rw [uI_at (by omega), uI_same]
theorem Nm_o {m : MI} {v i o p : Nat} (h : ¬ (o = 24 ∧ (p = 14 ∨ p = 10))) : Nm m v i o p = m o p := by unfold Nm; rw [uI_at (by omega), uI_at (by omega)]
theorem Nm_st {m : MI} {v i v' i' : Nat} : uI (uI (Nm m v i) 24 14 (nI v')) 24 10 (nI i') = Nm m v' i' := by
  unfold Nm
  rw [uI_comm (a := 24) (k := 10) (b := 24) (l := 14) (by omega), uI_two, uI_two]
theorem Nm_a {m : MI} {v i : Nat} : A24 m (Nm m v i) := (A24.r.u (by omega)).u (by omega)
section P22
variable {N n s : Nat} {pb : Nat} {L Lr : ML} {c0 m0 : MI} {y y' : Int32}
theorem nmC {w k v : Nat} (hT : Tx n c0 m0) (hw : w < 5) (hn : s + w ≤ n) (hl : dgB m0 n (s + w) = true) :
    LF_X8_readNumber_45 N (k + 1) 4 y (nI w) (Nc c0 v (s + w)) L (GRf pb) = LF_X8_readNumber_45 N k 4 y (nI (w + 1)) (Nc c0 (10 * v + (bw m0 s w - 48)) (s + (w + 1))) L (GRf pb) := by
  have n4 := hT.1
  have tx : Tx n (Nc c0 v (s + w)) m0 := hT.go Nc_a A24.r
  obtain ⟨hi, e, hb1, hb2⟩ := dg_in hT hl
  have by1 : F_X8_byteAt 4 (nI (s + w)) (Nc c0 v (s + w)) L (GRf pb) = some (nI (bw m0 s w)) := by
    rw [bytC tx (by omega), e]; rfl
  have hl' : inV (nI (bw m0 s w)) 48 57 = true := by unfold dgB at hl; rw [e] at hl; exact hl
  have z : ¬ (5 : Int32) ≤ nI w := nI_ge (a := w) (b := 5) hw (by decide)
  have ds := dig_step (v := v) (b := bw m0 s w) hb1
  have a1 : nI w + 1 = nI (w + 1) := nI_1 w
  have a2 : nI (s + w) + 1 = nI (s + (w + 1)) := nI_1 (s + w)
  have x1 : ∀ v', uI (Nc c0 v (s + w)) 4 6 v' 4 3 = nI (s + w) := fun v' => by rw [uI_at (by omega)]; exact Nc_3
  simp only [LF_X8_readNumber_45, if_neg z, Nc_3, by1, b1e, digC, hl', b2t, if_false, wre, Nc_6, ds, x1, a1, a2, Nc_st]
theorem nmM {w k v : Nat} (hT : Tx n c0 m0) (hw : w < 5) (hn : s + w ≤ n) (hl : dgB m0 n (s + w) = true) :
    LF_X12_takeNumber_73 N (k + 1) 24 y (nI w) (Nm m0 v (s + w)) Lr (GRf pb) = LF_X12_takeNumber_73 N k 24 y (nI (w + 1)) (Nm m0 (10 * v + (bw m0 s w - 48)) (s + (w + 1))) Lr (GRf pb) := by
  have n4 := hT.1
  have tx : Tx n c0 (Nm m0 v (s + w)) := hT.go A4.r Nm_a
  obtain ⟨hi, e, hb1, hb2⟩ := dg_in hT hl
  have by2 : F_X12_byteAt 24 (nI (s + w)) (Nm m0 v (s + w)) Lr (GRf pb) = some (nI (bw m0 s w)) := by
    rw [bytM tx (by omega), bt_go Nm_a, e]; rfl
  have hl' : inV (nI (bw m0 s w)) 48 57 = true := by unfold dgB at hl; rw [e] at hl; exact hl
  have z : (nI w = (5 : Int32)) = False := eq_false (fun q => by have := (nI_eq (a := w) (b := 5) (by omega) (by decide)).mp q; omega)
  have ds := dig_step2 (v := v) (b := bw m0 s w) hb1
  have a1 : nI w + 1 = nI (w + 1) := nI_1 w
  have a2 : nI (s + w) + 1 = nI (s + (w + 1)) := nI_1 (s + w)
  have x1 : ∀ v', uI (Nm m0 v (s + w)) 24 14 v' 24 10 = nI (s + w) := fun v' => by rw [uI_at (by omega)]; exact Nm_10
  simp only [LF_X12_takeNumber_73, Nm_10, by2, b1e, digM, hl', b2t, if_false, z, wre, Nm_14, ds, x1, a1, a2, Nm_st]
theorem nmC_e {w k v : Nat} (hT : Tx n c0 m0) (hn : s + w ≤ n) (h : w = 5 ∨ (w < 5 ∧ dgB m0 n (s + w) = false)) : LF_X8_readNumber_45 N (k + 1) 4 y (nI w) (Nc c0 v (s + w)) L (GRf pb) = some (nI w, Nc c0 v (s + w)) := by
  have n4 := hT.1
  rcases h with rfl | ⟨hw, hl⟩
  · have z : (5 : Int32) ≤ nI 5 := by decide
    simp only [LF_X8_readNumber_45, if_pos z]
  · have tx : Tx n (Nc c0 v (s + w)) m0 := hT.go Nc_a A24.r
    have by1 := bytC (pb := pb) (L := L) tx (i := s + w) (by omega)
    have z : ¬ (5 : Int32) ≤ nI w := nI_ge (a := w) (b := 5) hw (by decide)
    unfold dgB at hl
    simp only [LF_X8_readNumber_45, if_neg z, Nc_3, by1, b1e, digC, hl, b2f, if_true]
theorem nmM_e {w k v : Nat} (hT : Tx n c0 m0) (hn : s + w ≤ n) (hl : dgB m0 n (s + w) = false) : LF_X12_takeNumber_73 N (k + 1) 24 y (nI w) (Nm m0 v (s + w)) Lr (GRf pb) = some (.inr (Nm m0 v (s + w))) := by
  have n4 := hT.1
  have tx : Tx n c0 (Nm m0 v (s + w)) := hT.go A4.r Nm_a
  have by2 : F_X12_byteAt 24 (nI (s + w)) (Nm m0 v (s + w)) Lr (GRf pb) = some (bt m0 n (s + w)) := by
    rw [bytM tx (by omega), bt_go Nm_a]
  unfold dgB at hl
  simp only [LF_X12_takeNumber_73, Nm_10, by2, b1e, digM, hl, b2f, if_true]
theorem nmM_w {k v : Nat} (hT : Tx n c0 m0) (hn : s + 5 ≤ n) (h15 : m0 24 15 = 0) (hl : dgB m0 n (s + 5) = true) : LF_X12_takeNumber_73 N (k + 1) 24 y (nI 5) (Nm m0 v (s + 5)) Lr (GRf pb) = some (.inl (uI (uI (Nm m0 v (s + 5)) 24 15 1) 24 16 (nI (s + 5)))) := by
  have n4 := hT.1
  have tx : Tx n c0 (Nm m0 v (s + 5)) := hT.go A4.r Nm_a
  have by2 : F_X12_byteAt 24 (nI (s + 5)) (Nm m0 v (s + 5)) Lr (GRf pb) = some (bt m0 n (s + 5)) := by
    rw [bytM tx (by omega), bt_go Nm_a]
  have z : (nI 5 = (5 : Int32)) = True := eq_true (by decide)
  have f15 : Nm m0 v (s + 5) 24 15 = 0 := by rw [Nm_o (by omega)]; exact h15
  unfold dgB at hl
  simp only [LF_X12_takeNumber_73, Nm_10, by2, b1e, digM, hl, b2t, if_false, z, if_true, F_X12_wrong, ck_24, f15, wre]
theorem num_loop (hT : Tx n c0 m0) (h15 : m0 24 15 = 0) : ∀ (d w kc kr : Nat), w + d = 5 → d < kc → d < kr → s + w ≤ n → (∀ j, j < w → bw m0 s j ≤ 57) →
    ∃ w', w ≤ w' ∧ w' ≤ 5 ∧ s + w' ≤ n ∧ (∀ j, j < w' → bw m0 s j ≤ 57) ∧ (w' = w → w < 5 → dgB m0 n (s + w) = false) ∧ (dgB m0 n (s + w) = false → w' = w) ∧
      LF_X8_readNumber_45 N kc 4 y (nI w) (Nc c0 (nvV (bw m0 s) w) (s + w)) L (GRf pb) = some (nI w', Nc c0 (nvV (bw m0 s) w') (s + w')) ∧
      ((dgB m0 n (s + w') = false ∧ LF_X12_takeNumber_73 N kr 24 y' (nI w) (Nm m0 (nvV (bw m0 s) w) (s + w)) Lr (GRf pb) = some (.inr (Nm m0 (nvV (bw m0 s) w') (s + w')))) ∨
        (w' = 5 ∧ dgB m0 n (s + w') = true ∧ LF_X12_takeNumber_73 N kr 24 y' (nI w) (Nm m0 (nvV (bw m0 s) w) (s + w)) Lr (GRf pb) = some (.inl (uI (uI (Nm m0 (nvV (bw m0 s) w') (s + w')) 24 15 1) 24 16 (nI (s + w')))))) := by
  intro d
  induction d with
  | zero =>
    intro w kc kr hw hkc hkr hn hf
    obtain ⟨kc, rfl⟩ : ∃ z, kc = z + 1 := ⟨kc - 1, by omega⟩
    obtain ⟨kr, rfl⟩ : ∃ z, kr = z + 1 := ⟨kr - 1, by omega⟩
    have hw8 : w = 5 := by omega
    subst hw8
    refine ⟨5, Nat.le_refl _, Nat.le_refl _, hn, hf, fun _ z => by omega, fun _ => rfl, nmC_e hT hn (Or.inl rfl), ?_⟩
    cases q : dgB m0 n (s + 5) with
    | false => exact Or.inl ⟨rfl, nmM_e hT hn q⟩
    | true => exact Or.inr ⟨rfl, rfl, nmM_w hT hn h15 q⟩
  | succ d ih =>
    intro w kc kr hw hkc hkr hn hf
    obtain ⟨kc, rfl⟩ : ∃ z, kc = z + 1 := ⟨kc - 1, by omega⟩
    obtain ⟨kr, rfl⟩ : ∃ z, kr = z + 1 := ⟨kr - 1, by omega⟩
    cases q : dgB m0 n (s + w) with
    | false => exact ⟨w, Nat.le_refl _, by omega, hn, hf, fun _ _ => rfl, fun _ => rfl, nmC_e hT hn (Or.inr ⟨by omega, q⟩), Or.inl ⟨q, nmM_e hT hn q⟩⟩
    | true =>
      obtain ⟨hi, e, b1, b2⟩ := dg_in hT q
      obtain ⟨w', i1, i2, i3, i4, i0, -, i5, i6⟩ := ih (w + 1) kc kr (by omega) (by omega) (by omega) (by omega) (fun j hj => by
        rcases Nat.lt_or_ge j w with z | z
        · exact hf j z
        · have : j = w := by omega
          subst this; unfold bw; exact b2)
      refine ⟨w', by omega, i2, i3, i4, fun z => by omega, fun z => Bool.noConfusion z, ?_, ?_⟩
      · rw [nmC hT (by omega) hn q]; exact i5
      · rw [nmM hT (by omega) hn q]; exact i6
end P22
theorem nm_id {m : MI} {v i : Nat} : uI (Nm m v i) 24 14 (nI v) = Nm m v i := by
  have : nI v = Nm m v i 24 14 := Nm_14.symm
  rw [this]
  exact uI_id
section P23
variable {N n s : Nat} {pb : Nat} {L Lr : ML} {c m : MI}
theorem num_pos (hN : 5000 ≤ N) (h : RD n s c m) (h5 : c 4 5 = nI s) (h12 : m 24 12 = nI s) (h15 : m 24 15 = 0) (q45 : bt m n s ≠ 45) :
    ∃ c' m', F_X8_readNumber N 4 c L (GRf pb) = some c' ∧ F_X12_takeNumber N 24 m Lr (GRf pb) = some m' ∧ A4 c c' ∧ A24 m m' ∧ NO n c m L c' m' := by
  obtain ⟨hT, h3, h10, hs⟩ := h
  have n4 := hT.1
  have hsn : s ≤ n := hs
  have a1 : A4 c (uI c 4 4 2) := A4.r.u (by omega)
  have a2 : A24 m (uI m 24 11 2) := A24.r.u (by omega)
  have by0 := bytC (pb := pb) (L := L) hT (i := s) (by omega)
  have a20 : A24 m (uI m 24 11 2) := A24.r.u (by omega)
  have by00 : F_X12_byteAt 24 (nI s) (uI m 24 11 2) Lr (GRf pb) = some (bt m n s) := by
    rw [bytM (hT.go A4.r a20) (by omega), bt_go a20]
  have n10 : uI m 24 11 2 24 10 = nI s := by rw [uI_at (by omega)]; exact h10
  have k1 : nI s + 1 = nI (s + 1) := nI_1 s
  have k0 : uI (uI m 24 11 2) 24 10 (nI s) = uI m 24 11 2 := by rw [← n10]; exact uI_id
  generalize hC : uI c 4 4 2 = c1 at *
  generalize hM : uI m 24 11 2 = m1 at *
  have tx : Tx n c1 m1 := hT.go a1 a2
  have c13 : c1 4 3 = nI (s) := by rw [← hC, uI_at (by omega)]; exact h3
  have c14 : c1 4 4 = 2 := by rw [← hC]; exact uI_same
  have c1o : ∀ k, k ≠ 3 → k ≠ 4 → c1 4 k = c 4 k := fun k z1 z2 => by rw [← hC, uI_at (by omega)]
  have m10 : m1 24 10 = nI (s) := by rw [← hM]; exact (uI_at (by omega)).trans h10
  have m11 : m1 24 11 = 2 := by rw [← hM]; exact uI_same
  have m1o : ∀ k, k ≠ 10 → k ≠ 11 → m1 24 k = m 24 k := fun k z1 z2 => by rw [← hM, uI_at (by omega)]
  have f15 : m1 24 15 = 0 := by rw [m1o 15 (by omega) (by omega)]; exact h15
  obtain ⟨w, i1, i2, i3, i4, i0, i00, i5, i6⟩ := num_loop (N := N) (s := s) (pb := pb) (L := L) (Lr := Lr) (y := (0 : Int32)) (y' := (0 : Int32)) tx f15 5 0 N N rfl (by omega) (by omega) (by omega) (fun j hj => absurd hj (by omega))
  have e1 : Nc c1 (nvV (bw m1 (s)) 0) (s + 0) = uI c1 4 6 0 := by
    unfold Nc
    have : nI (s + 0) = uI c1 4 6 (nI 0) 4 3 := by rw [uI_at (by omega), c13]; rfl
    rw [this]; exact uI_id
  have e3 : Nm m1 (nvV (bw m1 (s)) 0) (s + 0) = uI m1 24 14 0 := by
    unfold Nm
    have : nI (s + 0) = uI m1 24 14 (nI 0) 24 10 := by rw [uI_at (by omega), m10]; rfl
    rw [this]; exact uI_id
  rw [e1] at i5
  rw [e3] at i6
  have i5 : LF_X8_readNumber_45 N N 4 (0 : Int32) 0 (uI c1 4 6 0) L (GRf pb) = _ := i5
  have by1 : F_X12_byteAt 24 (nI (s)) m1 Lr (GRf pb) = some (bt m n (s)) := by rw [bytM tx (by omega)]; exact congrArg some (bt_go a2)
  have t3 : Tx n (Nc c1 (nvV (bw m1 (s)) w) (s + w)) m1 := tx.go Nc_a A24.r
  have hv := nvV_lt (f := bw m1 (s)) w i4
  have hv5 : nvV (bw m1 (s)) w ≤ 99999 := by
    have : 10 ^ w ≤ 10 ^ 5 := Nat.pow_le_pow_right (by decide) i2
    omega
  generalize hV : nvV (bw m1 (s)) w = v at *
  have ac4 : A4 c (Nc c1 v (s + w)) := a1.t Nc_a
  have c43 : (Nc c1 v (s + w)) 4 3 = nI (s + w) := Nc_3
  have t4 : Tx n (Nc c1 v (s + w)) m1 := hT.go ac4 a2
  have by4 := bytC (pb := pb) (L := L) t4 (i := s + w) (by omega)
  have c44 : (Nc c1 v (s + w)) 4 4 = 2 := by rw [Nc_o (by omega)]; exact c14
  have c4o : ∀ k, k ≠ 3 → k ≠ 4 → k ≠ 6 → (Nc c1 v (s + w)) 4 k = c 4 k := fun k z1 z2 z3 => by rw [Nc_o (by omega)]; exact c1o k z1 z2
  have c46 : (Nc c1 v (s + w)) 4 6 = nI v := Nc_6
  have x3 : ∀ a b, uI (uI (Nc c1 v (s + w)) 4 4 a) 4 8 b 4 3 = nI (s + w) := fun a b => by rw [uI_at (by omega), uI_at (by omega)]; exact c43
  have one : ((1 : Int32) = 0) = False := eq_false (by decide)
  cases hw0 : dgB m1 n (s) with
  | false =>
    have w0 : w = 0 := i00 hw0
    subst w0
    unfold dgB at hw0
    rw [bt_go a2] at hw0
    refine ⟨uI (uI (uI (Nc c1 v (s + 0)) 4 4 4) 4 8 1) 4 9 (nI (s)), uI (uI m1 24 15 1) 24 16 (nI (s)), ?_, ?_, ((ac4.u (by omega)).u (by omega)).u (by omega), (a2.u (p := 15) (v := 1) (by omega)).u (p := 16) (v := nI (s)) (by omega), Or.inr ⟨?_, ?_, ?_, ?_⟩⟩
    · have x3 : ∀ a b, uI (uI (Nc c1 v (s + 0)) 4 4 a) 4 8 b 4 3 = nI (s) := x3
      simp (decide := true) only [F_X8_readNumber, ck_4, if_true, h3, by0, b1e, if_neg q45, wre, hC, i5, Nc_6, F_X8_spoil, x3]
    · simp only [F_X12_takeNumber, ck_24, if_true, wre, n10, by00, b1e, if_neg q45, Int32.add_zero, k0, hM, m10, by1, digM, hw0, b2f, F_X12_wrong, ck_24, f15]
    · rw [uI_at (by omega), uI_at (by omega)]; exact uI_same
    · rw [uI_at (by omega)]; exact uI_same
    · rw [uI_at (by omega)]; exact uI_same
    · rw [uI_same, uI_same]
  | true =>
    have hw : 0 < w := by
      refine Nat.pos_of_ne_zero (fun z => ?_)
      have := i0 z (by omega)
      rw [show s + 0 = s from rfl, hw0] at this
      cases this
    have wn0 : (nI w = 0) = False := eq_false (nI_ne0 (by omega) (by omega))
    unfold dgB at hw0
    rw [bt_go a2] at hw0
    rcases i6 with ⟨q, i6⟩ | ⟨q5, q, i6⟩
    · have i6 : LF_X12_takeNumber_73 N N 24 (0 : Int32) 0 (uI m1 24 14 0) Lr (GRf pb) = _ := i6
      unfold dgB at q
      have am4 : A24 m (Nm m1 v (s + w)) := a2.t Nm_a
      have m4o : ∀ k, k ≠ 10 → k ≠ 14 → (Nm m1 v (s + w)) 24 k = m1 24 k := fun k z1 z2 => by rw [Nm_o (by omega)]
      have t5 : Tx n (Nc c1 v (s + w)) (Nm m1 v (s + w)) := hT.go ac4 am4
      refine ⟨Nc c1 v (s + w), Nm m1 v (s + w), ?_, ?_, ac4, am4, Or.inl ⟨⟨s, s + w, 2, ⟨t5, c43, ?_, i3⟩, hs, ?_, ?_, c44, ?_, by omega, ?_, fun z => by omega, fun _ => ⟨v, hv5, Or.inl c46, ?_⟩, fun z => by omega⟩, ?_, ?_, ?_⟩⟩
      · simp only [F_X8_readNumber, ck_4, if_true, h3, by0, b1e, if_neg q45, wre, hC, i5, Nc_6, wn0, if_false, c43, by4, digC, q, b2f]
      · simp only [F_X12_takeNumber, ck_24, if_true, wre, n10, by00, b1e, if_neg q45, Int32.add_zero, k0, hM, m10, by1, digM, hw0, b2t, if_false, i6, bsr, Nm_14, nm_id]
      · exact Nm_10
      · rw [c4o 5 (by omega) (by omega) (by omega)]; exact h5
      · rw [m4o 12 (by omega) (by omega), m1o 12 (by omega) (by omega)]; exact h12
      · rw [m4o 11 (by omega) (by omega)]; exact m11
      · rw [m4o 15 (by omega) (by omega)]; exact f15
      · rw [c46]; exact Nm_14
      · exact c4o 8 (by omega) (by omega) (by omega)
      · exact c4o 9 (by omega) (by omega) (by omega)
      · rw [m4o 16 (by omega) (by omega)]; exact m1o 16 (by omega) (by omega)
    · have i6 : LF_X12_takeNumber_73 N N 24 (0 : Int32) 0 (uI m1 24 14 0) Lr (GRf pb) = _ := i6
      unfold dgB at q
      refine ⟨uI (uI (uI (Nc c1 v (s + w)) 4 4 4) 4 8 1) 4 9 (nI (s + w)), uI (uI (Nm m1 v (s + w)) 24 15 1) 24 16 (nI (s + w)), ?_, ?_, ((ac4.u (by omega)).u (by omega)).u (by omega), ((a2.t Nm_a).u (p := 15) (v := 1) (by omega)).u (p := 16) (v := nI (s + w)) (by omega), Or.inr ⟨?_, ?_, ?_, ?_⟩⟩
      · simp only [F_X8_readNumber, ck_4, if_true, h3, by0, b1e, if_neg q45, wre, hC, i5, Nc_6, wn0, if_false, c43, by4, digC, q, b2t, F_X8_spoil, x3]
      · simp only [F_X12_takeNumber, ck_24, if_true, wre, n10, by00, b1e, if_neg q45, Int32.add_zero, k0, hM, m10, by1, digM, hw0, b2t, if_false, i6, bsl]
      · rw [uI_at (by omega), uI_at (by omega)]; exact uI_same
      · rw [uI_at (by omega)]; exact uI_same
      · rw [uI_at (by omega)]; exact uI_same
      · rw [uI_same, uI_same]
theorem num_neg (hN : 5000 ≤ N) (h : RD n s c m) (h5 : c 4 5 = nI s) (h12 : m 24 12 = nI s) (h15 : m 24 15 = 0) (q45 : bt m n s = 45) :
    ∃ c' m', F_X8_readNumber N 4 c L (GRf pb) = some c' ∧ F_X12_takeNumber N 24 m Lr (GRf pb) = some m' ∧ A4 c c' ∧ A24 m m' ∧ NO n c m L c' m' := by
  obtain ⟨hT, h3, h10, hs⟩ := h
  have n4 := hT.1
  have hsn : s < n := by
    refine Nat.lt_of_not_le (fun z => ?_)
    unfold bt at q45
    rw [if_neg (by omega)] at q45
    exact absurd q45 (by decide)
  have a1 : A4 c (uI (uI c 4 3 (nI (s + 1))) 4 4 2) := (A4.r.u (by omega)).u (by omega)
  have a2 : A24 m (uI (uI m 24 11 2) 24 10 (nI (s + 1))) := (A24.r.u (by omega)).u (by omega)
  have by0 := bytC (pb := pb) (L := L) hT (i := s) (by omega)
  have a20 : A24 m (uI m 24 11 2) := A24.r.u (by omega)
  have by00 : F_X12_byteAt 24 (nI s) (uI m 24 11 2) Lr (GRf pb) = some (bt m n s) := by
    rw [bytM (hT.go A4.r a20) (by omega), bt_go a20]
  have n10 : uI m 24 11 2 24 10 = nI s := by rw [uI_at (by omega)]; exact h10
  have k1 : nI s + 1 = nI (s + 1) := nI_1 s
  generalize hC : uI (uI c 4 3 (nI (s + 1))) 4 4 2 = c1 at *
  generalize hM : uI (uI m 24 11 2) 24 10 (nI (s + 1)) = m1 at *
  have tx : Tx n c1 m1 := hT.go a1 a2
  have c13 : c1 4 3 = nI (s + 1) := by rw [← hC, uI_at (by omega)]; exact uI_same
  have c14 : c1 4 4 = 2 := by rw [← hC]; exact uI_same
  have c1o : ∀ k, k ≠ 3 → k ≠ 4 → c1 4 k = c 4 k := fun k z1 z2 => by rw [← hC, uI_at (by omega), uI_at (by omega)]
  have m10 : m1 24 10 = nI (s + 1) := by rw [← hM]; exact uI_same
  have m11 : m1 24 11 = 2 := by rw [← hM, uI_at (by omega)]; exact uI_same
  have m1o : ∀ k, k ≠ 10 → k ≠ 11 → m1 24 k = m 24 k := fun k z1 z2 => by rw [← hM, uI_at (by omega), uI_at (by omega)]
  have f15 : m1 24 15 = 0 := by rw [m1o 15 (by omega) (by omega)]; exact h15
  obtain ⟨w, i1, i2, i3, i4, i0, i00, i5, i6⟩ := num_loop (N := N) (s := s + 1) (pb := pb) (L := L) (Lr := Lr) (y := (1 : Int32)) (y' := (1 : Int32)) tx f15 5 0 N N rfl (by omega) (by omega) (by omega) (fun j hj => absurd hj (by omega))
  have e1 : Nc c1 (nvV (bw m1 (s + 1)) 0) (s + 1 + 0) = uI c1 4 6 0 := by
    unfold Nc
    have : nI (s + 1 + 0) = uI c1 4 6 (nI 0) 4 3 := by rw [uI_at (by omega), c13]
    rw [this]; exact uI_id
  have e3 : Nm m1 (nvV (bw m1 (s + 1)) 0) (s + 1 + 0) = uI m1 24 14 0 := by
    unfold Nm
    have : nI (s + 1 + 0) = uI m1 24 14 (nI 0) 24 10 := by rw [uI_at (by omega), m10]
    rw [this]; exact uI_id
  rw [e1] at i5
  rw [e3] at i6
  have i5 : LF_X8_readNumber_45 N N 4 (1 : Int32) 0 (uI c1 4 6 0) L (GRf pb) = _ := i5
  have by1 : F_X12_byteAt 24 (nI (s + 1)) m1 Lr (GRf pb) = some (bt m n (s + 1)) := by rw [bytM tx (by omega)]; exact congrArg some (bt_go a2)
  have t3 : Tx n (Nc c1 (nvV (bw m1 (s + 1)) w) (s + 1 + w)) m1 := tx.go Nc_a A24.r
  have hv := nvV_lt (f := bw m1 (s + 1)) w i4
  have hv5 : nvV (bw m1 (s + 1)) w ≤ 99999 := by
    have : 10 ^ w ≤ 10 ^ 5 := Nat.pow_le_pow_right (by decide) i2
    omega
  generalize hV : nvV (bw m1 (s + 1)) w = v at *
  have ac4 : A4 c (uI (Nc c1 v (s + 1 + w)) 4 6 (-nI v)) := (a1.t Nc_a).u (by omega)
  have c43 : (uI (Nc c1 v (s + 1 + w)) 4 6 (-nI v)) 4 3 = nI (s + 1 + w) := by rw [uI_at (by omega)]; exact Nc_3
  have t4 : Tx n (uI (Nc c1 v (s + 1 + w)) 4 6 (-nI v)) m1 := hT.go ac4 a2
  have by4 := bytC (pb := pb) (L := L) t4 (i := s + 1 + w) (by omega)
  have c44 : (uI (Nc c1 v (s + 1 + w)) 4 6 (-nI v)) 4 4 = 2 := by rw [uI_at (by omega), Nc_o (by omega)]; exact c14
  have c4o : ∀ k, k ≠ 3 → k ≠ 4 → k ≠ 6 → (uI (Nc c1 v (s + 1 + w)) 4 6 (-nI v)) 4 k = c 4 k := fun k z1 z2 z3 => by rw [uI_at (by omega), Nc_o (by omega)]; exact c1o k z1 z2
  have c46 : (uI (Nc c1 v (s + 1 + w)) 4 6 (-nI v)) 4 6 = -nI v := uI_same
  have x3 : ∀ a b, uI (uI (uI (Nc c1 v (s + 1 + w)) 4 6 (-nI v)) 4 4 a) 4 8 b 4 3 = nI (s + 1 + w) := fun a b => by rw [uI_at (by omega), uI_at (by omega)]; exact c43
  have one : ((1 : Int32) = 0) = False := eq_false (by decide)
  cases hw0 : dgB m1 n (s + 1) with
  | false =>
    have w0 : w = 0 := i00 hw0
    subst w0
    unfold dgB at hw0
    rw [bt_go a2] at hw0
    refine ⟨uI (uI (uI (uI (Nc c1 v (s + 1 + 0)) 4 6 (-nI v)) 4 4 4) 4 8 1) 4 9 (nI (s + 1)), uI (uI m1 24 15 1) 24 16 (nI (s + 1)), ?_, ?_, ((ac4.u (by omega)).u (by omega)).u (by omega), (a2.u (p := 15) (v := 1) (by omega)).u (p := 16) (v := nI (s + 1)) (by omega), Or.inr ⟨?_, ?_, ?_, ?_⟩⟩
    · have x3 : ∀ a b, uI (uI (uI (Nc c1 v (s + 1 + 0)) 4 6 (-nI v)) 4 4 a) 4 8 b 4 3 = nI (s + 1) := x3
      simp (decide := true) only [F_X8_readNumber, ck_4, if_true, h3, by0, b1e, if_pos q45, one, if_false, k1, wre, hC, i5, Nc_6, F_X8_spoil, x3]
    · simp only [F_X12_takeNumber, ck_24, if_true, wre, n10, by00, b1e, if_pos q45, one, if_false, k1, hM, m10, by1, digM, hw0, b2f, F_X12_wrong, ck_24, f15]
    · rw [uI_at (by omega), uI_at (by omega)]; exact uI_same
    · rw [uI_at (by omega)]; exact uI_same
    · rw [uI_at (by omega)]; exact uI_same
    · rw [uI_same, uI_same]
  | true =>
    have hw : 0 < w := by
      refine Nat.pos_of_ne_zero (fun z => ?_)
      have := i0 z (by omega)
      rw [show s + 1 + 0 = s + 1 from rfl, hw0] at this
      cases this
    have wn0 : (nI w = 0) = False := eq_false (nI_ne0 (by omega) (by omega))
    unfold dgB at hw0
    rw [bt_go a2] at hw0
    rcases i6 with ⟨q, i6⟩ | ⟨q5, q, i6⟩
    · have i6 : LF_X12_takeNumber_73 N N 24 (1 : Int32) 0 (uI m1 24 14 0) Lr (GRf pb) = _ := i6
      unfold dgB at q
      have am4 : A24 m (uI (Nm m1 v (s + 1 + w)) 24 14 (-nI v)) := (a2.t Nm_a).u (by omega)
      have m4o : ∀ k, k ≠ 10 → k ≠ 14 → (uI (Nm m1 v (s + 1 + w)) 24 14 (-nI v)) 24 k = m1 24 k := fun k z1 z2 => by rw [uI_at (by omega), Nm_o (by omega)]
      have t5 : Tx n (uI (Nc c1 v (s + 1 + w)) 4 6 (-nI v)) (uI (Nm m1 v (s + 1 + w)) 24 14 (-nI v)) := hT.go ac4 am4
      refine ⟨uI (Nc c1 v (s + 1 + w)) 4 6 (-nI v), uI (Nm m1 v (s + 1 + w)) 24 14 (-nI v), ?_, ?_, ac4, am4, Or.inl ⟨⟨s, s + 1 + w, 2, ⟨t5, c43, ?_, i3⟩, hs, ?_, ?_, c44, ?_, by omega, ?_, fun z => by omega, fun _ => ⟨v, hv5, Or.inr c46, ?_⟩, fun z => by omega⟩, ?_, ?_, ?_⟩⟩
      · simp only [F_X8_readNumber, ck_4, if_true, h3, by0, b1e, if_pos q45, one, if_false, k1, wre, hC, i5, Nc_6, wn0, if_false, c43, by4, digC, q, b2f]
      · simp only [F_X12_takeNumber, ck_24, if_true, wre, n10, by00, b1e, if_pos q45, one, if_false, k1, hM, m10, by1, digM, hw0, b2t, if_false, i6, bsr, Nm_14]
      · rw [uI_at (by omega)]; exact Nm_10
      · rw [c4o 5 (by omega) (by omega) (by omega)]; exact h5
      · rw [m4o 12 (by omega) (by omega), m1o 12 (by omega) (by omega)]; exact h12
      · rw [m4o 11 (by omega) (by omega)]; exact m11
      · rw [m4o 15 (by omega) (by omega)]; exact f15
      · rw [c46]; exact uI_same
      · exact c4o 8 (by omega) (by omega) (by omega)
      · exact c4o 9 (by omega) (by omega) (by omega)
      · rw [m4o 16 (by omega) (by omega)]; exact m1o 16 (by omega) (by omega)
    · have i6 : LF_X12_takeNumber_73 N N 24 (1 : Int32) 0 (uI m1 24 14 0) Lr (GRf pb) = _ := i6
      unfold dgB at q
      refine ⟨uI (uI (uI (uI (Nc c1 v (s + 1 + w)) 4 6 (-nI v)) 4 4 4) 4 8 1) 4 9 (nI (s + 1 + w)), uI (uI (Nm m1 v (s + 1 + w)) 24 15 1) 24 16 (nI (s + 1 + w)), ?_, ?_, ((ac4.u (by omega)).u (by omega)).u (by omega), ((a2.t Nm_a).u (p := 15) (v := 1) (by omega)).u (p := 16) (v := nI (s + 1 + w)) (by omega), Or.inr ⟨?_, ?_, ?_, ?_⟩⟩
      · simp only [F_X8_readNumber, ck_4, if_true, h3, by0, b1e, if_pos q45, one, if_false, k1, wre, hC, i5, Nc_6, wn0, if_false, c43, by4, digC, q, b2t, F_X8_spoil, x3]
      · simp only [F_X12_takeNumber, ck_24, if_true, wre, n10, by00, b1e, if_pos q45, one, if_false, k1, hM, m10, by1, digM, hw0, b2t, if_false, i6, bsl]
      · rw [uI_at (by omega), uI_at (by omega)]; exact uI_same
      · rw [uI_at (by omega)]; exact uI_same
      · rw [uI_at (by omega)]; exact uI_same
      · rw [uI_same, uI_same]
theorem next_ok {i : Nat} (hN : 5000 ≤ N) (h : RD n i c m) (h15 : m 24 15 = 0) :
    ∃ r c' L' m', F_X8_next N 4 c L (GRf pb) = some (c', L') ∧ F_X12_next N 24 m Lr (GRf pb) = some (r, m') ∧ A4 c c' ∧ AL L L' ∧ A24 m m' ∧
      ((r = true ∧ NX n L' c' m' ∧ c' 4 8 = c 4 8 ∧ c' 4 9 = c 4 9 ∧ m' 24 16 = m 24 16) ∨ (r = false ∧ NF c' m')) := by
  have n4 := h.1.1
  have hi := h.2.2.2
  obtain ⟨j', j1, j2, e1, e2⟩ := blank_ok (N := N) (pb := pb) (L := L) (Lr := Lr) (n - i) i N N c m (by omega) (by omega) (by omega) h
  have a1 : A4 c (uI (uI c 4 3 (nI j')) 4 5 (nI j')) := (A4.r.u (by omega)).u (by omega)
  have a2 : A24 m (uI (uI m 24 10 (nI j')) 24 12 (nI j')) := (A24.r.u (by omega)).u (by omega)
  have x3 : uI c 4 3 (nI j') 4 3 = nI j' := uI_same
  have x10 : uI m 24 10 (nI j') 24 10 = nI j' := uI_same
  have hT := h.1.go a1 a2
  have rd : RD n j' (uI (uI c 4 3 (nI j')) 4 5 (nI j')) (uI (uI m 24 10 (nI j')) 24 12 (nI j')) := ⟨hT, by rw [uI_at (by omega)]; exact x3, by rw [uI_at (by omega)]; exact x10, j2⟩
  have y5 : uI (uI c 4 3 (nI j')) 4 5 (nI j') 4 5 = nI j' := uI_same
  have y12 : uI (uI m 24 10 (nI j')) 24 12 (nI j') 24 12 = nI j' := uI_same
  have co : ∀ k, k ≠ 3 → k ≠ 5 → uI (uI c 4 3 (nI j')) 4 5 (nI j') 4 k = c 4 k := fun k z1 z2 => by rw [uI_at (by omega), uI_at (by omega)]
  have mo : ∀ k, k ≠ 10 → k ≠ 12 → uI (uI m 24 10 (nI j')) 24 12 (nI j') 24 k = m 24 k := fun k z1 z2 => by rw [uI_at (by omega), uI_at (by omega)]
  have g15 := (mo 15 (by omega) (by omega)).trans h15
  generalize hC2 : uI (uI c 4 3 (nI j')) 4 5 (nI j') = c2 at *
  generalize hM2 : uI (uI m 24 10 (nI j')) 24 12 (nI j') = m2 at *
  have by1 := bytC (pb := pb) (L := L) hT (i := j') (by omega)
  have by2 := bytM (pb := pb) (L := Lr) hT (i := j') (by omega)
  have z0 : (m 24 15 ≤ 0) = True := eq_true (by rw [h15]; exact Int32.le_refl _)
  have one : ((1 : Int32) = 0) = False := eq_false (by decide)
  have fin : ∀ c' L' m', A4 c2 c' → AL L L' → A24 m2 m' → NO n c2 m2 L' c' m' → F_X8_next N 4 c L (GRf pb) = some (c', L') → (F_X12_next N 24 m Lr (GRf pb) = if m' 24 15 = 0 then some (true, m') else some (false, m')) → ∃ r c' L' m', F_X8_next N 4 c L (GRf pb) = some (c', L') ∧ F_X12_next N 24 m Lr (GRf pb) = some (r, m') ∧ A4 c c' ∧ AL L L' ∧ A24 m m' ∧
      ((r = true ∧ NX n L' c' m' ∧ c' 4 8 = c 4 8 ∧ c' 4 9 = c 4 9 ∧ m' 24 16 = m 24 16) ∨ (r = false ∧ NF c' m')) := by
    intro c' L' m' k1 k2 k3 k4 k5 k6
    rcases k4 with ⟨k4, k7, k8, k9⟩ | k4
    · have : m' 24 15 = 0 := by obtain ⟨_, _, _, _, _, _, _, _, _, _, z, _⟩ := k4; exact z
      rw [if_pos this] at k6
      exact ⟨true, c', L', m', k5, k6, a1.t k1, k2, a2.t k3, Or.inl ⟨rfl, k4, k7.trans (co 8 (by omega) (by omega)), k8.trans (co 9 (by omega) (by omega)), k9.trans (mo 16 (by omega) (by omega))⟩⟩
    · rw [k4.2.2.1, if_neg (by decide)] at k6
      exact ⟨false, c', L', m', k5, k6, a1.t k1, k2, a2.t k3, Or.inr ⟨rfl, k4⟩⟩
  by_cases p1 : bt m2 n j' = -1
  · refine fin (uI c2 4 4 0) L (uI m2 24 11 0) (A4.r.u (by omega)) AL.r (A24.r.u (by omega)) (Or.inl ⟨⟨j', j', 0, ⟨hT.go (A4.r.u (by omega)) (A24.r.u (by omega)), ?_, ?_, j2⟩, j2, ?_, ?_, uI_same, uI_same, by omega, ?_, fun z => by omega, fun z => by omega, fun z => by omega⟩, ?_, ?_, ?_⟩) ?_ ?_
    · rw [uI_at (by omega)]; exact rd.2.1
    · rw [uI_at (by omega)]; exact rd.2.2.1
    · rw [uI_at (by omega)]; exact y5
    · rw [uI_at (by omega)]; exact y12
    · rw [uI_at (by omega)]; exact g15
    · rw [uI_at (by omega)]
    · rw [uI_at (by omega)]
    · rw [uI_at (by omega)]
    · simp only [F_X8_next, ck_4, if_true, e1, b1e, x3, wre, hC2, rd.2.1, by1, if_pos p1]
    · simp only [F_X12_next, ck_24, if_true, z0, e2, b1e, x10, wre, hM2, rd.2.2.1, by2, if_pos p1]
  cases p2 : inV (bt m2 n j') 97 122 with
  | true =>
    obtain ⟨c', L', m', k1, k2, k3, k4, k5, k6⟩ := word_ok (N := N) (pb := pb) (L := L) (Lr := Lr) hN rd y5 y12 g15 p2
    refine fin c' L' m' k3 k4 k5 k6 ?_ ?_
    · simp only [F_X8_next, ck_4, if_true, e1, b1e, x3, wre, hC2, rd.2.1, by1, if_neg p1, letC, p2, b2t, if_false, k1, b2e]
    · simp only [F_X12_next, ck_24, if_true, z0, e2, b1e, x10, wre, hM2, rd.2.2.1, by2, if_neg p1, letM, p2, b2t, if_false, k2]
  | false =>
    by_cases p4 : bt m2 n j' = 45
    · obtain ⟨c', m', k1, k2, k3, k5, k6⟩ := num_neg (N := N) (pb := pb) (L := L) (Lr := Lr) hN rd y5 y12 g15 p4
      have p3 : inV (bt m2 n j') 48 57 = false := by rw [p4]; decide
      refine fin c' L m' k3 AL.r k5 k6 ?_ ?_
      · simp only [F_X8_next, ck_4, if_true, e1, b1e, x3, wre, hC2, rd.2.1, by1, if_neg p1, letC, p2, b2f, digC, p3, if_pos p4, k1]
      · simp only [F_X12_next, ck_24, if_true, z0, e2, b1e, x10, wre, hM2, rd.2.2.1, by2, if_neg p1, letM, p2, b2f, digM, p3, if_pos p4, k2]
    · cases p3 : inV (bt m2 n j') 48 57 with
      | true =>
        obtain ⟨c', m', k1, k2, k3, k5, k6⟩ := num_pos (N := N) (pb := pb) (L := L) (Lr := Lr) hN rd y5 y12 g15 p4
        refine fin c' L m' k3 AL.r k5 k6 ?_ ?_
        · simp only [F_X8_next, ck_4, if_true, e1, b1e, x3, wre, hC2, rd.2.1, by1, if_neg p1, letC, p2, b2f, digC, p3, b2t, if_false, k1]
        · simp only [F_X12_next, ck_24, if_true, z0, e2, b1e, x10, wre, hM2, rd.2.2.1, by2, if_neg p1, letM, p2, b2f, digM, p3, b2t, if_false, k2]
      | false =>
        have jn : j' < n := by
          refine Nat.lt_of_not_le (fun z => p1 ?_)
          unfold bt
          rw [if_neg (by omega)]
        have sgn : ∀ v : Int32, (v = 59 ∨ v = 60 ∨ v = 62) → bt m2 n j' = v → F_X8_next N 4 c L (GRf pb) = some (uI (uI (uI c2 4 4 3) 4 6 v) 4 3 (nI (j' + 1)), L) → (F_X12_next N 24 m Lr (GRf pb) = some (true, uI (uI (uI m2 24 11 3) 24 14 v) 24 10 (nI (j' + 1)))) → ∃ r c' L' m', F_X8_next N 4 c L (GRf pb) = some (c', L') ∧ F_X12_next N 24 m Lr (GRf pb) = some (r, m') ∧ A4 c c' ∧ AL L L' ∧ A24 m m' ∧
            ((r = true ∧ NX n L' c' m' ∧ c' 4 8 = c 4 8 ∧ c' 4 9 = c 4 9 ∧ m' 24 16 = m 24 16) ∨ (r = false ∧ NF c' m')) := by
          intro v hs hv k1 k2
          have b1 : A4 c2 (uI (uI (uI c2 4 4 3) 4 6 v) 4 3 (nI (j' + 1))) := ((A4.r.u (by omega)).u (by omega)).u (by omega)
          have b2 : A24 m2 (uI (uI (uI m2 24 11 3) 24 14 v) 24 10 (nI (j' + 1))) := ((A24.r.u (by omega)).u (by omega)).u (by omega)
          refine ⟨true, _, L, _, k1, k2, a1.t b1, AL.r, a2.t b2, Or.inl ⟨rfl, ⟨j', j' + 1, 3, ⟨hT.go b1 b2, uI_same, uI_same, by omega⟩, j2, ?_, ?_, ?_, ?_, by omega, ?_, fun z => by omega, fun z => by omega, fun _ => ⟨?_, ?_⟩⟩, ?_, ?_, ?_⟩⟩
          · rw [uI_at (by omega), uI_at (by omega), uI_at (by omega)]; exact y5
          · rw [uI_at (by omega), uI_at (by omega), uI_at (by omega)]; exact y12
          · rw [uI_at (by omega), uI_at (by omega)]; exact uI_same
          · rw [uI_at (by omega), uI_at (by omega)]; exact uI_same
          · rw [uI_at (by omega), uI_at (by omega), uI_at (by omega)]; exact g15
          · rw [uI_at (by omega), uI_same, uI_at (by omega), uI_same]
          · rw [uI_at (by omega), uI_same]; exact hs
          · rw [uI_at (by omega), uI_at (by omega), uI_at (by omega)]; exact co 8 (by omega) (by omega)
          · rw [uI_at (by omega), uI_at (by omega), uI_at (by omega)]; exact co 9 (by omega) (by omega)
          · rw [uI_at (by omega), uI_at (by omega), uI_at (by omega)]; exact mo 16 (by omega) (by omega)
        have k1 : nI j' + 1 = nI (j' + 1) := nI_1 j'
        have w3 : ∀ a b, uI (uI c2 4 4 a) 4 6 b 4 3 = nI j' := fun a b => by rw [uI_at (by omega), uI_at (by omega)]; exact rd.2.1
        have w10 : ∀ a b, uI (uI m2 24 11 a) 24 14 b 24 10 = nI j' := fun a b => by rw [uI_at (by omega), uI_at (by omega)]; exact rd.2.2.1
        have w15 : ∀ a b d, uI (uI (uI m2 24 11 a) 24 14 b) 24 10 d 24 15 = 0 := fun a b d => by rw [uI_at (by omega), uI_at (by omega), uI_at (by omega)]; exact g15
        by_cases r59 : bt m2 n j' = 59
        · refine sgn 59 (by decide) r59 ?_ ?_
          · simp (decide := true) only [F_X8_next, ck_4, if_true, if_false, e1, b1e, x3, wre, hC2, rd.2.1, by1, letC, show inV 59 97 122 = false by decide, b2f, digC, show inV 59 48 57 = false by decide, r59, w3, k1]
          · simp (decide := true) only [F_X12_next, ck_24, if_true, if_false, z0, e2, b1e, x10, wre, hM2, rd.2.2.1, by2, letM, show inV 59 97 122 = false by decide, b2f, digM, show inV 59 48 57 = false by decide, r59, w10, k1, w15]
        by_cases r60 : bt m2 n j' = 60
        · refine sgn 60 (by decide) r60 ?_ ?_
          · simp (decide := true) only [F_X8_next, ck_4, if_true, if_false, e1, b1e, x3, wre, hC2, rd.2.1, by1, letC, show inV 60 97 122 = false by decide, b2f, digC, show inV 60 48 57 = false by decide, r60, w3, k1]
          · simp (decide := true) only [F_X12_next, ck_24, if_true, if_false, z0, e2, b1e, x10, wre, hM2, rd.2.2.1, by2, letM, show inV 60 97 122 = false by decide, b2f, digM, show inV 60 48 57 = false by decide, r60, w10, k1, w15]
        by_cases r62 : bt m2 n j' = 62
        · refine sgn 62 (by decide) r62 ?_ ?_
          · simp (decide := true) only [F_X8_next, ck_4, if_true, if_false, e1, b1e, x3, wre, hC2, rd.2.1, by1, letC, show inV 62 97 122 = false by decide, b2f, digC, show inV 62 48 57 = false by decide, r62, w3, k1]
          · simp (decide := true) only [F_X12_next, ck_24, if_true, if_false, z0, e2, b1e, x10, wre, hM2, rd.2.2.1, by2, letM, show inV 62 97 122 = false by decide, b2f, digM, show inV 62 48 57 = false by decide, r62, w10, k1, w15]
        have w3 : ∀ a b, uI (uI c2 4 4 a) 4 8 b 4 3 = nI j' := fun a b => by rw [uI_at (by omega), uI_at (by omega)]; exact rd.2.1
        refine fin (uI (uI (uI c2 4 4 4) 4 8 1) 4 9 (nI j')) L (uI (uI m2 24 15 1) 24 16 (nI j')) (((A4.r.u (by omega)).u (by omega)).u (by omega)) AL.r ((A24.r.u (by omega)).u (by omega)) (Or.inr ⟨?_, ?_, ?_, ?_⟩) ?_ ?_
        · rw [uI_at (by omega), uI_at (by omega)]; exact uI_same
        · rw [uI_at (by omega)]; exact uI_same
        · rw [uI_at (by omega)]; exact uI_same
        · rw [uI_same, uI_same]
        · simp only [F_X8_next, ck_4, if_true, e1, b1e, x3, wre, hC2, rd.2.1, by1, if_neg p1, letC, p2, b2f, digC, p3, if_neg p4, if_neg r59, if_neg r60, if_neg r62, F_X8_spoil, w3]
        · simp only [F_X12_next, ck_24, if_true, z0, e2, b1e, x10, wre, hM2, rd.2.2.1, by2, if_neg p1, letM, p2, b2f, digM, p3, if_neg p4, if_neg r59, if_neg r60, if_neg r62, F_X12_wrong, g15]
end P23
