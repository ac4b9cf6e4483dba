/-! T3: one token -/
theorem vN_nI {k : Nat} (h : k < 2 ^ 31) : vN (nI k) = k := nI_clamp h
theorem uL_same {L : ML} {a k : Nat} {v : Int64} : uL L a k v a k = v := by simp [uL]
theorem uL_at {L : ML} {a k o p : Nat} {v : Int64} (h : ¬ (o = a ∧ p = k)) : uL L a k v o p = L o p := by simp [uL, h]
theorem uL_two {L : ML} {a k : Nat} {v w : Int64} : uL (uL L a k v) a k w = uL L a k w := by
  funext x y
  unfold uL
  by_cases q : x = a ∧ y = k
  · rw [if_pos q, if_pos q]
  · rw [if_neg q, if_neg q, if_neg q]
def bw (m : MI) (s k : Nat) : Nat := vN (m 31 (s + k))
def A4 (c c' : MI) : Prop := ∀ o p, ¬ (o = 4 ∧ 3 ≤ p) → c' o p = c o p
def A24 (m m' : MI) : Prop := ∀ o p, ¬ (o = 24 ∧ 10 ≤ p ∧ p ≤ 16) → m' o p = m o p
def AL (L L' : ML) : Prop := ∀ o p, o ≠ 4 → L' o p = L o p
theorem A4.u {c c' : MI} {p : Nat} {v : Int32} (h : A4 c c') (hp : 3 ≤ p) : A4 c (uI c' 4 p v) := fun o q z => by rw [uI_at (fun e => z ⟨e.1, by rw [e.2]; exact hp⟩)]; exact h o q z
theorem A24.u {m m' : MI} {p : Nat} {v : Int32} (h : A24 m m') (hp : 10 ≤ p ∧ p ≤ 16) : A24 m (uI m' 24 p v) := fun o q z => by rw [uI_at (fun e => z ⟨e.1, by rw [e.2]; exact hp⟩)]; exact h o q z
theorem A4.r {c : MI} : A4 c c := fun _ _ _ => rfl
theorem A24.r {m : MI} : A24 m m := fun _ _ _ => rfl
theorem AL.r {L : ML} : AL L L := fun _ _ _ => rfl
theorem AL.u {L L' : ML} {v : Int64} (h : AL L L') : AL L (uL L' 4 7 v) := fun o q z => by rw [uL_at (fun e => z e.1)]; exact h o q z
theorem A4.t {a b c : MI} (h : A4 a b) (h2 : A4 b c) : A4 a c := fun o p z => (h2 o p z).trans (h o p z)
theorem A24.t {a b c : MI} (h : A24 a b) (h2 : A24 b c) : A24 a c := fun o p z => (h2 o p z).trans (h o p z)
theorem AL.t {a b c : ML} (h : AL a b) (h2 : AL b c) : AL a c := fun o p z => (h2 o p z).trans (h o p z)
theorem Tx.go {n : Nat} {c m c' m' : MI} (h : Tx n c m) (h1 : A4 c c') (h2 : A24 m m') : Tx n c' m' := by
  obtain ⟨a1, a2, a3, a4⟩ := h
  refine ⟨a1, by rw [h1 4 2 (by omega)]; exact a2, by rw [h2 24 9 (by omega)]; exact a3, fun j hj => ?_⟩
  rw [h1 5 j (by omega), h2 31 j (by omega)]
  exact a4 j hj
theorem bt_go {n i : Nat} {m m' : MI} (h : A24 m m') : bt m' n i = bt m n i := by
  unfold bt
  rw [h 31 i (by omega)]
theorem bw_go {s k : Nat} {m m' : MI} (h : A24 m m') : bw m' s k = bw m s k := by
  unfold bw
  rw [h 31 _ (by omega)]
theorem inV_b {b lo hi : Nat} (hb : b < 2 ^ 31) (hl : lo < 2 ^ 31) (hh : hi < 2 ^ 31) (h : inV (nI b) (nI lo) (nI hi) = true) : lo ≤ b ∧ b ≤ hi := by
  unfold inV at h
  by_cases q : nI b < nI lo
  · rw [if_pos q] at h; cases h
  · rw [if_neg q] at h
    by_cases q2 : nI hi < nI b
    · rw [if_pos q2] at h; cases h
    · refine ⟨?_, ?_⟩
      · refine Nat.le_of_not_lt (fun z => q ?_)
        exact Int32.not_le.mp (nI_ge z hl)
      · refine Nat.le_of_not_lt (fun z => q2 ?_)
        exact Int32.not_le.mp (nI_ge z hb)
def dgB (m : MI) (n i : Nat) : Bool := inV (bt m n i) 48 57
def ldB (m : MI) (n i : Nat) : Bool := inV (bt m n i) 97 122 || inV (bt m n i) 48 57
theorem bt_in {n i : Nat} {c m : MI} (hT : Tx n c m) (h : i < n) : bt m n i = nI (vN (m 31 i)) ∧ vN (m 31 i) < 256 := by
  obtain ⟨b, hb, e⟩ := (hT.2.2.2 i h).2
  unfold bt
  rw [if_pos h, e, vN_nI (by omega)]
  exact ⟨rfl, hb⟩
theorem dg_in {n i : Nat} {c m : MI} (hT : Tx n c m) (h : dgB m n i = true) : i < n ∧ bt m n i = nI (vN (m 31 i)) ∧ 48 ≤ vN (m 31 i) ∧ vN (m 31 i) ≤ 57 := by
  have hi : i < n := by
    refine Nat.lt_of_not_le (fun z => ?_)
    unfold dgB bt at h
    rw [if_neg (by omega)] at h
    exact Bool.noConfusion (show false = true from h)
  obtain ⟨e, hb⟩ := bt_in hT hi
  unfold dgB at h
  rw [e] at h
  have := inV_b (lo := 48) (hi := 57) (by omega) (by decide) (by decide) h
  exact ⟨hi, e, this⟩
theorem ld_in {n i : Nat} {c m : MI} (hT : Tx n c m) (h : ldB m n i = true) : i < n ∧ bt m n i = nI (vN (m 31 i)) ∧ 48 ≤ vN (m 31 i) ∧ vN (m 31 i) ≤ 122 := by
  have hi : i < n := by
    refine Nat.lt_of_not_le (fun z => ?_)
    unfold ldB bt at h
    rw [if_neg (by omega)] at h
    exact Bool.noConfusion (show false = true from h)
  obtain ⟨e, hb⟩ := bt_in hT hi
  unfold ldB at h
  rw [e] at h
  rcases Bool.or_eq_true .. ▸ h with q | q
  · have := inV_b (lo := 97) (hi := 122) (by omega) (by decide) (by decide) q
    exact ⟨hi, e, by omega, by omega⟩
  · have := inV_b (lo := 48) (hi := 57) (by omega) (by decide) (by decide) q
    exact ⟨hi, e, by omega, by omega⟩
def Wm (m : MI) (w i : Nat) : MI := uI (uI m 24 13 (nI w)) 24 10 (nI i)
theorem Wm_13 {m : MI} {w i : Nat} : Wm m w i 24 13 = nI w := by unfold Wm; rw [uI_at (by omega), uI_same]
theorem Wm_10 {m : MI} {w i : Nat} : Wm m w i 24 10 = nI i := uI_same
theorem Wm_o {m : MI} {w i o p : Nat} (h : ¬ (o = 24 ∧ (p = 13 ∨ p = 10))) : Wm m w i o p = m o p := by unfold Wm; rw [uI_at (by omega), uI_at (by omega)]
theorem Wm_st {m : MI} {w i w' i' : Nat} : uI (uI (Wm m w i) 24 13 (nI w')) 24 10 (nI i') = Wm m w' i' := by
  unfold Wm
  rw [uI_comm (a := 24) (k := 10) (b := 24) (l := 13) (by omega), uI_two, uI_two]
theorem Wm_a {m : MI} {w i : Nat} : A24 m (Wm m w i) := (A24.r.u (by omega)).u (by omega)
section P20
variable {N n s : Nat} {pb : Nat} {L0 Lr : ML} {c0 m0 : MI}
theorem wdC {w k : Nat} (hT : Tx n c0 m0) (hw : w < 8) (hn : s + w ≤ n) (hf : ∀ j, j < w → bw m0 s j ≤ 122) (hl : ldB m0 n (s + w) = true) :
    LF_X8_readWord_12 N (k + 1) 4 (nI w) (uI c0 4 3 (nI (s + w))) (uL L0 4 7 (lN (wV (bw m0 s) w))) (GRf pb) = LF_X8_readWord_12 N k 4 (nI (w + 1)) (uI c0 4 3 (nI (s + (w + 1)))) (uL L0 4 7 (lN (wV (bw m0 s) (w + 1)))) (GRf pb) := by
  have n4 := hT.1
  have tx : Tx n (uI c0 4 3 (nI (s + w))) m0 := hT.go (A4.r.u (by omega)) A24.r
  obtain ⟨hi, e, hb1, hb2⟩ := ld_in hT hl
  have by1 : ∀ L, F_X8_byteAt 4 (nI (s + w)) (uI c0 4 3 (nI (s + w))) L (GRf pb) = some (nI (bw m0 s w)) := fun L => by
    rw [bytC tx (by omega), e]; rfl
  have hl' : (inV (nI (bw m0 s w)) 97 122 || inV (nI (bw m0 s w)) 48 57) = true := by
    unfold ldB at hl; rw [e] at hl; exact hl
  have z : ¬ (8 : Int32) ≤ nI w := nI_ge (a := w) (b := 8) hw (by decide)
  have ws := word_step (f := bw m0 s) hw (fun j hj => by
    rcases Nat.lt_or_ge j w with q | q
    · have := hf j q; omega
    · have : j = w := by omega
      subst this; unfold bw; omega)
  have a1 : nI w + 1 = nI (w + 1) := nI_1 w
  have a2 : nI (s + w) + 1 = nI (s + (w + 1)) := nI_1 (s + w)
  simp only [LF_X8_readWord_12, if_neg z, uI_same, by1, b1e, lodC, hl', b2t, if_false, wre, uL_same, ws, uL_two, uI_two, a1, a2]
theorem wdM {w k : Nat} (hT : Tx n c0 m0) (hw : w < 8) (hn : s + w ≤ n) (hl : ldB m0 n (s + w) = true) :
    LF_X12_takeWord_10 N (k + 1) 24 (Wm m0 w (s + w)) Lr (GRf pb) = LF_X12_takeWord_10 N k 24 (Wm m0 (w + 1) (s + (w + 1))) Lr (GRf pb) := by
  have n4 := hT.1
  have tx : Tx n c0 (Wm m0 w (s + w)) := hT.go A4.r Wm_a
  have by2 : F_X12_byteAt 24 (nI (s + w)) (Wm m0 w (s + w)) Lr (GRf pb) = some (bt m0 n (s + w)) := by
    rw [bytM tx (by omega), bt_go Wm_a]
  have z : (nI w = (8 : Int32)) = False := eq_false (fun q => by have := (nI_eq (a := w) (b := 8) (by omega) (by decide)).mp q; omega)
  have a1 : nI w + 1 = nI (w + 1) := nI_1 w
  have a2 : nI (s + w) + 1 = nI (s + (w + 1)) := nI_1 (s + w)
  have x1 : ∀ v, uI (Wm m0 w (s + w)) 24 13 v 24 10 = nI (s + w) := fun v => by rw [uI_at (by omega)]; exact Wm_10
  unfold ldB at hl
  cases q : inV (bt m0 n (s + w)) 97 122 with
  | true => simp only [LF_X12_takeWord_10, Wm_10, by2, b1e, letM, q, b2t, if_false, Wm_13, z, wre, a1, x1, a2, Wm_st]
  | false =>
    rw [q, Bool.false_or] at hl
    simp only [LF_X12_takeWord_10, Wm_10, by2, b1e, letM, q, b2f, if_true, digM, hl, b2t, if_false, Wm_13, z, wre, a1, x1, a2, Wm_st]
theorem wdC_e {w k : Nat} (hT : Tx n c0 m0) (hn : s + w ≤ n) (h : w = 8 ∨ (w < 8 ∧ ldB m0 n (s + w) = false)) : LF_X8_readWord_12 N (k + 1) 4 (nI w) (uI c0 4 3 (nI (s + w))) L0 (GRf pb) = some (uI c0 4 3 (nI (s + w)), L0) := by
  have n4 := hT.1
  rcases h with rfl | ⟨hw, hl⟩
  · have z : (8 : Int32) ≤ nI 8 := by decide
    simp only [LF_X8_readWord_12, if_pos z]
  · have tx : Tx n (uI c0 4 3 (nI (s + w))) m0 := hT.go (A4.r.u (by omega)) A24.r
    have by1 := bytC (pb := pb) (L := L0) tx (i := s + w) (by omega)
    have z : ¬ (8 : Int32) ≤ nI w := nI_ge (a := w) (b := 8) hw (by decide)
    unfold ldB at hl
    simp only [LF_X8_readWord_12, if_neg z, uI_same, by1, b1e, lodC, hl, b2f, if_true]
theorem wdM_e {w k : Nat} (hT : Tx n c0 m0) (hn : s + w ≤ n) (hl : ldB m0 n (s + w) = false) : LF_X12_takeWord_10 N (k + 1) 24 (Wm m0 w (s + w)) Lr (GRf pb) = some (.inr (Wm m0 w (s + w))) := by
  have n4 := hT.1
  have tx : Tx n c0 (Wm m0 w (s + w)) := hT.go A4.r Wm_a
  have by2 : F_X12_byteAt 24 (nI (s + w)) (Wm m0 w (s + w)) Lr (GRf pb) = some (bt m0 n (s + w)) := by
    rw [bytM tx (by omega), bt_go Wm_a]
  unfold ldB at hl
  have hl2 := Bool.or_eq_false_iff.mp hl
  simp only [LF_X12_takeWord_10, Wm_10, by2, b1e, letM, hl2.1, b2f, if_true, digM, hl2.2]
theorem wdM_w {k : Nat} (hT : Tx n c0 m0) (hn : s + 8 ≤ n) (h15 : m0 24 15 = 0) (hl : ldB m0 n (s + 8) = true) : LF_X12_takeWord_10 N (k + 1) 24 (Wm m0 8 (s + 8)) Lr (GRf pb) = some (.inl (uI (uI (Wm m0 8 (s + 8)) 24 15 1) 24 16 (nI (s + 8)))) := by
  have n4 := hT.1
  have tx : Tx n c0 (Wm m0 8 (s + 8)) := hT.go A4.r Wm_a
  have by2 : F_X12_byteAt 24 (nI (s + 8)) (Wm m0 8 (s + 8)) Lr (GRf pb) = some (bt m0 n (s + 8)) := by
    rw [bytM tx (by omega), bt_go Wm_a]
  have z : (nI 8 = (8 : Int32)) = True := eq_true (by decide)
  have f15 : Wm m0 8 (s + 8) 24 15 = 0 := by rw [Wm_o (by omega)]; exact h15
  unfold ldB at hl
  cases q : inV (bt m0 n (s + 8)) 97 122 with
  | true => simp only [LF_X12_takeWord_10, Wm_10, by2, b1e, letM, q, b2t, if_false, Wm_13, z, if_true, F_X12_wrong, ck_24, f15, wre]
  | false =>
    rw [q, Bool.false_or] at hl
    simp only [LF_X12_takeWord_10, Wm_10, by2, b1e, letM, q, b2f, if_true, digM, hl, b2t, if_false, Wm_13, z, F_X12_wrong, ck_24, f15, wre]
theorem word_loop (hT : Tx n c0 m0) (h15 : m0 24 15 = 0) : ∀ (d w kc kr : Nat), w + d = 8 → d < kc → d < kr → s + w ≤ n → (∀ j, j < w → 48 ≤ bw m0 s j ∧ bw m0 s j ≤ 122) →
    ∃ w', w ≤ w' ∧ w' ≤ 8 ∧ s + w' ≤ n ∧ (∀ j, j < w' → 48 ≤ bw m0 s j ∧ bw m0 s j ≤ 122) ∧
      LF_X8_readWord_12 N kc 4 (nI w) (uI c0 4 3 (nI (s + w))) (uL L0 4 7 (lN (wV (bw m0 s) w))) (GRf pb) = some (uI c0 4 3 (nI (s + w')), uL L0 4 7 (lN (wV (bw m0 s) w'))) ∧
      ((ldB m0 n (s + w') = false ∧ LF_X12_takeWord_10 N kr 24 (Wm m0 w (s + w)) Lr (GRf pb) = some (.inr (Wm m0 w' (s + w')))) ∨
        (ldB m0 n (s + w') = true ∧ LF_X12_takeWord_10 N kr 24 (Wm m0 w (s + w)) Lr (GRf pb) = some (.inl (uI (uI (Wm m0 w' (s + w')) 24 15 1) 24 16 (nI (s + w')))))) := by
  intro d
  induction d with
  | zero =>
    intro w kc kr hw hkc hkr hn hf
    obtain ⟨kc, rfl⟩ : ∃ z, kc = z + 1 := ⟨kc - 1, by omega⟩
    obtain ⟨kr, rfl⟩ : ∃ z, kr = z + 1 := ⟨kr - 1, by omega⟩
    have hw8 : w = 8 := by omega
    subst hw8
    refine ⟨8, Nat.le_refl _, Nat.le_refl _, hn, hf, wdC_e hT hn (Or.inl rfl), ?_⟩
    cases q : ldB m0 n (s + 8) with
    | false => exact Or.inl ⟨rfl, wdM_e hT hn q⟩
    | true => exact Or.inr ⟨rfl, wdM_w hT hn h15 q⟩
  | succ d ih =>
    intro w kc kr hw hkc hkr hn hf
    obtain ⟨kc, rfl⟩ : ∃ z, kc = z + 1 := ⟨kc - 1, by omega⟩
    obtain ⟨kr, rfl⟩ : ∃ z, kr = z + 1 := ⟨kr - 1, by omega⟩
    cases q : ldB m0 n (s + w) with
    | false => exact ⟨w, Nat.le_refl _, by omega, hn, hf, wdC_e hT hn (Or.inr ⟨by omega, q⟩), Or.inl ⟨q, wdM_e hT hn q⟩⟩
    | true =>
      obtain ⟨hi, e, b1, b2⟩ := ld_in hT q
      obtain ⟨w', i1, i2, i3, i4, i5, i6⟩ := ih (w + 1) kc kr (by omega) (by omega) (by omega) (by omega) (fun j hj => by
        rcases Nat.lt_or_ge j w with z | z
        · exact hf j z
        · have : j = w := by omega
          subst this; unfold bw; exact ⟨b1, b2⟩)
      refine ⟨w', by omega, i2, i3, i4, ?_, ?_⟩
      · rw [wdC hT (by omega) hn (fun j hj => (hf j hj).2) q]; exact i5
      · rw [wdM hT (by omega) hn q]; exact i6
end P20
def WD (n s : Nat) (L : ML) (m : MI) : Prop := ∃ w, 1 ≤ w ∧ w ≤ 8 ∧ s + w ≤ n ∧ m 24 13 = nI w ∧ L 4 7 = lN (wV (bw m s) w) ∧ ∀ j, j < w → 48 ≤ bw m s j ∧ bw m s j ≤ 122
def NX (n : Nat) (L : ML) (c m : MI) : Prop := ∃ s j t, RD n j c m ∧ s ≤ n ∧ c 4 5 = nI s ∧ m 24 12 = nI s ∧ c 4 4 = nI t ∧ m 24 11 = nI t ∧ t ≤ 3 ∧ m 24 15 = 0 ∧
  (t = 1 → WD n s L m) ∧ (t = 2 → ∃ v, v ≤ 99999 ∧ (c 4 6 = nI v ∨ c 4 6 = -nI v) ∧ m 24 14 = c 4 6) ∧ (t = 3 → m 24 14 = c 4 6 ∧ (c 4 6 = 59 ∨ c 4 6 = 60 ∨ c 4 6 = 62))
def NF (c m : MI) : Prop := c 4 4 = 4 ∧ c 4 8 = 1 ∧ m 24 15 = 1 ∧ c 4 9 = m 24 16
def NO (n : Nat) (c0 m0 : MI) (L : ML) (c m : MI) : Prop := (NX n L c m ∧ c 4 8 = c0 4 8 ∧ c 4 9 = c0 4 9 ∧ m 24 16 = m0 24 16) ∨ NF c m
section P21
variable {N n s : Nat} {pb : Nat} {L Lr : ML} {c m : MI}
theorem word_ok (hN : 5000 ≤ N) (h : RD n s c m) (h5 : c 4 5 = nI s) (h12 : m 24 12 = nI s) (h15 : m 24 15 = 0) (hl : inV (bt m n s) 97 122 = true) :
    ∃ c' L' m', F_X8_readWord N 4 c L (GRf pb) = some (c', L') ∧ F_X12_takeWord N 24 m Lr (GRf pb) = some m' ∧ A4 c c' ∧ AL L L' ∧ A24 m m' ∧ NO n c m L' c' m' := by
  obtain ⟨hT, h3, h10, hs⟩ := h
  have n4 := hT.1
  have a1 : A4 c (uI c 4 4 1) := A4.r.u (by omega)
  have a2 : A24 m (uI m 24 11 1) := A24.r.u (by omega)
  have tx : Tx n (uI c 4 4 1) (uI m 24 11 1) := hT.go a1 a2
  have eb : ∀ k, bw (uI m 24 11 1) s k = bw m s k := fun k => bw_go a2
  have f15 : uI m 24 11 1 24 15 = 0 := by rw [uI_at (by omega)]; exact h15
  have q0 : ldB (uI m 24 11 1) n s = true := by unfold ldB; rw [bt_go a2, hl]; rfl
  obtain ⟨w, i1, i2, i3, i4, i5, i6⟩ := word_loop (N := N) (s := s) (pb := pb) (L0 := L) (Lr := Lr) tx f15 8 0 N N rfl (by omega) (by omega) (by omega) (fun j hj => absurd hj (by omega))
  have e1 : uI (uI c 4 4 1) 4 3 (nI (s + 0)) = uI c 4 4 1 := by
    have : nI (s + 0) = uI c 4 4 1 4 3 := by rw [uI_at (by omega), h3]; rfl
    rw [this]; exact uI_id
  have e2 : lN (wV (bw (uI m 24 11 1) s) 0) = (0 : Int64) := rfl
  have e3 : Wm (uI m 24 11 1) 0 (s + 0) = uI (uI m 24 11 1) 24 13 0 := by
    unfold Wm
    have : nI (s + 0) = uI (uI m 24 11 1) 24 13 (nI 0) 24 10 := by rw [uI_at (by omega), uI_at (by omega), h10]; rfl
    rw [this]; exact uI_id
  rw [e1, e2] at i5
  rw [e3] at i6
  have i5 : LF_X8_readWord_12 N N 4 0 (uI c 4 4 1) (uL L 4 7 0) (GRf pb) = _ := i5
  generalize hc3 : uI (uI c 4 4 1) 4 3 (nI (s + w)) = c3 at *
  have k1 : A4 c c3 := by rw [← hc3]; exact a1.u (by omega)
  have c33 : c3 4 3 = nI (s + w) := by rw [← hc3]; exact uI_same
  have c34 : c3 4 4 = 1 := by rw [← hc3, uI_at (by omega)]; exact uI_same
  have c3o : ∀ p, p ≠ 3 → p ≠ 4 → c3 4 p = c 4 p := fun p z1 z2 => by rw [← hc3, uI_at (by omega), uI_at (by omega)]
  have t3 : Tx n c3 (Wm (uI m 24 11 1) w (s + w)) := hT.go k1 (a2.t Wm_a)
  have by1 : ∀ L, F_X8_byteAt 4 (nI (s + w)) c3 L (GRf pb) = some (bt (uI m 24 11 1) n (s + w)) := fun L => by
    rw [bytC t3 (by omega), bt_go Wm_a]
  rcases i6 with ⟨q, i6⟩ | ⟨q, i6⟩
  · have hw : 1 ≤ w := by
      refine Nat.pos_of_ne_zero (fun z => ?_)
      subst z
      rw [show s + 0 = s from rfl, q0] at q
      cases q
    unfold ldB at q
    refine ⟨c3, uL L 4 7 (lN (wV (bw (uI m 24 11 1) s) w)), Wm (uI m 24 11 1) w (s + w), ?_, ?_, k1, AL.r.u, a2.t Wm_a, Or.inl ⟨⟨s, s + w, 1, ⟨t3, c33, Wm_10, i3⟩, hs, ?_, ?_, c34, ?_, by omega, ?_, ?_, fun z => by omega, fun z => by omega⟩, ?_, ?_, ?_⟩⟩
    · simp only [F_X8_readWord, ck_4, if_true, wre, i5, b1e, c33, by1, lodC, q, b2f, uL_two]
    · simp only [F_X12_takeWord, ck_24, if_true, wre, i6, bsr]
    · rw [c3o 5 (by omega) (by omega)]; exact h5
    · rw [Wm_o (by omega), uI_at (by omega)]; exact h12
    · rw [Wm_o (by omega)]; exact uI_same
    · rw [Wm_o (by omega)]; exact f15
    · intro _
      refine ⟨w, hw, i2, i3, Wm_13, ?_, fun j hj => ?_⟩
      · rw [uL_same, show bw (Wm (uI m 24 11 1) w (s + w)) s = bw (uI m 24 11 1) s from funext fun k => bw_go Wm_a]
      · rw [bw_go Wm_a]; exact i4 j hj
    · exact c3o 8 (by omega) (by omega)
    · exact c3o 9 (by omega) (by omega)
    · rw [Wm_o (by omega), uI_at (by omega)]
  · unfold ldB at q
    have x3 : ∀ a b, uI (uI c3 4 4 a) 4 8 b 4 3 = nI (s + w) := fun a b => by rw [uI_at (by omega), uI_at (by omega)]; exact c33
    refine ⟨uI (uI (uI c3 4 4 4) 4 8 1) 4 9 (nI (s + w)), uL L 4 7 (lN (wV (bw (uI m 24 11 1) s) w)), uI (uI (Wm (uI m 24 11 1) w (s + w)) 24 15 1) 24 16 (nI (s + w)), ?_, ?_, ((k1.u (by omega)).u (by omega)).u (by omega), AL.r.u, ((a2.t Wm_a).u (p := 15) (v := 1) (by omega)).u (p := 16) (v := nI (s + w)) (by omega), Or.inr ⟨?_, ?_, ?_, ?_⟩⟩
    · simp only [F_X8_readWord, ck_4, if_true, wre, i5, b1e, c33, by1, lodC, q, b2t, if_false, F_X8_spoil, x3]
    · simp only [F_X12_takeWord, ck_24, if_true, wre, i6, bsl]
    · rw [uI_at (by omega), uI_at (by omega)]; exact uI_same
    · rw [uI_at (by omega)]; exact uI_same
    · rw [uI_at (by omega)]; exact uI_same
    · rw [uI_same, uI_same]
end P21
