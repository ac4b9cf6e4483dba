/-! T3: run, command and what is told; the three methods that throw NoSuchElementException as pure functions -/
def F_X11_part (x0 : Nat) (x1 : Int32) (x2 : Int32) (I : MI) (L : ML) (R : MR) : Option (Sum String (Int32)) :=
  if kd x0 = 10 ∧ x0 < NN then
  bsm (F_X11_checkUnit x0 x1 I L R) (fun e2 => some (.inl e2)) fun z3 =>
  (rf R x0 2 9).bind fun a4 =>
  bn1 (F_X10_unitAt a4 x1 I L R) fun a5 =>
  if kd a5 = 8 ∧ a5 < NN then
  bn1 (F_X9_owns a5 x2 I L R) fun b8 =>
  if (b2i b8) = 0 then
    some (.inl "java/util/NoSuchElementException")
  else
    bn1 (F_X9_value a5 x2 I L R) fun v11 =>
    some (.inr (v11))
  else none
  else none
def F_X11_ask (N : Nat) (x0 : Nat) (x1 : Int32) (x2 : Int32) (I : MI) (L : ML) (R : MR) : Option (Sum String (Int32)) :=
  if kd x0 = 10 ∧ x0 < NN then
  bsm (F_X11_checkUnit x0 x1 I L R) (fun e2 => some (.inl e2)) fun z3 =>
  (rf R x0 2 9).bind fun a4 =>
  bn1 (F_X10_unitAt a4 x1 I L R) fun a5 =>
  if kd a5 = 8 ∧ a5 < NN then
  bn1 (F_X9_tells a5 x2 I L R) fun b8 =>
  if (b2i b8) = 0 then
    some (.inl "java/util/NoSuchElementException")
  else
    bn1 (F_X9_answer N a5 x2 I L R) fun v11 =>
    some (.inr (v11))
  else none
  else none
def F_X11_note (x0 : Nat) (x1 : Int32) (x2 : Int32) (I : MI) (L : ML) (R : MR) : Option (Sum String (Int32)) :=
  if kd x0 = 10 ∧ x0 < NN then
  (rf R x0 2 9).bind fun a1 =>
  bn1 (F_X10_hasNote a1 x1 I L R) fun b2 =>
  if (b2i b2) = 0 then
    some (.inl "java/util/NoSuchElementException")
  else
    if x2 < 0 then
      some (.inl "java/util/NoSuchElementException")
    else
      if x2 ≤ (2 : Int32) then
        bn1 (F_X10_noteValue a1 x1 x2 I L R) fun v7 =>
        some (.inr (v7))
      else
        some (.inl "java/util/NoSuchElementException")
  else none
/-- what a call answers on both sides: the value, or what was thrown -/
def TwV (cl : List (String × Int32)) (x : Option (Sum String Int32)) (y : Option (Int32 × MI)) (Q : MI → Prop) : Prop := (∃ v m', x = some (.inr v) ∧ y = some (v, m') ∧ m' 24 5 = 0 ∧ Q m') ∨ (∃ E k v m', x = some (.inl E) ∧ y = some (v, m') ∧ (E, k) ∈ cl ∧ m' 24 5 = k ∧ Q m')
def TwM {α : Type} (cl : List (String × Int32)) (x : Option (Sum String (α × MI))) (y : Option (α × MI)) (Q : MI → MI → Prop) (c : MI) : Prop := (∃ v c' m', x = some (.inr (v, c')) ∧ y = some (v, m') ∧ m' 24 5 = 0 ∧ Q c' m') ∨ (∃ E k v m', x = some (.inl E) ∧ y = some (v, m') ∧ (E, k) ∈ cl ∧ m' 24 5 = k ∧ Q c m')
section P17
variable {N n : Nat} {cd : Nat → Nat} {pb : Nat} {L : ML} {t s0 B D : Nat} {c m : MI}
theorem RC.t5 {v : Int32} (h : RC n cd pb L t s0 B D c m) : RC n cd pb L t s0 B D c (uI m 24 5 v) :=
  h.of (by
    intro o p a b ht
    rw [h.1 o p a b ht]
    refine (uI_at ?_).symm
    rintro ⟨rfl, rfl⟩
    have hx : ∀ x ∈ scT, 25 ≤ x.2.2 := by decide
    rcases ht with ⟨u, g⟩ | ⟨g0, g⟩ | g | g | g | g
    · omega
    · have := hx _ g
      simp only at this
      omega
    · omega
    · omega
    · omega
    · omega) (fun _ _ _ => rfl) (fun o p q => uI_at (by unfold stm dym at q; omega))
theorem failM {k : Int32} : F_X12_fail 24 k m L (GRf pb) = some (0, uI m 24 5 k) := by simp only [F_X12_fail, ck_24, if_true, wre]
theorem RC.unit (h : RC n cd pb L t s0 B D c m) (x : Int32) : (F_X10_has 1 x c L (GRf pb) = some false ∧ F_X12_isUnit 24 x m L (GRf pb) = some false) ∨ ∃ u, u < n ∧ x = nI u ∧ F_X10_has 1 x c L (GRf pb) = some true ∧ F_X12_isUnit 24 x m L (GRf pb) = some true := by
  have hn := h.n20
  rcases pk_ix x (n := n) (by omega) with q | q | ⟨j, hj, rfl⟩
  · left
    constructor <;> simp only [F_X10_has, F_X12_isUnit, ck_1, ck_24, if_true, if_pos q]
  · left
    have q0 : ¬ x < 0 := fun z => by
      have := Int32.lt_of_le_of_lt q z
      exact nI_pos (n := n) (by omega) this
    constructor <;> simp only [F_X10_has, F_X12_isUnit, ck_1, ck_24, if_true, if_neg q0, h.nc, h.nm, if_pos q]
  · right
    refine ⟨j, hj, rfl, ?_, ?_⟩ <;> simp only [F_X10_has, F_X12_isUnit, ck_1, ck_24, if_true, if_neg (nI_pos (n := j) (by omega)), h.nc, h.nm, if_neg (nI_ge hj (show n < 2 ^ 31 by omega))]
theorem run_ok (hN : 5000 ≤ N) (x : Int32) (ht : t + 1001 < 2 ^ 20) (hB : B + 21 * 1001 < 2 ^ 30) (hD : D + 820 * 1001 < 2 ^ 30) (h : RC n cd pb L t s0 B D c m) : TwM [("java/lang/IllegalStateException", 1), ("java/lang/IllegalArgumentException", 2)] (F_X11_run N 0 x c L (GRf pb)) (F_X12_run N 24 x m L (GRf pb)) (fun a b => ∃ t' s', t' ≤ t + 1000 ∧ RC n cd pb L t' s' (B + 21 * 1000) (D + 820 * 1000) a b) c := by
  have hn := h.n20
  have z5 : ∀ v p, p ≠ 5 → uI m 24 5 v 24 p = m 24 p := fun v p z => uI_at (fun q => z q.2)
  have two : ∀ a b : Int32, uI (uI m 24 5 a) 24 5 b = uI m 24 5 b := fun a b => uI_two
  have mono : ∀ v, ∃ t' s', t' ≤ t + 1000 ∧ RC n cd pb L t' s' (B + 21 * 1000) (D + 820 * 1000) c (uI m 24 5 v) := fun v => ⟨t, s0, by omega, ((h.t5 (v := v)).monoB (by omega) (by omega)).monoD (by omega) (by omega)⟩
  by_cases q0 : n = 0
  · subst q0
    refine Or.inr ⟨"java/lang/IllegalStateException", 1, 0, uI m 24 5 1, ?_, ?_, by decide, uI_same, mono 1⟩
    · simp only [F_X11_run, ck_0, if_true, rf_0_2, bse, h.size, b1e, if_pos (show nI 0 = 0 from rfl)]
    · simp only [F_X12_run, ck_24, if_true, wre, z5 _ 21 (by decide), h.nm, if_pos (show nI 0 = 0 from rfl), failM, b2e, two]
  · have n0 : (nI n = 0) = False := eq_false (nI_ne0 (by omega) (by omega))
    by_cases q1 : x < 0
    · refine Or.inr ⟨"java/lang/IllegalArgumentException", 2, 0, uI m 24 5 2, ?_, ?_, by decide, uI_same, mono 2⟩
      · simp only [F_X11_run, ck_0, if_true, rf_0_2, bse, h.size, b1e, n0, if_false, if_pos q1]
      · simp only [F_X12_run, ck_24, if_true, wre, z5 _ 21 (by decide), h.nm, n0, if_false, if_pos q1, failM, b2e, two]
    · by_cases q2 : x ≤ 1000
      · obtain ⟨k, k1, rfl⟩ := nI_of2 (M := 1000) (n := 1000) (by decide) q1 q2
        have key := loop2 (f := fun j i I => LF_X11_run_43 N j 0 (nI k) (nI i) I L (GRf pb)) (g := fun j i I => LF_X12_run_37 N j 24 (nI k) (nI i) I L (GRf pb)) (R := fun i a b => b 24 5 = 0 ∧ ∃ s', RC n cd pb L (t + i) s' (B + 21 * i) (D + 820 * i) a b) (Q := fun a b => b 24 5 = 0 ∧ ∃ s', RC n cd pb L (t + k) s' (B + 21 * k) (D + 820 * k) a b) k ?_ ?_ k 0 N N c (uI m 24 5 0) (by omega) (by omega) (by omega) ⟨uI_same, s0, h.t5⟩
        · obtain ⟨a, b, e1, e2, e5, s', hr⟩ := key
          have e1 : LF_X11_run_43 N N 0 (nI k) 0 c L (GRf pb) = some a := e1
          have e2 : LF_X12_run_37 N N 24 (nI k) 0 (uI m 24 5 0) L (GRf pb) = some b := e2
          have tk : a 10 6 = b 24 34 := hr.sc (o := 10) (p := 6) (b := 34) (by decide)
          refine Or.inl ⟨b 24 34, a, b, ?_, ?_, e5, t + k, s', by omega, (hr.monoB (by omega) (by omega)).monoD (by omega) (by omega)⟩
          · simp only [F_X11_run, ck_0, if_true, rf_0_2, bse, h.size, b1e, n0, if_false, if_neg q1, if_pos q2, e1, rf_0_3, F_X2_ticksSoFar, ck_10, tk]
          · simp only [F_X12_run, ck_24, if_true, wre, z5 _ 21 (by decide), h.nm, n0, if_false, if_neg q1, if_pos q2, e2, b1e]
        · intro j l a b hh
          have z : (nI k ≤ nI k) = True := eq_true (nI_le (Nat.le_refl _) (by omega))
          refine ⟨a, b, ?_, ?_, hh⟩ <;> simp only [LF_X11_run_43, LF_X12_run_37, z, if_true]
        · intro j l i a b hi ⟨h5, s', hh⟩
          have z : (nI k ≤ nI i) = False := eq_false (nI_ge hi (by omega))
          obtain ⟨a', b', s2, e1, e2, hr, hf⟩ := tick_ok5 hN (by omega) (by omega) (by omega) hh
          refine ⟨a', b', ?_, ?_, by rw [hf]; exact h5, s2, ?_⟩
          · simp only [LF_X11_run_43, z, if_false, rf_0_3, bse, e1, b1e, wre, nI_1]
          · simp only [LF_X12_run_37, z, if_false, e2, b1e, wre, nI_1]
          · rw [show t + (i + 1) = t + i + 1 by omega, show B + 21 * (i + 1) = B + 21 * i + 21 by omega, show D + 820 * (i + 1) = D + 820 * i + 820 by omega]
            exact hr
      · refine Or.inr ⟨"java/lang/IllegalArgumentException", 2, 0, uI m 24 5 2, ?_, ?_, by decide, uI_same, mono 2⟩
        · simp only [F_X11_run, ck_0, if_true, rf_0_2, bse, h.size, b1e, n0, if_false, if_neg q1, if_neg q2]
        · simp only [F_X12_run, ck_24, if_true, wre, z5 _ 21 (by decide), h.nm, n0, if_false, if_neg q1, if_neg q2, failM, b2e, two]
end P17
