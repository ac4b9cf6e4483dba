/-! T3: run, command and what is told; the three methods that throw NoSuchElementException as pure functions -/
def F_X11_part (x0 : Nat) (x1 : Int32) (x2 : Int32) (I : MI) (L : ML) (R : MR) : Option (Sum String (Int32)) :=
  if kd x0 = 10 ∧ x0 < NN then
  bsm (F_X11_checkUnit x0 x1 I L R) (fun e2 => some (.inl e2)) fun z3 =>
  (rf R x0 2 9).bind fun a4 =>
  bn1 (F_X10_unitAt a4 x1 I L R) fun a5 =>
  if kd a5 = 8 ∧ a5 < NN then
  bn1 (F_X9_owns a5 x2 I L R) fun b8 =>
  if (b2i b8) = 0 then
    some (.inl "java/util/NoSuchElementException")
  else
    bn1 (F_X9_value a5 x2 I L R) fun v11 =>
    some (.inr (v11))
  else none
  else none
def F_X11_ask (N : Nat) (x0 : Nat) (x1 : Int32) (x2 : Int32) (I : MI) (L : ML) (R : MR) : Option (Sum String (Int32)) :=
  if kd x0 = 10 ∧ x0 < NN then
  bsm (F_X11_checkUnit x0 x1 I L R) (fun e2 => some (.inl e2)) fun z3 =>
  (rf R x0 2 9).bind fun a4 =>
  bn1 (F_X10_unitAt a4 x1 I L R) fun a5 =>
  if kd a5 = 8 ∧ a5 < NN then
  bn1 (F_X9_tells a5 x2 I L R) fun b8 =>
  if (b2i b8) = 0 then
    some (.inl "java/util/NoSuchElementException")
  else
    bn1 (F_X9_answer N a5 x2 I L R) fun v11 =>
    some (.inr (v11))
  else none
  else none
def F_X11_note (x0 : Nat) (x1 : Int32) (x2 : Int32) (I : MI) (L : ML) (R : MR) : Option (Sum String (Int32)) :=
  if kd x0 = 10 ∧ x0 < NN then
  (rf R x0 2 9).bind fun a1 =>
  bn1 (F_X10_hasNote a1 x1 I L R) fun b2 =>
  if (b2i b2) = 0 then
    some (.inl "java/util/NoSuchElementException")
  else
    if x2 < 0 then
      some (.inl "java/util/NoSuchElementException")
    else
      if x2 ≤ (2 : Int32) then
        bn1 (F_X10_noteValue a1 x1 x2 I L R) fun v7 =>
        some (.inr (v7))
      else
        some (.inl "java/util/NoSuchElementException")
  else none
/-- what a call answers on both sides: the value, or what was thrown -/
def TwV (cl : List (String × Int32)) (x : Option (Sum String Int32)) (y : Option (Int32 × MI)) (Q : MI → Prop) : Prop := (∃ v m', x = some (.inr v) ∧ y = some (v, m') ∧ m' 24 5 = 0 ∧ Q m') ∨ (∃ E k v m', x = some (.inl E) ∧ y = some (v, m') ∧ (E, k) ∈ cl ∧ m' 24 5 = k ∧ Q m')
def TwM {α : Type} (cl : List (String × Int32)) (x : Option (Sum String (α × MI))) (y : Option (α × MI)) (Q : MI → MI → Prop) (c : MI) : Prop := (∃ v c' m', x = some (.inr (v, c')) ∧ y = some (v, m') ∧ m' 24 5 = 0 ∧ Q c' m') ∨ (∃ E k v m', x = some (.inl E) ∧ y = some (v, m') ∧ (E, k) ∈ cl ∧ m' 24 5 = k ∧ Q c m')
theorem Sta.feed {n : Nat} {cd : Nat → Nat} {pb : Nat} {L : ML} {c m c' m' : MI} (h : Sta n cd pb L c m) (hrt : RT c' m') (hc0 : ∀ o p, stc o p → o ≠ 4 → o ≠ 5 → c' o p = c o p) (hm0 : ∀ o p, stm o p → o ≠ 30 → ¬ (o = 24 ∧ (p = 7 ∨ p = 15 ∨ p = 16)) → m' o p = m o p) : Sta n cd pb L c' m' := by
  obtain ⟨h1, h2, h3, h4, h5, h6, h7, h8⟩ := h
  refine ⟨h1, h2, ?_, ?_, ?_, ?_, ?_, ?_⟩
  · rw [hc0 1 3 (by unfold stc; omega) (by omega) (by omega)]; exact h3
  · rw [hm0 24 21 (by unfold stm; omega) (by omega) (by omega)]; exact h4
  · obtain ⟨t1, t2, t3, t4, t5, t6⟩ := h5
    refine ⟨?_, ?_, ?_, ?_, ?_, ?_⟩
    · intro j hj
      rw [hm0 25 j (by unfold stm; omega) (by omega) (by omega)]; exact t1 j hj
    · intro j
      rw [hm0 26 j (by unfold stm; omega) (by omega) (by omega)]; exact t2 j
    · intro j
      rw [hm0 27 j (by unfold stm; omega) (by omega) (by omega)]; exact t3 j
    · intro j
      rw [hm0 28 j (by unfold stm; omega) (by omega) (by omega)]; exact t4 j
    · intro j
      rw [hm0 29 j (by unfold stm; omega) (by omega) (by omega)]; exact t5 j
    · intro j
      rw [hm0 54 j (by unfold stm; omega) (by omega) (by omega)]; exact t6 j
  · exact hrt
  · exact h7.congr h2 (fun o p q => hc0 o p (by unfold stc; omega) (by omega) (by omega)) (fun o p q => hm0 o p (by unfold stm; omega) (by omega) (by omega))
  · intro u hu
    obtain ⟨g1, g2, g3, g4, g5, g6, g7, g8, g9⟩ := h8 u hu
    have e : U u = 58 + 4 * u := rfl
    refine ⟨g1, ?_, ?_, ?_, ?_, ?_, ?_, ?_, ?_⟩
    · rw [hc0 _ 8 (by unfold stc; omega) (by omega) (by omega)]; exact g2
    · rw [hc0 _ 7 (by unfold stc; omega) (by omega) (by omega)]; exact g3
    · intro i hi
      rw [hc0 _ i (by unfold stc; omega) (by omega) (by omega)]; exact g4 i hi
    · rw [hm0 37 _ (by unfold stm dynP; omega) (by omega) (by omega)]; exact g5
    · refine g6.congr ?_
      intro k q hk
      exact hm0 37 _ (Or.inr (Or.inr (Or.inr (Or.inr (Or.inr (Or.inr ⟨rfl, by rw [show (65 * u + k) % 65 = k by omega]; exact hk⟩)))))) (by omega) (by omega)
    · have h36 : ∀ p, m' 36 p = m 36 p := fun p => hm0 36 p (Or.inr (Or.inr (Or.inr (Or.inl rfl)))) (by omega) (by omega)
      simp only [h36]; exact g7
    · intro i hi
      have : i < 3 := by unfold mny at hi; split at hi <;> (try split at hi) <;> omega
      rw [hc0 _ _ (by unfold stc; omega) (by omega) (by omega), hm0 36 _ (by unfold stm; omega) (by omega) (by omega)]; exact g8 i hi
    · intro k hk
      rw [hm0 35 _ (by unfold stm; omega) (by omega) (by omega)]; exact g9 k hk
section P17
variable {N n : Nat} {cd : Nat → Nat} {pb : Nat} {L : ML} {t s0 B D : Nat} {c m : MI}
theorem RC.t5 {v : Int32} (h : RC n cd pb L t s0 B D c m) : RC n cd pb L t s0 B D c (uI m 24 5 v) :=
  h.of (by
    intro o p a b ht hg
    rw [h.1 o p a b ht (fun z => by have y := hg z; rw [uI_at (by omega)] at y; exact y)]
    refine (uI_at ?_).symm
    rintro ⟨rfl, rfl⟩
    have hx : ∀ x ∈ scT, 25 ≤ x.2.2 := by decide
    rcases ht with ⟨u, g⟩ | ⟨g0, g⟩ | g | g | g | g
    · omega
    · have := hx _ g
      simp only at this
      omega
    · omega
    · omega
    · omega
    · omega) (fun _ _ _ => rfl) (fun o p q => uI_at (by unfold stm dym at q; omega))
theorem failM {k : Int32} : F_X12_fail 24 k m L (GRf pb) = some (0, uI m 24 5 k) := by simp only [F_X12_fail, ck_24, if_true, wre]
theorem RC.unit (h : RC n cd pb L t s0 B D c m) (x : Int32) : (F_X10_has 1 x c L (GRf pb) = some false ∧ F_X12_isUnit 24 x m L (GRf pb) = some false) ∨ ∃ u, u < n ∧ x = nI u ∧ F_X10_has 1 x c L (GRf pb) = some true ∧ F_X12_isUnit 24 x m L (GRf pb) = some true := by
  have hn := h.n20
  rcases pk_ix x (n := n) (by omega) with q | q | ⟨j, hj, rfl⟩
  · left
    constructor <;> simp only [F_X10_has, F_X12_isUnit, ck_1, ck_24, if_true, if_pos q]
  · left
    have q0 : ¬ x < 0 := fun z => by
      have := Int32.lt_of_le_of_lt q z
      exact nI_pos (n := n) (by omega) this
    constructor <;> simp only [F_X10_has, F_X12_isUnit, ck_1, ck_24, if_true, if_neg q0, h.nc, h.nm, if_pos q]
  · right
    refine ⟨j, hj, rfl, ?_, ?_⟩ <;> simp only [F_X10_has, F_X12_isUnit, ck_1, ck_24, if_true, if_neg (nI_pos (n := j) (by omega)), h.nc, h.nm, if_neg (nI_ge hj (show n < 2 ^ 31 by omega))]
theorem tick_ok5 (hN : 5000 ≤ N) (ht1 : t + 1 < 2 ^ 20) (hB : B + 21 < 2 ^ 30) (hD : D + 820 < 2 ^ 30) (h : RC n cd pb L t s0 B D c m) : ∃ c' m' s', F_X2_tick N 10 c L (GRf pb) = some c' ∧ F_X12_doTick N 24 m L (GRf pb) = some m' ∧ RC n cd pb L (t + 1) s' (B + 21) (D + 820) c' m' ∧ m' 24 5 = m 24 5 := by
  obtain ⟨c', m', s', e1, e2, hr⟩ := tick_ok hN ht1 hB hD h
  exact ⟨c', m', s', e1, e2, hr, fs_F_X12_doTick m Fr.rf m' e2 24 5 (by unfold KM; omega)⟩
theorem run_ok (hN : 5000 ≤ N) (x : Int32) (ht : t + 1001 < 2 ^ 20) (hB : B + 21 * 1001 < 2 ^ 30) (hD : D + 820 * 1001 < 2 ^ 30) (h : RC n cd pb L t s0 B D c m) : TwM [("java/lang/IllegalStateException", 1), ("java/lang/IllegalArgumentException", 2)] (F_X11_run N 0 x c L (GRf pb)) (F_X12_run N 24 x m L (GRf pb)) (fun a b => ∃ t' s', t' ≤ t + 1000 ∧ RC n cd pb L t' s' (B + 21 * 1000) (D + 820 * 1000) a b) c := by
  have hn := h.n20
  have z5 : ∀ v p, p ≠ 5 → uI m 24 5 v 24 p = m 24 p := fun v p z => uI_at (fun q => z q.2)
  have two : ∀ a b : Int32, uI (uI m 24 5 a) 24 5 b = uI m 24 5 b := fun a b => uI_two
  have mono : ∀ v, ∃ t' s', t' ≤ t + 1000 ∧ RC n cd pb L t' s' (B + 21 * 1000) (D + 820 * 1000) c (uI m 24 5 v) := fun v => ⟨t, s0, by omega, ((h.t5 (v := v)).monoB (by omega) (by omega)).monoD (by omega) (by omega)⟩
  by_cases q0 : n = 0
  · subst q0
    refine Or.inr ⟨"java/lang/IllegalStateException", 1, 0, uI m 24 5 1, ?_, ?_, by decide, uI_same, mono 1⟩
    · simp only [F_X11_run, ck_0, if_true, rf_0_2, bse, h.size, b1e, if_pos (show nI 0 = 0 from rfl)]
    · simp only [F_X12_run, ck_24, if_true, wre, z5 _ 21 (by decide), h.nm, if_pos (show nI 0 = 0 from rfl), failM, b2e, two]
  · have n0 : (nI n = 0) = False := eq_false (nI_ne0 (by omega) (by omega))
    by_cases q1 : x < 0
    · refine Or.inr ⟨"java/lang/IllegalArgumentException", 2, 0, uI m 24 5 2, ?_, ?_, by decide, uI_same, mono 2⟩
      · simp only [F_X11_run, ck_0, if_true, rf_0_2, bse, h.size, b1e, n0, if_false, if_pos q1]
      · simp only [F_X12_run, ck_24, if_true, wre, z5 _ 21 (by decide), h.nm, n0, if_false, if_pos q1, failM, b2e, two]
    · by_cases q2 : x ≤ 1000
      · obtain ⟨k, k1, rfl⟩ := nI_of2 (M := 1000) (n := 1000) (by decide) q1 q2
        have key := loop2 (f := fun j i I => LF_X11_run_43 N j 0 (nI k) (nI i) I L (GRf pb)) (g := fun j i I => LF_X12_run_37 N j 24 (nI k) (nI i) I L (GRf pb)) (R := fun i a b => b 24 5 = 0 ∧ ∃ s', RC n cd pb L (t + i) s' (B + 21 * i) (D + 820 * i) a b) (Q := fun a b => b 24 5 = 0 ∧ ∃ s', RC n cd pb L (t + k) s' (B + 21 * k) (D + 820 * k) a b) k ?_ ?_ k 0 N N c (uI m 24 5 0) (by omega) (by omega) (by omega) ⟨uI_same, s0, h.t5⟩
        · obtain ⟨a, b, e1, e2, e5, s', hr⟩ := key
          have e1 : LF_X11_run_43 N N 0 (nI k) 0 c L (GRf pb) = some a := e1
          have e2 : LF_X12_run_37 N N 24 (nI k) 0 (uI m 24 5 0) L (GRf pb) = some b := e2
          have tk : a 10 6 = b 24 34 := hr.sc (o := 10) (p := 6) (b := 34) (by decide)
          refine Or.inl ⟨b 24 34, a, b, ?_, ?_, e5, t + k, s', by omega, (hr.monoB (by omega) (by omega)).monoD (by omega) (by omega)⟩
          · simp only [F_X11_run, ck_0, if_true, rf_0_2, bse, h.size, b1e, n0, if_false, if_neg q1, if_pos q2, e1, rf_0_3, F_X2_ticksSoFar, ck_10, tk]
          · simp only [F_X12_run, ck_24, if_true, wre, z5 _ 21 (by decide), h.nm, n0, if_false, if_neg q1, if_pos q2, e2, b1e]
        · intro j l a b hh
          have z : (nI k ≤ nI k) = True := eq_true (nI_le (Nat.le_refl _) (by omega))
          refine ⟨a, b, ?_, ?_, hh⟩ <;> simp only [LF_X11_run_43, LF_X12_run_37, z, if_true]
        · intro j l i a b hi ⟨h5, s', hh⟩
          have z : (nI k ≤ nI i) = False := eq_false (nI_ge hi (by omega))
          obtain ⟨a', b', s2, e1, e2, hr, hf⟩ := tick_ok5 hN (by omega) (by omega) (by omega) hh
          refine ⟨a', b', ?_, ?_, by rw [hf]; exact h5, s2, ?_⟩
          · simp only [LF_X11_run_43, z, if_false, rf_0_3, bse, e1, b1e, wre, nI_1]
          · simp only [LF_X12_run_37, z, if_false, e2, b1e, wre, nI_1]
          · rw [show t + (i + 1) = t + i + 1 by omega, show B + 21 * (i + 1) = B + 21 * i + 21 by omega, show D + 820 * (i + 1) = D + 820 * i + 820 by omega]
            exact hr
      · refine Or.inr ⟨"java/lang/IllegalArgumentException", 2, 0, uI m 24 5 2, ?_, ?_, by decide, uI_same, mono 2⟩
        · simp only [F_X11_run, ck_0, if_true, rf_0_2, bse, h.size, b1e, n0, if_false, if_neg q1, if_neg q2]
        · simp only [F_X12_run, ck_24, if_true, wre, z5 _ 21 (by decide), h.nm, n0, if_false, if_neg q1, if_neg q2, failM, b2e, two]
theorem IOOB : ("java/lang/IndexOutOfBoundsException", (1 : Int32)) ∈ [("java/lang/IndexOutOfBoundsException", (1 : Int32)), ("java/util/NoSuchElementException", 2)] := by decide
theorem NSE2 : ("java/util/NoSuchElementException", (2 : Int32)) ∈ [("java/lang/IndexOutOfBoundsException", (1 : Int32)), ("java/util/NoSuchElementException", 2)] := by decide
theorem nI_bigk {k : Nat} (hk : k < 65) (j : Nat) (hj : j < 2 ^ 31) : (nI k = nI j) = (k = j) := propext (nI_eq (by omega) hj)
theorem oweT_stT : ∀ k, k < 65 → stv 301 k = oweT.getD k 0 ∧ ∃ j, j < 29 ∧ oweT.getD k 0 = nI j := by
  intro k hk
  have h := (show ∀ k, k < 65 → stv 301 k = oweT.getD k 0 ∧ (List.range 29).any (fun j => oweT.getD k 0 == nI j) = true by decide +kernel) k hk
  refine ⟨h.1, ?_⟩
  obtain ⟨j, j1, j2⟩ := List.any_eq_true.mp h.2
  exact ⟨j, List.mem_range.mp j1, of_decide_eq_true (by simpa using j2)⟩
theorem lf8 : ∀ c, c < 29 → (isL c 8 = true ↔ c = 8) := by decide
theorem lf13 : ∀ c, c < 29 → (isL c 13 = true ↔ c = 13) := by decide
theorem lf14 : ∀ c, c < 29 → (isL c 14 = true ↔ c = 14) := by decide
theorem lf25 : ∀ c, c < 29 → (isL c 25 = true ↔ c = 25) := by decide
theorem lf21 : ∀ c, c < 29 → (isL c 21 = true ↔ c = 21) := by decide
theorem lf16 : ∀ c, c < 29 → (isL c 16 = true ↔ c = 16) := by decide
theorem lf27 : ∀ c, c < 29 → (isL c 27 = true ↔ c = 27) := by decide
theorem lf28 : ∀ c, c < 29 → (isL c 28 = true ↔ c = 28) := by decide
theorem RC.has {l u : Nat} (h : RC n cd pb L t s0 B D c m) (hN : 5000 ≤ N) (hu : u < n) (hl : l < 29) : F_X12_has N 24 (nI (cd u)) (nI l) m L (GRf pb) = some (isL (cd u) l) := has_ok (by omega) h.cm (h.cd29 hu) hl
theorem isl_ne {c l : Nat} (hc : c < 29) (hl : l < 29) (hlf : isL c l = true ↔ c = l) : (nI c = nI l) = (isL c l = true) := propext ⟨fun z => hlf.mpr ((nI_eq (by omega) (by omega)).mp z), fun z => by rw [hlf.mp z]⟩
/-- which parts a unit owns: both sides alike -/
theorem owns_ok {u k : Nat} (hN : 5000 ≤ N) (h : RC n cd pb L t s0 B D c m) (hu : u < n) (hk : k < 65) : ∃ b, F_X9_owns (U u) (nI k) c L (GRf pb) = some b ∧ F_X12_hasPart N 24 (nI (cd u)) (nI k) m L (GRf pb) = some b ∧ (b = true → k = 12 → isL (cd u) 2 = true) ∧ (b = true → k = 46 → cd u = 17) ∧ (b = true → k = 55 → cd u = 24) ∧ (b = true → k = 22 → isL (cd u) 6 = true) := by
  have hu20 := h.lt20 hu
  have hu' : u ≤ 20 := by omega
  have hc := h.cd29 hu
  have is : ∀ l, l < 29 → F_X9_is (U u) (nI l) c L (GRf pb) = some (isL (cd u) l) := fun l hl => h.is hu hl
  have ha : ∀ l, l < 29 → F_X12_has N 24 (nI (cd u)) (nI l) m L (GRf pb) = some (isL (cd u) l) := fun l hl => h.has hN hu hl
  by_cases q27 : k = 27
  · subst q27
    have i8 : F_X9_is (U u) 8 c L (GRf pb) = _ := is 8 (by decide)
    have i13 : F_X9_is (U u) 13 c L (GRf pb) = _ := is 13 (by decide)
    have i14 : F_X9_is (U u) 14 c L (GRf pb) = _ := is 14 (by decide)
    have i18 : F_X9_is (U u) 18 c L (GRf pb) = _ := is 18 (by decide)
    have i25 : F_X9_is (U u) 25 c L (GRf pb) = _ := is 25 (by decide)
    have h18 : F_X12_has N 24 (nI (cd u)) 18 m L (GRf pb) = _ := ha 18 (by decide)
    have e8 : (nI (cd u) = 8) = (isL (cd u) 8 = true) := isl_ne hc (by decide) (lf8 _ hc)
    have e13 : (nI (cd u) = 13) = (isL (cd u) 13 = true) := isl_ne hc (by decide) (lf13 _ hc)
    have e14 : (nI (cd u) = 14) = (isL (cd u) 14 = true) := isl_ne hc (by decide) (lf14 _ hc)
    have e25 : (nI (cd u) = 25) = (isL (cd u) 25 = true) := isl_ne hc (by decide) (lf25 _ hc)
    refine ⟨isL (cd u) 8 || isL (cd u) 13 || isL (cd u) 14 || isL (cd u) 18 || isL (cd u) 25, ?_, ?_, by omega, by omega, by omega, by omega⟩
    · cases q8 : isL (cd u) 8 <;> cases q13 : isL (cd u) 13 <;> cases q14 : isL (cd u) 14 <;> cases q18 : isL (cd u) 18 <;> cases q25 : isL (cd u) 25 <;> simp (decide := true) only [F_X9_owns, ck_U hu', if_true, if_false, i8, i13, i14, i18, i25, q8, q13, q14, q18, q25, b1e, b2t, b2f, Bool.or_true, Bool.true_or, Bool.or_false]
    · cases q8 : isL (cd u) 8 <;> cases q13 : isL (cd u) 13 <;> cases q14 : isL (cd u) 14 <;> cases q18 : isL (cd u) 18 <;> cases q25 : isL (cd u) 25 <;> simp (decide := true) only [F_X12_hasPart, ck_24, if_true, if_false, e8, e13, e14, e25, h18, q8, q13, q14, q18, q25, b1e, b2t, b2f, Bool.or_true, Bool.true_or, Bool.or_false]
  by_cases q31 : k = 31
  · subst q31
    have ia : F_X9_is (U u) 9 c L (GRf pb) = _ := is 9 (by decide)
    have ib : F_X9_is (U u) 21 c L (GRf pb) = _ := is 21 (by decide)
    have ha1 : F_X12_has N 24 (nI (cd u)) 9 m L (GRf pb) = _ := ha 9 (by decide)
    have hb1 : (nI (cd u) = 21) = (isL (cd u) 21 = true) := isl_ne hc (by decide) (lf21 _ hc)
    refine ⟨isL (cd u) 9 || isL (cd u) 21, ?_, ?_, by omega, by omega, by omega, by omega⟩
    · cases qa : isL (cd u) 9 <;> cases qb : isL (cd u) 21 <;> simp (decide := true) only [F_X9_owns, ck_U hu', if_true, if_false, ia, ib, qa, qb, b1e, b2t, b2f, Bool.or_true, Bool.true_or, Bool.or_false]
    · cases qa : isL (cd u) 9 <;> cases qb : isL (cd u) 21 <;> simp (decide := true) only [F_X12_hasPart, ck_24, if_true, if_false, ha1, hb1, qa, qb, b1e, b2t, b2f, Bool.or_true, Bool.true_or, Bool.or_false]
  by_cases q35 : k = 35
  · subst q35
    have ia : F_X9_is (U u) 10 c L (GRf pb) = _ := is 10 (by decide)
    have ib : F_X9_is (U u) 15 c L (GRf pb) = _ := is 15 (by decide)
    have ha1 : F_X12_has N 24 (nI (cd u)) 10 m L (GRf pb) = _ := ha 10 (by decide)
    have hb1 : F_X12_has N 24 (nI (cd u)) 15 m L (GRf pb) = _ := ha 15 (by decide)
    refine ⟨isL (cd u) 10 || isL (cd u) 15, ?_, ?_, by omega, by omega, by omega, by omega⟩
    · cases qa : isL (cd u) 10 <;> cases qb : isL (cd u) 15 <;> simp (decide := true) only [F_X9_owns, ck_U hu', if_true, if_false, ia, ib, qa, qb, b1e, b2t, b2f, Bool.or_true, Bool.true_or, Bool.or_false]
    · cases qa : isL (cd u) 10 <;> cases qb : isL (cd u) 15 <;> simp (decide := true) only [F_X12_hasPart, ck_24, if_true, if_false, ha1, hb1, qa, qb, b1e, b2t, b2f, Bool.or_true, Bool.true_or, Bool.or_false]
  by_cases q40 : k = 40
  · subst q40
    have ia : F_X9_is (U u) 14 c L (GRf pb) = _ := is 14 (by decide)
    have ib : F_X9_is (U u) 18 c L (GRf pb) = _ := is 18 (by decide)
    have ha1 : (nI (cd u) = 14) = (isL (cd u) 14 = true) := isl_ne hc (by decide) (lf14 _ hc)
    have hb1 : F_X12_has N 24 (nI (cd u)) 18 m L (GRf pb) = _ := ha 18 (by decide)
    refine ⟨isL (cd u) 14 || isL (cd u) 18, ?_, ?_, by omega, by omega, by omega, by omega⟩
    · cases qa : isL (cd u) 14 <;> cases qb : isL (cd u) 18 <;> simp (decide := true) only [F_X9_owns, ck_U hu', if_true, if_false, ia, ib, qa, qb, b1e, b2t, b2f, Bool.or_true, Bool.true_or, Bool.or_false]
    · cases qa : isL (cd u) 14 <;> cases qb : isL (cd u) 18 <;> simp (decide := true) only [F_X12_hasPart, ck_24, if_true, if_false, ha1, hb1, qa, qb, b1e, b2t, b2f, Bool.or_true, Bool.true_or, Bool.or_false]
  by_cases q43 : k = 43
  · subst q43
    have ia : F_X9_is (U u) 16 c L (GRf pb) = _ := is 16 (by decide)
    have ib : F_X9_is (U u) 22 c L (GRf pb) = _ := is 22 (by decide)
    have ha1 : (nI (cd u) = 16) = (isL (cd u) 16 = true) := isl_ne hc (by decide) (lf16 _ hc)
    have hb1 : F_X12_has N 24 (nI (cd u)) 22 m L (GRf pb) = _ := ha 22 (by decide)
    refine ⟨isL (cd u) 16 || isL (cd u) 22, ?_, ?_, by omega, by omega, by omega, by omega⟩
    · cases qa : isL (cd u) 16 <;> cases qb : isL (cd u) 22 <;> simp (decide := true) only [F_X9_owns, ck_U hu', if_true, if_false, ia, ib, qa, qb, b1e, b2t, b2f, Bool.or_true, Bool.true_or, Bool.or_false]
    · cases qa : isL (cd u) 16 <;> cases qb : isL (cd u) 22 <;> simp (decide := true) only [F_X12_hasPart, ck_24, if_true, if_false, ha1, hb1, qa, qb, b1e, b2t, b2f, Bool.or_true, Bool.true_or, Bool.or_false]
  by_cases q61 : k = 61
  · subst q61
    have ia : F_X9_is (U u) 27 c L (GRf pb) = _ := is 27 (by decide)
    have ib : F_X9_is (U u) 28 c L (GRf pb) = _ := is 28 (by decide)
    have ha1 : (nI (cd u) = 27) = (isL (cd u) 27 = true) := isl_ne hc (by decide) (lf27 _ hc)
    have hb1 : (nI (cd u) = 28) = (isL (cd u) 28 = true) := isl_ne hc (by decide) (lf28 _ hc)
    refine ⟨isL (cd u) 27 || isL (cd u) 28, ?_, ?_, by omega, by omega, by omega, by omega⟩
    · cases qa : isL (cd u) 27 <;> cases qb : isL (cd u) 28 <;> simp (decide := true) only [F_X9_owns, ck_U hu', if_true, if_false, ia, ib, qa, qb, b1e, b2t, b2f, Bool.or_true, Bool.true_or, Bool.or_false]
    · cases qa : isL (cd u) 27 <;> cases qb : isL (cd u) 28 <;> simp (decide := true) only [F_X12_hasPart, ck_24, if_true, if_false, ha1, hb1, qa, qb, b1e, b2t, b2f, Bool.or_true, Bool.true_or, Bool.or_false]
  obtain ⟨o1, l, hl, o2⟩ := oweT_stT k hk
  have rt1 : rt 301 (nI k) = some (nI l) := by
    unfold rt
    rw [show (stT 301).length = 65 by decide, if_pos (inb_nI hk (by decide)), ix_nI (by omega), o1, o2]
  have r26 : ri m 26 (nI k) = some (nI l) := by
    rw [ri_nI ln_26 hk (by decide), h.tm.2.1 k, o2]
  have n27 : (nI k = 27) = False := eq_false (fun z => q27 ((nI_eq (b := 27) (by omega) (by decide)).mp z))
  have n31 : (nI k = 31) = False := eq_false (fun z => q31 ((nI_eq (b := 31) (by omega) (by decide)).mp z))
  have n35 : (nI k = 35) = False := eq_false (fun z => q35 ((nI_eq (b := 35) (by omega) (by decide)).mp z))
  have n40 : (nI k = 40) = False := eq_false (fun z => q40 ((nI_eq (b := 40) (by omega) (by decide)).mp z))
  have n43 : (nI k = 43) = False := eq_false (fun z => q43 ((nI_eq (b := 43) (by omega) (by decide)).mp z))
  have n61 : (nI k = 61) = False := eq_false (fun z => q61 ((nI_eq (b := 61) (by omega) (by decide)).mp z))
  have z0 : (nI k < 0) = False := eq_false (nI_pos (by omega))
  have z65 : ((65 : Int32) ≤ nI k) = False := eq_false (nI_ge (b := 65) hk (by decide))
  have i1 := is l hl
  have h1 := ha l hl
  refine ⟨isL (cd u) l, ?_, ?_, ?_, ?_, ?_, ?_⟩
  · cases q : isL (cd u) l <;> simp only [F_X9_owns, ck_U hu', if_true, if_false, n27, n31, n35, n40, n43, n61, z0, z65, rt1, bse, i1, q, b1e, b2t, b2f]
  · simp only [F_X12_hasPart, ck_24, if_true, if_false, n27, n31, n35, n40, n43, n61, rf_24_1, bse, r26, h1, b1e]
  · intro q z
    subst z
    have : l = 2 := (nI_eq (by omega) (by decide)).mp (o2.symm.trans (by decide : oweT.getD 12 0 = nI 2))
    rw [this] at q; exact q
  · intro q z
    subst z
    have : l = 17 := (nI_eq (by omega) (by decide)).mp (o2.symm.trans (by decide : oweT.getD 46 0 = nI 17))
    rw [this] at q; exact (show ∀ c, c < 29 → isL c 17 = true → c = 17 by decide) _ hc q
  · intro q z
    subst z
    have : l = 24 := (nI_eq (by omega) (by decide)).mp (o2.symm.trans (by decide : oweT.getD 55 0 = nI 24))
    rw [this] at q; exact (show ∀ c, c < 29 → isL c 24 = true → c = 24 by decide) _ hc q
  · intro q z
    subst z
    have : l = 6 := (nI_eq (by omega) (by decide)).mp (o2.symm.trans (by decide : oweT.getD 22 0 = nI 6))
    rw [this] at q; exact q
theorem owns_no {u : Nat} {x : Int32} (h : RC n cd pb L t s0 B D c m) (hu : u < n) (hx : x < 0 ∨ 65 ≤ x) : F_X9_owns (U u) x c L (GRf pb) = some false := by
  have hu20 := h.lt20 hu
  have hu' : u ≤ 20 := by omega
  have ne : ∀ k : Int32, ¬ k < 0 → ¬ 65 ≤ k → (x = k) = False := fun k k1 k2 => eq_false (fun z => by subst z; rcases hx with q | q; exact k1 q; exact k2 q)
  have e27 := ne 27 (by decide) (by decide)
  have e31 := ne 31 (by decide) (by decide)
  have e35 := ne 35 (by decide) (by decide)
  have e40 := ne 40 (by decide) (by decide)
  have e43 := ne 43 (by decide) (by decide)
  have e61 := ne 61 (by decide) (by decide)
  by_cases q : x < 0
  · simp only [F_X9_owns, ck_U hu', if_true, if_false, e27, e31, e35, e40, e43, e61, if_pos q]
  · simp only [F_X9_owns, ck_U hu', if_true, if_false, e27, e31, e35, e40, e43, e61, if_neg q, if_pos (hx.resolve_left q)]
theorem part_ok (hN : 5000 ≤ N) (x y : Int32) (h : RC n cd pb L t s0 B D c m) : TwV [("java/lang/IndexOutOfBoundsException", 1), ("java/util/NoSuchElementException", 2)] (F_X11_part 0 x y c L (GRf pb)) (F_X12_part N 24 x y m L (GRf pb)) (RC n cd pb L t s0 B D c) := by
  have h0 := h.t5 (v := 0)
  have two : ∀ a b : Int32, uI (uI m 24 5 a) 24 5 b = uI m 24 5 b := fun a b => uI_two
  rcases h0.unit x with ⟨u1, u2⟩ | ⟨u, hu, rfl, u1, u2⟩
  · refine Or.inr ⟨_, 1, 0, uI m 24 5 1, ?_, ?_, IOOB, uI_same, h.t5⟩
    · simp only [F_X11_part, ck_0, if_true, F_X11_checkUnit, rf_0_2, bse, u1, b1e, b2f, bsl]
    · simp only [F_X12_part, ck_24, if_true, wre, u2, b1e, b2f, failM, b2e, two]
  · have hu20 := h.lt20 hu
    have hu' : u ≤ 20 := by omega
    by_cases q0 : y < 0
    · refine Or.inr ⟨_, 2, 0, uI m 24 5 2, ?_, ?_, NSE2, uI_same, h.t5⟩
      · simp only [F_X11_part, ck_0, if_true, if_false, F_X11_checkUnit, rf_0_2, bse, u1, b1e, b2t, b2f, bsr, h.at hu, ck_U hu', owns_no h hu (Or.inl q0)]
      · simp only [F_X12_part, ck_24, if_true, if_false, wre, u2, b1e, b2t, if_pos q0, failM, b2e, two]
    · by_cases q1 : 65 ≤ y
      · refine Or.inr ⟨_, 2, 0, uI m 24 5 2, ?_, ?_, NSE2, uI_same, h.t5⟩
        · simp only [F_X11_part, ck_0, if_true, if_false, F_X11_checkUnit, rf_0_2, bse, u1, b1e, b2t, b2f, bsr, h.at hu, ck_U hu', owns_no h hu (Or.inr q1)]
        · simp only [F_X12_part, ck_24, if_true, if_false, wre, u2, b1e, b2t, if_neg q0, if_pos q1, failM, b2e, two]
      · rcases pk_ix y (n := 65) (by decide) with z | z | ⟨k, hk, rfl⟩
        · exact absurd z q0
        · exact absurd z q1
        · obtain ⟨b, o1, o2, w1, w2, w3, w4⟩ := owns_ok hN h0 hu hk
          have c0 : uI m 24 5 0 37 (65 * u + 0) = nI (cd u) := (h0.un hu).2.2.2.2.1
          cases b with
          | false =>
            refine Or.inr ⟨_, 2, 0, uI m 24 5 2, ?_, ?_, NSE2, uI_same, h.t5⟩
            · simp only [F_X11_part, ck_0, if_true, if_false, F_X11_checkUnit, rf_0_2, bse, u1, b1e, b2t, b2f, bsr, h.at hu, ck_U hu', o1]
            · simp only [F_X12_part, ck_24, if_true, if_false, wre, u2, b1e, b2t, b2f, if_neg q0, if_neg q1, gt_0 hu20, c0, o2, failM, b2e, two]
          | true =>
            have eq : c (U u + 1) k = uI m 24 5 0 37 (65 * u + k) := h0.1 _ _ _ _ (Or.inl ⟨u, hu20, hk, ⟨hu, w1 rfl, w2 rfl, w3 rfl, w4 rfl⟩, by unfold U; omega, rfl, rfl⟩) (fun z => absurd z (by unfold U; omega))
            refine Or.inl ⟨uI m 24 5 0 37 (65 * u + k), uI m 24 5 0, ?_, ?_, uI_same, h0⟩
            · simp only [F_X11_part, ck_0, if_true, if_false, F_X11_checkUnit, rf_0_2, bse, u1, b1e, b2t, bsr, h.at hu, ck_U hu', o1, valC hu' hk, eq]
            · simp only [F_X12_part, ck_24, if_true, if_false, wre, u2, b1e, b2t, if_neg q0, if_neg q1, gt_0 hu20, c0, o2, get_ok hu20 hk]
theorem ask_ok (hN : 5000 ≤ N) (x y : Int32) (h : RC n cd pb L t s0 B D c m) : TwV [("java/lang/IndexOutOfBoundsException", 1), ("java/util/NoSuchElementException", 2)] (F_X11_ask N 0 x y c L (GRf pb)) (F_X12_ask N 24 x y m L (GRf pb)) (RC n cd pb L t s0 B D c) := by
  have h0 := h.t5 (v := 0)
  have two : ∀ a b : Int32, uI (uI m 24 5 a) 24 5 b = uI m 24 5 b := fun a b => uI_two
  rcases h0.unit x with ⟨u1, u2⟩ | ⟨u, hu, rfl, u1, u2⟩
  · refine Or.inr ⟨_, 1, 0, uI m 24 5 1, ?_, ?_, IOOB, uI_same, h.t5⟩
    · simp only [F_X11_ask, ck_0, if_true, F_X11_checkUnit, rf_0_2, bse, u1, b1e, b2f, bsl]
    · simp only [F_X12_ask, ck_24, if_true, wre, u2, b1e, b2f, failM, b2e, two]
  · have hu20 := h.lt20 hu
    have hu' : u ≤ 20 := by omega
    have is9 : F_X9_is (U u) 9 c L (GRf pb) = _ := h.is (l := 9) hu (by decide)
    have is15 : F_X9_is (U u) 15 c L (GRf pb) = _ := h.is (l := 15) hu (by decide)
    have ia9 : F_X12_isA N 24 (nI u) 9 (uI m 24 5 0) L (GRf pb) = _ := h0.isA (l := 9) (by omega) hu (by decide)
    have ia15 : F_X12_isA N 24 (nI u) 15 (uI m 24 5 0) L (GRf pb) = _ := h0.isA (l := 15) (by omega) hu (by decide)
    have inM : F_X12_in y 0 3 (uI m 24 5 0) L (GRf pb) = _ := inM_val
    have inC : F_X11_within y 0 3 c L (GRf pb) = _ := inC_val
    have ansf : ∀ k, k < 6 → ∃ m', F_X12_answer N 24 (nI u) (nI k) (uI m 24 5 0) L (GRf pb) = some (ansV k (cd u) (Pm (uI m 24 5 0) u), m') ∧ m' 24 5 = 0 ∧ RC n cd pb L t s0 B D c m' := by
      intro k hk
      obtain ⟨m', e1, e2⟩ := h0.ansM (q := k) hN hu hk
      exact ⟨m', e1, by rw [e2 24 5 (by decide), uI_same], h0.mOut (fun o p z _ _ _ => e2 o p z)⟩
    have aC : ∀ k, k < 6 → F_X9_answer N (U u) (nI k) c L (GRf pb) = some (ansV k (cd u) (Pm (uI m 24 5 0) u)) := by
      intro k hk
      rcases (show k = 0 ∨ k = 1 ∨ k = 2 ∨ k = 3 ∨ k = 4 ∨ k = 5 by omega) with rfl | rfl | rfl | rfl | rfl | rfl
      · simp (decide := true) only [F_X9_answer, ck_U hu', if_true, if_false, h0.massC hN hu, b1e]
      · simp (decide := true) only [F_X9_answer, ck_U hu', if_true, if_false, h0.spanC hN hu, b1e]
      · simp (decide := true) only [F_X9_answer, ck_U hu', if_true, if_false, h0.needC hN hu, b1e]
      · simp (decide := true) only [F_X9_answer, ck_U hu', if_true, if_false, h0.testC hN hu, b1e]
      · simp (decide := true) only [F_X9_answer, ck_U hu', if_true, if_false, h0.channelsC hN hu, b1e]
      · simp (decide := true) only [F_X9_answer, ck_U hu', if_true, if_false, h0.pushC hN hu, b1e]
    by_cases q4 : y = 4
    · subst q4
      have i4 : inV 4 0 3 = false := by decide
      obtain ⟨m', e1, e2, e3⟩ := ansf 4 (by decide)
      have e1 : F_X12_answer N 24 (nI u) 4 (uI m 24 5 0) L (GRf pb) = _ := e1
      have a4 : F_X9_answer N (U u) 4 c L (GRf pb) = _ := aC 4 (by decide)
      cases q : isL (cd u) 9 with
      | true =>
        refine Or.inl ⟨ansV 4 (cd u) (Pm (uI m 24 5 0) u), m', ?_, ?_, e2, e3⟩
        · simp (decide := true) only [F_X11_ask, ck_0, if_true, if_false, F_X11_checkUnit, rf_0_2, bse, u1, b1e, b2t, bsr, h.at hu, ck_U hu', F_X9_tells, is9, q, a4]
        · simp (decide := true) only [F_X12_ask, ck_24, if_true, if_false, wre, u2, b1e, b2t, b2f, inM, i4, ia9, q, one0, e1, b2e]
      | false =>
        refine Or.inr ⟨_, 2, 0, uI m 24 5 2, ?_, ?_, NSE2, uI_same, h.t5⟩
        · simp (decide := true) only [F_X11_ask, ck_0, if_true, if_false, F_X11_checkUnit, rf_0_2, bse, u1, b1e, b2t, b2f, bsr, h.at hu, ck_U hu', F_X9_tells, is9, q]
        · simp (decide := true) only [F_X12_ask, ck_24, if_true, if_false, wre, u2, b1e, b2t, b2f, inM, i4, ia9, q, zer0, failM, b2e, two]
    · by_cases q5 : y = 5
      · subst q5
        have i5 : inV 5 0 3 = false := by decide
        obtain ⟨m', e1, e2, e3⟩ := ansf 5 (by decide)
        have e1 : F_X12_answer N 24 (nI u) 5 (uI m 24 5 0) L (GRf pb) = _ := e1
        have a5 : F_X9_answer N (U u) 5 c L (GRf pb) = _ := aC 5 (by decide)
        cases q : isL (cd u) 15 with
        | true =>
          refine Or.inl ⟨ansV 5 (cd u) (Pm (uI m 24 5 0) u), m', ?_, ?_, e2, e3⟩
          · simp (decide := true) only [F_X11_ask, ck_0, if_true, if_false, F_X11_checkUnit, rf_0_2, bse, u1, b1e, b2t, bsr, h.at hu, ck_U hu', F_X9_tells, is15, q, a5]
          · simp (decide := true) only [F_X12_ask, ck_24, if_true, if_false, wre, u2, b1e, b2t, b2f, inM, i5, ia15, q, one0, e1, b2e]
        | false =>
          refine Or.inr ⟨_, 2, 0, uI m 24 5 2, ?_, ?_, NSE2, uI_same, h.t5⟩
          · simp (decide := true) only [F_X11_ask, ck_0, if_true, if_false, F_X11_checkUnit, rf_0_2, bse, u1, b1e, b2t, b2f, bsr, h.at hu, ck_U hu', F_X9_tells, is15, q]
          · simp (decide := true) only [F_X12_ask, ck_24, if_true, if_false, wre, u2, b1e, b2t, b2f, inM, i5, ia15, q, zer0, failM, b2e, two]
      · cases q : inV y 0 3 with
        | false =>
          refine Or.inr ⟨_, 2, 0, uI m 24 5 2, ?_, ?_, NSE2, uI_same, h.t5⟩
          · simp only [F_X11_ask, ck_0, if_true, if_false, F_X11_checkUnit, rf_0_2, bse, u1, b1e, b2t, b2f, bsr, h.at hu, ck_U hu', F_X9_tells, if_neg q4, if_neg q5, inC, q]
          · simp only [F_X12_ask, ck_24, if_true, if_false, wre, u2, b1e, b2t, b2f, inM, q, if_neg q4, if_neg q5, zer0, failM, b2e, two]
        | true =>
          obtain ⟨k, k1, rfl⟩ : ∃ k, k ≤ 3 ∧ y = nI k := by
            unfold inV at q
            by_cases z : y < 0
            · rw [if_pos z] at q; cases q
            · rw [if_neg z] at q
              by_cases z2 : 3 < y
              · rw [if_pos z2] at q; cases q
              · exact nI_of2 (M := 3) (n := 3) (by decide) z (Int32.not_lt.mp z2)
          obtain ⟨m', e1, e2, e3⟩ := ansf k (by omega)
          refine Or.inl ⟨ansV k (cd u) (Pm (uI m 24 5 0) u), m', ?_, ?_, e2, e3⟩
          · simp only [F_X11_ask, ck_0, if_true, if_false, F_X11_checkUnit, rf_0_2, bse, u1, b1e, b2t, bsr, h.at hu, ck_U hu', F_X9_tells, if_neg q4, if_neg q5, inC, q, aC k (show k < 6 by omega)]
          · simp only [F_X12_ask, ck_24, if_true, if_false, wre, u2, b1e, b2t, inM, q, one0, e1, b2e]
theorem note_ok (x y : Int32) (h : RC n cd pb L t s0 B D c m) : TwV [("java/util/NoSuchElementException", 1)] (F_X11_note 0 x y c L (GRf pb)) (F_X12_note 24 x y m L (GRf pb)) (RC n cd pb L t s0 B D c) := by
  have h0 := h.t5 (v := 0)
  have two : ∀ a b : Int32, uI (uI m 24 5 a) 24 5 b = uI m 24 5 b := fun a b => uI_two
  have s7 : c 1 7 = uI m 24 5 0 24 28 := h0.sc (o := 1) (p := 7) (b := 28) (by decide)
  have nse : ("java/util/NoSuchElementException", (1 : Int32)) ∈ [("java/util/NoSuchElementException", (1 : Int32))] := by decide
  by_cases q0 : x < 0
  · refine Or.inr ⟨_, 1, 0, uI m 24 5 1, ?_, ?_, nse, uI_same, h.t5⟩
    · simp only [F_X11_note, ck_0, if_true, rf_0_2, bse, F_X10_hasNote, ck_1, if_pos q0, b1e, b2f]
    · simp only [F_X12_note, ck_24, if_true, wre, if_pos q0, failM, b2e, two]
  by_cases q1 : uI m 24 5 0 24 28 ≤ x
  · refine Or.inr ⟨_, 1, 0, uI m 24 5 1, ?_, ?_, nse, uI_same, h.t5⟩
    · simp only [F_X11_note, ck_0, if_true, rf_0_2, bse, F_X10_hasNote, ck_1, if_neg q0, s7, if_pos q1, b1e, b2f]
    · simp only [F_X12_note, ck_24, if_true, wre, if_neg q0, if_pos q1, failM, b2e, two]
  by_cases q2 : 100 ≤ x
  · refine Or.inr ⟨_, 1, 0, uI m 24 5 1, ?_, ?_, nse, uI_same, h.t5⟩
    · simp only [F_X11_note, ck_0, if_true, rf_0_2, bse, F_X10_hasNote, ck_1, if_neg q0, s7, if_neg q1, if_pos q2, b1e, b2f]
    · simp only [F_X12_note, ck_24, if_true, wre, if_neg q0, if_neg q1, if_pos q2, failM, b2e, two]
  by_cases q3 : y < 0
  · refine Or.inr ⟨_, 1, 0, uI m 24 5 1, ?_, ?_, nse, uI_same, h.t5⟩
    · simp only [F_X11_note, ck_0, if_true, if_false, rf_0_2, bse, F_X10_hasNote, ck_1, if_neg q0, s7, if_neg q1, if_neg q2, b1e, b2t, if_pos q3]
    · simp only [F_X12_note, ck_24, if_true, wre, if_neg q0, if_neg q1, if_neg q2, if_pos q3, failM, b2e, two]
  by_cases q4 : y ≤ 2
  · obtain ⟨i, hi, rfl⟩ : ∃ i, i < 100 ∧ x = nI i := by
      rcases pk_ix x (n := 100) (by decide) with z | z | z
      · exact absurd z q0
      · exact absurd z q2
      · exact z
    obtain ⟨j, hj, rfl⟩ := nI_of2 (M := 2) (n := 2) (by decide) q3 q4
    have eq : c 3 (3 * i + j) = uI m 24 5 0 (38 + j) i := h0.1 3 (3 * i + j) (38 + j) i (Or.inr (Or.inr (Or.inr (Or.inl ⟨rfl, hi, by omega, by omega, by omega⟩)))) (fun z => absurd z (by decide))
    have m3 : (3 : Int32) * nI i + nI j = nI (3 * i + j) := by rw [show (3 : Int32) * nI i = nI (3 * i) from pk_mul 3 i, nI_add]
    have z0 : (nI (3 * i + j) < 0) = False := eq_false (nI_pos (by omega))
    have z3 : (Int32.ofNat 300 ≤ nI (3 * i + j)) = False := eq_false (nI_ge (b := 300) (by omega) (by decide))
    have nv : F_X10_noteValue 1 (nI i) (nI j) c L (GRf pb) = some (uI m 24 5 0 (38 + j) i) := by
      simp only [F_X10_noteValue, ck_1, if_true, wre, m3, z0, if_false, rf_1_2, bse, ln_3, z3, ri_nI ln_3 (show 3 * i + j < 300 by omega) (show 300 < 2 ^ 31 by decide), eq]
    refine Or.inl ⟨uI m 24 5 0 (38 + j) i, uI m 24 5 0, ?_, ?_, uI_same, h0⟩
    · simp only [F_X11_note, ck_0, if_true, if_false, rf_0_2, bse, F_X10_hasNote, ck_1, if_neg q0, s7, if_neg q1, if_neg q2, b1e, b2t, if_neg q3, if_pos q4, nv]
    · rcases (show j = 0 ∨ j = 1 ∨ j = 2 by omega) with rfl | rfl | rfl
      · simp (decide := true) only [F_X12_note, ck_24, if_true, if_false, wre, if_neg q0, if_neg q1, if_neg q2, rf_24_29, bse, ri_nI ln_38 hi (show 100 < 2 ^ 31 by decide)]
      · simp (decide := true) only [F_X12_note, ck_24, if_true, if_false, wre, if_neg q0, if_neg q1, if_neg q2, rf_24_30, bse, ri_nI ln_39 hi (show 100 < 2 ^ 31 by decide)]
      · simp (decide := true) only [F_X12_note, ck_24, if_true, if_false, wre, if_neg q0, if_neg q1, if_neg q2, rf_24_31, bse, ri_nI ln_40 hi (show 100 < 2 ^ 31 by decide)]
  · refine Or.inr ⟨_, 1, 0, uI m 24 5 1, ?_, ?_, nse, uI_same, h.t5⟩
    · simp only [F_X11_note, ck_0, if_true, if_false, rf_0_2, bse, F_X10_hasNote, ck_1, if_neg q0, s7, if_neg q1, if_neg q2, b1e, b2t, if_neg q3, if_neg q4]
    · simp only [F_X12_note, ck_24, if_true, wre, if_neg q0, if_neg q1, if_neg q2, if_neg q3, if_neg q4, failM, b2e, two]
theorem kept_ok' (hN : 5000 ≤ N) (x y : Int32) (h : RC n cd pb L t s0 B D c m) : TwV [("java/lang/IndexOutOfBoundsException", 1), ("java/lang/IllegalArgumentException", 2)] (F_X11_kept 0 x y c L (GRf pb)) (F_X12_kept N 24 x y m L (GRf pb)) (RC n cd pb L t s0 B D c) := by
  have h0 := h.t5 (v := 0)
  have two : ∀ a b : Int32, uI (uI m 24 5 a) 24 5 b = uI m 24 5 b := fun a b => uI_two
  rcases h0.unit x with ⟨u1, u2⟩ | ⟨u, hu, rfl, u1, u2⟩
  · refine Or.inr ⟨_, 1, 0, uI m 24 5 1, ?_, ?_, List.mem_cons_self, uI_same, h.t5⟩
    · simp only [F_X11_kept, ck_0, if_true, F_X11_checkUnit, rf_0_2, bse, u1, b1e, b2f, bsl]
    · simp only [F_X12_kept, ck_24, if_true, wre, u2, b1e, b2f, failM, b2e, two]
  · have hu20 := h.lt20 hu
    have hu' : u ≤ 20 := by omega
    have is5 : F_X9_is (U u) 5 c L (GRf pb) = _ := h.is (l := 5) hu (by decide)
    have ia5 : F_X12_isA N 24 (nI u) 5 (uI m 24 5 0) L (GRf pb) = _ := h0.isA (l := 5) (by omega) hu (by decide)
    cases q5 : isL (cd u) 5 with
    | false =>
      refine Or.inr ⟨_, 2, 0, uI m 24 5 2, ?_, ?_, List.mem_cons_of_mem _ List.mem_cons_self, uI_same, h.t5⟩
      · simp only [F_X11_kept, ck_0, if_true, if_false, F_X11_checkUnit, rf_0_2, bse, u1, b1e, b2t, b2f, bsr, h.at hu, ck_U hu', is5, q5]
      · simp only [F_X12_kept, ck_24, if_true, if_false, wre, u2, b1e, b2t, b2f, ia5, q5, failM, b2e, two]
    | true =>
      obtain ⟨hd, l, r, k1, k2, k3, k4, k5, k6, k7⟩ := h0.kp hu (i5 _ (h.cd29 hu) q5)
      have p10 := h0.pt (k := 10) hu (by decide) (by decide) (by decide) (by decide) (by decide)
      by_cases q0 : y < 0
      · refine Or.inl ⟨-1, uI m 24 5 0, ?_, ?_, uI_same, h0⟩
        · simp only [F_X11_kept, ck_0, if_true, if_false, F_X11_checkUnit, rf_0_2, bse, u1, b1e, b2t, bsr, h.at hu, ck_U hu', is5, q5, F_X9_keptByte, if_pos q0]
        · simp only [F_X12_kept, ck_24, if_true, if_false, wre, u2, b1e, b2t, ia5, q5, if_pos q0]
      · by_cases q1 : nI l ≤ y
        · refine Or.inl ⟨-1, uI m 24 5 0, ?_, ?_, uI_same, h0⟩
          · simp only [F_X11_kept, ck_0, if_true, if_false, F_X11_checkUnit, rf_0_2, bse, u1, b1e, b2t, bsr, h.at hu, ck_U hu', is5, q5, F_X9_keptByte, if_neg q0, rf_U0 hu', rp_10 hu', p10, k5, if_pos q1]
          · simp only [F_X12_kept, ck_24, if_true, if_false, wre, u2, b1e, b2t, ia5, q5, if_neg q0, gt_10 hu20, k5, if_pos q1]
        · obtain ⟨j, hj, rfl⟩ : ∃ j, j < l ∧ y = nI j := by
            rcases pk_ix y (n := l) (by omega) with z | z | z
            · exact absurd z q0
            · exact absurd z q1
            · exact z
          have fm : F_J9_floorMod_7cf53 (nI (hd + j)) 2000 c L (GRf pb) = some (nI ((hd + j) % 2000)) := by
            rw [fm_val (by decide)]; exact congrArg some (md_nI (d := 2000) (by omega) (by decide) (by decide))
          have mi : (2000 : Int32) * nI u + nI j = nI (2000 * u + j) := by rw [show (2000 : Int32) * nI u = nI (2000 * u) from pk_mul 2000 u, nI_add]
          refine Or.inl ⟨uI m 24 5 0 47 (2000 * u + j), uI m 24 5 0, ?_, ?_, uI_same, h0⟩
          · simp only [F_X11_kept, ck_0, if_true, if_false, F_X11_checkUnit, rf_0_2, bse, u1, b1e, b2t, bsr, h.at hu, ck_U hu', is5, q5, F_X9_keptByte, if_neg q0, rf_U0 hu', rp_10 hu', p10, k5, if_neg q1, rf_U2 hu', k4, nI_add, fm, ri_nI (ln_U3 hu') (Nat.mod_lt (hd + j) (show 0 < 2000 by decide)) (show 2000 < 2 ^ 31 by decide), k7 j hj]
          · simp only [F_X12_kept, ck_24, if_true, if_false, wre, u2, b1e, b2t, ia5, q5, if_neg q0, gt_10 hu20, k5, if_neg q1, rf_24_52, bse, mi, ri_nI ln_47 (show 2000 * u + j < 40000 by omega) (show 40000 < 2 ^ 31 by decide)]
theorem name_ok (x y : Int32) (h : RC n cd pb L t s0 B D c m) : TwV [("java/lang/IndexOutOfBoundsException", 1)] (F_X11_name 0 x y c L (GRf pb)) (F_X12_name 24 x y m L (GRf pb)) (RC n cd pb L t s0 B D c) := by
  have h0 := h.t5 (v := 0)
  have two : ∀ a b : Int32, uI (uI m 24 5 a) 24 5 b = uI m 24 5 b := fun a b => uI_two
  rcases h0.unit x with ⟨u1, u2⟩ | ⟨u, hu, rfl, u1, u2⟩
  · refine Or.inr ⟨_, 1, 0, uI m 24 5 1, ?_, ?_, List.mem_cons_self, uI_same, h.t5⟩
    · simp only [F_X11_name, ck_0, if_true, F_X11_checkUnit, rf_0_2, bse, u1, b1e, b2f, bsl]
    · simp only [F_X12_name, ck_24, if_true, wre, u2, b1e, b2f, failM, b2e, two]
  · have hu20 := h.lt20 hu
    have hu' : u ≤ 20 := by omega
    by_cases q0 : 0 ≤ y
    · have inC : F_X11_within y 0 7 c L (GRf pb) = _ := inC_val
      by_cases q8 : 8 ≤ y
      · have i7 : inV y 0 7 = false := by
          unfold inV
          rw [if_neg (Int32.not_lt.mpr q0), if_pos (Int32.lt_of_lt_of_le (by decide) q8)]
        refine Or.inl ⟨-1, uI m 24 5 0, ?_, ?_, uI_same, h0⟩
        · simp only [F_X11_name, ck_0, if_true, if_false, F_X11_checkUnit, rf_0_2, bse, u1, b1e, b2t, b2f, bsr, if_pos q0, h.at hu, ck_U hu', F_X11_letterOf, inC, i7]
        · simp only [F_X12_name, ck_24, if_true, if_false, wre, u2, b1e, b2t, if_pos q0, if_pos q8]
      · obtain ⟨k, hk, rfl⟩ : ∃ k, k < 8 ∧ y = nI k := by
          rcases pk_ix y (n := 8) (by decide) with z | z | z
          · exact absurd z (Int32.not_lt.mpr q0)
          · exact absurd z q8
          · exact z
        have i7 : inV (nI k) 0 7 = true := by
          unfold inV
          rw [if_neg (Int32.not_lt.mpr q0), if_neg (show ¬ (7 : Int32) < nI k from nI_nlt (b := k) (a := 7) (by omega) (by decide))]
        have lt : letL (L (U u) 3) k = uI m 24 5 0 35 (8 * u + k) := (h0.un hu).2.2.2.2.2.2.2.2 k hk
        have le : (Int64.toInt32 (lU (L (U u) 3) ((8 : Int32) * nI k))) &&& (255 : Int32) = uI m 24 5 0 35 (8 * u + k) := lt
        have m8 : (8 : Int32) * nI u + nI k = nI (8 * u + k) := by rw [show (8 : Int32) * nI u = nI (8 * u) from pk_mul 8 u, nI_add]
        obtain ⟨b, hb, eb⟩ := pk_andE (Int64.toInt32 (lU (L (U u) 3) ((8 : Int32) * nI k))) (m := 255) 8 (by decide)
        rw [le] at eb
        have ri35 : ri (uI m 24 5 0) 35 (nI (8 * u + k)) = some (nI b) := by rw [ri_nI ln_35 (show 8 * u + k < 160 by omega) (by decide), eb]
        rw [eb] at le
        by_cases qb : b = 0
        · subst qb
          refine Or.inl ⟨-1, uI m 24 5 0, ?_, ?_, uI_same, h0⟩
          · simp (decide := true) only [F_X11_name, ck_0, if_true, if_false, F_X11_checkUnit, rf_0_2, bse, u1, b1e, b2t, bsr, if_pos q0, h.at hu, ck_U hu', F_X11_letterOf, inC, i7, le]
          · simp (decide := true) only [F_X12_name, ck_24, if_true, if_false, wre, u2, b1e, b2t, if_pos q0, if_neg q8, rf_24_22, bse, m8, ri35]
        · refine Or.inl ⟨nI b, uI m 24 5 0, ?_, ?_, uI_same, h0⟩
          · simp only [F_X11_name, ck_0, if_true, if_false, F_X11_checkUnit, rf_0_2, bse, u1, b1e, b2t, bsr, if_pos q0, h.at hu, ck_U hu', F_X11_letterOf, inC, i7, le, if_neg (nI_ne0 (n := b) (by omega) (by omega))]
          · simp only [F_X12_name, ck_24, if_true, if_false, wre, u2, b1e, b2t, if_pos q0, if_neg q8, rf_24_22, bse, m8, ri35, if_neg (nI_nle (n := b) (by omega) (by omega))]
    · refine Or.inr ⟨_, 1, 0, uI m 24 5 1, ?_, ?_, List.mem_cons_self, uI_same, h.t5⟩
      · simp only [F_X11_name, ck_0, if_true, if_false, F_X11_checkUnit, rf_0_2, bse, u1, b1e, b2t, bsr, if_neg q0]
      · simp only [F_X12_name, ck_24, if_true, if_false, wre, u2, b1e, b2t, if_neg q0, failM, b2e, two]
theorem at_ok (hN : 5000 ≤ N) (x : Int32) (h : RC n cd pb L t s0 B D c m) : ∃ v, F_X11_at N 0 x c L (GRf pb) = some v ∧ F_X12_at N 24 x m L (GRf pb) = some (v, uI m 24 5 0) := by
  have h0 := h.t5 (v := 0)
  have hn := h.n20
  have key := loop2 (f := fun k i (z : Int32) => LF_X10_unitWithAddress_4 N k 1 x z (nI i) c L (GRf pb)) (g := fun k i (z : Int32) => LF_X12_at_9 N k 24 x z (nI i) (uI m 24 5 0) L (GRf pb)) (R := fun _ a b => a = b ∧ (a = -1 ∨ ∃ v, v < n ∧ a = nI v)) (Q := fun a b => a = b) n ?_ ?_ n 0 N N (-1) (-1) (by omega) (by omega) (by omega) ⟨rfl, Or.inl rfl⟩
  · obtain ⟨a, b, e1, e2, e3⟩ := key
    have e3 : a = b := e3
    subst e3
    have e1 : LF_X10_unitWithAddress_4 N N 1 x (-1) 0 c L (GRf pb) = some a := e1
    have e2 : LF_X12_at_9 N N 24 x (-1) 0 (uI m 24 5 0) L (GRf pb) = some a := e2
    refine ⟨a, ?_, ?_⟩
    · simp only [F_X11_at, ck_0, if_true, rf_0_2, bse, F_X10_unitWithAddress, ck_1, e1, b1e]
    · simp only [F_X12_at, ck_24, if_true, wre, e2, b1e]
  · intro k l a b ⟨e, _⟩
    have e : a = b := e
    subst e
    refine ⟨a, a, ?_, ?_, rfl⟩ <;> simp only [LF_X10_unitWithAddress_4, LF_X12_at_9, h.nc, h0.nm, nle h.n20, if_true]
  · intro k l i a b hi ⟨e, hw⟩
    have e : a = b := e
    subst e
    have hu := h.lt20 hi
    have hu' : i ≤ 20 := by omega
    have p4 := h0.pt (k := 4) hi (by decide) (by decide) (by decide) (by decide) (by decide)
    have p5 := h0.pt (k := 5) hi (by decide) (by decide) (by decide) (by decide) (by decide)
    obtain ⟨-, ⟨bb, b1, b2⟩, ⟨ww, w1, w2⟩⟩ := (h0.si hi).2.2.2.2.2.2.2.2.1
    have b2 : uI m 24 5 0 37 (65 * i + 4) = nI bb := b2
    have w2 : uI m 24 5 0 37 (65 * i + 5) = nI ww := w2
    by_cases q : x < nI bb
    · refine ⟨a, a, ?_, ?_, rfl, hw⟩ <;> simp only [LF_X10_unitWithAddress_4, LF_X12_at_9, h.nc, h0.nm, nlt hi h.n20, if_false, if_true, h.at hi, b1e, ck_U hu', rf_U0 hu', bse, rp_4 hu', p4, b2, gt_4 hu, if_pos q, zer0, wre, nI_1]
    · obtain ⟨z, z1, rfl⟩ : ∃ z, z < 2 ^ 31 ∧ x = nI z := nI_of (fun y => q (Int32.lt_of_lt_of_le y (nI_pos' (by omega))))
      have zb : bb ≤ z := by
        rcases Nat.lt_or_ge z bb with y | y
        · exact absurd (nI_lt y (by omega)) q
        · exact y
      have e1 : nI z - nI bb = nI (z - bb) := pk_sub zb
      have e2 : nI bb + nI ww = nI (bb + ww) := nI_add _ _
      have e3 : (nI ww ≤ nI (z - bb)) = (bb + ww ≤ z) := propext ⟨fun y => by have := (nI_leI (by omega) (by omega)).mp y; omega, fun y => nI_le (by omega) (by omega)⟩
      have e4 : (nI (bb + ww) ≤ nI z) = (bb + ww ≤ z) := propext (nI_leI (by omega) z1)
      by_cases q2 : bb + ww ≤ z
      · refine ⟨a, a, ?_, ?_, rfl, hw⟩ <;> simp only [LF_X10_unitWithAddress_4, LF_X12_at_9, h.nc, h0.nm, nlt hi h.n20, if_false, if_true, h.at hi, b1e, ck_U hu', rf_U0 hu', bse, rp_4 hu', rp_5 hu', p4, p5, b2, w2, gt_4 hu, gt_5 hu, if_neg q, e1, e2, e3, e4, if_pos q2, zer0, wre, nI_1]
      · rcases hw with rfl | ⟨v, hv, rfl⟩
        · refine ⟨nI i, nI i, ?_, ?_, rfl, Or.inr ⟨i, hi, rfl⟩⟩ <;> simp only [LF_X10_unitWithAddress_4, LF_X12_at_9, h.nc, h0.nm, nlt hi h.n20, if_false, if_true, h.at hi, b1e, ck_U hu', rf_U0 hu', bse, rp_4 hu', rp_5 hu', p4, p5, b2, w2, gt_4 hu, gt_5 hu, if_neg q, e1, e2, e3, e4, if_neg q2, one0, m1_m1, wre, nI_1]
        · have hv20 := h.lt20 hv
          have hv' : v ≤ 20 := by omega
          have q4 := h0.pt (k := 4) hv (by decide) (by decide) (by decide) (by decide) (by decide)
          by_cases q3 : nI bb ≤ uI m 24 5 0 37 (65 * v + 4)
          · refine ⟨nI v, nI v, ?_, ?_, rfl, Or.inr ⟨v, hv, rfl⟩⟩ <;> simp only [LF_X10_unitWithAddress_4, LF_X12_at_9, h.nc, h0.nm, nlt hi h.n20, if_false, if_true, h.at hi, b1e, ck_U hu', rf_U0 hu', bse, rp_4 hu', rp_5 hu', p4, p5, b2, w2, gt_4 hu, gt_5 hu, if_neg q, e1, e2, e3, e4, if_neg q2, one0, nI_m1 (show v < 2 ^ 31 by omega), h.at hv, ck_U hv', rf_U0 hv', rp_4 hv', q4, gt_4 hv20, if_pos q3, wre, nI_1]
          · refine ⟨nI i, nI i, ?_, ?_, rfl, Or.inr ⟨i, hi, rfl⟩⟩ <;> simp only [LF_X10_unitWithAddress_4, LF_X12_at_9, h.nc, h0.nm, nlt hi h.n20, if_false, if_true, h.at hi, b1e, ck_U hu', rf_U0 hu', bse, rp_4 hu', rp_5 hu', p4, p5, b2, w2, gt_4 hu, gt_5 hu, if_neg q, e1, e2, e3, e4, if_neg q2, one0, nI_m1 (show v < 2 ^ 31 by omega), h.at hv, ck_U hv', rf_U0 hv', rp_4 hv', q4, gt_4 hv20, if_neg q3, wre, nI_1]
theorem down_ok' (x : Int32) (h : RC n cd pb L t s0 B D c m) : ∃ v, F_X11_down 0 x c L (GRf pb) = some v ∧ F_X12_down 24 x m L (GRf pb) = some (v, uI m 24 5 0) := by
  have h0 := h.t5 (v := 0)
  obtain ⟨d, d1, d2, d3⟩ := h0.dn
  have c1 : c 18 1 = nI d := (h0.sc (o := 18) (p := 1) (b := 43) (by decide)).trans d3
  by_cases q0 : x < 0
  · refine ⟨-1, ?_, ?_⟩
    · simp only [F_X11_down, ck_0, if_true, rf_0_3, bse, F_X2_downlink, ck_10, rf_10_3, b1e, ck_18, F_X1_latest, if_pos q0]
    · simp only [F_X12_down, ck_24, if_true, wre, if_pos q0]
  by_cases q1 : nI d ≤ x
  · refine ⟨-1, ?_, ?_⟩
    · simp only [F_X11_down, ck_0, if_true, rf_0_3, bse, F_X2_downlink, ck_10, rf_10_3, b1e, ck_18, F_X1_latest, if_neg q0, c1, if_pos q1]
    · simp only [F_X12_down, ck_24, if_true, wre, if_neg q0, d3, if_pos q1]
  by_cases q2 : 500 ≤ x
  · refine ⟨-1, ?_, ?_⟩
    · simp only [F_X11_down, ck_0, if_true, rf_0_3, bse, F_X2_downlink, ck_10, rf_10_3, b1e, ck_18, F_X1_latest, if_neg q0, c1, if_neg q1, if_neg (Int32.not_lt.mpr q2)]
    · simp only [F_X12_down, ck_24, if_true, wre, if_neg q0, d3, if_neg q1, if_pos q2]
  obtain ⟨j, hj, rfl⟩ : ∃ j, j < d ∧ x = nI j := by
    rcases pk_ix x (n := d) (by omega) with z | z | z
    · exact absurd z q0
    · exact absurd z q1
    · exact z
  have e1 : nI d - 1 - nI j = nI (d - 1 - j) := by rw [show nI d - 1 = nI (d - 1) from pk_sub (b := 1) (by omega), pk_sub (by omega)]
  have fm : F_J9_floorMod_7cf53 (nI (d - 1 - j)) 500 c L (GRf pb) = some (nI ((d - 1 - j) % 500)) := by
    rw [fm_val (by decide)]; exact congrArg some (md_nI (d := 500) (by omega) (by decide) (by decide))
  have ir : iR (nI (d - 1 - j)) 500 = nI ((d - 1 - j) % 500) := iR_nI (d := 500) (by omega) (by decide) (by decide)
  have hp : (d - 1 - j) % 500 < 500 := Nat.mod_lt _ (by decide)
  have eq : c 19 ((d - 1 - j) % 500) = uI m 24 5 0 46 ((d - 1 - j) % 500) := h0.1 _ _ _ _ (Or.inr (Or.inr (Or.inr (Or.inr (Or.inl ⟨rfl, rfl, hp, rfl⟩))))) (fun z => absurd z (by decide))
  refine ⟨uI m 24 5 0 46 ((d - 1 - j) % 500), ?_, ?_⟩
  · simp only [F_X11_down, ck_0, if_true, rf_0_3, bse, F_X2_downlink, ck_10, rf_10_3, b1e, ck_18, F_X1_latest, if_neg q0, c1, if_neg q1, if_pos (Int32.not_le.mp q2), rf_18_0, e1, fm, ri_nI ln_19 hp (show 500 < 2 ^ 31 by decide), eq]
  · simp only [F_X12_down, ck_24, if_true, wre, if_neg q0, d3, if_neg q1, if_neg q2, rf_24_51, bse, e1, ir, ri_nI ln_46 hp (show 500 < 2 ^ 31 by decide)]
theorem item_ok (x y : Int32) (h : RC n cd pb L t s0 B D c m) : ∃ v, F_X11_item 0 x y c L (GRf pb) = some v ∧ F_X12_item 24 x y m L (GRf pb) = some (v, uI m 24 5 0) := by
  have h0 := h.t5 (v := 0)
  have h1 := h.pb1
  obtain ⟨q, hq, eq1, eq2, -⟩ := h0.pl
  by_cases q0 : x < 0
  · refine ⟨-1, ?_, ?_⟩
    · simp only [F_X11_item, ck_0, if_true, rf_0_3, bse, F_X2_planned, ck_10, pl01 h1, b1e, ck_pl h1, if_pos q0]
    · simp only [F_X12_item, ck_24, if_true, wre, if_pos q0]
  by_cases q1 : x < nI q
  · obtain ⟨j, hj, rfl⟩ : ∃ j, j < q ∧ x = nI j := by
      rcases pk_ix x (n := q) (by omega) with z | z | z
      · exact absurd z q0
      · exact absurd q1 (Int32.not_lt.mpr z)
      · exact z
    have hj30 : j < 30 := by omega
    have ia := itemAt_ok (L := L) h1 eq2 hq hj
    have ck := ck_it h1 (show j < 31 by omega)
    have jq : j < ix (uI m 24 5 0 24 54) := by rw [eq1, ix_nI (by omega)]; exact hj
    have f0 : c (142 + 31 * pb + j) 7 = uI m 24 5 0 50 j := h0.it (k := 0) hj30 (by decide) jq
    have f1 : c (142 + 31 * pb + j) 8 = uI m 24 5 0 51 j := h0.it (k := 1) hj30 (by decide) jq
    have f2 : c (142 + 31 * pb + j) 9 = uI m 24 5 0 52 j := h0.it (k := 2) hj30 (by decide) jq
    by_cases y0 : y = 0
    · subst y0
      refine ⟨uI m 24 5 0 50 j, ?_, ?_⟩
      · simp (decide := true) only [F_X11_item, ck_0, if_true, rf_0_3, bse, F_X2_planned, ck_10, pl01 h1, b1e, ck_pl h1, if_neg q0, F_X5_size, eq2, if_pos q1, ia, ck, f0]
      · simp (decide := true) only [F_X12_item, ck_24, if_true, wre, if_neg q0, eq1, if_pos q1, rf_24_57, bse, ri_nI ln_50 hj30 (show 30 < 2 ^ 31 by decide)]
    by_cases y1 : y = 1
    · subst y1
      refine ⟨uI m 24 5 0 51 j, ?_, ?_⟩
      · simp (decide := true) only [F_X11_item, ck_0, if_true, if_false, rf_0_3, bse, F_X2_planned, ck_10, pl01 h1, b1e, ck_pl h1, if_neg q0, F_X5_size, eq2, if_pos q1, ia, ck, f1]
      · simp (decide := true) only [F_X12_item, ck_24, if_true, if_false, wre, if_neg q0, eq1, if_pos q1, rf_24_58, bse, ri_nI ln_51 hj30 (show 30 < 2 ^ 31 by decide)]
    by_cases y2 : y = 2
    · subst y2
      by_cases z : uI m 24 5 0 52 j = 0
      · refine ⟨0, ?_, ?_⟩
        · simp (decide := true) only [F_X11_item, ck_0, if_true, if_false, rf_0_3, bse, F_X2_planned, ck_10, pl01 h1, b1e, ck_pl h1, if_neg q0, F_X5_size, eq2, if_pos q1, ia, ck, f2, if_pos z]
        · simp (decide := true) only [F_X12_item, ck_24, if_true, if_false, wre, if_neg q0, eq1, if_pos q1, rf_24_59, bse, ri_nI ln_52 hj30 (show 30 < 2 ^ 31 by decide), if_pos z]
      · refine ⟨1, ?_, ?_⟩
        · simp (decide := true) only [F_X11_item, ck_0, if_true, if_false, rf_0_3, bse, F_X2_planned, ck_10, pl01 h1, b1e, ck_pl h1, if_neg q0, F_X5_size, eq2, if_pos q1, ia, ck, f2, if_neg z]
        · simp (decide := true) only [F_X12_item, ck_24, if_true, if_false, wre, if_neg q0, eq1, if_pos q1, rf_24_59, bse, ri_nI ln_52 hj30 (show 30 < 2 ^ 31 by decide), if_neg z]
    · refine ⟨-1, ?_, ?_⟩
      · simp only [F_X11_item, ck_0, if_true, rf_0_3, bse, F_X2_planned, ck_10, pl01 h1, b1e, ck_pl h1, if_neg q0, F_X5_size, eq2, if_pos q1, ia, ck, if_neg y0, if_neg y1, if_neg y2]
      · simp only [F_X12_item, ck_24, if_true, wre, if_neg q0, eq1, if_pos q1, if_neg y0, if_neg y1, if_neg y2]
  · refine ⟨-1, ?_, ?_⟩
    · simp only [F_X11_item, ck_0, if_true, rf_0_3, bse, F_X2_planned, ck_10, pl01 h1, b1e, ck_pl h1, if_neg q0, F_X5_size, eq2, if_neg q1]
    · simp only [F_X12_item, ck_24, if_true, wre, if_neg q0, eq1, if_neg q1]
theorem RC.rt (h : RC n cd pb L t s0 B D c m) : RT c m := h.2.1.2.2.2.2.2.1
theorem fault_ok (x : Int32) (h : RC n cd pb L t s0 B D c m) : ∃ v, F_X11_fault 0 x c L (GRf pb) = some v ∧ F_X12_fault 24 x m L (GRf pb) = some (v, uI m 24 5 0) := by
  obtain ⟨q, -, -, -, -, e8, e9⟩ := (h.t5 (v := 0)).rt
  by_cases q0 : x = 0
  · subst q0
    exact ⟨uI m 24 5 0 24 15, by simp (decide := true) only [F_X11_fault, ck_0, if_true, rf_0_0, bse, F_X8_faultCode, ck_4, e8, b1e], by simp (decide := true) only [F_X12_fault, ck_24, if_true, wre]⟩
  by_cases q1 : x = 1
  · subst q1
    exact ⟨uI m 24 5 0 24 16, by simp (decide := true) only [F_X11_fault, ck_0, if_true, if_false, rf_0_0, bse, F_X8_faultPlace, ck_4, e9, b1e], by simp (decide := true) only [F_X12_fault, ck_24, if_true, if_false, wre]⟩
  · exact ⟨-1, by simp only [F_X11_fault, ck_0, if_true, if_neg q0, if_neg q1], by simp only [F_X12_fault, ck_24, if_true, wre, if_neg q0, if_neg q1]⟩
theorem craft_ok (x : Int32) (h : RC n cd pb L t s0 B D c m) : ∃ v, F_X11_craft 0 x c L (GRf pb) = some v ∧ F_X12_craft 24 x m L (GRf pb) = some (v, uI m 24 5 0) := by
  have h0 := h.t5 (v := 0)
  have h1 := h.pb1
  obtain ⟨q, hq, eq1, eq2, -⟩ := h0.pl
  by_cases x0 : x < 0
  · have ne : ∀ k : Int32, ¬ k < 0 → (x = k) = False := fun k k1 => eq_false (fun z => k1 (z ▸ x0))
    have l3 : x < 3 := Int32.lt_trans x0 (by decide)
    have l6 : x < 6 := Int32.lt_trans x0 (by decide)
    have l9 : x < 9 := Int32.lt_trans x0 (by decide)
    exact ⟨0, by simp only [F_X11_craft, ck_0, if_true, if_false, ne 0 (by decide), ne 1 (by decide), ne 2 (by decide), ne 12 (by decide), ne 13 (by decide), ne 14 (by decide), ne 15 (by decide), ne 16 (by decide), ne 17 (by decide), ne 18 (by decide), ne 19 (by decide), ne 20 (by decide), ne 21 (by decide), ne 22 (by decide), ne 23 (by decide), ne 24 (by decide), ne 25 (by decide), ne 26 (by decide), ne 27 (by decide), if_pos l3, rf_0_3, bse, F_X2_gauge, ck_10, b1e], by simp only [F_X12_craft, ck_24, if_true, if_false, wre, if_pos l3, if_pos l6, if_pos l9, ne 0 (by decide), ne 1 (by decide), ne 2 (by decide), ne 12 (by decide), ne 13 (by decide), ne 14 (by decide), ne 15 (by decide), ne 16 (by decide), ne 17 (by decide), ne 18 (by decide), ne 19 (by decide), ne 20 (by decide), ne 21 (by decide), ne 22 (by decide), ne 23 (by decide), ne 24 (by decide), ne 25 (by decide), ne 26 (by decide), ne 27 (by decide)]⟩
  by_cases x27 : 27 < x
  · have ne : ∀ k : Int32, ¬ 27 < k → (x = k) = False := fun k k1 => eq_false (fun z => k1 (z ▸ x27))
    have g : ∀ k : Int32, k ≤ 27 → (x < k) = False := fun k k1 => eq_false (fun z => Int32.not_lt.mpr (Int32.le_of_lt (Int32.lt_of_le_of_lt k1 x27)) z)
    have l5 : 5 < x := Int32.lt_trans (by decide) x27
    have l8 : 8 < x := Int32.lt_trans (by decide) x27
    have l11 : 11 < x := Int32.lt_trans (by decide) x27
    exact ⟨0, by simp only [F_X11_craft, ck_0, if_true, if_false, ne 0 (by decide), ne 1 (by decide), ne 2 (by decide), ne 12 (by decide), ne 13 (by decide), ne 14 (by decide), ne 15 (by decide), ne 16 (by decide), ne 17 (by decide), ne 18 (by decide), ne 19 (by decide), ne 20 (by decide), ne 21 (by decide), ne 22 (by decide), ne 23 (by decide), ne 24 (by decide), ne 25 (by decide), ne 26 (by decide), ne 27 (by decide), g 3 (by decide), if_pos l11, rf_0_3, bse, F_X2_gauge, ck_10, b1e], by simp only [F_X12_craft, ck_24, if_true, if_false, wre, g 3 (by decide), g 6 (by decide), g 9 (by decide), if_pos l5, if_pos l8, if_pos l11, ne 0 (by decide), ne 1 (by decide), ne 2 (by decide), ne 12 (by decide), ne 13 (by decide), ne 14 (by decide), ne 15 (by decide), ne 16 (by decide), ne 17 (by decide), ne 18 (by decide), ne 19 (by decide), ne 20 (by decide), ne 21 (by decide), ne 22 (by decide), ne 23 (by decide), ne 24 (by decide), ne 25 (by decide), ne 26 (by decide), ne 27 (by decide)]⟩
  obtain ⟨k, hk, rfl⟩ := nI_of2 (M := 27) (n := 27) (by decide) x0 (Int32.not_lt.mp x27)
  rcases (show k = 0 ∨ k = 1 ∨ k = 2 ∨ k = 3 ∨ k = 4 ∨ k = 5 ∨ k = 6 ∨ k = 7 ∨ k = 8 ∨ k = 9 ∨ k = 10 ∨ k = 11 ∨ k = 12 ∨ k = 13 ∨ k = 14 ∨ k = 15 ∨ k = 16 ∨ k = 17 ∨ k = 18 ∨ k = 19 ∨ k = 20 ∨ k = 21 ∨ k = 22 ∨ k = 23 ∨ k = 24 ∨ k = 25 ∨ k = 26 ∨ k = 27 by omega) with rfl | rfl | rfl | rfl | rfl | rfl | rfl | rfl | rfl | rfl | rfl | rfl | rfl | rfl | rfl | rfl | rfl | rfl | rfl | rfl | rfl | rfl | rfl | rfl | rfl | rfl | rfl | rfl
  · have f := h.nc
    exact ⟨nI n, by simp (decide := true) only [F_X11_craft, ck_0, if_true, if_false, rf_0_2, rf_0_3, bse, b1e, F_X10_size, F_X10_drawsTaken, F_X10_addressNow, F_X10_reserveNow, F_X10_notesTaken, F_X10_restartsDone, F_X2_gauge, F_X6_brownoutCount, F_X6_failureCount, F_X6_supplyNow, F_X6_demandNow, F_X2_downlink, F_X1_byteCount, F_X2_planned, F_X5_size, F_X2_steering, F_X7_value, ck_1, ck_10, ck_16, ck_18, ck_12, rf_10_1, rf_10_2, rf_10_3, pl01 h1, ck_pl h1, f], by simp (decide := true) only [F_X12_craft, ck_24, if_true, if_false, wre, h0.nm]⟩
  · have f := (h0.sc (o := 10) (p := 6) (b := 34) (by decide))
    exact ⟨uI m 24 5 0 24 34, by simp (decide := true) only [F_X11_craft, ck_0, if_true, if_false, rf_0_2, rf_0_3, bse, b1e, F_X10_size, F_X10_drawsTaken, F_X10_addressNow, F_X10_reserveNow, F_X10_notesTaken, F_X10_restartsDone, F_X2_gauge, F_X6_brownoutCount, F_X6_failureCount, F_X6_supplyNow, F_X6_demandNow, F_X2_downlink, F_X1_byteCount, F_X2_planned, F_X5_size, F_X2_steering, F_X7_value, ck_1, ck_10, ck_16, ck_18, ck_12, rf_10_1, rf_10_2, rf_10_3, pl01 h1, ck_pl h1, f], by simp (decide := true) only [F_X12_craft, ck_24, if_true, if_false, wre]⟩
  · have f := (h0.sc (o := 10) (p := 7) (b := 35) (by decide))
    exact ⟨uI m 24 5 0 24 35, by simp (decide := true) only [F_X11_craft, ck_0, if_true, if_false, rf_0_2, rf_0_3, bse, b1e, F_X10_size, F_X10_drawsTaken, F_X10_addressNow, F_X10_reserveNow, F_X10_notesTaken, F_X10_restartsDone, F_X2_gauge, F_X6_brownoutCount, F_X6_failureCount, F_X6_supplyNow, F_X6_demandNow, F_X2_downlink, F_X1_byteCount, F_X2_planned, F_X5_size, F_X2_steering, F_X7_value, ck_1, ck_10, ck_16, ck_18, ck_12, rf_10_1, rf_10_2, rf_10_3, pl01 h1, ck_pl h1, f], by simp (decide := true) only [F_X12_craft, ck_24, if_true, if_false, wre]⟩
  · have f : c 13 0 = uI m 24 5 0 43 0 := h0.ang (by decide)
    have a1 : F_X7_angle 12 0 c L (GRf pb) = _ := angC (x := 0) (by decide)
    have r1 : ri (uI m 24 5 0) 43 0 = _ := ri_nI (k := 0) ln_43 (by decide) (by decide)
    have s1 : nI 3 - 3 = 0 := by decide
    have s2 : (0 : Int32) - 3 = -3 := by decide
    have s3 : (0 : Int32) - 6 = -6 := by decide
    have t1 : nI 3 - 3 = 0 := by decide
    exact ⟨uI m 24 5 0 43 0, by simp (decide := true) only [F_X11_craft, ck_0, if_true, if_false, rf_0_3, bse, F_X2_steering, ck_10, rf_10_1, b1e, ck_12, F_X7_value, s1, s2, s3, a1, f], by simp (decide := true) only [F_X12_craft, ck_24, if_true, if_false, wre, rf_24_36, rf_24_37, rf_24_38, bse, t1, r1]⟩
  · have f : c 13 1 = uI m 24 5 0 43 1 := h0.ang (by decide)
    have a1 : F_X7_angle 12 1 c L (GRf pb) = _ := angC (x := 1) (by decide)
    have r1 : ri (uI m 24 5 0) 43 1 = _ := ri_nI (k := 1) ln_43 (by decide) (by decide)
    have s1 : nI 4 - 3 = 1 := by decide
    have s2 : (1 : Int32) - 3 = -2 := by decide
    have s3 : (1 : Int32) - 6 = -5 := by decide
    have t1 : nI 4 - 3 = 1 := by decide
    exact ⟨uI m 24 5 0 43 1, by simp (decide := true) only [F_X11_craft, ck_0, if_true, if_false, rf_0_3, bse, F_X2_steering, ck_10, rf_10_1, b1e, ck_12, F_X7_value, s1, s2, s3, a1, f], by simp (decide := true) only [F_X12_craft, ck_24, if_true, if_false, wre, rf_24_36, rf_24_37, rf_24_38, bse, t1, r1]⟩
  · have f : c 13 2 = uI m 24 5 0 43 2 := h0.ang (by decide)
    have a1 : F_X7_angle 12 2 c L (GRf pb) = _ := angC (x := 2) (by decide)
    have r1 : ri (uI m 24 5 0) 43 2 = _ := ri_nI (k := 2) ln_43 (by decide) (by decide)
    have s1 : nI 5 - 3 = 2 := by decide
    have s2 : (2 : Int32) - 3 = -1 := by decide
    have s3 : (2 : Int32) - 6 = -4 := by decide
    have t1 : nI 5 - 3 = 2 := by decide
    exact ⟨uI m 24 5 0 43 2, by simp (decide := true) only [F_X11_craft, ck_0, if_true, if_false, rf_0_3, bse, F_X2_steering, ck_10, rf_10_1, b1e, ck_12, F_X7_value, s1, s2, s3, a1, f], by simp (decide := true) only [F_X12_craft, ck_24, if_true, if_false, wre, rf_24_36, rf_24_37, rf_24_38, bse, t1, r1]⟩
  · have f : c 14 0 = uI m 24 5 0 44 0 := h0.rat (by decide)
    have a1 : F_X7_rate 12 0 c L (GRf pb) = _ := ratC (x := 0) (by decide)
    have r1 : ri (uI m 24 5 0) 44 0 = _ := ri_nI (k := 0) ln_44 (by decide) (by decide)
    have s1 : nI 6 - 3 = 3 := by decide
    have s2 : (3 : Int32) - 3 = 0 := by decide
    have s3 : (3 : Int32) - 6 = -3 := by decide
    have t1 : nI 6 - 6 = 0 := by decide
    exact ⟨uI m 24 5 0 44 0, by simp (decide := true) only [F_X11_craft, ck_0, if_true, if_false, rf_0_3, bse, F_X2_steering, ck_10, rf_10_1, b1e, ck_12, F_X7_value, s1, s2, s3, a1, f], by simp (decide := true) only [F_X12_craft, ck_24, if_true, if_false, wre, rf_24_36, rf_24_37, rf_24_38, bse, t1, r1]⟩
  · have f : c 14 1 = uI m 24 5 0 44 1 := h0.rat (by decide)
    have a1 : F_X7_rate 12 1 c L (GRf pb) = _ := ratC (x := 1) (by decide)
    have r1 : ri (uI m 24 5 0) 44 1 = _ := ri_nI (k := 1) ln_44 (by decide) (by decide)
    have s1 : nI 7 - 3 = 4 := by decide
    have s2 : (4 : Int32) - 3 = 1 := by decide
    have s3 : (4 : Int32) - 6 = -2 := by decide
    have t1 : nI 7 - 6 = 1 := by decide
    exact ⟨uI m 24 5 0 44 1, by simp (decide := true) only [F_X11_craft, ck_0, if_true, if_false, rf_0_3, bse, F_X2_steering, ck_10, rf_10_1, b1e, ck_12, F_X7_value, s1, s2, s3, a1, f], by simp (decide := true) only [F_X12_craft, ck_24, if_true, if_false, wre, rf_24_36, rf_24_37, rf_24_38, bse, t1, r1]⟩
  · have f : c 14 2 = uI m 24 5 0 44 2 := h0.rat (by decide)
    have a1 : F_X7_rate 12 2 c L (GRf pb) = _ := ratC (x := 2) (by decide)
    have r1 : ri (uI m 24 5 0) 44 2 = _ := ri_nI (k := 2) ln_44 (by decide) (by decide)
    have s1 : nI 8 - 3 = 5 := by decide
    have s2 : (5 : Int32) - 3 = 2 := by decide
    have s3 : (5 : Int32) - 6 = -1 := by decide
    have t1 : nI 8 - 6 = 2 := by decide
    exact ⟨uI m 24 5 0 44 2, by simp (decide := true) only [F_X11_craft, ck_0, if_true, if_false, rf_0_3, bse, F_X2_steering, ck_10, rf_10_1, b1e, ck_12, F_X7_value, s1, s2, s3, a1, f], by simp (decide := true) only [F_X12_craft, ck_24, if_true, if_false, wre, rf_24_36, rf_24_37, rf_24_38, bse, t1, r1]⟩
  · have f : c 15 0 = uI m 24 5 0 45 0 := h0.aim (by decide)
    have a1 : F_X7_aim 12 0 c L (GRf pb) = _ := aimC (x := 0) (by decide)
    have r1 : ri (uI m 24 5 0) 45 0 = _ := ri_nI (k := 0) ln_45 (by decide) (by decide)
    have s1 : nI 9 - 3 = 6 := by decide
    have s2 : (6 : Int32) - 3 = 3 := by decide
    have s3 : (6 : Int32) - 6 = 0 := by decide
    have t1 : nI 9 - 9 = 0 := by decide
    exact ⟨uI m 24 5 0 45 0, by simp (decide := true) only [F_X11_craft, ck_0, if_true, if_false, rf_0_3, bse, F_X2_steering, ck_10, rf_10_1, b1e, ck_12, F_X7_value, s1, s2, s3, a1, f], by simp (decide := true) only [F_X12_craft, ck_24, if_true, if_false, wre, rf_24_36, rf_24_37, rf_24_38, bse, t1, r1]⟩
  · have f : c 15 1 = uI m 24 5 0 45 1 := h0.aim (by decide)
    have a1 : F_X7_aim 12 1 c L (GRf pb) = _ := aimC (x := 1) (by decide)
    have r1 : ri (uI m 24 5 0) 45 1 = _ := ri_nI (k := 1) ln_45 (by decide) (by decide)
    have s1 : nI 10 - 3 = 7 := by decide
    have s2 : (7 : Int32) - 3 = 4 := by decide
    have s3 : (7 : Int32) - 6 = 1 := by decide
    have t1 : nI 10 - 9 = 1 := by decide
    exact ⟨uI m 24 5 0 45 1, by simp (decide := true) only [F_X11_craft, ck_0, if_true, if_false, rf_0_3, bse, F_X2_steering, ck_10, rf_10_1, b1e, ck_12, F_X7_value, s1, s2, s3, a1, f], by simp (decide := true) only [F_X12_craft, ck_24, if_true, if_false, wre, rf_24_36, rf_24_37, rf_24_38, bse, t1, r1]⟩
  · have f : c 15 2 = uI m 24 5 0 45 2 := h0.aim (by decide)
    have a1 : F_X7_aim 12 2 c L (GRf pb) = _ := aimC (x := 2) (by decide)
    have r1 : ri (uI m 24 5 0) 45 2 = _ := ri_nI (k := 2) ln_45 (by decide) (by decide)
    have s1 : nI 11 - 3 = 8 := by decide
    have s2 : (8 : Int32) - 3 = 5 := by decide
    have s3 : (8 : Int32) - 6 = 2 := by decide
    have t1 : nI 11 - 9 = 2 := by decide
    exact ⟨uI m 24 5 0 45 2, by simp (decide := true) only [F_X11_craft, ck_0, if_true, if_false, rf_0_3, bse, F_X2_steering, ck_10, rf_10_1, b1e, ck_12, F_X7_value, s1, s2, s3, a1, f], by simp (decide := true) only [F_X12_craft, ck_24, if_true, if_false, wre, rf_24_36, rf_24_37, rf_24_38, bse, t1, r1]⟩
  · have f := (h0.sc (o := 1) (p := 4) (b := 25) (by decide))
    exact ⟨uI m 24 5 0 24 25, by simp (decide := true) only [F_X11_craft, ck_0, if_true, if_false, rf_0_2, rf_0_3, bse, b1e, F_X10_size, F_X10_drawsTaken, F_X10_addressNow, F_X10_reserveNow, F_X10_notesTaken, F_X10_restartsDone, F_X2_gauge, F_X6_brownoutCount, F_X6_failureCount, F_X6_supplyNow, F_X6_demandNow, F_X2_downlink, F_X1_byteCount, F_X2_planned, F_X5_size, F_X2_steering, F_X7_value, ck_1, ck_10, ck_16, ck_18, ck_12, rf_10_1, rf_10_2, rf_10_3, pl01 h1, ck_pl h1, f], by simp (decide := true) only [F_X12_craft, ck_24, if_true, if_false, wre]⟩
  · have f := (h0.sc (o := 1) (p := 5) (b := 26) (by decide))
    exact ⟨uI m 24 5 0 24 26, by simp (decide := true) only [F_X11_craft, ck_0, if_true, if_false, rf_0_2, rf_0_3, bse, b1e, F_X10_size, F_X10_drawsTaken, F_X10_addressNow, F_X10_reserveNow, F_X10_notesTaken, F_X10_restartsDone, F_X2_gauge, F_X6_brownoutCount, F_X6_failureCount, F_X6_supplyNow, F_X6_demandNow, F_X2_downlink, F_X1_byteCount, F_X2_planned, F_X5_size, F_X2_steering, F_X7_value, ck_1, ck_10, ck_16, ck_18, ck_12, rf_10_1, rf_10_2, rf_10_3, pl01 h1, ck_pl h1, f], by simp (decide := true) only [F_X12_craft, ck_24, if_true, if_false, wre]⟩
  · have f := (h0.sc (o := 1) (p := 6) (b := 27) (by decide))
    exact ⟨uI m 24 5 0 24 27, by simp (decide := true) only [F_X11_craft, ck_0, if_true, if_false, rf_0_2, rf_0_3, bse, b1e, F_X10_size, F_X10_drawsTaken, F_X10_addressNow, F_X10_reserveNow, F_X10_notesTaken, F_X10_restartsDone, F_X2_gauge, F_X6_brownoutCount, F_X6_failureCount, F_X6_supplyNow, F_X6_demandNow, F_X2_downlink, F_X1_byteCount, F_X2_planned, F_X5_size, F_X2_steering, F_X7_value, ck_1, ck_10, ck_16, ck_18, ck_12, rf_10_1, rf_10_2, rf_10_3, pl01 h1, ck_pl h1, f], by simp (decide := true) only [F_X12_craft, ck_24, if_true, if_false, wre]⟩
  · have f := (h0.sc (o := 1) (p := 7) (b := 28) (by decide))
    exact ⟨uI m 24 5 0 24 28, by simp (decide := true) only [F_X11_craft, ck_0, if_true, if_false, rf_0_2, rf_0_3, bse, b1e, F_X10_size, F_X10_drawsTaken, F_X10_addressNow, F_X10_reserveNow, F_X10_notesTaken, F_X10_restartsDone, F_X2_gauge, F_X6_brownoutCount, F_X6_failureCount, F_X6_supplyNow, F_X6_demandNow, F_X2_downlink, F_X1_byteCount, F_X2_planned, F_X5_size, F_X2_steering, F_X7_value, ck_1, ck_10, ck_16, ck_18, ck_12, rf_10_1, rf_10_2, rf_10_3, pl01 h1, ck_pl h1, f], by simp (decide := true) only [F_X12_craft, ck_24, if_true, if_false, wre]⟩
  · have f := (h0.sc (o := 16) (p := 4) (b := 39) (by decide))
    exact ⟨uI m 24 5 0 24 39, by simp (decide := true) only [F_X11_craft, ck_0, if_true, if_false, rf_0_2, rf_0_3, bse, b1e, F_X10_size, F_X10_drawsTaken, F_X10_addressNow, F_X10_reserveNow, F_X10_notesTaken, F_X10_restartsDone, F_X2_gauge, F_X6_brownoutCount, F_X6_failureCount, F_X6_supplyNow, F_X6_demandNow, F_X2_downlink, F_X1_byteCount, F_X2_planned, F_X5_size, F_X2_steering, F_X7_value, ck_1, ck_10, ck_16, ck_18, ck_12, rf_10_1, rf_10_2, rf_10_3, pl01 h1, ck_pl h1, f], by simp (decide := true) only [F_X12_craft, ck_24, if_true, if_false, wre]⟩
  · have f := (h0.sc (o := 16) (p := 5) (b := 40) (by decide))
    exact ⟨uI m 24 5 0 24 40, by simp (decide := true) only [F_X11_craft, ck_0, if_true, if_false, rf_0_2, rf_0_3, bse, b1e, F_X10_size, F_X10_drawsTaken, F_X10_addressNow, F_X10_reserveNow, F_X10_notesTaken, F_X10_restartsDone, F_X2_gauge, F_X6_brownoutCount, F_X6_failureCount, F_X6_supplyNow, F_X6_demandNow, F_X2_downlink, F_X1_byteCount, F_X2_planned, F_X5_size, F_X2_steering, F_X7_value, ck_1, ck_10, ck_16, ck_18, ck_12, rf_10_1, rf_10_2, rf_10_3, pl01 h1, ck_pl h1, f], by simp (decide := true) only [F_X12_craft, ck_24, if_true, if_false, wre]⟩
  · have f := (h0.sc (o := 10) (p := 9) (b := 41) (by decide))
    exact ⟨uI m 24 5 0 24 41, by simp (decide := true) only [F_X11_craft, ck_0, if_true, if_false, rf_0_2, rf_0_3, bse, b1e, F_X10_size, F_X10_drawsTaken, F_X10_addressNow, F_X10_reserveNow, F_X10_notesTaken, F_X10_restartsDone, F_X2_gauge, F_X6_brownoutCount, F_X6_failureCount, F_X6_supplyNow, F_X6_demandNow, F_X2_downlink, F_X1_byteCount, F_X2_planned, F_X5_size, F_X2_steering, F_X7_value, ck_1, ck_10, ck_16, ck_18, ck_12, rf_10_1, rf_10_2, rf_10_3, pl01 h1, ck_pl h1, f], by simp (decide := true) only [F_X12_craft, ck_24, if_true, if_false, wre]⟩
  · have f := (h0.sc (o := 10) (p := 10) (b := 42) (by decide))
    exact ⟨uI m 24 5 0 24 42, by simp (decide := true) only [F_X11_craft, ck_0, if_true, if_false, rf_0_2, rf_0_3, bse, b1e, F_X10_size, F_X10_drawsTaken, F_X10_addressNow, F_X10_reserveNow, F_X10_notesTaken, F_X10_restartsDone, F_X2_gauge, F_X6_brownoutCount, F_X6_failureCount, F_X6_supplyNow, F_X6_demandNow, F_X2_downlink, F_X1_byteCount, F_X2_planned, F_X5_size, F_X2_steering, F_X7_value, ck_1, ck_10, ck_16, ck_18, ck_12, rf_10_1, rf_10_2, rf_10_3, pl01 h1, ck_pl h1, f], by simp (decide := true) only [F_X12_craft, ck_24, if_true, if_false, wre]⟩
  · have f := (h0.sc (o := 18) (p := 1) (b := 43) (by decide))
    exact ⟨uI m 24 5 0 24 43, by simp (decide := true) only [F_X11_craft, ck_0, if_true, if_false, rf_0_2, rf_0_3, bse, b1e, F_X10_size, F_X10_drawsTaken, F_X10_addressNow, F_X10_reserveNow, F_X10_notesTaken, F_X10_restartsDone, F_X2_gauge, F_X6_brownoutCount, F_X6_failureCount, F_X6_supplyNow, F_X6_demandNow, F_X2_downlink, F_X1_byteCount, F_X2_planned, F_X5_size, F_X2_steering, F_X7_value, ck_1, ck_10, ck_16, ck_18, ck_12, rf_10_1, rf_10_2, rf_10_3, pl01 h1, ck_pl h1, f], by simp (decide := true) only [F_X12_craft, ck_24, if_true, if_false, wre]⟩
  · have f := (h0.sc (o := 10) (p := 11) (b := 44) (by decide))
    exact ⟨uI m 24 5 0 24 44, by simp (decide := true) only [F_X11_craft, ck_0, if_true, if_false, rf_0_2, rf_0_3, bse, b1e, F_X10_size, F_X10_drawsTaken, F_X10_addressNow, F_X10_reserveNow, F_X10_notesTaken, F_X10_restartsDone, F_X2_gauge, F_X6_brownoutCount, F_X6_failureCount, F_X6_supplyNow, F_X6_demandNow, F_X2_downlink, F_X1_byteCount, F_X2_planned, F_X5_size, F_X2_steering, F_X7_value, ck_1, ck_10, ck_16, ck_18, ck_12, rf_10_1, rf_10_2, rf_10_3, pl01 h1, ck_pl h1, f], by simp (decide := true) only [F_X12_craft, ck_24, if_true, if_false, wre]⟩
  · have f := (h0.sc (o := 10) (p := 12) (b := 45) (by decide))
    exact ⟨uI m 24 5 0 24 45, by simp (decide := true) only [F_X11_craft, ck_0, if_true, if_false, rf_0_2, rf_0_3, bse, b1e, F_X10_size, F_X10_drawsTaken, F_X10_addressNow, F_X10_reserveNow, F_X10_notesTaken, F_X10_restartsDone, F_X2_gauge, F_X6_brownoutCount, F_X6_failureCount, F_X6_supplyNow, F_X6_demandNow, F_X2_downlink, F_X1_byteCount, F_X2_planned, F_X5_size, F_X2_steering, F_X7_value, ck_1, ck_10, ck_16, ck_18, ck_12, rf_10_1, rf_10_2, rf_10_3, pl01 h1, ck_pl h1, f], by simp (decide := true) only [F_X12_craft, ck_24, if_true, if_false, wre]⟩
  · have f := (h0.sc (o := 1) (p := 8) (b := 46) (by decide))
    exact ⟨uI m 24 5 0 24 46, by simp (decide := true) only [F_X11_craft, ck_0, if_true, if_false, rf_0_2, rf_0_3, bse, b1e, F_X10_size, F_X10_drawsTaken, F_X10_addressNow, F_X10_reserveNow, F_X10_notesTaken, F_X10_restartsDone, F_X2_gauge, F_X6_brownoutCount, F_X6_failureCount, F_X6_supplyNow, F_X6_demandNow, F_X2_downlink, F_X1_byteCount, F_X2_planned, F_X5_size, F_X2_steering, F_X7_value, ck_1, ck_10, ck_16, ck_18, ck_12, rf_10_1, rf_10_2, rf_10_3, pl01 h1, ck_pl h1, f], by simp (decide := true) only [F_X12_craft, ck_24, if_true, if_false, wre]⟩
  · have f := eq2
    exact ⟨nI q, by simp (decide := true) only [F_X11_craft, ck_0, if_true, if_false, rf_0_2, rf_0_3, bse, b1e, F_X10_size, F_X10_drawsTaken, F_X10_addressNow, F_X10_reserveNow, F_X10_notesTaken, F_X10_restartsDone, F_X2_gauge, F_X6_brownoutCount, F_X6_failureCount, F_X6_supplyNow, F_X6_demandNow, F_X2_downlink, F_X1_byteCount, F_X2_planned, F_X5_size, F_X2_steering, F_X7_value, ck_1, ck_10, ck_16, ck_18, ck_12, rf_10_1, rf_10_2, rf_10_3, pl01 h1, ck_pl h1, f], by simp (decide := true) only [F_X12_craft, ck_24, if_true, if_false, wre, eq1]⟩
  · have f := (h0.sc (o := 10) (p := 8) (b := 47) (by decide))
    exact ⟨uI m 24 5 0 24 47, by simp (decide := true) only [F_X11_craft, ck_0, if_true, if_false, rf_0_2, rf_0_3, bse, b1e, F_X10_size, F_X10_drawsTaken, F_X10_addressNow, F_X10_reserveNow, F_X10_notesTaken, F_X10_restartsDone, F_X2_gauge, F_X6_brownoutCount, F_X6_failureCount, F_X6_supplyNow, F_X6_demandNow, F_X2_downlink, F_X1_byteCount, F_X2_planned, F_X5_size, F_X2_steering, F_X7_value, ck_1, ck_10, ck_16, ck_18, ck_12, rf_10_1, rf_10_2, rf_10_3, pl01 h1, ck_pl h1, f], by simp (decide := true) only [F_X12_craft, ck_24, if_true, if_false, wre]⟩
  · have f := (h0.sc (o := 16) (p := 2) (b := 48) (by decide))
    exact ⟨uI m 24 5 0 24 48, by simp (decide := true) only [F_X11_craft, ck_0, if_true, if_false, rf_0_2, rf_0_3, bse, b1e, F_X10_size, F_X10_drawsTaken, F_X10_addressNow, F_X10_reserveNow, F_X10_notesTaken, F_X10_restartsDone, F_X2_gauge, F_X6_brownoutCount, F_X6_failureCount, F_X6_supplyNow, F_X6_demandNow, F_X2_downlink, F_X1_byteCount, F_X2_planned, F_X5_size, F_X2_steering, F_X7_value, ck_1, ck_10, ck_16, ck_18, ck_12, rf_10_1, rf_10_2, rf_10_3, pl01 h1, ck_pl h1, f], by simp (decide := true) only [F_X12_craft, ck_24, if_true, if_false, wre]⟩
  · have f := (h0.sc (o := 16) (p := 3) (b := 49) (by decide))
    exact ⟨uI m 24 5 0 24 49, by simp (decide := true) only [F_X11_craft, ck_0, if_true, if_false, rf_0_2, rf_0_3, bse, b1e, F_X10_size, F_X10_drawsTaken, F_X10_addressNow, F_X10_reserveNow, F_X10_notesTaken, F_X10_restartsDone, F_X2_gauge, F_X6_brownoutCount, F_X6_failureCount, F_X6_supplyNow, F_X6_demandNow, F_X2_downlink, F_X1_byteCount, F_X2_planned, F_X5_size, F_X2_steering, F_X7_value, ck_1, ck_10, ck_16, ck_18, ck_12, rf_10_1, rf_10_2, rf_10_3, pl01 h1, ck_pl h1, f], by simp (decide := true) only [F_X12_craft, ck_24, if_true, if_false, wre]⟩
theorem feed_ok (a1 a2 a3 a4 a5 : Int32) (hN : 5000 ≤ N) (h : RC n cd pb L t s0 B D c m) : ∃ r c' m', F_X11_feed N 0 a1 a2 a3 a4 a5 c L (GRf pb) = some (r, c') ∧ F_X12_feed N 24 a1 a2 a3 a4 a5 m L (GRf pb) = some (r, m') ∧ RC n cd pb L t s0 B D c' m' := by
  have hn := h.n20
  obtain ⟨r, c', m', e1, e2, hrt, fc, fm, e5⟩ := feed_sim (pb := pb) (L := L) a1 a2 a3 a4 a5 (show 5 ≤ N by omega) h.rt
  refine ⟨r, c', m', e1, e2, h.1.out (fun o p q => fc o p (by omega) (by omega)) (fun o p q => fm o p (by omega) (by omega)), h.2.1.feed hrt (fun o p q q4 q5 => fc o p q5 (by omega)) (fun o p q q30 q24 => fm o p q30 (by unfold stm at q; omega)), h.2.2.congr (fun o p q => fc o p (by unfold dyc at q; omega) (by unfold dyc at q; omega)) (fun o p q => fm o p (by unfold dym at q; omega) (by unfold dym at q; omega)) hn⟩
theorem within_nI {x : Int32} {k : Nat} (hk : k < 2 ^ 20) (h : inV x 0 (nI k) = true) : nn x k := by
  unfold inV at h
  by_cases z : x < 0
  · rw [if_pos z] at h; cases h
  · rw [if_neg z] at h
    by_cases z2 : nI k < x
    · rw [if_pos z2] at h; cases h
    · obtain ⟨j, hj, e⟩ := nI_of2 (M := nI k) (n := k) (nI_toInt (by omega)) z (Int32.not_lt.mp z2)
      exact ⟨j, hj, e⟩
theorem isAct_ok (hN : 5000 ≤ N) (x a b : Int32) (h : RC n cd pb L t s0 B D c m) : ∃ r, F_X11_isAct 0 x a b c L (GRf pb) = some r ∧ F_X12_canAct N 24 x a b m L (GRf pb) = some r ∧ (r = true → ∃ k, k ≤ 6 ∧ x = nI k ∧ actOk n cd k a) := by
  have ut := h.unit a
  have i3 : F_X11_within a 0 3 c L (GRf pb) = _ := inC_val
  have m3 : F_X12_in a 0 3 m L (GRf pb) = _ := inM_val
  have i2 : F_X11_within a 0 2 c L (GRf pb) = _ := inC_val
  have m2 : F_X12_in a 0 2 m L (GRf pb) = _ := inM_val
  have i29 : F_X11_within a 0 29 c L (GRf pb) = _ := inC_val
  have m29 : F_X12_in a 0 29 m L (GRf pb) = _ := inM_val
  have ib : F_X11_within b 0 3599 c L (GRf pb) = _ := inC_val
  have mb : F_X12_in b 0 3599 m L (GRf pb) = _ := inM_val
  by_cases x0 : x = 0
  · subst x0
    rcases ut with ⟨u1, u2⟩ | ⟨u, hu, e, u1, u2⟩
    · exact ⟨false, by simp (decide := true) only [F_X11_isAct, ck_0, if_true, if_false, rf_0_2, bse, u1, b1e], by simp (decide := true) only [F_X12_canAct, ck_24, if_true, if_false, u2, b1e], fun q => by cases q⟩
    · exact ⟨true, by simp (decide := true) only [F_X11_isAct, ck_0, if_true, if_false, rf_0_2, bse, u1, b1e], by simp (decide := true) only [F_X12_canAct, ck_24, if_true, if_false, u2, b1e], fun _ => ⟨0, by decide, rfl, fun _ => ⟨u, hu, e⟩, by omega, by omega, by omega, by omega⟩⟩
  by_cases x1 : x = 1
  · subst x1
    rcases ut with ⟨u1, u2⟩ | ⟨u, hu, e, u1, u2⟩
    · exact ⟨false, by simp (decide := true) only [F_X11_isAct, ck_0, if_true, if_false, rf_0_2, bse, u1, b1e], by simp (decide := true) only [F_X12_canAct, ck_24, if_true, if_false, u2, b1e], fun q => by cases q⟩
    · exact ⟨true, by simp (decide := true) only [F_X11_isAct, ck_0, if_true, if_false, rf_0_2, bse, u1, b1e], by simp (decide := true) only [F_X12_canAct, ck_24, if_true, if_false, u2, b1e], fun _ => ⟨1, by decide, rfl, fun _ => ⟨u, hu, e⟩, by omega, by omega, by omega, by omega⟩⟩
  by_cases x4 : x = 4
  · subst x4
    rcases ut with ⟨u1, u2⟩ | ⟨u, hu, e, u1, u2⟩
    · exact ⟨false, by simp (decide := true) only [F_X11_isAct, ck_0, if_true, if_false, rf_0_2, bse, u1, b1e], by simp (decide := true) only [F_X12_canAct, ck_24, if_true, if_false, u2, b1e], fun q => by cases q⟩
    · exact ⟨true, by simp (decide := true) only [F_X11_isAct, ck_0, if_true, if_false, rf_0_2, bse, u1, b1e], by simp (decide := true) only [F_X12_canAct, ck_24, if_true, if_false, u2, b1e], fun _ => ⟨4, by decide, rfl, fun _ => ⟨u, hu, e⟩, by omega, by omega, by omega, by omega⟩⟩
  by_cases x2 : x = 2
  · subst x2
    exact ⟨inV a 0 3, by simp (decide := true) only [F_X11_isAct, ck_0, if_true, if_false, i3, b1e], by simp (decide := true) only [F_X12_canAct, ck_24, if_true, if_false, m3, b1e], fun q => ⟨2, by decide, rfl, by omega, by omega, fun _ => within_nI (k := 3) (by decide) q, by omega, by omega⟩⟩
  by_cases x6 : x = 6
  · subst x6
    exact ⟨inV a 0 29, by simp (decide := true) only [F_X11_isAct, ck_0, if_true, if_false, i29, b1e], by simp (decide := true) only [F_X12_canAct, ck_24, if_true, if_false, m29, b1e], fun q => ⟨6, by decide, rfl, by omega, by omega, by omega, by omega, fun _ => within_nI (k := 29) (by decide) q⟩⟩
  by_cases x3 : x = 3
  · subst x3
    refine ⟨inV a 0 2 && inV b 0 3599, ?_, ?_, fun q => ⟨3, by decide, rfl, by omega, by omega, by omega, fun _ => within_nI (k := 2) (by decide) (by rw [Bool.and_eq_true] at q; exact q.1), by omega⟩⟩
    · cases q1 : inV a 0 2 <;> cases q2 : inV b 0 3599 <;> simp (decide := true) only [F_X11_isAct, ck_0, if_true, if_false, i2, ib, q1, q2, b1e, b2t, b2f, Bool.and_true, Bool.and_false, Bool.false_and]
    · cases q1 : inV a 0 2 <;> cases q2 : inV b 0 3599 <;> simp (decide := true) only [F_X12_canAct, ck_24, if_true, if_false, m2, mb, q1, q2, b1e, b2t, b2f, Bool.and_true, Bool.and_false, Bool.false_and]
  by_cases x5 : x = 5
  · subst x5
    rcases ut with ⟨u1, u2⟩ | ⟨u, hu, e, u1, u2⟩
    · exact ⟨false, by simp (decide := true) only [F_X11_isAct, ck_0, if_true, if_false, rf_0_2, bse, u1, b1e, b2f], by simp (decide := true) only [F_X12_canAct, ck_24, if_true, if_false, u2, b1e, b2f], fun q => by cases q⟩
    · subst e
      have hu20 := h.lt20 hu
      have hu' : u ≤ 20 := by omega
      have is5 : F_X9_is (U u) 5 c L (GRf pb) = _ := h.is (l := 5) hu (by decide)
      have ia5 : F_X12_isA N 24 (nI u) 5 m L (GRf pb) = _ := h.isA (l := 5) (by omega) hu (by decide)
      refine ⟨isL (cd u) 5, ?_, ?_, fun q => ⟨5, by decide, rfl, by omega, fun _ => ⟨u, hu, i5 _ (h.cd29 hu) q, rfl⟩, by omega, by omega, by omega⟩⟩
      · cases q : isL (cd u) 5 <;> simp (decide := true) only [F_X11_isAct, ck_0, if_true, if_false, rf_0_2, bse, u1, b1e, b2t, b2f, h.at hu, ck_U hu', is5, q]
      · cases q : isL (cd u) 5 <;> simp (decide := true) only [F_X12_canAct, ck_24, if_true, if_false, u2, b1e, b2t, b2f, ia5, q]
  exact ⟨false, by simp only [F_X11_isAct, ck_0, if_true, if_neg x0, if_neg x1, if_neg x2, if_neg x3, if_neg x4, if_neg x5, if_neg x6], by simp only [F_X12_canAct, ck_24, if_true, if_neg x0, if_neg x1, if_neg x2, if_neg x3, if_neg x4, if_neg x5, if_neg x6], fun q => by cases q⟩
theorem command_ok (hN : 5000 ≤ N) (x a b : Int32) (h : RC n cd pb L t s0 B D c m) : TwM [("java/lang/IllegalArgumentException", 1)] (F_X11_command N 0 x a b c L (GRf pb)) (F_X12_command N 24 x a b m L (GRf pb)) (RC n cd pb L t s0 B D) c := by
  have h0 := h.t5 (v := 0)
  have hn := h.n20
  have two : ∀ a b : Int32, uI (uI m 24 5 a) 24 5 b = uI m 24 5 b := fun a b => uI_two
  by_cases q0 : n = 0
  · subst q0
    refine Or.inr ⟨_, 1, false, uI m 24 5 1, ?_, ?_, List.mem_cons_self, uI_same, h.t5⟩
    · simp only [F_X11_command, ck_0, if_true, rf_0_2, bse, h.size, b1e, if_pos (show nI 0 = 0 from rfl)]
    · simp (decide := true) only [F_X12_command, ck_24, if_true, wre, h0.nm, if_pos (show nI 0 = 0 from rfl), failM, b2e, two]
  · have n0 : (nI n = 0) = False := eq_false (nI_ne0 (by omega) (by omega))
    obtain ⟨r, e1, e2, e3⟩ := isAct_ok hN x a b h0
    cases r with
    | false =>
      refine Or.inr ⟨_, 1, false, uI m 24 5 1, ?_, ?_, List.mem_cons_self, uI_same, h.t5⟩
      · simp only [F_X11_command, ck_0, if_true, if_false, rf_0_2, bse, h.size, b1e, n0, e1, b2f]
      · simp (decide := true) only [F_X12_command, ck_24, if_true, if_false, wre, h0.nm, n0, e2, b1e, b2f, failM, b2e, two]
    | true =>
      obtain ⟨k, hk, rfl, ak⟩ := e3 rfl
      obtain ⟨⟨z, c'⟩, ⟨w, m'⟩, p1, p2, hz, hr, -⟩ := perform_ok (b := b) hN h0 hk ak
      have hz : z = w := hz
      subst hz
      have hr : RC n cd pb L t s0 B D c' m' := hr
      have e5 : m' 24 5 = 0 := by
        have q := fs_F_X12_acts _ _ _ (uI m 24 5 0) Fr.rf _ p2 24 5 (by unfold KM; omega)
        exact q.trans uI_same
      refine Or.inl ⟨z, c', m', ?_, ?_, e5, hr⟩
      · simp only [F_X11_command, ck_0, if_true, if_false, rf_0_2, bse, h.size, b1e, n0, e1, b2t, rf_0_3, p1, b2e]
      · simp only [F_X12_command, ck_24, if_true, if_false, wre, h0.nm, n0, e2, b1e, b2t, p2, b2e]
end P17
