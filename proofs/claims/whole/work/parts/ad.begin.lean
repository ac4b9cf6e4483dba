/-! What the constructors leave: the world of all 204 cells, and the relation at the start -/
def ordN (i : Nat) : Nat := if i < 3 then i else if i = 3 then 7 else if i < 22 then i + 84 else if i < 24 then i + 115 else if i < 58 then i + 146 else if i < 138 then i - 50 else if i < 142 then i - 135 else if i < 172 then i - 35 else if i = 172 then 106 else if i < 203 then i - 33 else 139
def adF (bs : Nat) (sa : Nat → Nat) (i : Nat) : Nat := if i < 204 then bs + ordN i else sa i
theorem ord_inv : ∀ i, i < 204 → ordN i < 204 ∧ ∀ j, j < 204 → ordN i = ordN j → i = j := by decide +kernel
theorem adF_Ax (bs : Nat) (sa : Nat → Nat) : Ax (adF bs sa) bs := by
  refine ⟨fun i j hi hj e => ?_, fun i hi => ?_⟩
  · have hi' : i < 204 := hi
    have hj' : j < 204 := hj
    unfold adF at e
    rw [if_pos hi', if_pos hj'] at e
    exact (ord_inv i hi').2 j hj' (by omega)
  · have hi' : i < 204 := hi
    unfold adF
    rw [if_pos hi']
    exact Nat.le_add_right _ _
def EF1 (cA : Nat → ClassId) (bs : Nat) (E : Nat → va_E) : Nat → va_E := E_X11_init cA bs 1 0 (upE E 0 (.inr (10, dfl 10)))
def EF (cA : Nat → ClassId) (bs : Nat) (E : Nat → va_E) : Nat → va_E := upE (E_X12_init cA bs 171 170 (upE (EF1 cA bs E) 170 (.inr (11, dfl 11)))) 203 (.inl (cA 1, 1, .inr (.inl (fun _ => 0))))
theorem EF_lo {cA : Nat → ClassId} {bs : Nat} {E : Nat → va_E} {q : Nat} (h : q < 170) : EF cA bs E q = EF1 cA bs E q := by
  unfold EF
  rw [upE_ne (by omega), E_X12_init_ne (by omega) (by omega), upE_ne (by omega)]
def EFm (cA : Nat → ClassId) (bs : Nat) : Nat → va_E := E_X12_init cA bs 171 170 (fun _ => .inr (11, dfl 11))
def I0 : MI := fun i => if i = 4 then (fun y => if y = 9 then -1 else 0) else if i = 24 then (fun y => if y = 16 then -1 else 0) else if i = 25 then filled (fun _ => 0) 0 tv_7 else if i = 26 then filled (fun _ => 0) 0 tv_174 else if i = 27 then filled (fun _ => 0) 0 tv_543 else if i = 28 then filled (fun _ => 0) 0 tv_1417 else if i = 29 then filled (fun _ => 0) 0 tv_1547 else if i = 54 then filled (fun _ => 0) 0 tv_2268 else fun _ => 0
def L0 : ML := fun _ _ => 0
theorem filled_at {g : Nat → Int32} : ∀ (vs : List Int32) (i j : Nat), filled g i vs j = if i ≤ j ∧ j < i + vs.length then vs.getD (j - i) 0 else g j := by
  intro vs
  induction vs generalizing g with
  | nil =>
    intro i j
    rw [if_neg (by simp)]
    rfl
  | cons v vs ih =>
    intro i j
    show filled (upd g i v) (i + 1) vs j = _
    rw [ih, List.length_cons]
    by_cases h1 : i + 1 ≤ j ∧ j < i + 1 + vs.length
    · rw [if_pos h1, if_pos (by omega), show j - i = (j - (i + 1)) + 1 by omega, List.getD_cons_succ]
    · rw [if_neg h1]
      by_cases h2 : j = i
      · subst h2
        rw [if_pos (by omega), Nat.sub_self, List.getD_cons_zero]
        simp [upd]
      · rw [if_neg (by omega)]
        simp [upd, h2]
theorem filled_0 (vs : List Int32) (j : Nat) : filled (fun _ => 0) 0 vs j = vs.getD j 0 := by
  rw [filled_at]
  by_cases h : j < vs.length
  · rw [if_pos (by omega), Nat.sub_zero]
  · rw [if_neg (by omega), List.getD_eq_getElem?_getD, List.getElem?_eq_none (by omega)]
    rfl
theorem I0_zero {i y : Nat} (h1 : ¬ (i = 4 ∧ y = 9)) (h2 : ¬ (i = 24 ∧ y = 16)) (h3 : ¬ (25 ≤ i ∧ i ≤ 29)) (h4 : i ≠ 54) : I0 i y = 0 := by
  unfold I0
  by_cases e1 : i = 4
  · rw [if_pos e1, if_neg (by omega)]
  · rw [if_neg e1]
    by_cases e2 : i = 24
    · rw [if_pos e2, if_neg (by omega)]
    · rw [if_neg e2, if_neg (by omega), if_neg (by omega), if_neg (by omega), if_neg (by omega), if_neg (by omega), if_neg h4]
theorem I0_TM : TM I0 := by
  refine ⟨?_, ?_, ?_, ?_, ?_, ?_⟩
  · intro j hj
    show filled (fun _ => 0) 0 tv_7 j = _
    rw [filled_0]
    have key : ∀ j, j < 29 → tv_7.getD j 0 = lbI j := by decide +kernel
    exact key j hj
  · intro j
    exact filled_0 tv_174 j
  · intro j
    exact filled_0 tv_543 j
  · intro j
    exact filled_0 tv_1417 j
  · intro j
    exact filled_0 tv_1547 j
  · intro j
    exact filled_0 tv_2268 j
theorem RC_start : RC 0 (fun _ => 0) 0 L0 0 0 0 0 I0 I0 := by
  refine ⟨?_, ⟨by decide, by decide, ?_, ?_, I0_TM, ?_, ?_, fun u hu => by omega⟩, ?_⟩
  · intro o p a b hM hg
    have hz : I0 24 54 = 0 := I0_zero (by omega) (by omega) (by omega) (by omega)
    rcases hM with ⟨u, h⟩ | ⟨h0, h⟩ | h | h | h | h
    · exact absurd h.2.2.1.1 (by omega)
    · have key : ∀ x ∈ scT, I0 x.1 x.2.1 = 0 ∧ I0 24 x.2.2 = 0 := by decide +kernel
      obtain ⟨k1, k2⟩ := key _ h
      rw [h0, k2]
      exact k1
    · rw [I0_zero (by omega) (by omega) (by omega) (by omega), I0_zero (by omega) (by omega) (by omega) (by omega)]
    · rw [I0_zero (by omega) (by omega) (by omega) (by omega), I0_zero (by omega) (by omega) (by omega) (by omega)]
    · rw [I0_zero (by omega) (by omega) (by omega) (by omega), I0_zero (by omega) (by omega) (by omega) (by omega)]
    · have := hg (by omega)
      rw [hz] at this
      exact absurd this (Nat.not_lt_zero _)
  · exact I0_zero (by omega) (by omega) (by omega) (by omega)
  · exact I0_zero (by omega) (by omega) (by omega) (by omega)
  · exact ⟨0, by decide, I0_zero (by omega) (by omega) (by omega) (by omega), I0_zero (by omega) (by omega) (by omega) (by omega), fun j hj => by omega, by rw [I0_zero (by omega) (by omega) (by omega) (by omega), I0_zero (by omega) (by omega) (by omega) (by omega)], rfl⟩
  · exact ⟨0, by decide, I0_zero (by omega) (by omega) (by omega) (by omega), I0_zero (by omega) (by omega) (by omega) (by omega), fun j hj => by omega⟩
  · have z : ∀ y, y ≠ 16 → I0 24 y = 0 := fun y hy => I0_zero (by omega) (by omega) (by omega) (by omega)
    refine ⟨z 34 (by decide), by decide, ?_, ?_, by decide, by decide, ⟨0, 0, z 39 (by decide), z 40 (by decide), by decide, Or.inl (by decide), ?_⟩, ⟨0, 0, 0, by decide, by decide, by decide, z 46 (by decide), z 25 (by decide), z 26 (by decide), ?_⟩, fun u hu => by omega, fun u hu => by omega⟩
    · rw [z 35 (by decide)]; exact ⟨0, by decide, rfl⟩
    · rw [z 43 (by decide)]; exact ⟨0, by decide, rfl⟩
    · rw [z 50 (by decide)]; simp
    · rw [z 28 (by decide)]; exact ⟨0, by decide, rfl⟩
theorem DN_start : DN 0 L0 := fun u v h1 h2 => by omega
