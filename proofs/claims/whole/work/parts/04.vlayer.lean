/-! The layer of abstract memory: ids for the cells of class and reference, their kinds, three memories (ints, longs, references) -/
abbrev MI : Type := Nat → Nat → Int32
abbrev ML : Type := Nat → Nat → Int64
abbrev MR : Type := Nat → Nat → Option Nat
def gW : List Cond := lw_tbl.filter goodWord
def isN (w : Cond) : Bool := match w with
  | .fieldLinkNest .. => true
  | .methodLinkNest .. => true
  | _ => false
def nW : List Cond := lw_tbl.filter isN
def NN : Nat := 204
def kdT : List Nat := [10, 9, 23, 20, 7, 20, 0, 20, 21, 20, 2, 20, 6, 20, 20, 20, 5, 20, 1, 20, 4, 24, 4, 24, 11, 20, 20, 20, 20, 20, 20, 20, 20, 20, 20, 20, 20, 20, 20, 20, 20, 20, 20, 20, 20, 20, 20, 20, 20, 20, 20, 20, 22, 22, 20, 20, 20, 21]
def lnT : List Nat := [0, 0, 20, 300, 0, 4000, 0, 20, 20, 60, 0, 12, 0, 3, 3, 3, 0, 20, 0, 500, 0, 30, 0, 30, 0, 29, 65, 146, 22, 89, 4000, 4000, 20, 160, 60, 160, 60, 1300, 100, 100, 100, 6, 6, 3, 3, 3, 500, 40000, 240, 240, 30, 30, 30, 30, 16, 20, 12, 1]
def kd (id : Nat) : Nat := if id < 58 then kdT.getD id 99 else if id < 142 then (if (id - 58) % 4 = 0 then 8 else 20) else if id < 204 then 3 else 99
def ln (id : Nat) : Nat := if id < 58 then lnT.getD id 0 else if id < 142 then [0, 65, 5, 2000].getD ((id - 58) % 4) 0 else 0
/-- by a class's number the sorts of its fields: 0 an int (or boolean), 1 a long, 2 a reference -/
def sg : List (List Nat) := [[2, 2, 2, 0], [2, 0], [2, 2, 2, 2, 2, 2, 0, 0, 0, 0, 0, 0, 0], [0, 0, 0, 0, 0, 0, 0, 0, 0, 0, 0], [2, 2, 0], [2, 2, 0, 0, 0, 0], [2, 2, 2, 2], [2, 0, 0, 0, 0, 0, 0, 1, 0, 0], [2, 2, 2, 1, 0, 0, 0, 0, 0, 0], [2, 2, 2, 0, 0, 0, 0, 0, 0], [2, 2, 2, 2, 2], [2, 2, 2, 2, 2, 0, 2, 0, 2, 0, 0, 0, 0, 0, 0, 0, 0, 0, 2, 2, 2, 0, 2, 2, 2, 0, 0, 0, 0, 2, 2, 2, 2, 2, 0, 0, 2, 2, 2, 0, 0, 0, 0, 0, 0, 0, 0, 0, 0, 0, 0, 2, 2, 0, 0, 2, 2, 2, 2, 2, 2, 2, 2, 2]]
def sgAt (ci k : Nat) : Nat := (sg.getD ci []).getD k 9
def b2i (b : Bool) : Int32 := if b then 1 else 0
def fv (ad : Nat → Nat) (I : MI) (L : ML) (R : MR) (id k t : Nat) : Value := if t = 0 then .int (I id k) else if t = 1 then .long (L id k) else va_rf ((R id k).map ad)
def fl (ad : Nat → Nat) (I : MI) (L : ML) (R : MR) (id : Nat) (ts : List Nat) : List Value := ts.mapIdx (fun k t => fv ad I L R id k t)
def ce (cA : Nat → ClassId) (ad : Nat → Nat) (I : MI) (L : ML) (R : MR) (id : Nat) : va_E :=
  if kd id < 12 then .inr (kd id, fl ad I L R id (sg.getD (kd id) []))
  else if kd id = 20 then .inl (cA 0, ln id, .inl (I id))
  else if kd id = 21 then .inl (cA 1, ln id, .inr (.inl (L id)))
  else if kd id = 22 then .inl (cA 2, ln id, .inl (I id))
  else if kd id = 23 then .inl (cA 3, ln id, .inr (.inr (.inr (.inr (fun j => (R id j).map ad)))))
  else .inl (cA 4, ln id, .inr (.inr (.inr (.inr (fun j => (R id j).map ad)))))
def wl (cA : Nat → ClassId) (ad : Nat → Nat) (I : MI) (L : ML) (R : MR) : va_W := (List.range NN).map (fun id => (ad id, ce cA ad I L R id))
def tyA (cA : Nat → ClassId) : List (ClassId × FieldType) := [(cA 0, .int), (cA 1, .long), (cA 2, .boolean), (cA 3, .object "SmallCraft$Unit"), (cA 4, .object "SmallCraft$Item")]
def Ab (bs : Nat) : Nat → Prop := fun q => bs ≤ q
def Ax (ad : Nat → Nat) (bs : Nat) : Prop := (∀ i j, i < NN → j < NN → ad i = ad j → i = j) ∧ ∀ i, i < NN → bs ≤ ad i
def uI (I : MI) (a k : Nat) (v : Int32) : MI := fun x y => if x = a ∧ y = k then v else I x y
def uL (L : ML) (a k : Nat) (v : Int64) : ML := fun x y => if x = a ∧ y = k then v else L x y
def uR (R : MR) (a k : Nat) (v : Option Nat) : MR := fun x y => if x = a ∧ y = k then v else R x y
theorem wl_at {cA : Nat → ClassId} {ad : Nat → Nat} {I : MI} {L : ML} {R : MR} {id : Nat} (h : id < NN) : (wl cA ad I L R)[id]? = some (ad id, ce cA ad I L R id) := by
  simp [wl, List.getElem?_map, List.getElem?_range h]
theorem wl_D {cA : Nat → ClassId} {ad : Nat → Nat} {I : MI} {L : ML} {R : MR} {bs : Nat} (h : Ax ad bs) : va_D (Ab bs) (wl cA ad I L R) := by
  have key : ∀ (k : Nat) (q : Nat × va_E), (wl cA ad I L R)[k]? = some q → k < NN ∧ q.1 = ad k := by
    intro k q hq
    by_cases hk : k < NN
    · rw [wl_at hk] at hq
      cases hq
      exact ⟨hk, rfl⟩
    · simp [wl, List.getElem?_map, List.getElem?_range, hk] at hq
  refine ⟨fun i j p q hi hj e => ?_, fun k q hk => ?_⟩
  · obtain ⟨a1, a2⟩ := key i p hi
    obtain ⟨b1, b2⟩ := key j q hj
    exact h.1 i j a1 b1 (by rw [← a2, ← b2]; exact e)
  · obtain ⟨a1, a2⟩ := key k q hk
    rw [a2]
    exact h.2 k a1
theorem wl_set {cA : Nat → ClassId} {ad : Nat → Nat} {I I' : MI} {L L' : ML} {R R' : MR} {id : Nat} {x : va_E} (he : ce cA ad I' L' R' id = x) (ho : ∀ j, j ≠ id → ce cA ad I' L' R' j = ce cA ad I L R j) : (wl cA ad I L R).set id (ad id, x) = wl cA ad I' L' R' := by
  apply List.ext_getElem?
  intro j
  by_cases hj : j < NN
  · rw [wl_at hj, List.getElem?_set]
    by_cases e : id = j
    · subst e
      simp [wl, hj, he]
    · rw [if_neg e, wl_at hj, ho j (fun q => e q.symm)]
  · rw [List.getElem?_eq_none (by simp [wl]; omega), List.getElem?_eq_none (by simp [wl]; omega)]
/-- an entry speaks of its own id's memory alone -/
theorem ce_congr {cA : Nat → ClassId} {ad : Nat → Nat} {I I' : MI} {L L' : ML} {R R' : MR} {id : Nat} (hI : I' id = I id) (hL : L' id = L id) (hR : R' id = R id) : ce cA ad I' L' R' id = ce cA ad I L R id := by
  simp only [ce, fl, fv, hI, hL, hR]
theorem uI_ne {I : MI} {a k j : Nat} {v : Int32} (h : j ≠ a) : uI I a k v j = I j := by
  funext y
  simp [uI, h]
theorem uL_ne {L : ML} {a k j : Nat} {v : Int64} (h : j ≠ a) : uL L a k v j = L j := by
  funext y
  simp [uL, h]
theorem uR_ne {R : MR} {a k j : Nat} {v : Option Nat} (h : j ≠ a) : uR R a k v j = R j := by
  funext y
  simp [uR, h]
theorem fl_at {ad : Nat → Nat} {I : MI} {L : ML} {R : MR} {id k t : Nat} {ts : List Nat} (h : ts[k]? = some t) : (fl ad I L R id ts)[k]? = some (fv ad I L R id k t) := by
  simp [fl, List.getElem?_mapIdx, h]
theorem fl_set {ad : Nat → Nat} {I I' : MI} {L L' : ML} {R R' : MR} {id k : Nat} {ts : List Nat} {v : Value} (hk : ∀ t, ts[k]? = some t → fv ad I' L' R' id k t = v) (ho : ∀ j t, j ≠ k → fv ad I' L' R' id j t = fv ad I L R id j t) : (fl ad I L R id ts).set k v = fl ad I' L' R' id ts := by
  apply List.ext_getElem?
  intro j
  rw [List.getElem?_set]
  by_cases e : k = j
  · subst e
    rw [if_pos rfl]
    cases ht : ts[k]? with
    | none =>
      have h1 : ts.length ≤ k := by simpa using ht
      simp [fl, List.getElem?_mapIdx, ht]
      omega
    | some t =>
      have h1 : k < ts.length := (List.getElem?_eq_some_iff.mp ht).1
      rw [fl_at ht, hk t ht]
      simp [fl, h1]
  · rw [if_neg e]
    cases ht : ts[j]? with
    | none => simp [fl, List.getElem?_mapIdx, ht]
    | some t => simp [fl, List.getElem?_mapIdx, ht, ho j t (fun q => e q.symm)]
