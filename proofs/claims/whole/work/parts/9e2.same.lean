/-! T3: the reference reads its own references alone: which of the two plans is the current one is all the same to it -/
theorem g24 (pb : Nat) {k c : Nat} : rf (GRf pb) 24 k c = rf (GRf 0) 24 k c := by
  have e : GRf pb 24 k = GRf 0 24 k := by
    simp [GRf]
  unfold rf
  rw [e]
theorem rr_LF_X12_begins_21 (pb : Nat) {N : Nat} {L : ML} : ∀ (k : Nat) (y1 : Int32) (y2 : Int32) (I : MI), LF_X12_begins_21 N k 24 y1 y2 I L (GRf pb) = LF_X12_begins_21 N k 24 y1 y2 I L (GRf 0) := by
  intro k
  induction k with
  | zero => intros; rfl
  | succ k ih =>
    intro y1 y2 I
    simp only [LF_X12_begins_21, g24 pb, ih]
theorem rr_F_X12_begins (pb : Nat) {N : Nat} {L : ML} (x1 : Int32) (I : MI) : F_X12_begins N 24 x1 I L (GRf pb) = F_X12_begins N 24 x1 I L (GRf 0) := by
  simp only [F_X12_begins, g24 pb, rr_LF_X12_begins_21 pb]
theorem rr_F_X12_byteAt (pb : Nat) {L : ML} (x1 : Int32) (I : MI) : F_X12_byteAt 24 x1 I L (GRf pb) = F_X12_byteAt 24 x1 I L (GRf 0) := by
  simp only [F_X12_byteAt, g24 pb]
theorem rr_LF_X12_next_9 (pb : Nat) {N : Nat} {L : ML} : ∀ (k : Nat)  (I : MI), LF_X12_next_9 N k 24  I L (GRf pb) = LF_X12_next_9 N k 24  I L (GRf 0) := by
  intro k
  induction k with
  | zero => intros; rfl
  | succ k ih =>
    intro  I
    simp only [LF_X12_next_9, g24 pb, rr_F_X12_byteAt pb, ih]
theorem rr_F_X12_isLetter (pb : Nat) {L : ML} (x0 : Int32) (I : MI) : F_X12_isLetter x0 I L (GRf pb) = F_X12_isLetter x0 I L (GRf 0) := by
  simp only [F_X12_isLetter, g24 pb]
theorem rr_F_X12_isDigit (pb : Nat) {L : ML} (x0 : Int32) (I : MI) : F_X12_isDigit x0 I L (GRf pb) = F_X12_isDigit x0 I L (GRf 0) := by
  simp only [F_X12_isDigit, g24 pb]
theorem rr_F_X12_wrong (pb : Nat) {L : ML} (x1 : Int32) (x2 : Int32) (I : MI) : F_X12_wrong 24 x1 x2 I L (GRf pb) = F_X12_wrong 24 x1 x2 I L (GRf 0) := by
  simp only [F_X12_wrong, g24 pb]
theorem rr_LF_X12_takeNumber_73 (pb : Nat) {N : Nat} {L : ML} : ∀ (k : Nat) (y1 : Int32) (y2 : Int32) (I : MI), LF_X12_takeNumber_73 N k 24 y1 y2 I L (GRf pb) = LF_X12_takeNumber_73 N k 24 y1 y2 I L (GRf 0) := by
  intro k
  induction k with
  | zero => intros; rfl
  | succ k ih =>
    intro y1 y2 I
    simp only [LF_X12_takeNumber_73, g24 pb, rr_F_X12_byteAt pb, rr_F_X12_isDigit pb, rr_F_X12_wrong pb, ih]
theorem rr_F_X12_takeNumber (pb : Nat) {N : Nat} {L : ML}  (I : MI) : F_X12_takeNumber N 24  I L (GRf pb) = F_X12_takeNumber N 24  I L (GRf 0) := by
  simp only [F_X12_takeNumber, g24 pb, rr_F_X12_byteAt pb, rr_F_X12_isDigit pb, rr_F_X12_wrong pb, rr_LF_X12_takeNumber_73 pb]
theorem rr_LF_X12_takeWord_10 (pb : Nat) {N : Nat} {L : ML} : ∀ (k : Nat)  (I : MI), LF_X12_takeWord_10 N k 24  I L (GRf pb) = LF_X12_takeWord_10 N k 24  I L (GRf 0) := by
  intro k
  induction k with
  | zero => intros; rfl
  | succ k ih =>
    intro  I
    simp only [LF_X12_takeWord_10, g24 pb, rr_F_X12_byteAt pb, rr_F_X12_isLetter pb, rr_F_X12_isDigit pb, rr_F_X12_wrong pb, ih]
theorem rr_F_X12_takeWord (pb : Nat) {N : Nat} {L : ML}  (I : MI) : F_X12_takeWord N 24  I L (GRf pb) = F_X12_takeWord N 24  I L (GRf 0) := by
  simp only [F_X12_takeWord, g24 pb, rr_LF_X12_takeWord_10 pb]
theorem rr_F_X12_next (pb : Nat) {N : Nat} {L : ML}  (I : MI) : F_X12_next N 24  I L (GRf pb) = F_X12_next N 24  I L (GRf 0) := by
  simp only [F_X12_next, g24 pb, rr_LF_X12_next_9 pb, rr_F_X12_byteAt pb, rr_F_X12_isLetter pb, rr_F_X12_isDigit pb, rr_F_X12_takeNumber pb, rr_F_X12_wrong pb, rr_F_X12_takeWord pb]
theorem rr_LF_X12_wordOf_15 (pb : Nat) {N : Nat} {L : ML} : ∀ (k : Nat) (y1 : Nat) (y2 : Int32) (y3 : Int32) (y4 : Int32) (y5 : Int32) (y6 : Int32) (I : MI), LF_X12_wordOf_15 N k 24 y1 y2 y3 y4 y5 y6 I L (GRf pb) = LF_X12_wordOf_15 N k 24 y1 y2 y3 y4 y5 y6 I L (GRf 0) := by
  intro k
  induction k with
  | zero => intros; rfl
  | succ k ih =>
    intro y1 y2 y3 y4 y5 y6 I
    simp only [LF_X12_wordOf_15, g24 pb, ih]
theorem rr_LF_X12_wordOf_50 (pb : Nat) {N : Nat} {L : ML} : ∀ (k : Nat) (y1 : Nat) (y2 : Int32) (y3 : Int32) (y4 : Int32) (y5 : Int32) (y6 : Int32) (y7 : Int32) (y8 : Int32) (I : MI), LF_X12_wordOf_50 N k 24 y1 y2 y3 y4 y5 y6 y7 y8 I L (GRf pb) = LF_X12_wordOf_50 N k 24 y1 y2 y3 y4 y5 y6 y7 y8 I L (GRf 0) := by
  intro k
  induction k with
  | zero => intros; rfl
  | succ k ih =>
    intro y1 y2 y3 y4 y5 y6 y7 y8 I
    simp only [LF_X12_wordOf_50, g24 pb, ih]
theorem rr_LF_X12_wordOf_6 (pb : Nat) {N : Nat} {L : ML} : ∀ (k : Nat) (y1 : Nat) (y2 : Int32) (y3 : Int32) (y4 : Int32) (y5 : Int32) (I : MI), LF_X12_wordOf_6 N k 24 y1 y2 y3 y4 y5 I L (GRf pb) = LF_X12_wordOf_6 N k 24 y1 y2 y3 y4 y5 I L (GRf 0) := by
  intro k
  induction k with
  | zero => intros; rfl
  | succ k ih =>
    intro y1 y2 y3 y4 y5 I
    simp only [LF_X12_wordOf_6, g24 pb, rr_LF_X12_wordOf_15 pb, rr_LF_X12_wordOf_50 pb, ih]
theorem rr_F_X12_wordOf (pb : Nat) {N : Nat} {L : ML} (x1 : Nat) (x2 : Int32) (x3 : Int32) (I : MI) : F_X12_wordOf N 24 x1 x2 x3 I L (GRf pb) = F_X12_wordOf N 24 x1 x2 x3 I L (GRf 0) := by
  simp only [F_X12_wordOf, g24 pb, rr_LF_X12_wordOf_6 pb]
theorem rr_F_X12_planWord (pb : Nat) {N : Nat} {L : ML} (x1 : Int32) (x2 : Int32) (I : MI) : F_X12_planWord N 24 x1 x2 I L (GRf pb) = F_X12_planWord N 24 x1 x2 I L (GRf 0) := by
  simp only [F_X12_planWord, g24 pb, rr_F_X12_wordOf pb, rr_F_X12_wrong pb]
theorem rr_LF_X12_readItem_62 (pb : Nat) {N : Nat} {L : ML} : ∀ (k : Nat) (y1 : Int32) (y2 : Int32) (y3 : Int32) (I : MI), LF_X12_readItem_62 N k 24 y1 y2 y3 I L (GRf pb) = LF_X12_readItem_62 N k 24 y1 y2 y3 I L (GRf 0) := by
  intro k
  induction k with
  | zero => intros; rfl
  | succ k ih =>
    intro y1 y2 y3 I
    simp only [LF_X12_readItem_62, g24 pb, ih]
theorem rr_LF_X12_named_17 (pb : Nat) {N : Nat} {L : ML} : ∀ (k : Nat) (y1 : Nat) (y2 : Int32) (y3 : Int32) (y4 : Int32) (y5 : Int32) (y6 : Int32) (I : MI), LF_X12_named_17 N k 24 y1 y2 y3 y4 y5 y6 I L (GRf pb) = LF_X12_named_17 N k 24 y1 y2 y3 y4 y5 y6 I L (GRf 0) := by
  intro k
  induction k with
  | zero => intros; rfl
  | succ k ih =>
    intro y1 y2 y3 y4 y5 y6 I
    simp only [LF_X12_named_17, g24 pb, ih]
theorem rr_LF_X12_named_5 (pb : Nat) {N : Nat} {L : ML} : ∀ (k : Nat) (y1 : Nat) (y2 : Int32) (y3 : Int32) (y4 : Int32) (I : MI), LF_X12_named_5 N k 24 y1 y2 y3 y4 I L (GRf pb) = LF_X12_named_5 N k 24 y1 y2 y3 y4 I L (GRf 0) := by
  intro k
  induction k with
  | zero => intros; rfl
  | succ k ih =>
    intro y1 y2 y3 y4 I
    simp only [LF_X12_named_5, g24 pb, rr_LF_X12_named_17 pb, ih]
theorem rr_F_X12_named (pb : Nat) {N : Nat} {L : ML} (x1 : Nat) (x2 : Int32) (I : MI) : F_X12_named N 24 x1 x2 I L (GRf pb) = F_X12_named N 24 x1 x2 I L (GRf 0) := by
  simp only [F_X12_named, g24 pb, rr_LF_X12_named_5 pb]
theorem rr_F_X12_get (pb : Nat) {L : ML} (x1 : Int32) (x2 : Int32) (I : MI) : F_X12_get 24 x1 x2 I L (GRf pb) = F_X12_get 24 x1 x2 I L (GRf 0) := by
  simp only [F_X12_get, g24 pb]
theorem rr_LF_X12_has_2 (pb : Nat) {N : Nat} {L : ML} : ∀ (k : Nat) (y1 : Int32) (y2 : Int32) (I : MI), LF_X12_has_2 N k 24 y1 y2 I L (GRf pb) = LF_X12_has_2 N k 24 y1 y2 I L (GRf 0) := by
  intro k
  induction k with
  | zero => intros; rfl
  | succ k ih =>
    intro y1 y2 I
    simp only [LF_X12_has_2, g24 pb, ih]
theorem rr_F_X12_has (pb : Nat) {N : Nat} {L : ML} (x1 : Int32) (x2 : Int32) (I : MI) : F_X12_has N 24 x1 x2 I L (GRf pb) = F_X12_has N 24 x1 x2 I L (GRf 0) := by
  simp only [F_X12_has, g24 pb, rr_LF_X12_has_2 pb]
theorem rr_F_X12_isA (pb : Nat) {N : Nat} {L : ML} (x1 : Int32) (x2 : Int32) (I : MI) : F_X12_isA N 24 x1 x2 I L (GRf pb) = F_X12_isA N 24 x1 x2 I L (GRf 0) := by
  simp only [F_X12_isA, g24 pb, rr_F_X12_get pb, rr_F_X12_has pb]
theorem rr_F_X12_unitNext (pb : Nat) {N : Nat} {L : ML} (x1 : Int32) (I : MI) : F_X12_unitNext N 24 x1 I L (GRf pb) = F_X12_unitNext N 24 x1 I L (GRf 0) := by
  simp only [F_X12_unitNext, g24 pb, rr_F_X12_next pb, rr_F_X12_named pb, rr_F_X12_wrong pb, rr_F_X12_isA pb]
theorem rr_F_X12_number (pb : Nat) {N : Nat} {L : ML} (x1 : Int32) (x2 : Int32) (I : MI) : F_X12_number N 24 x1 x2 I L (GRf pb) = F_X12_number N 24 x1 x2 I L (GRf 0) := by
  simp only [F_X12_number, g24 pb, rr_F_X12_next pb, rr_F_X12_wrong pb]
theorem rr_F_X12_readTerm (pb : Nat) {N : Nat} {L : ML} (x1 : Int32) (I : MI) : F_X12_readTerm N 24 x1 I L (GRf pb) = F_X12_readTerm N 24 x1 I L (GRf 0) := by
  simp only [F_X12_readTerm, g24 pb, rr_F_X12_next pb, rr_F_X12_planWord pb, rr_F_X12_unitNext pb, rr_F_X12_number pb, rr_F_X12_wrong pb]
theorem rr_F_X12_readAct (pb : Nat) {N : Nat} {L : ML} (x1 : Int32) (I : MI) : F_X12_readAct N 24 x1 I L (GRf pb) = F_X12_readAct N 24 x1 I L (GRf 0) := by
  simp only [F_X12_readAct, g24 pb, rr_F_X12_next pb, rr_F_X12_planWord pb, rr_F_X12_number pb, rr_F_X12_unitNext pb]
theorem rr_F_X12_sign (pb : Nat) {N : Nat} {L : ML} (x1 : Int32) (I : MI) : F_X12_sign N 24 x1 I L (GRf pb) = F_X12_sign N 24 x1 I L (GRf 0) := by
  simp only [F_X12_sign, g24 pb, rr_F_X12_next pb, rr_F_X12_wrong pb]
theorem rr_F_X12_readItem (pb : Nat) {N : Nat} {L : ML}  (I : MI) : F_X12_readItem N 24  I L (GRf pb) = F_X12_readItem N 24  I L (GRf 0) := by
  simp only [F_X12_readItem, g24 pb, rr_F_X12_next pb, rr_F_X12_planWord pb, rr_F_X12_wrong pb, rr_LF_X12_readItem_62 pb, rr_F_X12_readTerm pb, rr_F_X12_number pb, rr_F_X12_readAct pb, rr_F_X12_sign pb]
theorem rr_LF_X12_plan_22 (pb : Nat) {N : Nat} {L : ML} : ∀ (k : Nat) (y1 : Int32) (I : MI), LF_X12_plan_22 N k 24 y1 I L (GRf pb) = LF_X12_plan_22 N k 24 y1 I L (GRf 0) := by
  intro k
  induction k with
  | zero => intros; rfl
  | succ k ih =>
    intro y1 I
    simp only [LF_X12_plan_22, g24 pb, rr_F_X12_readItem pb, ih]
theorem rr_LF_X12_plan_53 (pb : Nat) {N : Nat} {L : ML} : ∀ (k : Nat) (y1 : Int32) (I : MI), LF_X12_plan_53 N k 24 y1 I L (GRf pb) = LF_X12_plan_53 N k 24 y1 I L (GRf 0) := by
  intro k
  induction k with
  | zero => intros; rfl
  | succ k ih =>
    intro y1 I
    simp only [LF_X12_plan_53, g24 pb, ih]
theorem rr_LF_X12_plan_80 (pb : Nat) {N : Nat} {L : ML} : ∀ (k : Nat) (y1 : Int32) (I : MI), LF_X12_plan_80 N k 24 y1 I L (GRf pb) = LF_X12_plan_80 N k 24 y1 I L (GRf 0) := by
  intro k
  induction k with
  | zero => intros; rfl
  | succ k ih =>
    intro y1 I
    simp only [LF_X12_plan_80, g24 pb, ih]
theorem rr_F_X12_plan (pb : Nat) {N : Nat} {L : ML} (x1 : Int32) (I : MI) : F_X12_plan N 24 x1 I L (GRf pb) = F_X12_plan N 24 x1 I L (GRf 0) := by
  simp only [F_X12_plan, g24 pb, rr_F_X12_begins pb, rr_LF_X12_plan_22 pb, rr_LF_X12_plan_53 pb, rr_LF_X12_plan_80 pb]
