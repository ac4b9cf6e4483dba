/-! the reference holds no longs -/
theorem ll_F_X12_fail (L L9 : ML) {R : MR} (x1 : Int32) (I : MI) : F_X12_fail 24 x1 I L R = F_X12_fail 24 x1 I L9 R := by
  simp only [F_X12_fail]
theorem ll_F_X12_shine (L L9 : ML) {R : MR}  (I : MI) : F_X12_shine 24  I L R = F_X12_shine 24  I L9 R := by
  simp only [F_X12_shine]
theorem ll_F_X12_get (L L9 : ML) {R : MR} (x1 : Int32) (x2 : Int32) (I : MI) : F_X12_get 24 x1 x2 I L R = F_X12_get 24 x1 x2 I L9 R := by
  simp only [F_X12_get]
theorem ll_F_X12_term (L L9 : ML) {R : MR} (x1 : Int32) (I : MI) : F_X12_term 24 x1 I L R = F_X12_term 24 x1 I L9 R := by
  simp only [F_X12_term, ll_F_X12_get L L9]
theorem ll_F_X12_isDue (L L9 : ML) {R : MR} (x1 : Int32) (I : MI) : F_X12_isDue 24 x1 I L R = F_X12_isDue 24 x1 I L9 R := by
  simp only [F_X12_isDue, ll_F_X12_term L L9]
theorem ll_LF_X12_has_2 (L L9 : ML) {N : Nat} {R : MR} : ∀ (k : Nat) (y1 : Int32) (y2 : Int32) (I : MI), LF_X12_has_2 N k 24 y1 y2 I L R = LF_X12_has_2 N k 24 y1 y2 I L9 R := by
  intro k
  induction k with
  | zero => intros; rfl
  | succ k ih =>
    intro y1 y2 I
    simp only [LF_X12_has_2, ih]
theorem ll_F_X12_has (L L9 : ML) {N : Nat} {R : MR} (x1 : Int32) (x2 : Int32) (I : MI) : F_X12_has N 24 x1 x2 I L R = F_X12_has N 24 x1 x2 I L9 R := by
  simp only [F_X12_has, ll_LF_X12_has_2 L L9]
theorem ll_F_X12_isA (L L9 : ML) {N : Nat} {R : MR} (x1 : Int32) (x2 : Int32) (I : MI) : F_X12_isA N 24 x1 x2 I L R = F_X12_isA N 24 x1 x2 I L9 R := by
  simp only [F_X12_isA, ll_F_X12_get L L9, ll_F_X12_has L L9]
theorem ll_F_X12_isWhole (L L9 : ML) {R : MR} (x1 : Int32) (I : MI) : F_X12_isWhole 24 x1 I L R = F_X12_isWhole 24 x1 I L9 R := by
  simp only [F_X12_isWhole, ll_F_X12_get L L9]
theorem ll_F_X12_set (L L9 : ML) {R : MR} (x1 : Int32) (x2 : Int32) (x3 : Int32) (I : MI) : F_X12_set 24 x1 x2 x3 I L R = F_X12_set 24 x1 x2 x3 I L9 R := by
  simp only [F_X12_set]
theorem ll_F_X12_turnsOn (L L9 : ML) {N : Nat} {R : MR} (x1 : Int32) (I : MI) : F_X12_turnsOn N 24 x1 I L R = F_X12_turnsOn N 24 x1 I L9 R := by
  simp only [F_X12_turnsOn, ll_F_X12_isA L L9, ll_F_X12_isWhole L L9, ll_F_X12_get L L9, ll_F_X12_set L L9]
theorem ll_LF_X12_make_2 (L L9 : ML) {N : Nat} {R : MR} : ∀ (k : Nat) (y1 : Int32) (y2 : Int32) (y3 : Int32) (I : MI), LF_X12_make_2 N k 24 y1 y2 y3 I L R = LF_X12_make_2 N k 24 y1 y2 y3 I L9 R := by
  intro k
  induction k with
  | zero => intros; rfl
  | succ k ih =>
    intro y1 y2 y3 I
    simp only [LF_X12_make_2, ll_F_X12_set L L9, ih]
theorem ll_LF_X12_findLayers_4 (L L9 : ML) {N : Nat} {R : MR} : ∀ (k : Nat) (y1 : Int32) (y2 : Int32) (y3 : Int32) (I : MI), LF_X12_findLayers_4 N k 24 y1 y2 y3 I L R = LF_X12_findLayers_4 N k 24 y1 y2 y3 I L9 R := by
  intro k
  induction k with
  | zero => intros; rfl
  | succ k ih =>
    intro y1 y2 y3 I
    simp only [LF_X12_findLayers_4, ih]
theorem ll_LF_X12_findLayers_26 (L L9 : ML) {N : Nat} {R : MR} : ∀ (k : Nat) (y1 : Int32) (y2 : Int32) (y3 : Int32) (I : MI), LF_X12_findLayers_26 N k 24 y1 y2 y3 I L R = LF_X12_findLayers_26 N k 24 y1 y2 y3 I L9 R := by
  intro k
  induction k with
  | zero => intros; rfl
  | succ k ih =>
    intro y1 y2 y3 I
    simp only [LF_X12_findLayers_26, ih]
theorem ll_F_X12_findLayers (L L9 : ML) {N : Nat} {R : MR} (x1 : Int32) (I : MI) : F_X12_findLayers N 24 x1 I L R = F_X12_findLayers N 24 x1 I L9 R := by
  simp only [F_X12_findLayers, ll_LF_X12_findLayers_4 L L9, ll_LF_X12_findLayers_26 L L9]
theorem ll_LF_X12_make_93 (L L9 : ML) {N : Nat} {R : MR} : ∀ (k : Nat) (y1 : Int32) (y2 : Int32) (y3 : Int32) (I : MI), LF_X12_make_93 N k 24 y1 y2 y3 I L R = LF_X12_make_93 N k 24 y1 y2 y3 I L9 R := by
  intro k
  induction k with
  | zero => intros; rfl
  | succ k ih =>
    intro y1 y2 y3 I
    simp only [LF_X12_make_93, ih]
theorem ll_F_X12_draw (L L9 : ML) {R : MR}  (I : MI) : F_X12_draw 24  I L R = F_X12_draw 24  I L9 R := by
  simp only [F_X12_draw]
theorem ll_F_X12_massBy (L L9 : ML) {R : MR} (x1 : Int32) (x2 : Int32) (x3 : Int32) (I : MI) : F_X12_massBy 24 x1 x2 x3 I L R = F_X12_massBy 24 x1 x2 x3 I L9 R := by
  simp only [F_X12_massBy, ll_F_X12_get L L9]
theorem ll_F_X12_mod (L L9 : ML) {R : MR} (x0 : Int32) (x1 : Int32) (I : MI) : F_X12_mod x0 x1 I L R = F_X12_mod x0 x1 I L9 R := by
  simp only [F_X12_mod]
theorem ll_F_X12_spanBy (L L9 : ML) {R : MR} (x1 : Int32) (x2 : Int32) (x3 : Int32) (I : MI) : F_X12_spanBy 24 x1 x2 x3 I L R = F_X12_spanBy 24 x1 x2 x3 I L9 R := by
  simp only [F_X12_spanBy, ll_F_X12_get L L9, ll_F_X12_mod L L9]
theorem ll_F_X12_needBy (L L9 : ML) {R : MR} (x1 : Int32) (x2 : Int32) (x3 : Int32) (I : MI) : F_X12_needBy 24 x1 x2 x3 I L R = F_X12_needBy 24 x1 x2 x3 I L9 R := by
  simp only [F_X12_needBy, ll_F_X12_get L L9]
theorem ll_F_X12_testBy (L L9 : ML) {R : MR} (x1 : Int32) (x2 : Int32) (x3 : Int32) (I : MI) : F_X12_testBy 24 x1 x2 x3 I L R = F_X12_testBy 24 x1 x2 x3 I L9 R := by
  simp only [F_X12_testBy, ll_F_X12_get L L9]
theorem ll_F_X12_channelsBy (L L9 : ML) {R : MR} (x1 : Int32) (x2 : Int32) (x3 : Int32) (I : MI) : F_X12_channelsBy 24 x1 x2 x3 I L R = F_X12_channelsBy 24 x1 x2 x3 I L9 R := by
  simp only [F_X12_channelsBy, ll_F_X12_get L L9]
theorem ll_F_X12_pushBy (L L9 : ML) {R : MR} (x1 : Int32) (x2 : Int32) (x3 : Int32) (I : MI) : F_X12_pushBy 24 x1 x2 x3 I L R = F_X12_pushBy 24 x1 x2 x3 I L9 R := by
  simp only [F_X12_pushBy, ll_F_X12_get L L9]
theorem ll_LF_X12_answer_17 (L L9 : ML) {N : Nat} {R : MR} : ∀ (k : Nat) (y1 : Int32) (y2 : Int32) (y3 : Int32) (y4 : Int32) (y5 : Int32) (I : MI), LF_X12_answer_17 N k 24 y1 y2 y3 y4 y5 I L R = LF_X12_answer_17 N k 24 y1 y2 y3 y4 y5 I L9 R := by
  intro k
  induction k with
  | zero => intros; rfl
  | succ k ih =>
    intro y1 y2 y3 y4 y5 I
    simp only [LF_X12_answer_17, ll_F_X12_massBy L L9, ll_F_X12_spanBy L L9, ll_F_X12_needBy L L9, ll_F_X12_testBy L L9, ll_F_X12_channelsBy L L9, ll_F_X12_pushBy L L9, ih]
theorem ll_F_X12_answer (L L9 : ML) {N : Nat} {R : MR} (x1 : Int32) (x2 : Int32) (I : MI) : F_X12_answer N 24 x1 x2 I L R = F_X12_answer N 24 x1 x2 I L9 R := by
  simp only [F_X12_answer, ll_F_X12_get L L9, ll_F_X12_findLayers L L9, ll_LF_X12_answer_17 L L9]
theorem ll_F_X12_noted (L L9 : ML) {R : MR} (x1 : Int32) (x2 : Int32) (x3 : Int32) (I : MI) : F_X12_noted 24 x1 x2 x3 I L R = F_X12_noted 24 x1 x2 x3 I L9 R := by
  simp only [F_X12_noted]
theorem ll_F_X12_makeUnit (L L9 : ML) {N : Nat} {R : MR} (x1 : Int32) (I : MI) : F_X12_makeUnit N 24 x1 I L R = F_X12_makeUnit N 24 x1 I L9 R := by
  simp only [F_X12_makeUnit, ll_F_X12_set L L9, ll_F_X12_draw L L9, ll_F_X12_answer L L9, ll_F_X12_get L L9, ll_F_X12_noted L L9]
theorem ll_F_X12_makeLoad (L L9 : ML) {N : Nat} {R : MR} (x1 : Int32) (x2 : Int32) (x3 : Int32) (x4 : Int32) (x5 : Int32) (I : MI) : F_X12_makeLoad N 24 x1 x2 x3 x4 x5 I L R = F_X12_makeLoad N 24 x1 x2 x3 x4 x5 I L9 R := by
  simp only [F_X12_makeLoad, ll_F_X12_get L L9, ll_F_X12_draw L L9, ll_F_X12_mod L L9, ll_F_X12_set L L9, ll_F_X12_answer L L9, ll_F_X12_noted L L9]
theorem ll_F_X12_grow (L L9 : ML) {R : MR} (x1 : Int32) (x2 : Int32) (x3 : Int32) (I : MI) : F_X12_grow 24 x1 x2 x3 I L R = F_X12_grow 24 x1 x2 x3 I L9 R := by
  simp only [F_X12_grow]
theorem ll_F_X12_makeLink (L L9 : ML) {N : Nat} {R : MR} (x1 : Int32) (x2 : Int32) (x3 : Int32) (x4 : Int32) (x5 : Int32) (I : MI) : F_X12_makeLink N 24 x1 x2 x3 x4 x5 I L R = F_X12_makeLink N 24 x1 x2 x3 x4 x5 I L9 R := by
  simp only [F_X12_makeLink, ll_F_X12_answer L L9, ll_F_X12_draw L L9, ll_F_X12_mod L L9, ll_F_X12_set L L9, ll_F_X12_get L L9, ll_F_X12_noted L L9, ll_F_X12_grow L L9]
theorem ll_F_X12_makeSource (L L9 : ML) {N : Nat} {R : MR} (x1 : Int32) (x2 : Int32) (x3 : Int32) (x4 : Int32) (I : MI) : F_X12_makeSource N 24 x1 x2 x3 x4 I L R = F_X12_makeSource N 24 x1 x2 x3 x4 I L9 R := by
  simp only [F_X12_makeSource, ll_F_X12_draw L L9, ll_F_X12_mod L L9, ll_F_X12_set L L9, ll_F_X12_answer L L9, ll_F_X12_noted L L9, ll_F_X12_get L L9]
theorem ll_F_X12_makeActuator (L L9 : ML) {N : Nat} {R : MR} (x1 : Int32) (x2 : Int32) (x3 : Int32) (x4 : Int32) (I : MI) : F_X12_makeActuator N 24 x1 x2 x3 x4 I L R = F_X12_makeActuator N 24 x1 x2 x3 x4 I L9 R := by
  simp only [F_X12_makeActuator, ll_F_X12_answer L L9, ll_F_X12_set L L9, ll_F_X12_get L L9, ll_F_X12_noted L L9, ll_F_X12_draw L L9, ll_F_X12_mod L L9]
theorem ll_F_X12_makeSensor (L L9 : ML) {N : Nat} {R : MR} (x1 : Int32) (x2 : Int32) (x3 : Int32) (x4 : Int32) (I : MI) : F_X12_makeSensor N 24 x1 x2 x3 x4 I L R = F_X12_makeSensor N 24 x1 x2 x3 x4 I L9 R := by
  simp only [F_X12_makeSensor, ll_F_X12_draw L L9, ll_F_X12_mod L L9, ll_F_X12_set L L9, ll_F_X12_answer L L9, ll_F_X12_get L L9, ll_F_X12_noted L L9]
theorem ll_F_X12_makeStore (L L9 : ML) {N : Nat} {R : MR} (x1 : Int32) (x2 : Int32) (x3 : Int32) (x4 : Int32) (I : MI) : F_X12_makeStore N 24 x1 x2 x3 x4 I L R = F_X12_makeStore N 24 x1 x2 x3 x4 I L9 R := by
  simp only [F_X12_makeStore, ll_F_X12_draw L L9, ll_F_X12_get L L9, ll_F_X12_set L L9, ll_F_X12_answer L L9, ll_F_X12_noted L L9, ll_F_X12_mod L L9]
theorem ll_F_X12_makeLayer (L L9 : ML) {N : Nat} {R : MR} (x1 : Int32) (x2 : Int32) (I : MI) : F_X12_makeLayer N 24 x1 x2 I L R = F_X12_makeLayer N 24 x1 x2 I L9 R := by
  simp only [F_X12_makeLayer, ll_F_X12_makeUnit L L9, ll_F_X12_makeLoad L L9, ll_F_X12_makeLink L L9, ll_F_X12_makeSource L L9, ll_F_X12_makeActuator L L9, ll_F_X12_makeSensor L L9, ll_F_X12_makeStore L L9]
theorem ll_LF_X12_make_122 (L L9 : ML) {N : Nat} {R : MR} : ∀ (k : Nat) (y1 : Int32) (y2 : Int32) (y3 : Int32) (I : MI), LF_X12_make_122 N k 24 y1 y2 y3 I L R = LF_X12_make_122 N k 24 y1 y2 y3 I L9 R := by
  intro k
  induction k with
  | zero => intros; rfl
  | succ k ih =>
    intro y1 y2 y3 I
    simp only [LF_X12_make_122, ll_F_X12_makeLayer L L9, ih]
theorem ll_F_X12_make (L L9 : ML) {N : Nat} {R : MR} (x1 : Int32) (x2 : Int32) (I : MI) : F_X12_make N 24 x1 x2 I L R = F_X12_make N 24 x1 x2 I L9 R := by
  simp only [F_X12_make, ll_LF_X12_make_2 L L9, ll_F_X12_set L L9, ll_F_X12_has L L9, ll_F_X12_findLayers L L9, ll_LF_X12_make_93 L L9, ll_LF_X12_make_122 L L9, ll_F_X12_answer L L9, ll_F_X12_get L L9]
theorem ll_F_X12_acts (L L9 : ML) {N : Nat} {R : MR} (x1 : Int32) (x2 : Int32) (x3 : Int32) (I : MI) : F_X12_acts N 24 x1 x2 x3 I L R = F_X12_acts N 24 x1 x2 x3 I L9 R := by
  simp only [F_X12_acts, ll_F_X12_turnsOn L L9, ll_F_X12_isA L L9, ll_F_X12_set L L9, ll_F_X12_get L L9, ll_F_X12_make L L9]
theorem ll_LF_X12_doPlan_2 (L L9 : ML) {N : Nat} {R : MR} : ∀ (k : Nat) (y1 : Int32) (I : MI), LF_X12_doPlan_2 N k 24 y1 I L R = LF_X12_doPlan_2 N k 24 y1 I L9 R := by
  intro k
  induction k with
  | zero => intros; rfl
  | succ k ih =>
    intro y1 I
    simp only [LF_X12_doPlan_2, ll_F_X12_isDue L L9, ll_F_X12_acts L L9, ih]
theorem ll_F_X12_doPlan (L L9 : ML) {N : Nat} {R : MR}  (I : MI) : F_X12_doPlan N 24  I L R = F_X12_doPlan N 24  I L9 R := by
  simp only [F_X12_doPlan, ll_LF_X12_doPlan_2 L L9]
theorem ll_F_X12_isOn (L L9 : ML) {N : Nat} {R : MR} (x1 : Int32) (I : MI) : F_X12_isOn N 24 x1 I L R = F_X12_isOn N 24 x1 I L9 R := by
  simp only [F_X12_isOn, ll_F_X12_isA L L9, ll_F_X12_get L L9]
theorem ll_F_X12_off (L L9 : ML) {R : MR} (x0 : Int32) (x1 : Int32) (I : MI) : F_X12_off x0 x1 I L R = F_X12_off x0 x1 I L9 R := by
  simp only [F_X12_off, ll_F_X12_mod L L9]
theorem ll_F_X12_amount (L L9 : ML) {R : MR} (x0 : Int32) (I : MI) : F_X12_amount x0 I L R = F_X12_amount x0 I L9 R := by
  simp only [F_X12_amount]
theorem ll_F_X12_hasRoom (L L9 : ML) {R : MR} (x1 : Int32) (x2 : Int32) (I : MI) : F_X12_hasRoom 24 x1 x2 I L R = F_X12_hasRoom 24 x1 x2 I L9 R := by
  simp only [F_X12_hasRoom, ll_F_X12_isWhole L L9, ll_F_X12_get L L9]
theorem ll_F_X12_keep (L L9 : ML) {R : MR} (x1 : Int32) (x2 : Int32) (I : MI) : F_X12_keep 24 x1 x2 I L R = F_X12_keep 24 x1 x2 I L9 R := by
  simp only [F_X12_keep, ll_F_X12_get L L9, ll_F_X12_grow L L9]
theorem ll_LF_X12_readSensor_206 (L L9 : ML) {N : Nat} {R : MR} : ∀ (k : Nat) (y1 : Int32) (y2 : Int32) (y3 : Int32) (y4 : Int32) (y5 : Int32) (I : MI), LF_X12_readSensor_206 N k 24 y1 y2 y3 y4 y5 I L R = LF_X12_readSensor_206 N k 24 y1 y2 y3 y4 y5 I L9 R := by
  intro k
  induction k with
  | zero => intros; rfl
  | succ k ih =>
    intro y1 y2 y3 y4 y5 I
    simp only [LF_X12_readSensor_206, ll_F_X12_mod L L9, ll_F_X12_keep L L9, ih]
theorem ll_F_X12_readSensor (L L9 : ML) {N : Nat} {R : MR} (x1 : Int32) (I : MI) : F_X12_readSensor N 24 x1 I L R = F_X12_readSensor N 24 x1 I L9 R := by
  simp only [F_X12_readSensor, ll_F_X12_get L L9, ll_F_X12_isA L L9, ll_F_X12_off L L9, ll_F_X12_amount L L9, ll_F_X12_set L L9, ll_F_X12_mod L L9, ll_F_X12_hasRoom L L9, ll_LF_X12_readSensor_206 L L9, ll_F_X12_grow L L9]
theorem ll_LF_X12_readSensors_2 (L L9 : ML) {N : Nat} {R : MR} : ∀ (k : Nat) (y1 : Int32) (I : MI), LF_X12_readSensors_2 N k 24 y1 I L R = LF_X12_readSensors_2 N k 24 y1 I L9 R := by
  intro k
  induction k with
  | zero => intros; rfl
  | succ k ih =>
    intro y1 I
    simp only [LF_X12_readSensors_2, ll_F_X12_isA L L9, ll_F_X12_isOn L L9, ll_F_X12_get L L9, ll_F_X12_readSensor L L9, ih]
theorem ll_F_X12_readSensors (L L9 : ML) {N : Nat} {R : MR}  (I : MI) : F_X12_readSensors N 24  I L R = F_X12_readSensors N 24  I L9 R := by
  simp only [F_X12_readSensors, ll_LF_X12_readSensors_2 L L9]
theorem ll_LF_X12_control_10 (L L9 : ML) {N : Nat} {R : MR} : ∀ (k : Nat) (y1 : Int32) (I : MI), LF_X12_control_10 N k 24 y1 I L R = LF_X12_control_10 N k 24 y1 I L9 R := by
  intro k
  induction k with
  | zero => intros; rfl
  | succ k ih =>
    intro y1 I
    simp only [LF_X12_control_10, ll_F_X12_isOn L L9, ll_F_X12_get L L9, ll_F_X12_isA L L9, ll_F_X12_set L L9, ih]
theorem ll_LF_X12_firstOn_10 (L L9 : ML) {N : Nat} {R : MR} : ∀ (k : Nat) (y1 : Int32) (y2 : Int32) (y3 : Int32) (y4 : Int32) (I : MI), LF_X12_firstOn_10 N k 24 y1 y2 y3 y4 I L R = LF_X12_firstOn_10 N k 24 y1 y2 y3 y4 I L9 R := by
  intro k
  induction k with
  | zero => intros; rfl
  | succ k ih =>
    intro y1 y2 y3 y4 I
    simp only [LF_X12_firstOn_10, ll_F_X12_isA L L9, ll_F_X12_isOn L L9, ll_F_X12_get L L9, ih]
theorem ll_F_X12_firstOn (L L9 : ML) {N : Nat} {R : MR} (x1 : Int32) (x2 : Int32) (I : MI) : F_X12_firstOn N 24 x1 x2 I L R = F_X12_firstOn N 24 x1 x2 I L9 R := by
  simp only [F_X12_firstOn, ll_LF_X12_firstOn_10 L L9]
theorem ll_F_X12_limit (L L9 : ML) {R : MR} (x0 : Int32) (x1 : Int32) (x2 : Int32) (I : MI) : F_X12_limit x0 x1 x2 I L R = F_X12_limit x0 x1 x2 I L9 R := by
  simp only [F_X12_limit]
theorem ll_F_X12_wish (L L9 : ML) {N : Nat} {R : MR} (x1 : Int32) (I : MI) : F_X12_wish N 24 x1 I L R = F_X12_wish N 24 x1 I L9 R := by
  simp only [F_X12_wish, ll_F_X12_off L L9, ll_F_X12_firstOn L L9, ll_F_X12_get L L9, ll_F_X12_limit L L9]
theorem ll_F_X12_turns (L L9 : ML) {N : Nat} {R : MR} (x1 : Int32) (x2 : Int32) (x3 : Int32) (I : MI) : F_X12_turns N 24 x1 x2 x3 I L R = F_X12_turns N 24 x1 x2 x3 I L9 R := by
  simp only [F_X12_turns, ll_F_X12_isA L L9, ll_F_X12_isOn L L9, ll_F_X12_get L L9]
theorem ll_LF_X12_steer_8 (L L9 : ML) {N : Nat} {R : MR} : ∀ (k : Nat) (y1 : Int32) (y2 : Int32) (y3 : Int32) (I : MI), LF_X12_steer_8 N k 24 y1 y2 y3 I L R = LF_X12_steer_8 N k 24 y1 y2 y3 I L9 R := by
  intro k
  induction k with
  | zero => intros; rfl
  | succ k ih =>
    intro y1 y2 y3 I
    simp only [LF_X12_steer_8, ll_F_X12_turns L L9, ll_F_X12_get L L9, ll_F_X12_limit L L9, ll_F_X12_grow L L9, ih]
theorem ll_LF_X12_steer_116 (L L9 : ML) {N : Nat} {R : MR} : ∀ (k : Nat) (y1 : Int32) (y2 : Int32) (y3 : Int32) (I : MI), LF_X12_steer_116 N k 24 y1 y2 y3 I L R = LF_X12_steer_116 N k 24 y1 y2 y3 I L9 R := by
  intro k
  induction k with
  | zero => intros; rfl
  | succ k ih =>
    intro y1 y2 y3 I
    simp only [LF_X12_steer_116, ll_F_X12_turns L L9, ll_F_X12_get L L9, ll_F_X12_limit L L9, ih]
theorem ll_LF_X12_firstJet_9 (L L9 : ML) {N : Nat} {R : MR} : ∀ (k : Nat) (y1 : Int32) (y2 : Int32) (y3 : Int32) (I : MI), LF_X12_firstJet_9 N k 24 y1 y2 y3 I L R = LF_X12_firstJet_9 N k 24 y1 y2 y3 I L9 R := by
  intro k
  induction k with
  | zero => intros; rfl
  | succ k ih =>
    intro y1 y2 y3 I
    simp only [LF_X12_firstJet_9, ll_F_X12_turns L L9, ll_F_X12_get L L9, ll_F_X12_isWhole L L9, ih]
theorem ll_F_X12_firstJet (L L9 : ML) {N : Nat} {R : MR} (x1 : Int32) (I : MI) : F_X12_firstJet N 24 x1 I L R = F_X12_firstJet N 24 x1 I L9 R := by
  simp only [F_X12_firstJet, ll_LF_X12_firstJet_9 L L9]
theorem ll_F_X12_slow (L L9 : ML) {N : Nat} {R : MR} (x1 : Int32) (x2 : Int32) (I : MI) : F_X12_slow N 24 x1 x2 I L R = F_X12_slow N 24 x1 x2 I L9 R := by
  simp only [F_X12_slow, ll_F_X12_get L L9, ll_F_X12_amount L L9, ll_F_X12_firstJet L L9, ll_F_X12_limit L L9, ll_F_X12_set L L9, ll_F_X12_grow L L9]
theorem ll_LF_X12_steer_194 (L L9 : ML) {N : Nat} {R : MR} : ∀ (k : Nat) (y1 : Int32) (y2 : Int32) (I : MI), LF_X12_steer_194 N k 24 y1 y2 I L R = LF_X12_steer_194 N k 24 y1 y2 I L9 R := by
  intro k
  induction k with
  | zero => intros; rfl
  | succ k ih =>
    intro y1 y2 I
    simp only [LF_X12_steer_194, ll_F_X12_turns L L9, ll_F_X12_slow L L9, ih]
theorem ll_F_X12_steer (L L9 : ML) {N : Nat} {R : MR} (x1 : Int32) (I : MI) : F_X12_steer N 24 x1 I L R = F_X12_steer N 24 x1 I L9 R := by
  simp only [F_X12_steer, ll_F_X12_wish L L9, ll_LF_X12_steer_8 L L9, ll_LF_X12_steer_116 L L9, ll_LF_X12_steer_194 L L9]
theorem ll_LF_X12_control_88 (L L9 : ML) {N : Nat} {R : MR} : ∀ (k : Nat) (y1 : Int32) (I : MI), LF_X12_control_88 N k 24 y1 I L R = LF_X12_control_88 N k 24 y1 I L9 R := by
  intro k
  induction k with
  | zero => intros; rfl
  | succ k ih =>
    intro y1 I
    simp only [LF_X12_control_88, ll_F_X12_steer L L9, ih]
theorem ll_F_X12_control (L L9 : ML) {N : Nat} {R : MR}  (I : MI) : F_X12_control N 24  I L R = F_X12_control N 24  I L9 R := by
  simp only [F_X12_control, ll_LF_X12_control_10 L L9, ll_LF_X12_control_88 L L9]
theorem ll_LF_X12_turn_26 (L L9 : ML) {N : Nat} {R : MR} : ∀ (k : Nat) (y1 : Int32) (I : MI), LF_X12_turn_26 N k 24 y1 I L R = LF_X12_turn_26 N k 24 y1 I L9 R := by
  intro k
  induction k with
  | zero => intros; rfl
  | succ k ih =>
    intro y1 I
    simp only [LF_X12_turn_26, ll_F_X12_limit L L9, ll_F_X12_mod L L9, ih]
theorem ll_F_X12_turn (L L9 : ML) {N : Nat} {R : MR}  (I : MI) : F_X12_turn N 24  I L R = F_X12_turn N 24  I L9 R := by
  simp only [F_X12_turn, ll_LF_X12_turn_26 L L9]
theorem ll_F_X12_given (L L9 : ML) {N : Nat} {R : MR} (x1 : Int32) (I : MI) : F_X12_given N 24 x1 I L R = F_X12_given N 24 x1 I L9 R := by
  simp only [F_X12_given, ll_F_X12_isA L L9, ll_F_X12_get L L9, ll_F_X12_off L L9, ll_F_X12_limit L L9, ll_F_X12_mod L L9, ll_F_X12_set L L9, ll_F_X12_amount L L9, ll_F_X12_isWhole L L9, ll_F_X12_grow L L9]
theorem ll_LF_X12_power_12 (L L9 : ML) {N : Nat} {R : MR} : ∀ (k : Nat) (y1 : Int32) (I : MI), LF_X12_power_12 N k 24 y1 I L R = LF_X12_power_12 N k 24 y1 I L9 R := by
  intro k
  induction k with
  | zero => intros; rfl
  | succ k ih =>
    intro y1 I
    simp only [LF_X12_power_12, ll_F_X12_isA L L9, ll_F_X12_isWhole L L9, ll_F_X12_given L L9, ih]
theorem ll_LF_X12_power_74 (L L9 : ML) {N : Nat} {R : MR} : ∀ (k : Nat) (y1 : Int32) (I : MI), LF_X12_power_74 N k 24 y1 I L R = LF_X12_power_74 N k 24 y1 I L9 R := by
  intro k
  induction k with
  | zero => intros; rfl
  | succ k ih =>
    intro y1 I
    simp only [LF_X12_power_74, ll_F_X12_isOn L L9, ll_F_X12_isA L L9, ll_F_X12_isWhole L L9, ll_F_X12_answer L L9, ih]
theorem ll_F_X12_least (L L9 : ML) {R : MR} (x0 : Int32) (x1 : Int32) (I : MI) : F_X12_least x0 x1 I L R = F_X12_least x0 x1 I L9 R := by
  simp only [F_X12_least]
theorem ll_LF_X12_power_145 (L L9 : ML) {N : Nat} {R : MR} : ∀ (k : Nat) (y1 : Int32) (y2 : Int32) (I : MI), LF_X12_power_145 N k 24 y1 y2 I L R = LF_X12_power_145 N k 24 y1 y2 I L9 R := by
  intro k
  induction k with
  | zero => intros; rfl
  | succ k ih =>
    intro y1 y2 I
    simp only [LF_X12_power_145, ll_F_X12_isA L L9, ll_F_X12_isWhole L L9, ll_F_X12_get L L9, ll_F_X12_least L L9, ll_F_X12_grow L L9, ih]
theorem ll_LF_X12_brownout_19 (L L9 : ML) {N : Nat} {R : MR} : ∀ (k : Nat) (y1 : Int32) (y2 : Int32) (I : MI), LF_X12_brownout_19 N k 24 y1 y2 I L R = LF_X12_brownout_19 N k 24 y1 y2 I L9 R := by
  intro k
  induction k with
  | zero => intros; rfl
  | succ k ih =>
    intro y1 y2 I
    simp only [LF_X12_brownout_19, ll_F_X12_isOn L L9, ll_F_X12_get L L9, ih]
theorem ll_F_X12_brownout (L L9 : ML) {N : Nat} {R : MR}  (I : MI) : F_X12_brownout N 24  I L R = F_X12_brownout N 24  I L9 R := by
  simp only [F_X12_brownout, ll_LF_X12_brownout_19 L L9, ll_F_X12_set L L9]
theorem ll_F_X12_power (L L9 : ML) {N : Nat} {R : MR}  (I : MI) : F_X12_power N 24  I L R = F_X12_power N 24  I L9 R := by
  simp only [F_X12_power, ll_LF_X12_power_12 L L9, ll_LF_X12_power_74 L L9, ll_LF_X12_power_145 L L9, ll_F_X12_brownout L L9]
theorem ll_LF_X12_flow_2 (L L9 : ML) {N : Nat} {R : MR} : ∀ (k : Nat) (y1 : Int32) (I : MI), LF_X12_flow_2 N k 24 y1 I L R = LF_X12_flow_2 N k 24 y1 I L9 R := by
  intro k
  induction k with
  | zero => intros; rfl
  | succ k ih =>
    intro y1 I
    simp only [LF_X12_flow_2, ll_F_X12_isA L L9, ll_F_X12_isWhole L L9, ll_F_X12_get L L9, ll_F_X12_least L L9, ll_F_X12_grow L L9, ih]
theorem ll_F_X12_flow (L L9 : ML) {N : Nat} {R : MR}  (I : MI) : F_X12_flow N 24  I L R = F_X12_flow N 24  I L9 R := by
  simp only [F_X12_flow, ll_LF_X12_flow_2 L L9]
theorem ll_LF_X12_heated_113 (L L9 : ML) {N : Nat} {R : MR} : ∀ (k : Nat) (y1 : Int32) (y2 : Int32) (y3 : Int32) (y4 : Int32) (I : MI), LF_X12_heated_113 N k 24 y1 y2 y3 y4 I L R = LF_X12_heated_113 N k 24 y1 y2 y3 y4 I L9 R := by
  intro k
  induction k with
  | zero => intros; rfl
  | succ k ih =>
    intro y1 y2 y3 y4 I
    simp only [LF_X12_heated_113, ll_F_X12_isA L L9, ll_F_X12_isWhole L L9, ll_F_X12_get L L9, ih]
theorem ll_F_X12_heated (L L9 : ML) {N : Nat} {R : MR} (x1 : Int32) (I : MI) : F_X12_heated N 24 x1 I L R = F_X12_heated N 24 x1 I L9 R := by
  simp only [F_X12_heated, ll_F_X12_get L L9, ll_F_X12_isOn L L9, ll_F_X12_answer L L9, ll_F_X12_isA L L9, ll_LF_X12_heated_113 L L9, ll_F_X12_limit L L9]
theorem ll_LF_X12_heat_2 (L L9 : ML) {N : Nat} {R : MR} : ∀ (k : Nat) (y1 : Int32) (I : MI), LF_X12_heat_2 N k 24 y1 I L R = LF_X12_heat_2 N k 24 y1 I L9 R := by
  intro k
  induction k with
  | zero => intros; rfl
  | succ k ih =>
    intro y1 I
    simp only [LF_X12_heat_2, ll_F_X12_heated L L9, ih]
theorem ll_LF_X12_heat_29 (L L9 : ML) {N : Nat} {R : MR} : ∀ (k : Nat) (y1 : Int32) (I : MI), LF_X12_heat_29 N k 24 y1 I L R = LF_X12_heat_29 N k 24 y1 I L9 R := by
  intro k
  induction k with
  | zero => intros; rfl
  | succ k ih =>
    intro y1 I
    simp only [LF_X12_heat_29, ll_F_X12_set L L9, ih]
theorem ll_F_X12_in (L L9 : ML) {R : MR} (x0 : Int32) (x1 : Int32) (x2 : Int32) (I : MI) : F_X12_in x0 x1 x2 I L R = F_X12_in x0 x1 x2 I L9 R := by
  simp only [F_X12_in]
theorem ll_LF_X12_heat_58 (L L9 : ML) {N : Nat} {R : MR} : ∀ (k : Nat) (y1 : Int32) (I : MI), LF_X12_heat_58 N k 24 y1 I L R = LF_X12_heat_58 N k 24 y1 I L9 R := by
  intro k
  induction k with
  | zero => intros; rfl
  | succ k ih =>
    intro y1 I
    simp only [LF_X12_heat_58, ll_F_X12_isWhole L L9, ll_F_X12_in L L9, ll_F_X12_set L L9, ll_F_X12_isA L L9, ih]
theorem ll_LF_X12_heat_144 (L L9 : ML) {N : Nat} {R : MR} : ∀ (k : Nat) (y1 : Int32) (I : MI), LF_X12_heat_144 N k 24 y1 I L R = LF_X12_heat_144 N k 24 y1 I L9 R := by
  intro k
  induction k with
  | zero => intros; rfl
  | succ k ih =>
    intro y1 I
    simp only [LF_X12_heat_144, ll_F_X12_isA L L9, ll_F_X12_isWhole L L9, ll_F_X12_get L L9, ll_F_X12_set L L9, ih]
theorem ll_F_X12_heat (L L9 : ML) {N : Nat} {R : MR}  (I : MI) : F_X12_heat N 24  I L R = F_X12_heat N 24  I L9 R := by
  simp only [F_X12_heat, ll_LF_X12_heat_2 L L9, ll_LF_X12_heat_29 L L9, ll_LF_X12_heat_58 L L9, ll_LF_X12_heat_144 L L9]
theorem ll_LF_X12_charge_6 (L L9 : ML) {N : Nat} {R : MR} : ∀ (k : Nat) (y1 : Int32) (y2 : Int32) (y3 : Int32) (I : MI), LF_X12_charge_6 N k 24 y1 y2 y3 I L R = LF_X12_charge_6 N k 24 y1 y2 y3 I L9 R := by
  intro k
  induction k with
  | zero => intros; rfl
  | succ k ih =>
    intro y1 y2 y3 I
    simp only [LF_X12_charge_6, ll_F_X12_isA L L9, ll_F_X12_get L L9, ih]
theorem ll_F_X12_charge (L L9 : ML) {N : Nat} {R : MR}  (I : MI) : F_X12_charge N 24  I L R = F_X12_charge N 24  I L9 R := by
  simp only [F_X12_charge, ll_LF_X12_charge_6 L L9]
theorem ll_LF_X12_frames_86 (L L9 : ML) {N : Nat} {R : MR} : ∀ (k : Nat) (y1 : Int32) (I : MI), LF_X12_frames_86 N k 24 y1 I L R = LF_X12_frames_86 N k 24 y1 I L9 R := by
  intro k
  induction k with
  | zero => intros; rfl
  | succ k ih =>
    intro y1 I
    simp only [LF_X12_frames_86, ih]
theorem ll_LF_X12_howMany_4 (L L9 : ML) {N : Nat} {R : MR} : ∀ (k : Nat) (y1 : Int32) (y2 : Int32) (y3 : Int32) (I : MI), LF_X12_howMany_4 N k 24 y1 y2 y3 I L R = LF_X12_howMany_4 N k 24 y1 y2 y3 I L9 R := by
  intro k
  induction k with
  | zero => intros; rfl
  | succ k ih =>
    intro y1 y2 y3 I
    simp only [LF_X12_howMany_4, ll_F_X12_isOn L L9, ll_F_X12_isWhole L L9, ih]
theorem ll_F_X12_howMany (L L9 : ML) {N : Nat} {R : MR} (x1 : Int32) (I : MI) : F_X12_howMany N 24 x1 I L R = F_X12_howMany N 24 x1 I L9 R := by
  simp only [F_X12_howMany, ll_LF_X12_howMany_4 L L9]
theorem ll_LF_X12_check_21 (L L9 : ML) {N : Nat} {R : MR} : ∀ (k : Nat) (y1 : Int32) (y2 : Int32) (y3 : Int32) (I : MI), LF_X12_check_21 N k 24 y1 y2 y3 I L R = LF_X12_check_21 N k 24 y1 y2 y3 I L9 R := by
  intro k
  induction k with
  | zero => intros; rfl
  | succ k ih =>
    intro y1 y2 y3 I
    simp only [LF_X12_check_21, ih]
theorem ll_LF_X12_check_4 (L L9 : ML) {N : Nat} {R : MR} : ∀ (k : Nat) (y1 : Int32) (y2 : Int32) (I : MI), LF_X12_check_4 N k 24 y1 y2 I L R = LF_X12_check_4 N k 24 y1 y2 I L9 R := by
  intro k
  induction k with
  | zero => intros; rfl
  | succ k ih =>
    intro y1 y2 I
    simp only [LF_X12_check_4, ll_LF_X12_check_21 L L9, ih]
theorem ll_F_X12_check (L L9 : ML) {N : Nat} {R : MR}  (I : MI) : F_X12_check N 24  I L R = F_X12_check N 24  I L9 R := by
  simp only [F_X12_check, ll_LF_X12_check_4 L L9]
theorem ll_LF_X12_frames_159 (L L9 : ML) {N : Nat} {R : MR} : ∀ (k : Nat) (y1 : Int32) (y2 : Int32) (I : MI), LF_X12_frames_159 N k 24 y1 y2 I L R = LF_X12_frames_159 N k 24 y1 y2 I L9 R := by
  intro k
  induction k with
  | zero => intros; rfl
  | succ k ih =>
    intro y1 y2 I
    simp only [LF_X12_frames_159, ll_F_X12_isA L L9, ll_F_X12_hasRoom L L9, ih]
theorem ll_LF_X12_frames_212 (L L9 : ML) {N : Nat} {R : MR} : ∀ (k : Nat) (y1 : Int32) (y2 : Int32) (I : MI), LF_X12_frames_212 N k 24 y1 y2 I L R = LF_X12_frames_212 N k 24 y1 y2 I L9 R := by
  intro k
  induction k with
  | zero => intros; rfl
  | succ k ih =>
    intro y1 y2 I
    simp only [LF_X12_frames_212, ll_F_X12_keep L L9, ih]
theorem ll_F_X12_frames (L L9 : ML) {N : Nat} {R : MR}  (I : MI) : F_X12_frames N 24  I L R = F_X12_frames N 24  I L9 R := by
  simp only [F_X12_frames, ll_F_X12_charge L L9, ll_LF_X12_frames_86 L L9, ll_F_X12_howMany L L9, ll_F_X12_check L L9, ll_LF_X12_frames_159 L L9, ll_LF_X12_frames_212 L L9]
theorem ll_F_X12_goesDown (L L9 : ML) {R : MR} (x1 : Int32) (x2 : Int32) (I : MI) : F_X12_goesDown 24 x1 x2 I L R = F_X12_goesDown 24 x1 x2 I L9 R := by
  simp only [F_X12_goesDown, ll_F_X12_grow L L9]
theorem ll_F_X12_inView (L L9 : ML) {R : MR}  (I : MI) : F_X12_inView 24  I L R = F_X12_inView 24  I L9 R := by
  simp only [F_X12_inView, ll_F_X12_in L L9]
theorem ll_LF_X12_firstKeeping_9 (L L9 : ML) {N : Nat} {R : MR} : ∀ (k : Nat) (y1 : Int32) (y2 : Int32) (I : MI), LF_X12_firstKeeping_9 N k 24 y1 y2 I L R = LF_X12_firstKeeping_9 N k 24 y1 y2 I L9 R := by
  intro k
  induction k with
  | zero => intros; rfl
  | succ k ih =>
    intro y1 y2 I
    simp only [LF_X12_firstKeeping_9, ll_F_X12_isA L L9, ll_F_X12_isWhole L L9, ll_F_X12_get L L9, ih]
theorem ll_F_X12_firstKeeping (L L9 : ML) {N : Nat} {R : MR}  (I : MI) : F_X12_firstKeeping N 24  I L R = F_X12_firstKeeping N 24  I L9 R := by
  simp only [F_X12_firstKeeping, ll_LF_X12_firstKeeping_9 L L9]
theorem ll_LF_X12_send_38 (L L9 : ML) {N : Nat} {R : MR} : ∀ (k : Nat) (y1 : Int32) (y2 : Int32) (y3 : Int32) (y4 : Int32) (y5 : Int32) (I : MI), LF_X12_send_38 N k 24 y1 y2 y3 y4 y5 I L R = LF_X12_send_38 N k 24 y1 y2 y3 y4 y5 I L9 R := by
  intro k
  induction k with
  | zero => intros; rfl
  | succ k ih =>
    intro y1 y2 y3 y4 y5 I
    simp only [LF_X12_send_38, ll_F_X12_goesDown L L9, ih]
theorem ll_LF_X12_send_73 (L L9 : ML) {N : Nat} {R : MR} : ∀ (k : Nat) (y1 : Int32) (y2 : Int32) (y3 : Int32) (y4 : Int32) (y5 : Int32) (I : MI), LF_X12_send_73 N k 24 y1 y2 y3 y4 y5 I L R = LF_X12_send_73 N k 24 y1 y2 y3 y4 y5 I L9 R := by
  intro k
  induction k with
  | zero => intros; rfl
  | succ k ih =>
    intro y1 y2 y3 y4 y5 I
    simp only [LF_X12_send_73, ll_F_X12_get L L9, ih]
theorem ll_LF_X12_send_13 (L L9 : ML) {N : Nat} {R : MR} : ∀ (k : Nat) (y1 : Int32) (y2 : Int32) (y3 : Int32) (I : MI), LF_X12_send_13 N k 24 y1 y2 y3 I L R = LF_X12_send_13 N k 24 y1 y2 y3 I L9 R := by
  intro k
  induction k with
  | zero => intros; rfl
  | succ k ih =>
    intro y1 y2 y3 I
    simp only [LF_X12_send_13, ll_F_X12_get L L9, ll_F_X12_least L L9, ll_LF_X12_send_38 L L9, ll_LF_X12_send_73 L L9, ll_F_X12_grow L L9, ll_F_X12_firstKeeping L L9, ih]
theorem ll_F_X12_send (L L9 : ML) {N : Nat} {R : MR} (x1 : Int32) (I : MI) : F_X12_send N 24 x1 I L R = F_X12_send N 24 x1 I L9 R := by
  simp only [F_X12_send, ll_F_X12_get L L9, ll_F_X12_firstKeeping L L9, ll_LF_X12_send_13 L L9]
theorem ll_LF_X12_downlink_2 (L L9 : ML) {N : Nat} {R : MR} : ∀ (k : Nat) (y1 : Int32) (I : MI), LF_X12_downlink_2 N k 24 y1 I L R = LF_X12_downlink_2 N k 24 y1 I L9 R := by
  intro k
  induction k with
  | zero => intros; rfl
  | succ k ih =>
    intro y1 I
    simp only [LF_X12_downlink_2, ll_F_X12_isA L L9, ll_F_X12_isOn L L9, ll_F_X12_get L L9, ll_F_X12_goesDown L L9, ll_F_X12_inView L L9, ll_F_X12_send L L9, ih]
theorem ll_F_X12_downlink (L L9 : ML) {N : Nat} {R : MR}  (I : MI) : F_X12_downlink N 24  I L R = F_X12_downlink N 24  I L9 R := by
  simp only [F_X12_downlink, ll_LF_X12_downlink_2 L L9]
theorem ll_F_X12_doTick (L L9 : ML) {N : Nat} {R : MR}  (I : MI) : F_X12_doTick N 24  I L R = F_X12_doTick N 24  I L9 R := by
  simp only [F_X12_doTick, ll_F_X12_shine L L9, ll_F_X12_doPlan L L9, ll_F_X12_readSensors L L9, ll_F_X12_control L L9, ll_F_X12_turn L L9, ll_F_X12_power L L9, ll_F_X12_flow L L9, ll_F_X12_heat L L9, ll_F_X12_frames L L9, ll_F_X12_downlink L L9]
theorem ll_LF_X12_run_37 (L L9 : ML) {N : Nat} {R : MR} : ∀ (k : Nat) (y1 : Int32) (y2 : Int32) (I : MI), LF_X12_run_37 N k 24 y1 y2 I L R = LF_X12_run_37 N k 24 y1 y2 I L9 R := by
  intro k
  induction k with
  | zero => intros; rfl
  | succ k ih =>
    intro y1 y2 I
    simp only [LF_X12_run_37, ll_F_X12_doTick L L9, ih]
theorem ll_F_X12_run (L L9 : ML) {N : Nat} {R : MR} (x1 : Int32) (I : MI) : F_X12_run N 24 x1 I L R = F_X12_run N 24 x1 I L9 R := by
  simp only [F_X12_run, ll_F_X12_fail L L9, ll_LF_X12_run_37 L L9]
theorem ll_F_X12_isUnit (L L9 : ML) {R : MR} (x1 : Int32) (I : MI) : F_X12_isUnit 24 x1 I L R = F_X12_isUnit 24 x1 I L9 R := by
  simp only [F_X12_isUnit]
theorem ll_F_X12_canAct (L L9 : ML) {N : Nat} {R : MR} (x1 : Int32) (x2 : Int32) (x3 : Int32) (I : MI) : F_X12_canAct N 24 x1 x2 x3 I L R = F_X12_canAct N 24 x1 x2 x3 I L9 R := by
  simp only [F_X12_canAct, ll_F_X12_isUnit L L9, ll_F_X12_in L L9, ll_F_X12_isA L L9]
theorem ll_F_X12_command (L L9 : ML) {N : Nat} {R : MR} (x1 : Int32) (x2 : Int32) (x3 : Int32) (I : MI) : F_X12_command N 24 x1 x2 x3 I L R = F_X12_command N 24 x1 x2 x3 I L9 R := by
  simp only [F_X12_command, ll_F_X12_fail L L9, ll_F_X12_canAct L L9, ll_F_X12_acts L L9]
theorem ll_F_X12_hasPart (L L9 : ML) {N : Nat} {R : MR} (x1 : Int32) (x2 : Int32) (I : MI) : F_X12_hasPart N 24 x1 x2 I L R = F_X12_hasPart N 24 x1 x2 I L9 R := by
  simp only [F_X12_hasPart, ll_F_X12_has L L9]
theorem ll_F_X12_part (L L9 : ML) {N : Nat} {R : MR} (x1 : Int32) (x2 : Int32) (I : MI) : F_X12_part N 24 x1 x2 I L R = F_X12_part N 24 x1 x2 I L9 R := by
  simp only [F_X12_part, ll_F_X12_isUnit L L9, ll_F_X12_fail L L9, ll_F_X12_get L L9, ll_F_X12_hasPart L L9]
theorem ll_F_X12_ask (L L9 : ML) {N : Nat} {R : MR} (x1 : Int32) (x2 : Int32) (I : MI) : F_X12_ask N 24 x1 x2 I L R = F_X12_ask N 24 x1 x2 I L9 R := by
  simp only [F_X12_ask, ll_F_X12_isUnit L L9, ll_F_X12_fail L L9, ll_F_X12_in L L9, ll_F_X12_isA L L9, ll_F_X12_answer L L9]
theorem ll_F_X12_note (L L9 : ML) {R : MR} (x1 : Int32) (x2 : Int32) (I : MI) : F_X12_note 24 x1 x2 I L R = F_X12_note 24 x1 x2 I L9 R := by
  simp only [F_X12_note, ll_F_X12_fail L L9]
theorem ll_F_X12_name (L L9 : ML) {R : MR} (x1 : Int32) (x2 : Int32) (I : MI) : F_X12_name 24 x1 x2 I L R = F_X12_name 24 x1 x2 I L9 R := by
  simp only [F_X12_name, ll_F_X12_isUnit L L9, ll_F_X12_fail L L9]
theorem ll_F_X12_kept (L L9 : ML) {N : Nat} {R : MR} (x1 : Int32) (x2 : Int32) (I : MI) : F_X12_kept N 24 x1 x2 I L R = F_X12_kept N 24 x1 x2 I L9 R := by
  simp only [F_X12_kept, ll_F_X12_isUnit L L9, ll_F_X12_fail L L9, ll_F_X12_isA L L9, ll_F_X12_get L L9]
