theorem dX0_size_0 : decode cX0_size 0 = .ok (.aload_n 0, 1) := by decide +kernel
theorem dX0_size_1 : decode cX0_size 1 = .ok (.getfield 22, 3) := by decide +kernel
theorem dX0_size_4 : decode cX0_size 4 = .ok (.ireturn, 1) := by decide +kernel
def F_X0_size (x0 : Nat) (I : MI) (L : ML) (R : MR) : Option (Int32) :=
  if kd x0 = 0 ∧ x0 < NN then
  some ((I x0 3))
  else none
set_option maxRecDepth 100000 in
set_option maxHeartbeats 4000000 in
theorem c_X0_size (l : Launch) (D : va_G) (cA : Nat → ClassId) (ad : Nat → Nat) (bs : Nat) (X : State → Prop) (hAd : Ax ad bs) (hX : Stb bs X) (x0 : Nat) (I : MI) (L : ML) (R : MR) (r : Int32) (h : F_X0_size x0 I L R = some (r)) : Cn l D cA ad bs X yX0_size cX0_size 1 (some .int) 0 0 [.ref (ad x0)] I L R (some (.int r), I, L, R) := by
  refine Cn.ofV hAd hX [(0, .ref (ad x0))] rfl (Nat.le_of_ble_eq_true rfl) (by decide) ?_
  intro G el eD ecA ead ebs eX erm eNL C0
  subst el eD ecA ead ebs eX
  unfold F_X0_size at h
  obtain ⟨c_x0, h⟩ := ite_some h
  refine V_aload_n C0 0 rfl rfl dX0_size_0 ?_
  refine V_getI C0 0 3 fl_X0_22 c_x0.2 c_x0.1 rfl dX0_size_1 ?_
  cases h
  exact V_iret C0 dX0_size_4
theorem dX0_layerOf_0 : decode cX0_layerOf 0 = .ok (.iload_n 1, 1) := by decide +kernel
theorem dX0_layerOf_1 : decode cX0_layerOf 1 = .ok (.ifCond .lt 21, 3) := by decide +kernel
theorem dX0_layerOf_4 : decode cX0_layerOf 4 = .ok (.iload_n 1, 1) := by decide +kernel
theorem dX0_layerOf_5 : decode cX0_layerOf 5 = .ok (.aload_n 0, 1) := by decide +kernel
theorem dX0_layerOf_6 : decode cX0_layerOf 6 = .ok (.getfield 9, 3) := by decide +kernel
theorem dX0_layerOf_9 : decode cX0_layerOf 9 = .ok (.arraylength, 1) := by decide +kernel
theorem dX0_layerOf_10 : decode cX0_layerOf 10 = .ok (.if_icmp .ge 12, 3) := by decide +kernel
theorem dX0_layerOf_13 : decode cX0_layerOf 13 = .ok (.aload_n 0, 1) := by decide +kernel
theorem dX0_layerOf_14 : decode cX0_layerOf 14 = .ok (.getfield 9, 3) := by decide +kernel
theorem dX0_layerOf_17 : decode cX0_layerOf 17 = .ok (.iload_n 1, 1) := by decide +kernel
theorem dX0_layerOf_18 : decode cX0_layerOf 18 = .ok (.iaload, 1) := by decide +kernel
theorem dX0_layerOf_19 : decode cX0_layerOf 19 = .ok (.goto 4, 3) := by decide +kernel
theorem dX0_layerOf_22 : decode cX0_layerOf 22 = .ok (.iconst (-1), 1) := by decide +kernel
theorem dX0_layerOf_23 : decode cX0_layerOf 23 = .ok (.ireturn, 1) := by decide +kernel
def F_X0_layerOf (x0 : Nat) (x1 : Int32) (I : MI) (L : ML) (R : MR) : Option (Int32) :=
  if kd x0 = 0 ∧ x0 < NN then
  if x1 < 0 then
    some ((-1 : Int32))
  else
    (rf R x0 0 20).bind fun a2 =>
    if (Int32.ofNat (ln a2)) ≤ x1 then
      some ((-1 : Int32))
    else
      (ri I a2 x1).bind fun v4 =>
      some (v4)
  else none
set_option maxRecDepth 100000 in
set_option maxHeartbeats 4000000 in
theorem c_X0_layerOf (l : Launch) (D : va_G) (cA : Nat → ClassId) (ad : Nat → Nat) (bs : Nat) (X : State → Prop) (hAd : Ax ad bs) (hX : Stb bs X) (x0 : Nat) (x1 : Int32) (I : MI) (L : ML) (R : MR) (r : Int32) (h : F_X0_layerOf x0 x1 I L R = some (r)) : Cn l D cA ad bs X yX0_layerOf cX0_layerOf 2 (some .int) 0 0 [.ref (ad x0), .int x1] I L R (some (.int r), I, L, R) := by
  refine Cn.ofV hAd hX [(0, .ref (ad x0)), (1, .int x1)] rfl (Nat.le_of_ble_eq_true rfl) (by decide) ?_
  intro G el eD ecA ead ebs eX erm eNL C0
  subst el eD ecA ead ebs eX
  unfold F_X0_layerOf at h
  obtain ⟨c_x0, h⟩ := ite_some h
  refine V_iload_n C0 1 rfl rfl dX0_layerOf_0 ?_
  refine V_if_lt C0 (tgt := 22) (by decide) dX0_layerOf_1 (fun c1 => ?_) (fun c1 => ?_)
  · have h := (if_pos c1).symm.trans h
    refine V_iconst C0 (v := (-1 : Int32)) (by decide) dX0_layerOf_22 ?_
    cases h
    exact V_iret C0 dX0_layerOf_23
  · have h := (if_neg c1).symm.trans h
    refine V_iload_n C0 1 rfl rfl dX0_layerOf_4 ?_
    refine V_aload_n C0 0 rfl rfl dX0_layerOf_5 ?_
    obtain ⟨a2, qa2, h⟩ := bnd_some h
    refine V_getR C0 0 0 fl_X0_9 c_x0.2 c_x0.1 rfl (rf_at qa2) dX0_layerOf_6 ?_
    refine V_alen C0 (v := Int32.ofNat (ln a2)) (rf_lt qa2) (by rw [(rf_kd qa2)]; decide) rfl dX0_layerOf_9 ?_
    refine V_icmp_ge C0 (tgt := 22) (by decide) dX0_layerOf_10 (fun c3 => ?_) (fun c3 => ?_)
    · have h := (if_pos c3).symm.trans h
      refine V_iconst C0 (v := (-1 : Int32)) (by decide) dX0_layerOf_22 ?_
      cases h
      exact V_iret C0 dX0_layerOf_23
    · have h := (if_neg c3).symm.trans h
      refine V_aload_n C0 0 rfl rfl dX0_layerOf_13 ?_
      refine V_getR C0 0 0 fl_X0_9 c_x0.2 c_x0.1 rfl (rf_at qa2) dX0_layerOf_14 ?_
      refine V_iload_n C0 1 rfl rfl dX0_layerOf_17 ?_
      obtain ⟨v4, qv4, h⟩ := bnd_some h
      refine V_ri C0 (rf_lt qa2) (rf_kd qa2) qv4 dX0_layerOf_18 ?_
      refine V_goto C0 (tgt := 23) (by decide) dX0_layerOf_19 ?_
      cases h
      exact V_iret C0 dX0_layerOf_23
theorem dX0_titleOf_0 : decode cX0_titleOf 0 = .ok (.iload_n 1, 1) := by decide +kernel
theorem dX0_titleOf_1 : decode cX0_titleOf 1 = .ok (.ifCond .lt 21, 3) := by decide +kernel
theorem dX0_titleOf_4 : decode cX0_titleOf 4 = .ok (.iload_n 1, 1) := by decide +kernel
theorem dX0_titleOf_5 : decode cX0_titleOf 5 = .ok (.aload_n 0, 1) := by decide +kernel
theorem dX0_titleOf_6 : decode cX0_titleOf 6 = .ok (.getfield 15, 3) := by decide +kernel
theorem dX0_titleOf_9 : decode cX0_titleOf 9 = .ok (.arraylength, 1) := by decide +kernel
theorem dX0_titleOf_10 : decode cX0_titleOf 10 = .ok (.if_icmp .ge 12, 3) := by decide +kernel
theorem dX0_titleOf_13 : decode cX0_titleOf 13 = .ok (.aload_n 0, 1) := by decide +kernel
theorem dX0_titleOf_14 : decode cX0_titleOf 14 = .ok (.getfield 15, 3) := by decide +kernel
theorem dX0_titleOf_17 : decode cX0_titleOf 17 = .ok (.iload_n 1, 1) := by decide +kernel
theorem dX0_titleOf_18 : decode cX0_titleOf 18 = .ok (.laload, 1) := by decide +kernel
theorem dX0_titleOf_19 : decode cX0_titleOf 19 = .ok (.goto 4, 3) := by decide +kernel
theorem dX0_titleOf_22 : decode cX0_titleOf 22 = .ok (.lconst 0, 1) := by decide +kernel
theorem dX0_titleOf_23 : decode cX0_titleOf 23 = .ok (.lreturn, 1) := by decide +kernel
def F_X0_titleOf (x0 : Nat) (x1 : Int32) (I : MI) (L : ML) (R : MR) : Option (Int64) :=
  if kd x0 = 0 ∧ x0 < NN then
  if x1 < 0 then
    some ((0 : Int64))
  else
    (rf R x0 1 21).bind fun a2 =>
    if (Int32.ofNat (ln a2)) ≤ x1 then
      some ((0 : Int64))
    else
      (rl L a2 x1).bind fun v4 =>
      some (v4)
  else none
set_option maxRecDepth 100000 in
set_option maxHeartbeats 4000000 in
theorem c_X0_titleOf (l : Launch) (D : va_G) (cA : Nat → ClassId) (ad : Nat → Nat) (bs : Nat) (X : State → Prop) (hAd : Ax ad bs) (hX : Stb bs X) (x0 : Nat) (x1 : Int32) (I : MI) (L : ML) (R : MR) (r : Int64) (h : F_X0_titleOf x0 x1 I L R = some (r)) : Cn l D cA ad bs X yX0_titleOf cX0_titleOf 2 (some .long) 0 0 [.ref (ad x0), .int x1] I L R (some (.long r), I, L, R) := by
  refine Cn.ofV hAd hX [(0, .ref (ad x0)), (1, .int x1)] rfl (Nat.le_of_ble_eq_true rfl) (by decide) ?_
  intro G el eD ecA ead ebs eX erm eNL C0
  subst el eD ecA ead ebs eX
  unfold F_X0_titleOf at h
  obtain ⟨c_x0, h⟩ := ite_some h
  refine V_iload_n C0 1 rfl rfl dX0_titleOf_0 ?_
  refine V_if_lt C0 (tgt := 22) (by decide) dX0_titleOf_1 (fun c1 => ?_) (fun c1 => ?_)
  · have h := (if_pos c1).symm.trans h
    refine V_lconst C0 (v := (0 : Int64)) (by decide) dX0_titleOf_22 ?_
    cases h
    exact V_lret C0 dX0_titleOf_23
  · have h := (if_neg c1).symm.trans h
    refine V_iload_n C0 1 rfl rfl dX0_titleOf_4 ?_
    refine V_aload_n C0 0 rfl rfl dX0_titleOf_5 ?_
    obtain ⟨a2, qa2, h⟩ := bnd_some h
    refine V_getR C0 0 1 fl_X0_15 c_x0.2 c_x0.1 rfl (rf_at qa2) dX0_titleOf_6 ?_
    refine V_alen C0 (v := Int32.ofNat (ln a2)) (rf_lt qa2) (by rw [(rf_kd qa2)]; decide) rfl dX0_titleOf_9 ?_
    refine V_icmp_ge C0 (tgt := 22) (by decide) dX0_titleOf_10 (fun c3 => ?_) (fun c3 => ?_)
    · have h := (if_pos c3).symm.trans h
      refine V_lconst C0 (v := (0 : Int64)) (by decide) dX0_titleOf_22 ?_
      cases h
      exact V_lret C0 dX0_titleOf_23
    · have h := (if_neg c3).symm.trans h
      refine V_aload_n C0 0 rfl rfl dX0_titleOf_13 ?_
      refine V_getR C0 0 1 fl_X0_15 c_x0.2 c_x0.1 rfl (rf_at qa2) dX0_titleOf_14 ?_
      refine V_iload_n C0 1 rfl rfl dX0_titleOf_17 ?_
      obtain ⟨v4, qv4, h⟩ := bnd_some h
      refine V_rl C0 (rf_lt qa2) (rf_kd qa2) qv4 dX0_titleOf_18 ?_
      refine V_goto C0 (tgt := 23) (by decide) dX0_titleOf_19 ?_
      cases h
      exact V_lret C0 dX0_titleOf_23
theorem dX0_numberOf_0 : decode cX0_numberOf 0 = .ok (.iconst 3, 1) := by decide +kernel
theorem dX0_numberOf_1 : decode cX0_numberOf 1 = .ok (.iload_n 1, 1) := by decide +kernel
theorem dX0_numberOf_2 : decode cX0_numberOf 2 = .ok (.imul, 1) := by decide +kernel
theorem dX0_numberOf_3 : decode cX0_numberOf 3 = .ok (.iload_n 2, 1) := by decide +kernel
theorem dX0_numberOf_4 : decode cX0_numberOf 4 = .ok (.iadd, 1) := by decide +kernel
theorem dX0_numberOf_5 : decode cX0_numberOf 5 = .ok (.istore_n 3, 1) := by decide +kernel
theorem dX0_numberOf_6 : decode cX0_numberOf 6 = .ok (.iload_n 3, 1) := by decide +kernel
theorem dX0_numberOf_7 : decode cX0_numberOf 7 = .ok (.ifCond .lt 21, 3) := by decide +kernel
theorem dX0_numberOf_10 : decode cX0_numberOf 10 = .ok (.iload_n 3, 1) := by decide +kernel
theorem dX0_numberOf_11 : decode cX0_numberOf 11 = .ok (.aload_n 0, 1) := by decide +kernel
theorem dX0_numberOf_12 : decode cX0_numberOf 12 = .ok (.getfield 19, 3) := by decide +kernel
theorem dX0_numberOf_15 : decode cX0_numberOf 15 = .ok (.arraylength, 1) := by decide +kernel
theorem dX0_numberOf_16 : decode cX0_numberOf 16 = .ok (.if_icmp .ge 12, 3) := by decide +kernel
theorem dX0_numberOf_19 : decode cX0_numberOf 19 = .ok (.aload_n 0, 1) := by decide +kernel
theorem dX0_numberOf_20 : decode cX0_numberOf 20 = .ok (.getfield 19, 3) := by decide +kernel
theorem dX0_numberOf_23 : decode cX0_numberOf 23 = .ok (.iload_n 3, 1) := by decide +kernel
theorem dX0_numberOf_24 : decode cX0_numberOf 24 = .ok (.iaload, 1) := by decide +kernel
theorem dX0_numberOf_25 : decode cX0_numberOf 25 = .ok (.goto 4, 3) := by decide +kernel
theorem dX0_numberOf_28 : decode cX0_numberOf 28 = .ok (.iconst 0, 1) := by decide +kernel
theorem dX0_numberOf_29 : decode cX0_numberOf 29 = .ok (.ireturn, 1) := by decide +kernel
def F_X0_numberOf (x0 : Nat) (x1 : Int32) (x2 : Int32) (I : MI) (L : ML) (R : MR) : Option (Int32) :=
  if kd x0 = 0 ∧ x0 < NN then
  wr (((3 : Int32) * x1) + x2) fun (u1 : Int32) =>
  if u1 < 0 then
    some ((0 : Int32))
  else
    (rf R x0 2 20).bind fun a3 =>
    if (Int32.ofNat (ln a3)) ≤ u1 then
      some ((0 : Int32))
    else
      (ri I a3 u1).bind fun v5 =>
      some (v5)
  else none
set_option maxRecDepth 100000 in
set_option maxHeartbeats 4000000 in
theorem c_X0_numberOf (l : Launch) (D : va_G) (cA : Nat → ClassId) (ad : Nat → Nat) (bs : Nat) (X : State → Prop) (hAd : Ax ad bs) (hX : Stb bs X) (x0 : Nat) (x1 : Int32) (x2 : Int32) (I : MI) (L : ML) (R : MR) (r : Int32) (h : F_X0_numberOf x0 x1 x2 I L R = some (r)) : Cn l D cA ad bs X yX0_numberOf cX0_numberOf 4 (some .int) 0 0 [.ref (ad x0), .int x1, .int x2] I L R (some (.int r), I, L, R) := by
  refine Cn.ofV hAd hX [(0, .ref (ad x0)), (1, .int x1), (2, .int x2)] rfl (Nat.le_of_ble_eq_true rfl) (by decide) ?_
  intro G el eD ecA ead ebs eX erm eNL C0
  subst el eD ecA ead ebs eX
  unfold F_X0_numberOf at h
  obtain ⟨c_x0, h⟩ := ite_some h
  refine V_iconst C0 (v := (3 : Int32)) (by decide) dX0_numberOf_0 ?_
  refine V_iload_n C0 1 rfl rfl dX0_numberOf_1 ?_
  refine V_imul C0 dX0_numberOf_2 ?_
  refine V_iload_n C0 2 rfl rfl dX0_numberOf_3 ?_
  refine V_iadd C0 dX0_numberOf_4 ?_
  obtain ⟨u1, eu1, h⟩ := wr_some h
  rw [← eu1]
  refine V_istore_n C0 [(3, .int u1), (0, .ref (G.ad x0)), (1, .int x1), (2, .int x2)] rfl (by rw [eNL]; decide) rfl dX0_numberOf_5 ?_
  refine V_iload_n C0 0 rfl rfl dX0_numberOf_6 ?_
  refine V_if_lt C0 (tgt := 28) (by decide) dX0_numberOf_7 (fun c2 => ?_) (fun c2 => ?_)
  · have h := (if_pos c2).symm.trans h
    refine V_iconst C0 (v := (0 : Int32)) (by decide) dX0_numberOf_28 ?_
    cases h
    exact V_iret C0 dX0_numberOf_29
  · have h := (if_neg c2).symm.trans h
    refine V_iload_n C0 0 rfl rfl dX0_numberOf_10 ?_
    refine V_aload_n C0 1 rfl rfl dX0_numberOf_11 ?_
    obtain ⟨a3, qa3, h⟩ := bnd_some h
    refine V_getR C0 0 2 fl_X0_19 c_x0.2 c_x0.1 rfl (rf_at qa3) dX0_numberOf_12 ?_
    refine V_alen C0 (v := Int32.ofNat (ln a3)) (rf_lt qa3) (by rw [(rf_kd qa3)]; decide) rfl dX0_numberOf_15 ?_
    refine V_icmp_ge C0 (tgt := 28) (by decide) dX0_numberOf_16 (fun c4 => ?_) (fun c4 => ?_)
    · have h := (if_pos c4).symm.trans h
      refine V_iconst C0 (v := (0 : Int32)) (by decide) dX0_numberOf_28 ?_
      cases h
      exact V_iret C0 dX0_numberOf_29
    · have h := (if_neg c4).symm.trans h
      refine V_aload_n C0 1 rfl rfl dX0_numberOf_19 ?_
      refine V_getR C0 0 2 fl_X0_19 c_x0.2 c_x0.1 rfl (rf_at qa3) dX0_numberOf_20 ?_
      refine V_iload_n C0 0 rfl rfl dX0_numberOf_23 ?_
      obtain ⟨v5, qv5, h⟩ := bnd_some h
      refine V_ri C0 (rf_lt qa3) (rf_kd qa3) qv5 dX0_numberOf_24 ?_
      refine V_goto C0 (tgt := 29) (by decide) dX0_numberOf_25 ?_
      cases h
      exact V_iret C0 dX0_numberOf_29
theorem dX8_byteAt_0 : decode cX8_byteAt 0 = .ok (.iload_n 1, 1) := by decide +kernel
theorem dX8_byteAt_1 : decode cX8_byteAt 1 = .ok (.ifCond .lt 29, 3) := by decide +kernel
theorem dX8_byteAt_4 : decode cX8_byteAt 4 = .ok (.iload_n 1, 1) := by decide +kernel
theorem dX8_byteAt_5 : decode cX8_byteAt 5 = .ok (.aload_n 0, 1) := by decide +kernel
theorem dX8_byteAt_6 : decode cX8_byteAt 6 = .ok (.getfield 22, 3) := by decide +kernel
theorem dX8_byteAt_9 : decode cX8_byteAt 9 = .ok (.if_icmp .ge 21, 3) := by decide +kernel
theorem dX8_byteAt_12 : decode cX8_byteAt 12 = .ok (.iload_n 1, 1) := by decide +kernel
theorem dX8_byteAt_13 : decode cX8_byteAt 13 = .ok (.aload_n 0, 1) := by decide +kernel
theorem dX8_byteAt_14 : decode cX8_byteAt 14 = .ok (.getfield 11, 3) := by decide +kernel
theorem dX8_byteAt_17 : decode cX8_byteAt 17 = .ok (.arraylength, 1) := by decide +kernel
theorem dX8_byteAt_18 : decode cX8_byteAt 18 = .ok (.if_icmp .ge 12, 3) := by decide +kernel
theorem dX8_byteAt_21 : decode cX8_byteAt 21 = .ok (.aload_n 0, 1) := by decide +kernel
theorem dX8_byteAt_22 : decode cX8_byteAt 22 = .ok (.getfield 11, 3) := by decide +kernel
theorem dX8_byteAt_25 : decode cX8_byteAt 25 = .ok (.iload_n 1, 1) := by decide +kernel
theorem dX8_byteAt_26 : decode cX8_byteAt 26 = .ok (.iaload, 1) := by decide +kernel
theorem dX8_byteAt_27 : decode cX8_byteAt 27 = .ok (.goto 4, 3) := by decide +kernel
theorem dX8_byteAt_30 : decode cX8_byteAt 30 = .ok (.iconst (-1), 1) := by decide +kernel
theorem dX8_byteAt_31 : decode cX8_byteAt 31 = .ok (.ireturn, 1) := by decide +kernel
def F_X8_byteAt (x0 : Nat) (x1 : Int32) (I : MI) (L : ML) (R : MR) : Option (Int32) :=
  if kd x0 = 7 ∧ x0 < NN then
  if x1 < 0 then
    some ((-1 : Int32))
  else
    if (I x0 2) ≤ x1 then
      some ((-1 : Int32))
    else
      (rf R x0 0 20).bind fun a3 =>
      if (Int32.ofNat (ln a3)) ≤ x1 then
        some ((-1 : Int32))
      else
        (ri I a3 x1).bind fun v5 =>
        some (v5)
  else none
set_option maxRecDepth 100000 in
set_option maxHeartbeats 4000000 in
theorem c_X8_byteAt (l : Launch) (D : va_G) (cA : Nat → ClassId) (ad : Nat → Nat) (bs : Nat) (X : State → Prop) (hAd : Ax ad bs) (hX : Stb bs X) (x0 : Nat) (x1 : Int32) (I : MI) (L : ML) (R : MR) (r : Int32) (h : F_X8_byteAt x0 x1 I L R = some (r)) : Cn l D cA ad bs X yX8_byteAt cX8_byteAt 2 (some .int) 0 0 [.ref (ad x0), .int x1] I L R (some (.int r), I, L, R) := by
  refine Cn.ofV hAd hX [(0, .ref (ad x0)), (1, .int x1)] rfl (Nat.le_of_ble_eq_true rfl) (by decide) ?_
  intro G el eD ecA ead ebs eX erm eNL C0
  subst el eD ecA ead ebs eX
  unfold F_X8_byteAt at h
  obtain ⟨c_x0, h⟩ := ite_some h
  refine V_iload_n C0 1 rfl rfl dX8_byteAt_0 ?_
  refine V_if_lt C0 (tgt := 30) (by decide) dX8_byteAt_1 (fun c1 => ?_) (fun c1 => ?_)
  · have h := (if_pos c1).symm.trans h
    refine V_iconst C0 (v := (-1 : Int32)) (by decide) dX8_byteAt_30 ?_
    cases h
    exact V_iret C0 dX8_byteAt_31
  · have h := (if_neg c1).symm.trans h
    refine V_iload_n C0 1 rfl rfl dX8_byteAt_4 ?_
    refine V_aload_n C0 0 rfl rfl dX8_byteAt_5 ?_
    refine V_getI C0 7 2 fl_X8_22 c_x0.2 c_x0.1 rfl dX8_byteAt_6 ?_
    refine V_icmp_ge C0 (tgt := 30) (by decide) dX8_byteAt_9 (fun c2 => ?_) (fun c2 => ?_)
    · have h := (if_pos c2).symm.trans h
      refine V_iconst C0 (v := (-1 : Int32)) (by decide) dX8_byteAt_30 ?_
      cases h
      exact V_iret C0 dX8_byteAt_31
    · have h := (if_neg c2).symm.trans h
      refine V_iload_n C0 1 rfl rfl dX8_byteAt_12 ?_
      refine V_aload_n C0 0 rfl rfl dX8_byteAt_13 ?_
      obtain ⟨a3, qa3, h⟩ := bnd_some h
      refine V_getR C0 7 0 fl_X8_11 c_x0.2 c_x0.1 rfl (rf_at qa3) dX8_byteAt_14 ?_
      refine V_alen C0 (v := Int32.ofNat (ln a3)) (rf_lt qa3) (by rw [(rf_kd qa3)]; decide) rfl dX8_byteAt_17 ?_
      refine V_icmp_ge C0 (tgt := 30) (by decide) dX8_byteAt_18 (fun c4 => ?_) (fun c4 => ?_)
      · have h := (if_pos c4).symm.trans h
        refine V_iconst C0 (v := (-1 : Int32)) (by decide) dX8_byteAt_30 ?_
        cases h
        exact V_iret C0 dX8_byteAt_31
      · have h := (if_neg c4).symm.trans h
        refine V_aload_n C0 0 rfl rfl dX8_byteAt_21 ?_
        refine V_getR C0 7 0 fl_X8_11 c_x0.2 c_x0.1 rfl (rf_at qa3) dX8_byteAt_22 ?_
        refine V_iload_n C0 1 rfl rfl dX8_byteAt_25 ?_
        obtain ⟨v5, qv5, h⟩ := bnd_some h
        refine V_ri C0 (rf_lt qa3) (rf_kd qa3) qv5 dX8_byteAt_26 ?_
        refine V_goto C0 (tgt := 31) (by decide) dX8_byteAt_27 ?_
        cases h
        exact V_iret C0 dX8_byteAt_31
theorem dX8_isBlank_0 : decode cX8_isBlank 0 = .ok (.iload_n 0, 1) := by decide +kernel
theorem dX8_isBlank_1 : decode cX8_isBlank 1 = .ok (.bipush 32, 2) := by decide +kernel
theorem dX8_isBlank_3 : decode cX8_isBlank 3 = .ok (.if_icmp .eq 9, 3) := by decide +kernel
theorem dX8_isBlank_6 : decode cX8_isBlank 6 = .ok (.iload_n 0, 1) := by decide +kernel
theorem dX8_isBlank_7 : decode cX8_isBlank 7 = .ok (.bipush 10, 2) := by decide +kernel
theorem dX8_isBlank_9 : decode cX8_isBlank 9 = .ok (.if_icmp .ne 7, 3) := by decide +kernel
theorem dX8_isBlank_12 : decode cX8_isBlank 12 = .ok (.iconst 1, 1) := by decide +kernel
theorem dX8_isBlank_13 : decode cX8_isBlank 13 = .ok (.goto 4, 3) := by decide +kernel
theorem dX8_isBlank_16 : decode cX8_isBlank 16 = .ok (.iconst 0, 1) := by decide +kernel
theorem dX8_isBlank_17 : decode cX8_isBlank 17 = .ok (.ireturn, 1) := by decide +kernel
def F_X8_isBlank (x0 : Int32) (I : MI) (L : ML) (R : MR) : Option (Bool) :=
  if x0 = (32 : Int32) then
    some (true)
  else
    if x0 = (10 : Int32) then
      some (true)
    else
      some (false)
set_option maxRecDepth 100000 in
set_option maxHeartbeats 4000000 in
theorem c_X8_isBlank (l : Launch) (D : va_G) (cA : Nat → ClassId) (ad : Nat → Nat) (bs : Nat) (X : State → Prop) (hAd : Ax ad bs) (hX : Stb bs X) (x0 : Int32) (I : MI) (L : ML) (R : MR) (r : Bool) (h : F_X8_isBlank x0 I L R = some (r)) : Cn l D cA ad bs X yX8_isBlank cX8_isBlank 1 (some .boolean) 0 0 [.int x0] I L R (some (.int (b2i r)), I, L, R) := by
  refine Cn.ofV hAd hX [(0, .int x0)] rfl (Nat.le_of_ble_eq_true rfl) (by decide) ?_
  intro G el eD ecA ead ebs eX erm eNL C0
  subst el eD ecA ead ebs eX
  unfold F_X8_isBlank at h
  refine V_iload_n C0 0 rfl rfl dX8_isBlank_0 ?_
  refine V_bipush C0 (v := (32 : Int32)) (by decide) dX8_isBlank_1 ?_
  refine V_icmp_eq C0 (tgt := 12) (by decide) dX8_isBlank_3 (fun c1 => ?_) (fun c1 => ?_)
  · have h := (if_pos c1).symm.trans h
    refine V_iconst C0 (v := (1 : Int32)) (by decide) dX8_isBlank_12 ?_
    refine V_goto C0 (tgt := 17) (by decide) dX8_isBlank_13 ?_
    cases h
    exact V_zret C0 (by decide) dX8_isBlank_17
  · have h := (if_neg c1).symm.trans h
    refine V_iload_n C0 0 rfl rfl dX8_isBlank_6 ?_
    refine V_bipush C0 (v := (10 : Int32)) (by decide) dX8_isBlank_7 ?_
    refine V_icmp_ne C0 (tgt := 16) (by decide) dX8_isBlank_9 (fun c2 => ?_) (fun c2 => ?_)
    · have h := (if_neg c2).symm.trans h
      refine V_iconst C0 (v := (0 : Int32)) (by decide) dX8_isBlank_16 ?_
      cases h
      exact V_zret C0 (by decide) dX8_isBlank_17
    · have h := (if_pos c2).symm.trans h
      refine V_iconst C0 (v := (1 : Int32)) (by decide) dX8_isBlank_12 ?_
      refine V_goto C0 (tgt := 17) (by decide) dX8_isBlank_13 ?_
      cases h
      exact V_zret C0 (by decide) dX8_isBlank_17
theorem dX8_isLetter_0 : decode cX8_isLetter 0 = .ok (.iload_n 0, 1) := by decide +kernel
theorem dX8_isLetter_1 : decode cX8_isLetter 1 = .ok (.bipush 97, 2) := by decide +kernel
theorem dX8_isLetter_3 : decode cX8_isLetter 3 = .ok (.if_icmp .lt 13, 3) := by decide +kernel
theorem dX8_isLetter_6 : decode cX8_isLetter 6 = .ok (.iload_n 0, 1) := by decide +kernel
theorem dX8_isLetter_7 : decode cX8_isLetter 7 = .ok (.bipush 122, 2) := by decide +kernel
theorem dX8_isLetter_9 : decode cX8_isLetter 9 = .ok (.if_icmp .gt 7, 3) := by decide +kernel
theorem dX8_isLetter_12 : decode cX8_isLetter 12 = .ok (.iconst 1, 1) := by decide +kernel
theorem dX8_isLetter_13 : decode cX8_isLetter 13 = .ok (.goto 4, 3) := by decide +kernel
theorem dX8_isLetter_16 : decode cX8_isLetter 16 = .ok (.iconst 0, 1) := by decide +kernel
theorem dX8_isLetter_17 : decode cX8_isLetter 17 = .ok (.ireturn, 1) := by decide +kernel
def F_X8_isLetter (x0 : Int32) (I : MI) (L : ML) (R : MR) : Option (Bool) :=
  if x0 < (97 : Int32) then
    some (false)
  else
    if (122 : Int32) < x0 then
      some (false)
    else
      some (true)
set_option maxRecDepth 100000 in
set_option maxHeartbeats 4000000 in
theorem c_X8_isLetter (l : Launch) (D : va_G) (cA : Nat → ClassId) (ad : Nat → Nat) (bs : Nat) (X : State → Prop) (hAd : Ax ad bs) (hX : Stb bs X) (x0 : Int32) (I : MI) (L : ML) (R : MR) (r : Bool) (h : F_X8_isLetter x0 I L R = some (r)) : Cn l D cA ad bs X yX8_isLetter cX8_isLetter 1 (some .boolean) 0 0 [.int x0] I L R (some (.int (b2i r)), I, L, R) := by
  refine Cn.ofV hAd hX [(0, .int x0)] rfl (Nat.le_of_ble_eq_true rfl) (by decide) ?_
  intro G el eD ecA ead ebs eX erm eNL C0
  subst el eD ecA ead ebs eX
  unfold F_X8_isLetter at h
  refine V_iload_n C0 0 rfl rfl dX8_isLetter_0 ?_
  refine V_bipush C0 (v := (97 : Int32)) (by decide) dX8_isLetter_1 ?_
  refine V_icmp_lt C0 (tgt := 16) (by decide) dX8_isLetter_3 (fun c1 => ?_) (fun c1 => ?_)
  · have h := (if_pos c1).symm.trans h
    refine V_iconst C0 (v := (0 : Int32)) (by decide) dX8_isLetter_16 ?_
    cases h
    exact V_zret C0 (by decide) dX8_isLetter_17
  · have h := (if_neg c1).symm.trans h
    refine V_iload_n C0 0 rfl rfl dX8_isLetter_6 ?_
    refine V_bipush C0 (v := (122 : Int32)) (by decide) dX8_isLetter_7 ?_
    refine V_icmp_gt C0 (tgt := 16) (by decide) dX8_isLetter_9 (fun c2 => ?_) (fun c2 => ?_)
    · have h := (if_pos c2).symm.trans h
      refine V_iconst C0 (v := (0 : Int32)) (by decide) dX8_isLetter_16 ?_
      cases h
      exact V_zret C0 (by decide) dX8_isLetter_17
    · have h := (if_neg c2).symm.trans h
      refine V_iconst C0 (v := (1 : Int32)) (by decide) dX8_isLetter_12 ?_
      refine V_goto C0 (tgt := 17) (by decide) dX8_isLetter_13 ?_
      cases h
      exact V_zret C0 (by decide) dX8_isLetter_17
theorem dX8_isLetterOrDigit_0 : decode cX8_isLetterOrDigit 0 = .ok (.iload_n 0, 1) := by decide +kernel
theorem dX8_isLetterOrDigit_1 : decode cX8_isLetterOrDigit 1 = .ok (.bipush 97, 2) := by decide +kernel
theorem dX8_isLetterOrDigit_3 : decode cX8_isLetterOrDigit 3 = .ok (.if_icmp .lt 9, 3) := by decide +kernel
theorem dX8_isLetterOrDigit_6 : decode cX8_isLetterOrDigit 6 = .ok (.iload_n 0, 1) := by decide +kernel
theorem dX8_isLetterOrDigit_7 : decode cX8_isLetterOrDigit 7 = .ok (.bipush 122, 2) := by decide +kernel
theorem dX8_isLetterOrDigit_9 : decode cX8_isLetterOrDigit 9 = .ok (.if_icmp .le 15, 3) := by decide +kernel
theorem dX8_isLetterOrDigit_12 : decode cX8_isLetterOrDigit 12 = .ok (.iload_n 0, 1) := by decide +kernel
theorem dX8_isLetterOrDigit_13 : decode cX8_isLetterOrDigit 13 = .ok (.bipush 48, 2) := by decide +kernel
theorem dX8_isLetterOrDigit_15 : decode cX8_isLetterOrDigit 15 = .ok (.if_icmp .lt 13, 3) := by decide +kernel
theorem dX8_isLetterOrDigit_18 : decode cX8_isLetterOrDigit 18 = .ok (.iload_n 0, 1) := by decide +kernel
theorem dX8_isLetterOrDigit_19 : decode cX8_isLetterOrDigit 19 = .ok (.bipush 57, 2) := by decide +kernel
theorem dX8_isLetterOrDigit_21 : decode cX8_isLetterOrDigit 21 = .ok (.if_icmp .gt 7, 3) := by decide +kernel
theorem dX8_isLetterOrDigit_24 : decode cX8_isLetterOrDigit 24 = .ok (.iconst 1, 1) := by decide +kernel
theorem dX8_isLetterOrDigit_25 : decode cX8_isLetterOrDigit 25 = .ok (.goto 4, 3) := by decide +kernel
theorem dX8_isLetterOrDigit_28 : decode cX8_isLetterOrDigit 28 = .ok (.iconst 0, 1) := by decide +kernel
theorem dX8_isLetterOrDigit_29 : decode cX8_isLetterOrDigit 29 = .ok (.ireturn, 1) := by decide +kernel
def F_X8_isLetterOrDigit (x0 : Int32) (I : MI) (L : ML) (R : MR) : Option (Bool) :=
  if x0 < (97 : Int32) then
    if x0 < (48 : Int32) then
      some (false)
    else
      if (57 : Int32) < x0 then
        some (false)
      else
        some (true)
  else
    if x0 ≤ (122 : Int32) then
      some (true)
    else
      if x0 < (48 : Int32) then
        some (false)
      else
        if (57 : Int32) < x0 then
          some (false)
        else
          some (true)
set_option maxRecDepth 100000 in
set_option maxHeartbeats 4000000 in
theorem c_X8_isLetterOrDigit (l : Launch) (D : va_G) (cA : Nat → ClassId) (ad : Nat → Nat) (bs : Nat) (X : State → Prop) (hAd : Ax ad bs) (hX : Stb bs X) (x0 : Int32) (I : MI) (L : ML) (R : MR) (r : Bool) (h : F_X8_isLetterOrDigit x0 I L R = some (r)) : Cn l D cA ad bs X yX8_isLetterOrDigit cX8_isLetterOrDigit 1 (some .boolean) 0 0 [.int x0] I L R (some (.int (b2i r)), I, L, R) := by
  refine Cn.ofV hAd hX [(0, .int x0)] rfl (Nat.le_of_ble_eq_true rfl) (by decide) ?_
  intro G el eD ecA ead ebs eX erm eNL C0
  subst el eD ecA ead ebs eX
  unfold F_X8_isLetterOrDigit at h
  refine V_iload_n C0 0 rfl rfl dX8_isLetterOrDigit_0 ?_
  refine V_bipush C0 (v := (97 : Int32)) (by decide) dX8_isLetterOrDigit_1 ?_
  refine V_icmp_lt C0 (tgt := 12) (by decide) dX8_isLetterOrDigit_3 (fun c1 => ?_) (fun c1 => ?_)
  · have h := (if_pos c1).symm.trans h
    refine V_iload_n C0 0 rfl rfl dX8_isLetterOrDigit_12 ?_
    refine V_bipush C0 (v := (48 : Int32)) (by decide) dX8_isLetterOrDigit_13 ?_
    refine V_icmp_lt C0 (tgt := 28) (by decide) dX8_isLetterOrDigit_15 (fun c2 => ?_) (fun c2 => ?_)
    · have h := (if_pos c2).symm.trans h
      refine V_iconst C0 (v := (0 : Int32)) (by decide) dX8_isLetterOrDigit_28 ?_
      cases h
      exact V_zret C0 (by decide) dX8_isLetterOrDigit_29
    · have h := (if_neg c2).symm.trans h
      refine V_iload_n C0 0 rfl rfl dX8_isLetterOrDigit_18 ?_
      refine V_bipush C0 (v := (57 : Int32)) (by decide) dX8_isLetterOrDigit_19 ?_
      refine V_icmp_gt C0 (tgt := 28) (by decide) dX8_isLetterOrDigit_21 (fun c3 => ?_) (fun c3 => ?_)
      · have h := (if_pos c3).symm.trans h
        refine V_iconst C0 (v := (0 : Int32)) (by decide) dX8_isLetterOrDigit_28 ?_
        cases h
        exact V_zret C0 (by decide) dX8_isLetterOrDigit_29
      · have h := (if_neg c3).symm.trans h
        refine V_iconst C0 (v := (1 : Int32)) (by decide) dX8_isLetterOrDigit_24 ?_
        refine V_goto C0 (tgt := 29) (by decide) dX8_isLetterOrDigit_25 ?_
        cases h
        exact V_zret C0 (by decide) dX8_isLetterOrDigit_29
  · have h := (if_neg c1).symm.trans h
    refine V_iload_n C0 0 rfl rfl dX8_isLetterOrDigit_6 ?_
    refine V_bipush C0 (v := (122 : Int32)) (by decide) dX8_isLetterOrDigit_7 ?_
    refine V_icmp_le C0 (tgt := 24) (by decide) dX8_isLetterOrDigit_9 (fun c4 => ?_) (fun c4 => ?_)
    · have h := (if_pos c4).symm.trans h
      refine V_iconst C0 (v := (1 : Int32)) (by decide) dX8_isLetterOrDigit_24 ?_
      refine V_goto C0 (tgt := 29) (by decide) dX8_isLetterOrDigit_25 ?_
      cases h
      exact V_zret C0 (by decide) dX8_isLetterOrDigit_29
    · have h := (if_neg c4).symm.trans h
      refine V_iload_n C0 0 rfl rfl dX8_isLetterOrDigit_12 ?_
      refine V_bipush C0 (v := (48 : Int32)) (by decide) dX8_isLetterOrDigit_13 ?_
      refine V_icmp_lt C0 (tgt := 28) (by decide) dX8_isLetterOrDigit_15 (fun c5 => ?_) (fun c5 => ?_)
      · have h := (if_pos c5).symm.trans h
        refine V_iconst C0 (v := (0 : Int32)) (by decide) dX8_isLetterOrDigit_28 ?_
        cases h
        exact V_zret C0 (by decide) dX8_isLetterOrDigit_29
      · have h := (if_neg c5).symm.trans h
        refine V_iload_n C0 0 rfl rfl dX8_isLetterOrDigit_18 ?_
        refine V_bipush C0 (v := (57 : Int32)) (by decide) dX8_isLetterOrDigit_19 ?_
        refine V_icmp_gt C0 (tgt := 28) (by decide) dX8_isLetterOrDigit_21 (fun c6 => ?_) (fun c6 => ?_)
        · have h := (if_pos c6).symm.trans h
          refine V_iconst C0 (v := (0 : Int32)) (by decide) dX8_isLetterOrDigit_28 ?_
          cases h
          exact V_zret C0 (by decide) dX8_isLetterOrDigit_29
        · have h := (if_neg c6).symm.trans h
          refine V_iconst C0 (v := (1 : Int32)) (by decide) dX8_isLetterOrDigit_24 ?_
          refine V_goto C0 (tgt := 29) (by decide) dX8_isLetterOrDigit_25 ?_
          cases h
          exact V_zret C0 (by decide) dX8_isLetterOrDigit_29
theorem dX8_spoil_0 : decode cX8_spoil 0 = .ok (.aload_n 0, 1) := by decide +kernel
theorem dX8_spoil_1 : decode cX8_spoil 1 = .ok (.iconst 4, 1) := by decide +kernel
theorem dX8_spoil_2 : decode cX8_spoil 2 = .ok (.putfield 38, 3) := by decide +kernel
theorem dX8_spoil_5 : decode cX8_spoil 5 = .ok (.aload_n 0, 1) := by decide +kernel
theorem dX8_spoil_6 : decode cX8_spoil 6 = .ok (.iconst 1, 1) := by decide +kernel
theorem dX8_spoil_7 : decode cX8_spoil 7 = .ok (.putfield 28, 3) := by decide +kernel
theorem dX8_spoil_10 : decode cX8_spoil 10 = .ok (.aload_n 0, 1) := by decide +kernel
theorem dX8_spoil_11 : decode cX8_spoil 11 = .ok (.aload_n 0, 1) := by decide +kernel
theorem dX8_spoil_12 : decode cX8_spoil 12 = .ok (.getfield 25, 3) := by decide +kernel
theorem dX8_spoil_15 : decode cX8_spoil 15 = .ok (.putfield 15, 3) := by decide +kernel
theorem dX8_spoil_18 : decode cX8_spoil 18 = .ok (.return_, 1) := by decide +kernel
def F_X8_spoil (x0 : Nat) (I : MI) (L : ML) (R : MR) : Option (MI) :=
  if kd x0 = 7 ∧ x0 < NN then
  wr (uI I x0 4 (4 : Int32)) fun (I1 : MI) =>
  wr (uI I1 x0 8 (1 : Int32)) fun (I2 : MI) =>
  wr (uI I2 x0 9 (I2 x0 3)) fun (I3 : MI) =>
  some (I3)
  else none
set_option maxRecDepth 100000 in
set_option maxHeartbeats 4000000 in
theorem c_X8_spoil (l : Launch) (D : va_G) (cA : Nat → ClassId) (ad : Nat → Nat) (bs : Nat) (X : State → Prop) (hAd : Ax ad bs) (hX : Stb bs X) (x0 : Nat) (I : MI) (L : ML) (R : MR) (I' : MI) (h : F_X8_spoil x0 I L R = some (I')) : Cn l D cA ad bs X yX8_spoil cX8_spoil 1 none 0 0 [.ref (ad x0)] I L R (none, I', L, R) := by
  refine Cn.ofV hAd hX [(0, .ref (ad x0))] rfl (Nat.le_of_ble_eq_true rfl) (by decide) ?_
  intro G el eD ecA ead ebs eX erm eNL C0
  subst el eD ecA ead ebs eX
  unfold F_X8_spoil at h
  obtain ⟨c_x0, h⟩ := ite_some h
  refine V_aload_n C0 0 rfl rfl dX8_spoil_0 ?_
  refine V_iconst C0 (v := (4 : Int32)) (by decide) dX8_spoil_1 ?_
  obtain ⟨I1, eI1, h⟩ := wr_some h
  refine V_putI C0 7 4 fp_X8_38 c_x0.2 c_x0.1 rfl dX8_spoil_2 ?_
  rw [← eI1]
  refine V_aload_n C0 0 rfl rfl dX8_spoil_5 ?_
  refine V_iconst C0 (v := (1 : Int32)) (by decide) dX8_spoil_6 ?_
  obtain ⟨I2, eI2, h⟩ := wr_some h
  refine V_putI C0 7 8 fp_X8_28 c_x0.2 c_x0.1 rfl dX8_spoil_7 ?_
  rw [← eI2]
  refine V_aload_n C0 0 rfl rfl dX8_spoil_10 ?_
  refine V_aload_n C0 0 rfl rfl dX8_spoil_11 ?_
  refine V_getI C0 7 3 fl_X8_25 c_x0.2 c_x0.1 rfl dX8_spoil_12 ?_
  obtain ⟨I3, eI3, h⟩ := wr_some h
  refine V_putI C0 7 9 fp_X8_15 c_x0.2 c_x0.1 rfl dX8_spoil_15 ?_
  rw [← eI3]
  cases h
  exact V_vret C0 dX8_spoil_18
theorem dX8_readWord_0 : decode cX8_readWord 0 = .ok (.aload_n 0, 1) := by decide +kernel
theorem dX8_readWord_1 : decode cX8_readWord 1 = .ok (.iconst 1, 1) := by decide +kernel
theorem dX8_readWord_2 : decode cX8_readWord 2 = .ok (.putfield 38, 3) := by decide +kernel
theorem dX8_readWord_5 : decode cX8_readWord 5 = .ok (.aload_n 0, 1) := by decide +kernel
theorem dX8_readWord_6 : decode cX8_readWord 6 = .ok (.lconst 0, 1) := by decide +kernel
theorem dX8_readWord_7 : decode cX8_readWord 7 = .ok (.putfield 34, 3) := by decide +kernel
theorem dX8_readWord_10 : decode cX8_readWord 10 = .ok (.iconst 0, 1) := by decide +kernel
theorem dX8_readWord_11 : decode cX8_readWord 11 = .ok (.istore_n 1, 1) := by decide +kernel
theorem dX8_readWord_12 : decode cX8_readWord 12 = .ok (.iload_n 1, 1) := by decide +kernel
theorem dX8_readWord_13 : decode cX8_readWord 13 = .ok (.bipush 8, 2) := by decide +kernel
theorem dX8_readWord_15 : decode cX8_readWord 15 = .ok (.if_icmp .ge 56, 3) := by decide +kernel
theorem dX8_readWord_18 : decode cX8_readWord 18 = .ok (.aload_n 0, 1) := by decide +kernel
theorem dX8_readWord_19 : decode cX8_readWord 19 = .ok (.aload_n 0, 1) := by decide +kernel
theorem dX8_readWord_20 : decode cX8_readWord 20 = .ok (.getfield 25, 3) := by decide +kernel
theorem dX8_readWord_23 : decode cX8_readWord 23 = .ok (.invokevirtual 71, 3) := by decide +kernel
theorem dX8_readWord_26 : decode cX8_readWord 26 = .ok (.invokestatic 93, 3) := by decide +kernel
theorem dX8_readWord_29 : decode cX8_readWord 29 = .ok (.ifCond .eq 42, 3) := by decide +kernel
theorem dX8_readWord_32 : decode cX8_readWord 32 = .ok (.aload_n 0, 1) := by decide +kernel
theorem dX8_readWord_33 : decode cX8_readWord 33 = .ok (.dup, 1) := by decide +kernel
theorem dX8_readWord_34 : decode cX8_readWord 34 = .ok (.getfield 34, 3) := by decide +kernel
theorem dX8_readWord_37 : decode cX8_readWord 37 = .ok (.aload_n 0, 1) := by decide +kernel
theorem dX8_readWord_38 : decode cX8_readWord 38 = .ok (.aload_n 0, 1) := by decide +kernel
theorem dX8_readWord_39 : decode cX8_readWord 39 = .ok (.getfield 25, 3) := by decide +kernel
theorem dX8_readWord_42 : decode cX8_readWord 42 = .ok (.invokevirtual 71, 3) := by decide +kernel
theorem dX8_readWord_45 : decode cX8_readWord 45 = .ok (.i2l, 1) := by decide +kernel
theorem dX8_readWord_46 : decode cX8_readWord 46 = .ok (.bipush 8, 2) := by decide +kernel
theorem dX8_readWord_48 : decode cX8_readWord 48 = .ok (.iload_n 1, 1) := by decide +kernel
theorem dX8_readWord_49 : decode cX8_readWord 49 = .ok (.imul, 1) := by decide +kernel
theorem dX8_readWord_50 : decode cX8_readWord 50 = .ok (.lshl, 1) := by decide +kernel
theorem dX8_readWord_51 : decode cX8_readWord 51 = .ok (.lor, 1) := by decide +kernel
theorem dX8_readWord_52 : decode cX8_readWord 52 = .ok (.putfield 34, 3) := by decide +kernel
theorem dX8_readWord_55 : decode cX8_readWord 55 = .ok (.aload_n 0, 1) := by decide +kernel
theorem dX8_readWord_56 : decode cX8_readWord 56 = .ok (.dup, 1) := by decide +kernel
theorem dX8_readWord_57 : decode cX8_readWord 57 = .ok (.getfield 25, 3) := by decide +kernel
theorem dX8_readWord_60 : decode cX8_readWord 60 = .ok (.iconst 1, 1) := by decide +kernel
theorem dX8_readWord_61 : decode cX8_readWord 61 = .ok (.iadd, 1) := by decide +kernel
theorem dX8_readWord_62 : decode cX8_readWord 62 = .ok (.putfield 25, 3) := by decide +kernel
theorem dX8_readWord_65 : decode cX8_readWord 65 = .ok (.iinc 1 1, 3) := by decide +kernel
theorem dX8_readWord_68 : decode cX8_readWord 68 = .ok (.goto (-56), 3) := by decide +kernel
theorem dX8_readWord_71 : decode cX8_readWord 71 = .ok (.aload_n 0, 1) := by decide +kernel
theorem dX8_readWord_72 : decode cX8_readWord 72 = .ok (.aload_n 0, 1) := by decide +kernel
theorem dX8_readWord_73 : decode cX8_readWord 73 = .ok (.getfield 25, 3) := by decide +kernel
theorem dX8_readWord_76 : decode cX8_readWord 76 = .ok (.invokevirtual 71, 3) := by decide +kernel
theorem dX8_readWord_79 : decode cX8_readWord 79 = .ok (.invokestatic 93, 3) := by decide +kernel
theorem dX8_readWord_82 : decode cX8_readWord 82 = .ok (.ifCond .eq 7, 3) := by decide +kernel
theorem dX8_readWord_85 : decode cX8_readWord 85 = .ok (.aload_n 0, 1) := by decide +kernel
theorem dX8_readWord_86 : decode cX8_readWord 86 = .ok (.invokevirtual 90, 3) := by decide +kernel
theorem dX8_readWord_89 : decode cX8_readWord 89 = .ok (.return_, 1) := by decide +kernel
def LF_X8_readWord_12 (N : Nat) : Nat → Nat → Int32 → MI → ML → MR → Option (MI × ML)
  | 0, _, _, _, _, _ => none
  | k + 1, y0, y1, I, L, R =>
    if (8 : Int32) ≤ y1 then
      some (I, L)
    else
      bn1 (F_X8_byteAt y0 (I y0 3) I L R) fun v4 =>
      bn1 (F_X8_isLetterOrDigit v4 I L R) fun b6 =>
      if (b2i b6) = 0 then
        some (I, L)
      else
        bn1 (F_X8_byteAt y0 (I y0 3) I L R) fun v9 =>
        wr (uL L y0 7 ((L y0 7) ||| (lS (Int32.toInt64 v9) ((8 : Int32) * y1)))) fun (L11 : ML) =>
        wr (uI I y0 3 ((I y0 3) + (1 : Int32))) fun (I12 : MI) =>
        wr (y1 + (1 : Int32)) fun (u13 : Int32) =>
        LF_X8_readWord_12 N k y0 u13 I12 L11 R
def F_X8_readWord (N : Nat) (x0 : Nat) (I : MI) (L : ML) (R : MR) : Option (MI × ML) :=
  if kd x0 = 7 ∧ x0 < NN then
  wr (uI I x0 4 (1 : Int32)) fun (I1 : MI) =>
  wr (uL L x0 7 (0 : Int64)) fun (L2 : ML) =>
  bn1 (LF_X8_readWord_12 N N x0 (0 : Int32) I1 L2 R) fun z14 =>
  bn1 (F_X8_byteAt x0 (z14.1 x0 3) z14.1 z14.2 R) fun v16 =>
  bn1 (F_X8_isLetterOrDigit v16 z14.1 z14.2 R) fun b18 =>
  if (b2i b18) = 0 then
    some (z14.1, z14.2)
  else
    bn1 (F_X8_spoil x0 z14.1 z14.2 R) fun I21 =>
    some (I21, z14.2)
  else none
set_option maxRecDepth 100000 in
set_option maxHeartbeats 4000000 in
theorem lp_X8_readWord_12 {G : Gm} (C0 : Cx G (yX8_readWord.cls) cX8_readWord none) (eNL : G.nL = 2) (erm : G.rm = ({ frames := 1, cells := 0, slots := 0, locals := 21 } : Room)) (N : Nat) : ∀ (k : Nat) (y0 : Nat) (y1 : Int32) (I : MI) (L : ML) (R : MR) (z : MI × ML) (hk0 : kd y0 = 7) (ho0 : y0 < NN), LF_X8_readWord_12 N k y0 y1 I L R = some z → ∀ f : State → Prop, V G f 71 [(0, .ref (G.ad y0))] [] z.1 z.2 R → V G f 12 [(0, .ref (G.ad y0)), (1, .int y1)] [] I L R := by
  intro k
  induction k with
  | zero =>
    intro y0 y1 I L R q hk0 ho0 h
    exact absurd h (by simp [LF_X8_readWord_12])
  | succ k ih =>
    intro y0 y1 I L R q hk0 ho0 h f kx
    rw [LF_X8_readWord_12] at h
    refine V_iload_n C0 1 rfl rfl dX8_readWord_12 ?_
    refine V_bipush C0 (v := (8 : Int32)) (by decide) dX8_readWord_13 ?_
    refine V_icmp_ge C0 (tgt := 71) (by decide) dX8_readWord_15 (fun c3 => ?_) (fun c3 => ?_)
    · have h := (if_pos c3).symm.trans h
      cases h
      exact V_sub [0] rfl kx
    · have h := (if_neg c3).symm.trans h
      refine V_aload_n C0 0 rfl rfl dX8_readWord_18 ?_
      refine V_aload_n C0 0 rfl rfl dX8_readWord_19 ?_
      refine V_getI C0 7 3 fl_X8_25 ho0 hk0 rfl dX8_readWord_20 ?_
      obtain ⟨v4, q5, h⟩ := bn1_some h
      refine V_callV C0 (st := []) (As := [.int (I y0 3)]) 7 (c_X8_byteAt G.l G.D G.cA G.ad G.bs G.X C0.2.2.2.2.2.2.2.2.2.1 C0.2.2.2.2.2.2.2.2.2.2.2.2 y0 (I y0 3) I L R v4 q5) lc_X8_byteAt lk_X8_71 ho0 hk0 ⟨_, rfl, rfl⟩ rfl (by rw [erm]; decide) (Nat.le_of_ble_eq_true rfl) dX8_readWord_23 ?_
      show V G _ 26 [(0, .ref (G.ad y0)), (1, .int y1)] [.int v4] I L R
      obtain ⟨b6, q7, h⟩ := bn1_some h
      refine V_callS C0 (st := []) (As := [.int v4]) (c_X8_isLetterOrDigit G.l G.D G.cA G.ad G.bs G.X C0.2.2.2.2.2.2.2.2.2.1 C0.2.2.2.2.2.2.2.2.2.2.2.2 v4 I L R b6 q7) lc_X8_isLetterOrDigit lk_X8_93 rfl (by rw [erm]; decide) (Nat.le_of_ble_eq_true rfl) dX8_readWord_26 ?_
      show V G _ 29 [(0, .ref (G.ad y0)), (1, .int y1)] [.int (b2i b6)] I L R
      refine V_if_eq C0 (tgt := 71) (by decide) dX8_readWord_29 (fun c8 => ?_) (fun c8 => ?_)
      · have h := (if_pos c8).symm.trans h
        cases h
        exact V_sub [0] rfl kx
      · have h := (if_neg c8).symm.trans h
        refine V_aload_n C0 0 rfl rfl dX8_readWord_32 ?_
        refine V_dup C0 rfl dX8_readWord_33 ?_
        refine V_getL C0 7 7 fl_X8_34 ho0 hk0 rfl dX8_readWord_34 ?_
        refine V_aload_n C0 0 rfl rfl dX8_readWord_37 ?_
        refine V_aload_n C0 0 rfl rfl dX8_readWord_38 ?_
        refine V_getI C0 7 3 fl_X8_25 ho0 hk0 rfl dX8_readWord_39 ?_
        obtain ⟨v9, q10, h⟩ := bn1_some h
        refine V_callV C0 (st := [.long (L y0 7), .ref (G.ad y0)]) (As := [.int (I y0 3)]) 7 (c_X8_byteAt G.l G.D G.cA G.ad G.bs G.X C0.2.2.2.2.2.2.2.2.2.1 C0.2.2.2.2.2.2.2.2.2.2.2.2 y0 (I y0 3) I L R v9 q10) lc_X8_byteAt lk_X8_71 ho0 hk0 ⟨_, rfl, rfl⟩ rfl (by rw [erm]; decide) (Nat.le_of_ble_eq_true rfl) dX8_readWord_42 ?_
        show V G _ 45 [(0, .ref (G.ad y0)), (1, .int y1)] [.int v9, .long (L y0 7), .ref (G.ad y0)] I L R
        refine V_i2l C0 dX8_readWord_45 ?_
        refine V_bipush C0 (v := (8 : Int32)) (by decide) dX8_readWord_46 ?_
        refine V_iload_n C0 1 rfl rfl dX8_readWord_48 ?_
        refine V_imul C0 dX8_readWord_49 ?_
        refine V_lshl C0 dX8_readWord_50 ?_
        refine V_lor C0 dX8_readWord_51 ?_
        obtain ⟨L11, eL11, h⟩ := wr_some h
        refine V_putL C0 7 7 fp_X8_34 ho0 hk0 rfl dX8_readWord_52 ?_
        rw [← eL11]
        refine V_aload_n C0 0 rfl rfl dX8_readWord_55 ?_
        refine V_dup C0 rfl dX8_readWord_56 ?_
        refine V_getI C0 7 3 fl_X8_25 ho0 hk0 rfl dX8_readWord_57 ?_
        refine V_iconst C0 (v := (1 : Int32)) (by decide) dX8_readWord_60 ?_
        refine V_iadd C0 dX8_readWord_61 ?_
        obtain ⟨I12, eI12, h⟩ := wr_some h
        refine V_putI C0 7 3 fp_X8_25 ho0 hk0 rfl dX8_readWord_62 ?_
        rw [← eI12]
        obtain ⟨u13, eu13, h⟩ := wr_some h
        refine V_iinc C0 1 [(1, .int u13), (0, .ref (G.ad y0))] rfl (n := 1) (by rw [eu13]; rfl) (by rw [eNL]; decide) rfl dX8_readWord_65 ?_
        refine V_goto C0 (tgt := 12) (by decide) dX8_readWord_68 ?_
        exact V_sub [1, 0] rfl (ih y0 u13 I12 L11 R _ hk0 ho0 h f kx)
set_option maxRecDepth 100000 in
set_option maxHeartbeats 4000000 in
theorem c_X8_readWord (l : Launch) (D : va_G) (cA : Nat → ClassId) (ad : Nat → Nat) (bs : Nat) (X : State → Prop) (hAd : Ax ad bs) (hX : Stb bs X) (N : Nat) (x0 : Nat) (I : MI) (L : ML) (R : MR) (I' : MI) (L' : ML) (h : F_X8_readWord N x0 I L R = some (I', L')) : Cn l D cA ad bs X yX8_readWord cX8_readWord 2 none 1 21 [.ref (ad x0)] I L R (none, I', L', R) := by
  refine Cn.ofV hAd hX [(0, .ref (ad x0))] rfl (Nat.le_of_ble_eq_true rfl) (by decide) ?_
  intro G el eD ecA ead ebs eX erm eNL C0
  subst el eD ecA ead ebs eX
  unfold F_X8_readWord at h
  obtain ⟨c_x0, h⟩ := ite_some h
  refine V_aload_n C0 0 rfl rfl dX8_readWord_0 ?_
  refine V_iconst C0 (v := (1 : Int32)) (by decide) dX8_readWord_1 ?_
  obtain ⟨I1, eI1, h⟩ := wr_some h
  refine V_putI C0 7 4 fp_X8_38 c_x0.2 c_x0.1 rfl dX8_readWord_2 ?_
  rw [← eI1]
  refine V_aload_n C0 0 rfl rfl dX8_readWord_5 ?_
  refine V_lconst C0 (v := (0 : Int64)) (by decide) dX8_readWord_6 ?_
  obtain ⟨L2, eL2, h⟩ := wr_some h
  refine V_putL C0 7 7 fp_X8_34 c_x0.2 c_x0.1 rfl dX8_readWord_7 ?_
  rw [← eL2]
  refine V_iconst C0 (v := (0 : Int32)) (by decide) dX8_readWord_10 ?_
  refine V_istore_n C0 [(1, .int (0 : Int32)), (0, .ref (G.ad x0))] rfl (by rw [eNL]; decide) rfl dX8_readWord_11 ?_
  obtain ⟨z14, q15, h⟩ := bn1_some h
  refine V_sub [1, 0] rfl (lp_X8_readWord_12 C0 eNL erm N N x0 (0 : Int32) I1 L2 R _ c_x0.1 c_x0.2 q15 _ ?_)
  show V G _ 71 [(0, .ref (G.ad x0))] [] z14.1 z14.2 R
  refine V_aload_n C0 0 rfl rfl dX8_readWord_71 ?_
  refine V_aload_n C0 0 rfl rfl dX8_readWord_72 ?_
  refine V_getI C0 7 3 fl_X8_25 c_x0.2 c_x0.1 rfl dX8_readWord_73 ?_
  obtain ⟨v16, q17, h⟩ := bn1_some h
  refine V_callV C0 (st := []) (As := [.int (z14.1 x0 3)]) 7 (c_X8_byteAt G.l G.D G.cA G.ad G.bs G.X C0.2.2.2.2.2.2.2.2.2.1 C0.2.2.2.2.2.2.2.2.2.2.2.2 x0 (z14.1 x0 3) z14.1 z14.2 R v16 q17) lc_X8_byteAt lk_X8_71 c_x0.2 c_x0.1 ⟨_, rfl, rfl⟩ rfl (by rw [erm]; decide) (Nat.le_of_ble_eq_true rfl) dX8_readWord_76 ?_
  show V G _ 79 [(0, .ref (G.ad x0))] [.int v16] z14.1 z14.2 R
  obtain ⟨b18, q19, h⟩ := bn1_some h
  refine V_callS C0 (st := []) (As := [.int v16]) (c_X8_isLetterOrDigit G.l G.D G.cA G.ad G.bs G.X C0.2.2.2.2.2.2.2.2.2.1 C0.2.2.2.2.2.2.2.2.2.2.2.2 v16 z14.1 z14.2 R b18 q19) lc_X8_isLetterOrDigit lk_X8_93 rfl (by rw [erm]; decide) (Nat.le_of_ble_eq_true rfl) dX8_readWord_79 ?_
  show V G _ 82 [(0, .ref (G.ad x0))] [.int (b2i b18)] z14.1 z14.2 R
  refine V_if_eq C0 (tgt := 89) (by decide) dX8_readWord_82 (fun c20 => ?_) (fun c20 => ?_)
  · have h := (if_pos c20).symm.trans h
    cases h
    exact V_vret C0 dX8_readWord_89
  · have h := (if_neg c20).symm.trans h
    refine V_aload_n C0 0 rfl rfl dX8_readWord_85 ?_
    obtain ⟨I21, q22, h⟩ := bn1_some h
    refine V_callV C0 (st := []) (As := []) 7 (c_X8_spoil G.l G.D G.cA G.ad G.bs G.X C0.2.2.2.2.2.2.2.2.2.1 C0.2.2.2.2.2.2.2.2.2.2.2.2 x0 z14.1 z14.2 R I21 q22) lc_X8_spoil lk_X8_90 c_x0.2 c_x0.1 ⟨_, rfl, rfl⟩ rfl (by rw [erm]; decide) (Nat.le_of_ble_eq_true rfl) dX8_readWord_86 ?_
    show V G _ 89 [(0, .ref (G.ad x0))] [] I21 z14.2 R
    cases h
    exact V_vret C0 dX8_readWord_89
theorem dX8_isDigit_0 : decode cX8_isDigit 0 = .ok (.iload_n 0, 1) := by decide +kernel
theorem dX8_isDigit_1 : decode cX8_isDigit 1 = .ok (.bipush 48, 2) := by decide +kernel
theorem dX8_isDigit_3 : decode cX8_isDigit 3 = .ok (.if_icmp .lt 13, 3) := by decide +kernel
theorem dX8_isDigit_6 : decode cX8_isDigit 6 = .ok (.iload_n 0, 1) := by decide +kernel
theorem dX8_isDigit_7 : decode cX8_isDigit 7 = .ok (.bipush 57, 2) := by decide +kernel
theorem dX8_isDigit_9 : decode cX8_isDigit 9 = .ok (.if_icmp .gt 7, 3) := by decide +kernel
theorem dX8_isDigit_12 : decode cX8_isDigit 12 = .ok (.iconst 1, 1) := by decide +kernel
theorem dX8_isDigit_13 : decode cX8_isDigit 13 = .ok (.goto 4, 3) := by decide +kernel
theorem dX8_isDigit_16 : decode cX8_isDigit 16 = .ok (.iconst 0, 1) := by decide +kernel
theorem dX8_isDigit_17 : decode cX8_isDigit 17 = .ok (.ireturn, 1) := by decide +kernel
def F_X8_isDigit (x0 : Int32) (I : MI) (L : ML) (R : MR) : Option (Bool) :=
  if x0 < (48 : Int32) then
    some (false)
  else
    if (57 : Int32) < x0 then
      some (false)
    else
      some (true)
set_option maxRecDepth 100000 in
set_option maxHeartbeats 4000000 in
theorem c_X8_isDigit (l : Launch) (D : va_G) (cA : Nat → ClassId) (ad : Nat → Nat) (bs : Nat) (X : State → Prop) (hAd : Ax ad bs) (hX : Stb bs X) (x0 : Int32) (I : MI) (L : ML) (R : MR) (r : Bool) (h : F_X8_isDigit x0 I L R = some (r)) : Cn l D cA ad bs X yX8_isDigit cX8_isDigit 1 (some .boolean) 0 0 [.int x0] I L R (some (.int (b2i r)), I, L, R) := by
  refine Cn.ofV hAd hX [(0, .int x0)] rfl (Nat.le_of_ble_eq_true rfl) (by decide) ?_
  intro G el eD ecA ead ebs eX erm eNL C0
  subst el eD ecA ead ebs eX
  unfold F_X8_isDigit at h
  refine V_iload_n C0 0 rfl rfl dX8_isDigit_0 ?_
  refine V_bipush C0 (v := (48 : Int32)) (by decide) dX8_isDigit_1 ?_
  refine V_icmp_lt C0 (tgt := 16) (by decide) dX8_isDigit_3 (fun c1 => ?_) (fun c1 => ?_)
  · have h := (if_pos c1).symm.trans h
    refine V_iconst C0 (v := (0 : Int32)) (by decide) dX8_isDigit_16 ?_
    cases h
    exact V_zret C0 (by decide) dX8_isDigit_17
  · have h := (if_neg c1).symm.trans h
    refine V_iload_n C0 0 rfl rfl dX8_isDigit_6 ?_
    refine V_bipush C0 (v := (57 : Int32)) (by decide) dX8_isDigit_7 ?_
    refine V_icmp_gt C0 (tgt := 16) (by decide) dX8_isDigit_9 (fun c2 => ?_) (fun c2 => ?_)
    · have h := (if_pos c2).symm.trans h
      refine V_iconst C0 (v := (0 : Int32)) (by decide) dX8_isDigit_16 ?_
      cases h
      exact V_zret C0 (by decide) dX8_isDigit_17
    · have h := (if_neg c2).symm.trans h
      refine V_iconst C0 (v := (1 : Int32)) (by decide) dX8_isDigit_12 ?_
      refine V_goto C0 (tgt := 17) (by decide) dX8_isDigit_13 ?_
      cases h
      exact V_zret C0 (by decide) dX8_isDigit_17
theorem dX8_readNumber_0 : decode cX8_readNumber 0 = .ok (.aload_n 0, 1) := by decide +kernel
theorem dX8_readNumber_1 : decode cX8_readNumber 1 = .ok (.aload_n 0, 1) := by decide +kernel
theorem dX8_readNumber_2 : decode cX8_readNumber 2 = .ok (.getfield 25, 3) := by decide +kernel
theorem dX8_readNumber_5 : decode cX8_readNumber 5 = .ok (.invokevirtual 71, 3) := by decide +kernel
theorem dX8_readNumber_8 : decode cX8_readNumber 8 = .ok (.bipush 45, 2) := by decide +kernel
theorem dX8_readNumber_10 : decode cX8_readNumber 10 = .ok (.if_icmp .ne 7, 3) := by decide +kernel
theorem dX8_readNumber_13 : decode cX8_readNumber 13 = .ok (.iconst 1, 1) := by decide +kernel
theorem dX8_readNumber_14 : decode cX8_readNumber 14 = .ok (.goto 4, 3) := by decide +kernel
theorem dX8_readNumber_17 : decode cX8_readNumber 17 = .ok (.iconst 0, 1) := by decide +kernel
theorem dX8_readNumber_18 : decode cX8_readNumber 18 = .ok (.istore_n 1, 1) := by decide +kernel
theorem dX8_readNumber_19 : decode cX8_readNumber 19 = .ok (.iload_n 1, 1) := by decide +kernel
theorem dX8_readNumber_20 : decode cX8_readNumber 20 = .ok (.ifCond .eq 13, 3) := by decide +kernel
theorem dX8_readNumber_23 : decode cX8_readNumber 23 = .ok (.aload_n 0, 1) := by decide +kernel
theorem dX8_readNumber_24 : decode cX8_readNumber 24 = .ok (.dup, 1) := by decide +kernel
theorem dX8_readNumber_25 : decode cX8_readNumber 25 = .ok (.getfield 25, 3) := by decide +kernel
theorem dX8_readNumber_28 : decode cX8_readNumber 28 = .ok (.iconst 1, 1) := by decide +kernel
theorem dX8_readNumber_29 : decode cX8_readNumber 29 = .ok (.iadd, 1) := by decide +kernel
theorem dX8_readNumber_30 : decode cX8_readNumber 30 = .ok (.putfield 25, 3) := by decide +kernel
theorem dX8_readNumber_33 : decode cX8_readNumber 33 = .ok (.aload_n 0, 1) := by decide +kernel
theorem dX8_readNumber_34 : decode cX8_readNumber 34 = .ok (.iconst 2, 1) := by decide +kernel
theorem dX8_readNumber_35 : decode cX8_readNumber 35 = .ok (.putfield 38, 3) := by decide +kernel
theorem dX8_readNumber_38 : decode cX8_readNumber 38 = .ok (.aload_n 0, 1) := by decide +kernel
theorem dX8_readNumber_39 : decode cX8_readNumber 39 = .ok (.iconst 0, 1) := by decide +kernel
theorem dX8_readNumber_40 : decode cX8_readNumber 40 = .ok (.putfield 31, 3) := by decide +kernel
theorem dX8_readNumber_43 : decode cX8_readNumber 43 = .ok (.iconst 0, 1) := by decide +kernel
theorem dX8_readNumber_44 : decode cX8_readNumber 44 = .ok (.istore_n 2, 1) := by decide +kernel
theorem dX8_readNumber_45 : decode cX8_readNumber 45 = .ok (.iload_n 2, 1) := by decide +kernel
theorem dX8_readNumber_46 : decode cX8_readNumber 46 = .ok (.iconst 5, 1) := by decide +kernel
theorem dX8_readNumber_47 : decode cX8_readNumber 47 = .ok (.if_icmp .ge 56, 3) := by decide +kernel
theorem dX8_readNumber_50 : decode cX8_readNumber 50 = .ok (.aload_n 0, 1) := by decide +kernel
theorem dX8_readNumber_51 : decode cX8_readNumber 51 = .ok (.aload_n 0, 1) := by decide +kernel
theorem dX8_readNumber_52 : decode cX8_readNumber 52 = .ok (.getfield 25, 3) := by decide +kernel
theorem dX8_readNumber_55 : decode cX8_readNumber 55 = .ok (.invokevirtual 71, 3) := by decide +kernel
theorem dX8_readNumber_58 : decode cX8_readNumber 58 = .ok (.invokestatic 84, 3) := by decide +kernel
theorem dX8_readNumber_61 : decode cX8_readNumber 61 = .ok (.ifCond .eq 42, 3) := by decide +kernel
theorem dX8_readNumber_64 : decode cX8_readNumber 64 = .ok (.aload_n 0, 1) := by decide +kernel
theorem dX8_readNumber_65 : decode cX8_readNumber 65 = .ok (.aload_n 0, 1) := by decide +kernel
theorem dX8_readNumber_66 : decode cX8_readNumber 66 = .ok (.getfield 31, 3) := by decide +kernel
theorem dX8_readNumber_69 : decode cX8_readNumber 69 = .ok (.bipush 10, 2) := by decide +kernel
theorem dX8_readNumber_71 : decode cX8_readNumber 71 = .ok (.imul, 1) := by decide +kernel
theorem dX8_readNumber_72 : decode cX8_readNumber 72 = .ok (.aload_n 0, 1) := by decide +kernel
theorem dX8_readNumber_73 : decode cX8_readNumber 73 = .ok (.aload_n 0, 1) := by decide +kernel
theorem dX8_readNumber_74 : decode cX8_readNumber 74 = .ok (.getfield 25, 3) := by decide +kernel
theorem dX8_readNumber_77 : decode cX8_readNumber 77 = .ok (.invokevirtual 71, 3) := by decide +kernel
theorem dX8_readNumber_80 : decode cX8_readNumber 80 = .ok (.iadd, 1) := by decide +kernel
theorem dX8_readNumber_81 : decode cX8_readNumber 81 = .ok (.bipush 48, 2) := by decide +kernel
theorem dX8_readNumber_83 : decode cX8_readNumber 83 = .ok (.isub, 1) := by decide +kernel
theorem dX8_readNumber_84 : decode cX8_readNumber 84 = .ok (.putfield 31, 3) := by decide +kernel
theorem dX8_readNumber_87 : decode cX8_readNumber 87 = .ok (.aload_n 0, 1) := by decide +kernel
theorem dX8_readNumber_88 : decode cX8_readNumber 88 = .ok (.dup, 1) := by decide +kernel
theorem dX8_readNumber_89 : decode cX8_readNumber 89 = .ok (.getfield 25, 3) := by decide +kernel
theorem dX8_readNumber_92 : decode cX8_readNumber 92 = .ok (.iconst 1, 1) := by decide +kernel
theorem dX8_readNumber_93 : decode cX8_readNumber 93 = .ok (.iadd, 1) := by decide +kernel
theorem dX8_readNumber_94 : decode cX8_readNumber 94 = .ok (.putfield 25, 3) := by decide +kernel
theorem dX8_readNumber_97 : decode cX8_readNumber 97 = .ok (.iinc 2 1, 3) := by decide +kernel
theorem dX8_readNumber_100 : decode cX8_readNumber 100 = .ok (.goto (-55), 3) := by decide +kernel
theorem dX8_readNumber_103 : decode cX8_readNumber 103 = .ok (.iload_n 1, 1) := by decide +kernel
theorem dX8_readNumber_104 : decode cX8_readNumber 104 = .ok (.ifCond .eq 12, 3) := by decide +kernel
theorem dX8_readNumber_107 : decode cX8_readNumber 107 = .ok (.aload_n 0, 1) := by decide +kernel
theorem dX8_readNumber_108 : decode cX8_readNumber 108 = .ok (.aload_n 0, 1) := by decide +kernel
theorem dX8_readNumber_109 : decode cX8_readNumber 109 = .ok (.getfield 31, 3) := by decide +kernel
theorem dX8_readNumber_112 : decode cX8_readNumber 112 = .ok (.ineg, 1) := by decide +kernel
theorem dX8_readNumber_113 : decode cX8_readNumber 113 = .ok (.putfield 31, 3) := by decide +kernel
theorem dX8_readNumber_116 : decode cX8_readNumber 116 = .ok (.iload_n 2, 1) := by decide +kernel
theorem dX8_readNumber_117 : decode cX8_readNumber 117 = .ok (.ifCond .eq 17, 3) := by decide +kernel
theorem dX8_readNumber_120 : decode cX8_readNumber 120 = .ok (.aload_n 0, 1) := by decide +kernel
theorem dX8_readNumber_121 : decode cX8_readNumber 121 = .ok (.aload_n 0, 1) := by decide +kernel
theorem dX8_readNumber_122 : decode cX8_readNumber 122 = .ok (.getfield 25, 3) := by decide +kernel
theorem dX8_readNumber_125 : decode cX8_readNumber 125 = .ok (.invokevirtual 71, 3) := by decide +kernel
theorem dX8_readNumber_128 : decode cX8_readNumber 128 = .ok (.invokestatic 84, 3) := by decide +kernel
theorem dX8_readNumber_131 : decode cX8_readNumber 131 = .ok (.ifCond .eq 7, 3) := by decide +kernel
theorem dX8_readNumber_134 : decode cX8_readNumber 134 = .ok (.aload_n 0, 1) := by decide +kernel
theorem dX8_readNumber_135 : decode cX8_readNumber 135 = .ok (.invokevirtual 90, 3) := by decide +kernel
theorem dX8_readNumber_138 : decode cX8_readNumber 138 = .ok (.return_, 1) := by decide +kernel
def LF_X8_readNumber_45 (N : Nat) : Nat → Nat → Int32 → Int32 → MI → ML → MR → Option (Int32 × MI)
  | 0, _, _, _, _, _, _ => none
  | k + 1, y0, y1, y2, I, L, R =>
    if (5 : Int32) ≤ y2 then
      some (y2, I)
    else
      bn1 (F_X8_byteAt y0 (I y0 3) I L R) fun v15 =>
      bn1 (F_X8_isDigit v15 I L R) fun b17 =>
      if (b2i b17) = 0 then
        some (y2, I)
      else
        bn1 (F_X8_byteAt y0 (I y0 3) I L R) fun v20 =>
        wr (uI I y0 6 ((((I y0 6) * (10 : Int32)) + v20) - (48 : Int32))) fun (I22 : MI) =>
        wr (uI I22 y0 3 ((I22 y0 3) + (1 : Int32))) fun (I23 : MI) =>
        wr (y2 + (1 : Int32)) fun (u24 : Int32) =>
        LF_X8_readNumber_45 N k y0 y1 u24 I23 L R
def F_X8_readNumber (N : Nat) (x0 : Nat) (I : MI) (L : ML) (R : MR) : Option (MI) :=
  if kd x0 = 7 ∧ x0 < NN then
  bn1 (F_X8_byteAt x0 (I x0 3) I L R) fun v1 =>
  bn1 (
    if v1 = (45 : Int32) then
      some ((1 : Int32))
    else
      some ((0 : Int32))
  ) fun (s3 : Int32) =>
  bn1 (
    if s3 = 0 then
      some (I)
    else
      wr (uI I x0 3 ((I x0 3) + (1 : Int32))) fun (I11 : MI) =>
      some (I11)
  ) fun (I7 : MI) =>
  wr (uI I7 x0 4 (2 : Int32)) fun (I12 : MI) =>
  wr (uI I12 x0 6 (0 : Int32)) fun (I13 : MI) =>
  bn1 (LF_X8_readNumber_45 N N x0 s3 (0 : Int32) I13 L R) fun z25 =>
  bn1 (
    if s3 = 0 then
      some (z25.2)
    else
      wr (uI z25.2 x0 6 (-(z25.2 x0 6))) fun (I31 : MI) =>
      some (I31)
  ) fun (I27 : MI) =>
  if z25.1 = 0 then
    bn1 (F_X8_spoil x0 I27 L R) fun I33 =>
    some (I33)
  else
    bn1 (F_X8_byteAt x0 (I27 x0 3) I27 L R) fun v35 =>
    bn1 (F_X8_isDigit v35 I27 L R) fun b37 =>
    if (b2i b37) = 0 then
      some (I27)
    else
      bn1 (F_X8_spoil x0 I27 L R) fun I40 =>
      some (I40)
  else none
set_option maxRecDepth 100000 in
set_option maxHeartbeats 4000000 in
theorem lp_X8_readNumber_45 {G : Gm} (C0 : Cx G (yX8_readNumber.cls) cX8_readNumber none) (eNL : G.nL = 3) (erm : G.rm = ({ frames := 1, cells := 0, slots := 0, locals := 21 } : Room)) (N : Nat) : ∀ (k : Nat) (y0 : Nat) (y1 : Int32) (y2 : Int32) (I : MI) (L : ML) (R : MR) (z : Int32 × MI) (hk0 : kd y0 = 7) (ho0 : y0 < NN), LF_X8_readNumber_45 N k y0 y1 y2 I L R = some z → ∀ f : State → Prop, V G f 103 [(0, .ref (G.ad y0)), (1, .int y1), (2, .int z.1)] [] z.2 L R → V G f 45 [(0, .ref (G.ad y0)), (1, .int y1), (2, .int y2)] [] I L R := by
  intro k
  induction k with
  | zero =>
    intro y0 y1 y2 I L R q hk0 ho0 h
    exact absurd h (by simp [LF_X8_readNumber_45])
  | succ k ih =>
    intro y0 y1 y2 I L R q hk0 ho0 h f kx
    rw [LF_X8_readNumber_45] at h
    refine V_iload_n C0 2 rfl rfl dX8_readNumber_45 ?_
    refine V_iconst C0 (v := (5 : Int32)) (by decide) dX8_readNumber_46 ?_
    refine V_icmp_ge C0 (tgt := 103) (by decide) dX8_readNumber_47 (fun c14 => ?_) (fun c14 => ?_)
    · have h := (if_pos c14).symm.trans h
      cases h
      exact V_sub [0, 1, 2] rfl kx
    · have h := (if_neg c14).symm.trans h
      refine V_aload_n C0 0 rfl rfl dX8_readNumber_50 ?_
      refine V_aload_n C0 0 rfl rfl dX8_readNumber_51 ?_
      refine V_getI C0 7 3 fl_X8_25 ho0 hk0 rfl dX8_readNumber_52 ?_
      obtain ⟨v15, q16, h⟩ := bn1_some h
      refine V_callV C0 (st := []) (As := [.int (I y0 3)]) 7 (c_X8_byteAt G.l G.D G.cA G.ad G.bs G.X C0.2.2.2.2.2.2.2.2.2.1 C0.2.2.2.2.2.2.2.2.2.2.2.2 y0 (I y0 3) I L R v15 q16) lc_X8_byteAt lk_X8_71 ho0 hk0 ⟨_, rfl, rfl⟩ rfl (by rw [erm]; decide) (Nat.le_of_ble_eq_true rfl) dX8_readNumber_55 ?_
      show V G _ 58 [(0, .ref (G.ad y0)), (1, .int y1), (2, .int y2)] [.int v15] I L R
      obtain ⟨b17, q18, h⟩ := bn1_some h
      refine V_callS C0 (st := []) (As := [.int v15]) (c_X8_isDigit G.l G.D G.cA G.ad G.bs G.X C0.2.2.2.2.2.2.2.2.2.1 C0.2.2.2.2.2.2.2.2.2.2.2.2 v15 I L R b17 q18) lc_X8_isDigit lk_X8_84 rfl (by rw [erm]; decide) (Nat.le_of_ble_eq_true rfl) dX8_readNumber_58 ?_
      show V G _ 61 [(0, .ref (G.ad y0)), (1, .int y1), (2, .int y2)] [.int (b2i b17)] I L R
      refine V_if_eq C0 (tgt := 103) (by decide) dX8_readNumber_61 (fun c19 => ?_) (fun c19 => ?_)
      · have h := (if_pos c19).symm.trans h
        cases h
        exact V_sub [0, 1, 2] rfl kx
      · have h := (if_neg c19).symm.trans h
        refine V_aload_n C0 0 rfl rfl dX8_readNumber_64 ?_
        refine V_aload_n C0 0 rfl rfl dX8_readNumber_65 ?_
        refine V_getI C0 7 6 fl_X8_31 ho0 hk0 rfl dX8_readNumber_66 ?_
        refine V_bipush C0 (v := (10 : Int32)) (by decide) dX8_readNumber_69 ?_
        refine V_imul C0 dX8_readNumber_71 ?_
        refine V_aload_n C0 0 rfl rfl dX8_readNumber_72 ?_
        refine V_aload_n C0 0 rfl rfl dX8_readNumber_73 ?_
        refine V_getI C0 7 3 fl_X8_25 ho0 hk0 rfl dX8_readNumber_74 ?_
        obtain ⟨v20, q21, h⟩ := bn1_some h
        refine V_callV C0 (st := [.int ((I y0 6) * (10 : Int32)), .ref (G.ad y0)]) (As := [.int (I y0 3)]) 7 (c_X8_byteAt G.l G.D G.cA G.ad G.bs G.X C0.2.2.2.2.2.2.2.2.2.1 C0.2.2.2.2.2.2.2.2.2.2.2.2 y0 (I y0 3) I L R v20 q21) lc_X8_byteAt lk_X8_71 ho0 hk0 ⟨_, rfl, rfl⟩ rfl (by rw [erm]; decide) (Nat.le_of_ble_eq_true rfl) dX8_readNumber_77 ?_
        show V G _ 80 [(0, .ref (G.ad y0)), (1, .int y1), (2, .int y2)] [.int v20, .int ((I y0 6) * (10 : Int32)), .ref (G.ad y0)] I L R
        refine V_iadd C0 dX8_readNumber_80 ?_
        refine V_bipush C0 (v := (48 : Int32)) (by decide) dX8_readNumber_81 ?_
        refine V_isub C0 dX8_readNumber_83 ?_
        obtain ⟨I22, eI22, h⟩ := wr_some h
        refine V_putI C0 7 6 fp_X8_31 ho0 hk0 rfl dX8_readNumber_84 ?_
        rw [← eI22]
        refine V_aload_n C0 0 rfl rfl dX8_readNumber_87 ?_
        refine V_dup C0 rfl dX8_readNumber_88 ?_
        refine V_getI C0 7 3 fl_X8_25 ho0 hk0 rfl dX8_readNumber_89 ?_
        refine V_iconst C0 (v := (1 : Int32)) (by decide) dX8_readNumber_92 ?_
        refine V_iadd C0 dX8_readNumber_93 ?_
        obtain ⟨I23, eI23, h⟩ := wr_some h
        refine V_putI C0 7 3 fp_X8_25 ho0 hk0 rfl dX8_readNumber_94 ?_
        rw [← eI23]
        obtain ⟨u24, eu24, h⟩ := wr_some h
        refine V_iinc C0 2 [(2, .int u24), (0, .ref (G.ad y0)), (1, .int y1)] rfl (n := 1) (by rw [eu24]; rfl) (by rw [eNL]; decide) rfl dX8_readNumber_97 ?_
        refine V_goto C0 (tgt := 45) (by decide) dX8_readNumber_100 ?_
        exact V_sub [1, 2, 0] rfl (ih y0 y1 u24 I23 L R _ hk0 ho0 h f kx)
set_option maxRecDepth 100000 in
set_option maxHeartbeats 4000000 in
theorem c_X8_readNumber (l : Launch) (D : va_G) (cA : Nat → ClassId) (ad : Nat → Nat) (bs : Nat) (X : State → Prop) (hAd : Ax ad bs) (hX : Stb bs X) (N : Nat) (x0 : Nat) (I : MI) (L : ML) (R : MR) (I' : MI) (h : F_X8_readNumber N x0 I L R = some (I')) : Cn l D cA ad bs X yX8_readNumber cX8_readNumber 3 none 1 21 [.ref (ad x0)] I L R (none, I', L, R) := by
  refine Cn.ofV hAd hX [(0, .ref (ad x0))] rfl (Nat.le_of_ble_eq_true rfl) (by decide) ?_
  intro G el eD ecA ead ebs eX erm eNL C0
  subst el eD ecA ead ebs eX
  unfold F_X8_readNumber at h
  obtain ⟨c_x0, h⟩ := ite_some h
  refine V_aload_n C0 0 rfl rfl dX8_readNumber_0 ?_
  refine V_aload_n C0 0 rfl rfl dX8_readNumber_1 ?_
  refine V_getI C0 7 3 fl_X8_25 c_x0.2 c_x0.1 rfl dX8_readNumber_2 ?_
  obtain ⟨v1, q2, h⟩ := bn1_some h
  refine V_callV C0 (st := []) (As := [.int (I x0 3)]) 7 (c_X8_byteAt G.l G.D G.cA G.ad G.bs G.X C0.2.2.2.2.2.2.2.2.2.1 C0.2.2.2.2.2.2.2.2.2.2.2.2 x0 (I x0 3) I L R v1 q2) lc_X8_byteAt lk_X8_71 c_x0.2 c_x0.1 ⟨_, rfl, rfl⟩ rfl (by rw [erm]; decide) (Nat.le_of_ble_eq_true rfl) dX8_readNumber_5 ?_
  show V G _ 8 [(0, .ref (G.ad x0))] [.int v1] I L R
  refine V_bipush C0 (v := (45 : Int32)) (by decide) dX8_readNumber_8 ?_
  obtain ⟨s3, q4, h⟩ := bn1_some h
  have k5 : V G (qf G (none, I', L, R)) 18 [(0, .ref (G.ad x0))] [.int s3] I L R := by
    refine V_istore_n C0 [(1, .int s3), (0, .ref (G.ad x0))] rfl (by rw [eNL]; decide) rfl dX8_readNumber_18 ?_
    refine V_iload_n C0 0 rfl rfl dX8_readNumber_19 ?_
    obtain ⟨I7, q8, h⟩ := bn1_some h
    have k9 : V G (qf G (none, I', L, R)) 33 [(0, .ref (G.ad x0)), (1, .int s3)] [] I7 L R := by
      refine V_aload_n C0 0 rfl rfl dX8_readNumber_33 ?_
      refine V_iconst C0 (v := (2 : Int32)) (by decide) dX8_readNumber_34 ?_
      obtain ⟨I12, eI12, h⟩ := wr_some h
      refine V_putI C0 7 4 fp_X8_38 c_x0.2 c_x0.1 rfl dX8_readNumber_35 ?_
      rw [← eI12]
      refine V_aload_n C0 0 rfl rfl dX8_readNumber_38 ?_
      refine V_iconst C0 (v := (0 : Int32)) (by decide) dX8_readNumber_39 ?_
      obtain ⟨I13, eI13, h⟩ := wr_some h
      refine V_putI C0 7 6 fp_X8_31 c_x0.2 c_x0.1 rfl dX8_readNumber_40 ?_
      rw [← eI13]
      refine V_iconst C0 (v := (0 : Int32)) (by decide) dX8_readNumber_43 ?_
      refine V_istore_n C0 [(2, .int (0 : Int32)), (0, .ref (G.ad x0)), (1, .int s3)] rfl (by rw [eNL]; decide) rfl dX8_readNumber_44 ?_
      obtain ⟨z25, q26, h⟩ := bn1_some h
      refine V_sub [1, 2, 0] rfl (lp_X8_readNumber_45 C0 eNL erm N N x0 s3 (0 : Int32) I13 L R _ c_x0.1 c_x0.2 q26 _ ?_)
      show V G _ 103 [(0, .ref (G.ad x0)), (1, .int s3), (2, .int z25.1)] [] z25.2 L R
      refine V_iload_n C0 1 rfl rfl dX8_readNumber_103 ?_
      obtain ⟨I27, q28, h⟩ := bn1_some h
      have k29 : V G (qf G (none, I', L, R)) 116 [(0, .ref (G.ad x0)), (2, .int z25.1)] [] I27 L R := by
        refine V_iload_n C0 1 rfl rfl dX8_readNumber_116 ?_
        refine V_if_eq C0 (tgt := 134) (by decide) dX8_readNumber_117 (fun c32 => ?_) (fun c32 => ?_)
        · have h := (if_pos c32).symm.trans h
          refine V_aload_n C0 0 rfl rfl dX8_readNumber_134 ?_
          obtain ⟨I33, q34, h⟩ := bn1_some h
          refine V_callV C0 (st := []) (As := []) 7 (c_X8_spoil G.l G.D G.cA G.ad G.bs G.X C0.2.2.2.2.2.2.2.2.2.1 C0.2.2.2.2.2.2.2.2.2.2.2.2 x0 I27 L R I33 q34) lc_X8_spoil lk_X8_90 c_x0.2 c_x0.1 ⟨_, rfl, rfl⟩ rfl (by rw [erm]; decide) (Nat.le_of_ble_eq_true rfl) dX8_readNumber_135 ?_
          show V G _ 138 [(0, .ref (G.ad x0)), (2, .int z25.1)] [] I33 L R
          cases h
          exact V_vret C0 dX8_readNumber_138
        · have h := (if_neg c32).symm.trans h
          refine V_aload_n C0 0 rfl rfl dX8_readNumber_120 ?_
          refine V_aload_n C0 0 rfl rfl dX8_readNumber_121 ?_
          refine V_getI C0 7 3 fl_X8_25 c_x0.2 c_x0.1 rfl dX8_readNumber_122 ?_
          obtain ⟨v35, q36, h⟩ := bn1_some h
          refine V_callV C0 (st := []) (As := [.int (I27 x0 3)]) 7 (c_X8_byteAt G.l G.D G.cA G.ad G.bs G.X C0.2.2.2.2.2.2.2.2.2.1 C0.2.2.2.2.2.2.2.2.2.2.2.2 x0 (I27 x0 3) I27 L R v35 q36) lc_X8_byteAt lk_X8_71 c_x0.2 c_x0.1 ⟨_, rfl, rfl⟩ rfl (by rw [erm]; decide) (Nat.le_of_ble_eq_true rfl) dX8_readNumber_125 ?_
          show V G _ 128 [(0, .ref (G.ad x0)), (2, .int z25.1)] [.int v35] I27 L R
          obtain ⟨b37, q38, h⟩ := bn1_some h
          refine V_callS C0 (st := []) (As := [.int v35]) (c_X8_isDigit G.l G.D G.cA G.ad G.bs G.X C0.2.2.2.2.2.2.2.2.2.1 C0.2.2.2.2.2.2.2.2.2.2.2.2 v35 I27 L R b37 q38) lc_X8_isDigit lk_X8_84 rfl (by rw [erm]; decide) (Nat.le_of_ble_eq_true rfl) dX8_readNumber_128 ?_
          show V G _ 131 [(0, .ref (G.ad x0)), (2, .int z25.1)] [.int (b2i b37)] I27 L R
          refine V_if_eq C0 (tgt := 138) (by decide) dX8_readNumber_131 (fun c39 => ?_) (fun c39 => ?_)
          · have h := (if_pos c39).symm.trans h
            cases h
            exact V_vret C0 dX8_readNumber_138
          · have h := (if_neg c39).symm.trans h
            refine V_aload_n C0 0 rfl rfl dX8_readNumber_134 ?_
            obtain ⟨I40, q41, h⟩ := bn1_some h
            refine V_callV C0 (st := []) (As := []) 7 (c_X8_spoil G.l G.D G.cA G.ad G.bs G.X C0.2.2.2.2.2.2.2.2.2.1 C0.2.2.2.2.2.2.2.2.2.2.2.2 x0 I27 L R I40 q41) lc_X8_spoil lk_X8_90 c_x0.2 c_x0.1 ⟨_, rfl, rfl⟩ rfl (by rw [erm]; decide) (Nat.le_of_ble_eq_true rfl) dX8_readNumber_135 ?_
            show V G _ 138 [(0, .ref (G.ad x0)), (2, .int z25.1)] [] I40 L R
            cases h
            exact V_vret C0 dX8_readNumber_138
      refine V_if_eq C0 (tgt := 116) (by decide) dX8_readNumber_104 (fun c30 => ?_) (fun c30 => ?_)
      · have q28 := (if_pos c30).symm.trans q28
        cases q28
        exact V_sub [0, 2] rfl k29
      · have q28 := (if_neg c30).symm.trans q28
        refine V_aload_n C0 0 rfl rfl dX8_readNumber_107 ?_
        refine V_aload_n C0 0 rfl rfl dX8_readNumber_108 ?_
        refine V_getI C0 7 6 fl_X8_31 c_x0.2 c_x0.1 rfl dX8_readNumber_109 ?_
        refine V_ineg C0 dX8_readNumber_112 ?_
        obtain ⟨I31, eI31, q28⟩ := wr_some q28
        refine V_putI C0 7 6 fp_X8_31 c_x0.2 c_x0.1 rfl dX8_readNumber_113 ?_
        rw [← eI31]
        cases q28
        exact V_sub [0, 2] rfl k29
    refine V_if_eq C0 (tgt := 33) (by decide) dX8_readNumber_20 (fun c10 => ?_) (fun c10 => ?_)
    · have q8 := (if_pos c10).symm.trans q8
      cases q8
      exact V_sub [1, 0] rfl k9
    · have q8 := (if_neg c10).symm.trans q8
      refine V_aload_n C0 1 rfl rfl dX8_readNumber_23 ?_
      refine V_dup C0 rfl dX8_readNumber_24 ?_
      refine V_getI C0 7 3 fl_X8_25 c_x0.2 c_x0.1 rfl dX8_readNumber_25 ?_
      refine V_iconst C0 (v := (1 : Int32)) (by decide) dX8_readNumber_28 ?_
      refine V_iadd C0 dX8_readNumber_29 ?_
      obtain ⟨I11, eI11, q8⟩ := wr_some q8
      refine V_putI C0 7 3 fp_X8_25 c_x0.2 c_x0.1 rfl dX8_readNumber_30 ?_
      rw [← eI11]
      cases q8
      exact V_sub [1, 0] rfl k9
  refine V_icmp_ne C0 (tgt := 17) (by decide) dX8_readNumber_10 (fun c6 => ?_) (fun c6 => ?_)
  · have q4 := (if_neg c6).symm.trans q4
    refine V_iconst C0 (v := (0 : Int32)) (by decide) dX8_readNumber_17 ?_
    cases q4
    exact V_sub [0] rfl k5
  · have q4 := (if_pos c6).symm.trans q4
    refine V_iconst C0 (v := (1 : Int32)) (by decide) dX8_readNumber_13 ?_
    refine V_goto C0 (tgt := 18) (by decide) dX8_readNumber_14 ?_
    cases q4
    exact V_sub [0] rfl k5
theorem dX8_next_0 : decode cX8_next 0 = .ok (.aload_n 0, 1) := by decide +kernel
theorem dX8_next_1 : decode cX8_next 1 = .ok (.getfield 25, 3) := by decide +kernel
theorem dX8_next_4 : decode cX8_next 4 = .ok (.aload_n 0, 1) := by decide +kernel
theorem dX8_next_5 : decode cX8_next 5 = .ok (.getfield 22, 3) := by decide +kernel
theorem dX8_next_8 : decode cX8_next 8 = .ok (.if_icmp .ge 30, 3) := by decide +kernel
theorem dX8_next_11 : decode cX8_next 11 = .ok (.aload_n 0, 1) := by decide +kernel
theorem dX8_next_12 : decode cX8_next 12 = .ok (.aload_n 0, 1) := by decide +kernel
theorem dX8_next_13 : decode cX8_next 13 = .ok (.getfield 25, 3) := by decide +kernel
theorem dX8_next_16 : decode cX8_next 16 = .ok (.invokevirtual 71, 3) := by decide +kernel
theorem dX8_next_19 : decode cX8_next 19 = .ok (.invokestatic 75, 3) := by decide +kernel
theorem dX8_next_22 : decode cX8_next 22 = .ok (.ifCond .eq 16, 3) := by decide +kernel
theorem dX8_next_25 : decode cX8_next 25 = .ok (.aload_n 0, 1) := by decide +kernel
theorem dX8_next_26 : decode cX8_next 26 = .ok (.dup, 1) := by decide +kernel
theorem dX8_next_27 : decode cX8_next 27 = .ok (.getfield 25, 3) := by decide +kernel
theorem dX8_next_30 : decode cX8_next 30 = .ok (.iconst 1, 1) := by decide +kernel
theorem dX8_next_31 : decode cX8_next 31 = .ok (.iadd, 1) := by decide +kernel
theorem dX8_next_32 : decode cX8_next 32 = .ok (.putfield 25, 3) := by decide +kernel
theorem dX8_next_35 : decode cX8_next 35 = .ok (.goto (-35), 3) := by decide +kernel
theorem dX8_next_38 : decode cX8_next 38 = .ok (.aload_n 0, 1) := by decide +kernel
theorem dX8_next_39 : decode cX8_next 39 = .ok (.aload_n 0, 1) := by decide +kernel
theorem dX8_next_40 : decode cX8_next 40 = .ok (.getfield 25, 3) := by decide +kernel
theorem dX8_next_43 : decode cX8_next 43 = .ok (.putfield 54, 3) := by decide +kernel
theorem dX8_next_46 : decode cX8_next 46 = .ok (.aload_n 0, 1) := by decide +kernel
theorem dX8_next_47 : decode cX8_next 47 = .ok (.aload_n 0, 1) := by decide +kernel
theorem dX8_next_48 : decode cX8_next 48 = .ok (.getfield 25, 3) := by decide +kernel
theorem dX8_next_51 : decode cX8_next 51 = .ok (.invokevirtual 71, 3) := by decide +kernel
theorem dX8_next_54 : decode cX8_next 54 = .ok (.istore_n 1, 1) := by decide +kernel
theorem dX8_next_55 : decode cX8_next 55 = .ok (.iload_n 1, 1) := by decide +kernel
theorem dX8_next_56 : decode cX8_next 56 = .ok (.iconst (-1), 1) := by decide +kernel
theorem dX8_next_57 : decode cX8_next 57 = .ok (.if_icmp .ne 11, 3) := by decide +kernel
theorem dX8_next_60 : decode cX8_next 60 = .ok (.aload_n 0, 1) := by decide +kernel
theorem dX8_next_61 : decode cX8_next 61 = .ok (.iconst 0, 1) := by decide +kernel
theorem dX8_next_62 : decode cX8_next 62 = .ok (.putfield 38, 3) := by decide +kernel
theorem dX8_next_65 : decode cX8_next 65 = .ok (.goto 82, 3) := by decide +kernel
theorem dX8_next_68 : decode cX8_next 68 = .ok (.iload_n 1, 1) := by decide +kernel
theorem dX8_next_69 : decode cX8_next 69 = .ok (.invokestatic 78, 3) := by decide +kernel
theorem dX8_next_72 : decode cX8_next 72 = .ok (.ifCond .eq 10, 3) := by decide +kernel
theorem dX8_next_75 : decode cX8_next 75 = .ok (.aload_n 0, 1) := by decide +kernel
theorem dX8_next_76 : decode cX8_next 76 = .ok (.invokevirtual 81, 3) := by decide +kernel
theorem dX8_next_79 : decode cX8_next 79 = .ok (.goto 68, 3) := by decide +kernel
theorem dX8_next_82 : decode cX8_next 82 = .ok (.iload_n 1, 1) := by decide +kernel
theorem dX8_next_83 : decode cX8_next 83 = .ok (.invokestatic 84, 3) := by decide +kernel
theorem dX8_next_86 : decode cX8_next 86 = .ok (.ifCond .ne 9, 3) := by decide +kernel
theorem dX8_next_89 : decode cX8_next 89 = .ok (.iload_n 1, 1) := by decide +kernel
theorem dX8_next_90 : decode cX8_next 90 = .ok (.bipush 45, 2) := by decide +kernel
theorem dX8_next_92 : decode cX8_next 92 = .ok (.if_icmp .ne 10, 3) := by decide +kernel
theorem dX8_next_95 : decode cX8_next 95 = .ok (.aload_n 0, 1) := by decide +kernel
theorem dX8_next_96 : decode cX8_next 96 = .ok (.invokevirtual 87, 3) := by decide +kernel
theorem dX8_next_99 : decode cX8_next 99 = .ok (.goto 48, 3) := by decide +kernel
theorem dX8_next_102 : decode cX8_next 102 = .ok (.iload_n 1, 1) := by decide +kernel
theorem dX8_next_103 : decode cX8_next 103 = .ok (.bipush 59, 2) := by decide +kernel
theorem dX8_next_105 : decode cX8_next 105 = .ok (.if_icmp .eq 15, 3) := by decide +kernel
theorem dX8_next_108 : decode cX8_next 108 = .ok (.iload_n 1, 1) := by decide +kernel
theorem dX8_next_109 : decode cX8_next 109 = .ok (.bipush 60, 2) := by decide +kernel
theorem dX8_next_111 : decode cX8_next 111 = .ok (.if_icmp .eq 9, 3) := by decide +kernel
theorem dX8_next_114 : decode cX8_next 114 = .ok (.iload_n 1, 1) := by decide +kernel
theorem dX8_next_115 : decode cX8_next 115 = .ok (.bipush 62, 2) := by decide +kernel
theorem dX8_next_117 : decode cX8_next 117 = .ok (.if_icmp .ne 26, 3) := by decide +kernel
theorem dX8_next_120 : decode cX8_next 120 = .ok (.aload_n 0, 1) := by decide +kernel
theorem dX8_next_121 : decode cX8_next 121 = .ok (.iconst 3, 1) := by decide +kernel
theorem dX8_next_122 : decode cX8_next 122 = .ok (.putfield 38, 3) := by decide +kernel
theorem dX8_next_125 : decode cX8_next 125 = .ok (.aload_n 0, 1) := by decide +kernel
theorem dX8_next_126 : decode cX8_next 126 = .ok (.iload_n 1, 1) := by decide +kernel
theorem dX8_next_127 : decode cX8_next 127 = .ok (.putfield 31, 3) := by decide +kernel
theorem dX8_next_130 : decode cX8_next 130 = .ok (.aload_n 0, 1) := by decide +kernel
theorem dX8_next_131 : decode cX8_next 131 = .ok (.dup, 1) := by decide +kernel
theorem dX8_next_132 : decode cX8_next 132 = .ok (.getfield 25, 3) := by decide +kernel
theorem dX8_next_135 : decode cX8_next 135 = .ok (.iconst 1, 1) := by decide +kernel
theorem dX8_next_136 : decode cX8_next 136 = .ok (.iadd, 1) := by decide +kernel
theorem dX8_next_137 : decode cX8_next 137 = .ok (.putfield 25, 3) := by decide +kernel
theorem dX8_next_140 : decode cX8_next 140 = .ok (.goto 7, 3) := by decide +kernel
theorem dX8_next_143 : decode cX8_next 143 = .ok (.aload_n 0, 1) := by decide +kernel
theorem dX8_next_144 : decode cX8_next 144 = .ok (.invokevirtual 90, 3) := by decide +kernel
theorem dX8_next_147 : decode cX8_next 147 = .ok (.return_, 1) := by decide +kernel
def LF_X8_next_0 (N : Nat) : Nat → Nat → MI → ML → MR → Option (MI)
  | 0, _, _, _, _ => none
  | k + 1, y0, I, L, R =>
    if (I y0 2) ≤ (I y0 3) then
      some (I)
    else
      bn1 (F_X8_byteAt y0 (I y0 3) I L R) fun v2 =>
      bn1 (F_X8_isBlank v2 I L R) fun b4 =>
      if (b2i b4) = 0 then
        some (I)
      else
        wr (uI I y0 3 ((I y0 3) + (1 : Int32))) fun (I7 : MI) =>
        LF_X8_next_0 N k y0 I7 L R
def F_X8_next (N : Nat) (x0 : Nat) (I : MI) (L : ML) (R : MR) : Option (MI × ML) :=
  if kd x0 = 7 ∧ x0 < NN then
  bn1 (LF_X8_next_0 N N x0 I L R) fun z8 =>
  wr (uI z8 x0 5 (z8 x0 3)) fun (I10 : MI) =>
  bn1 (F_X8_byteAt x0 (I10 x0 3) I10 L R) fun v11 =>
  if v11 = (-1 : Int32) then
    wr (uI I10 x0 4 (0 : Int32)) fun (I42 : MI) =>
    some (I42, L)
  else
    bn1 (F_X8_isLetter v11 I10 L R) fun b14 =>
    if (b2i b14) = 0 then
      bn1 (F_X8_isDigit v11 I10 L R) fun b17 =>
      if (b2i b17) = 0 then
        if v11 = (45 : Int32) then
          bn1 (F_X8_readNumber N x0 I10 L R) fun I37 =>
          some (I37, L)
        else
          if v11 = (59 : Int32) then
            wr (uI I10 x0 4 (3 : Int32)) fun (I24 : MI) =>
            wr (uI I24 x0 6 v11) fun (I25 : MI) =>
            wr (uI I25 x0 3 ((I25 x0 3) + (1 : Int32))) fun (I26 : MI) =>
            some (I26, L)
          else
            if v11 = (60 : Int32) then
              wr (uI I10 x0 4 (3 : Int32)) fun (I28 : MI) =>
              wr (uI I28 x0 6 v11) fun (I29 : MI) =>
              wr (uI I29 x0 3 ((I29 x0 3) + (1 : Int32))) fun (I30 : MI) =>
              some (I30, L)
            else
              if v11 = (62 : Int32) then
                wr (uI I10 x0 4 (3 : Int32)) fun (I34 : MI) =>
                wr (uI I34 x0 6 v11) fun (I35 : MI) =>
                wr (uI I35 x0 3 ((I35 x0 3) + (1 : Int32))) fun (I36 : MI) =>
                some (I36, L)
              else
                bn1 (F_X8_spoil x0 I10 L R) fun I32 =>
                some (I32, L)
      else
        bn1 (F_X8_readNumber N x0 I10 L R) fun I20 =>
        some (I20, L)
    else
      bn2 (F_X8_readWord N x0 I10 L R) fun I39 L40 =>
      some (I39, L40)
  else none
set_option maxRecDepth 100000 in
set_option maxHeartbeats 4000000 in
theorem lp_X8_next_0 {G : Gm} (C0 : Cx G (yX8_next.cls) cX8_next none) (eNL : G.nL = 2) (erm : G.rm = ({ frames := 2, cells := 0, slots := 0, locals := 43 } : Room)) (N : Nat) : ∀ (k : Nat) (y0 : Nat) (I : MI) (L : ML) (R : MR) (z : MI) (hk0 : kd y0 = 7) (ho0 : y0 < NN), LF_X8_next_0 N k y0 I L R = some z → ∀ f : State → Prop, V G f 38 [(0, .ref (G.ad y0))] [] z L R → V G f 0 [(0, .ref (G.ad y0))] [] I L R := by
  intro k
  induction k with
  | zero =>
    intro y0 I L R q hk0 ho0 h
    exact absurd h (by simp [LF_X8_next_0])
  | succ k ih =>
    intro y0 I L R q hk0 ho0 h f kx
    rw [LF_X8_next_0] at h
    refine V_aload_n C0 0 rfl rfl dX8_next_0 ?_
    refine V_getI C0 7 3 fl_X8_25 ho0 hk0 rfl dX8_next_1 ?_
    refine V_aload_n C0 0 rfl rfl dX8_next_4 ?_
    refine V_getI C0 7 2 fl_X8_22 ho0 hk0 rfl dX8_next_5 ?_
    refine V_icmp_ge C0 (tgt := 38) (by decide) dX8_next_8 (fun c1 => ?_) (fun c1 => ?_)
    · have h := (if_pos c1).symm.trans h
      cases h
      exact V_sub [0] rfl kx
    · have h := (if_neg c1).symm.trans h
      refine V_aload_n C0 0 rfl rfl dX8_next_11 ?_
      refine V_aload_n C0 0 rfl rfl dX8_next_12 ?_
      refine V_getI C0 7 3 fl_X8_25 ho0 hk0 rfl dX8_next_13 ?_
      obtain ⟨v2, q3, h⟩ := bn1_some h
      refine V_callV C0 (st := []) (As := [.int (I y0 3)]) 7 (c_X8_byteAt G.l G.D G.cA G.ad G.bs G.X C0.2.2.2.2.2.2.2.2.2.1 C0.2.2.2.2.2.2.2.2.2.2.2.2 y0 (I y0 3) I L R v2 q3) lc_X8_byteAt lk_X8_71 ho0 hk0 ⟨_, rfl, rfl⟩ rfl (by rw [erm]; decide) (Nat.le_of_ble_eq_true rfl) dX8_next_16 ?_
      show V G _ 19 [(0, .ref (G.ad y0))] [.int v2] I L R
      obtain ⟨b4, q5, h⟩ := bn1_some h
      refine V_callS C0 (st := []) (As := [.int v2]) (c_X8_isBlank G.l G.D G.cA G.ad G.bs G.X C0.2.2.2.2.2.2.2.2.2.1 C0.2.2.2.2.2.2.2.2.2.2.2.2 v2 I L R b4 q5) lc_X8_isBlank lk_X8_75 rfl (by rw [erm]; decide) (Nat.le_of_ble_eq_true rfl) dX8_next_19 ?_
      show V G _ 22 [(0, .ref (G.ad y0))] [.int (b2i b4)] I L R
      refine V_if_eq C0 (tgt := 38) (by decide) dX8_next_22 (fun c6 => ?_) (fun c6 => ?_)
      · have h := (if_pos c6).symm.trans h
        cases h
        exact V_sub [0] rfl kx
      · have h := (if_neg c6).symm.trans h
        refine V_aload_n C0 0 rfl rfl dX8_next_25 ?_
        refine V_dup C0 rfl dX8_next_26 ?_
        refine V_getI C0 7 3 fl_X8_25 ho0 hk0 rfl dX8_next_27 ?_
        refine V_iconst C0 (v := (1 : Int32)) (by decide) dX8_next_30 ?_
        refine V_iadd C0 dX8_next_31 ?_
        obtain ⟨I7, eI7, h⟩ := wr_some h
        refine V_putI C0 7 3 fp_X8_25 ho0 hk0 rfl dX8_next_32 ?_
        rw [← eI7]
        refine V_goto C0 (tgt := 0) (by decide) dX8_next_35 ?_
        exact V_sub [0] rfl (ih y0 I7 L R _ hk0 ho0 h f kx)
set_option maxRecDepth 100000 in
set_option maxHeartbeats 4000000 in
theorem c_X8_next (l : Launch) (D : va_G) (cA : Nat → ClassId) (ad : Nat → Nat) (bs : Nat) (X : State → Prop) (hAd : Ax ad bs) (hX : Stb bs X) (N : Nat) (x0 : Nat) (I : MI) (L : ML) (R : MR) (I' : MI) (L' : ML) (h : F_X8_next N x0 I L R = some (I', L')) : Cn l D cA ad bs X yX8_next cX8_next 2 none 2 43 [.ref (ad x0)] I L R (none, I', L', R) := by
  refine Cn.ofV hAd hX [(0, .ref (ad x0))] rfl (Nat.le_of_ble_eq_true rfl) (by decide) ?_
  intro G el eD ecA ead ebs eX erm eNL C0
  subst el eD ecA ead ebs eX
  unfold F_X8_next at h
  obtain ⟨c_x0, h⟩ := ite_some h
  obtain ⟨z8, q9, h⟩ := bn1_some h
  refine V_sub [0] rfl (lp_X8_next_0 C0 eNL erm N N x0 I L R _ c_x0.1 c_x0.2 q9 _ ?_)
  show V G _ 38 [(0, .ref (G.ad x0))] [] z8 L R
  refine V_aload_n C0 0 rfl rfl dX8_next_38 ?_
  refine V_aload_n C0 0 rfl rfl dX8_next_39 ?_
  refine V_getI C0 7 3 fl_X8_25 c_x0.2 c_x0.1 rfl dX8_next_40 ?_
  obtain ⟨I10, eI10, h⟩ := wr_some h
  refine V_putI C0 7 5 fp_X8_54 c_x0.2 c_x0.1 rfl dX8_next_43 ?_
  rw [← eI10]
  refine V_aload_n C0 0 rfl rfl dX8_next_46 ?_
  refine V_aload_n C0 0 rfl rfl dX8_next_47 ?_
  refine V_getI C0 7 3 fl_X8_25 c_x0.2 c_x0.1 rfl dX8_next_48 ?_
  obtain ⟨v11, q12, h⟩ := bn1_some h
  refine V_callV C0 (st := []) (As := [.int (I10 x0 3)]) 7 (c_X8_byteAt G.l G.D G.cA G.ad G.bs G.X C0.2.2.2.2.2.2.2.2.2.1 C0.2.2.2.2.2.2.2.2.2.2.2.2 x0 (I10 x0 3) I10 L R v11 q12) lc_X8_byteAt lk_X8_71 c_x0.2 c_x0.1 ⟨_, rfl, rfl⟩ rfl (by rw [erm]; decide) (Nat.le_of_ble_eq_true rfl) dX8_next_51 ?_
  show V G _ 54 [(0, .ref (G.ad x0))] [.int v11] I10 L R
  refine V_istore_n C0 [(1, .int v11), (0, .ref (G.ad x0))] rfl (by rw [eNL]; decide) rfl dX8_next_54 ?_
  refine V_iload_n C0 0 rfl rfl dX8_next_55 ?_
  refine V_iconst C0 (v := (-1 : Int32)) (by decide) dX8_next_56 ?_
  refine V_icmp_ne C0 (tgt := 68) (by decide) dX8_next_57 (fun c13 => ?_) (fun c13 => ?_)
  · have h := (if_neg c13).symm.trans h
    refine V_iload_n C0 0 rfl rfl dX8_next_68 ?_
    obtain ⟨b14, q15, h⟩ := bn1_some h
    refine V_callS C0 (st := []) (As := [.int v11]) (c_X8_isLetter G.l G.D G.cA G.ad G.bs G.X C0.2.2.2.2.2.2.2.2.2.1 C0.2.2.2.2.2.2.2.2.2.2.2.2 v11 I10 L R b14 q15) lc_X8_isLetter lk_X8_78 rfl (by rw [erm]; decide) (Nat.le_of_ble_eq_true rfl) dX8_next_69 ?_
    show V G _ 72 [(1, .int v11), (0, .ref (G.ad x0))] [.int (b2i b14)] I10 L R
    refine V_if_eq C0 (tgt := 82) (by decide) dX8_next_72 (fun c16 => ?_) (fun c16 => ?_)
    · have h := (if_pos c16).symm.trans h
      refine V_iload_n C0 0 rfl rfl dX8_next_82 ?_
      obtain ⟨b17, q18, h⟩ := bn1_some h
      refine V_callS C0 (st := []) (As := [.int v11]) (c_X8_isDigit G.l G.D G.cA G.ad G.bs G.X C0.2.2.2.2.2.2.2.2.2.1 C0.2.2.2.2.2.2.2.2.2.2.2.2 v11 I10 L R b17 q18) lc_X8_isDigit lk_X8_84 rfl (by rw [erm]; decide) (Nat.le_of_ble_eq_true rfl) dX8_next_83 ?_
      show V G _ 86 [(1, .int v11), (0, .ref (G.ad x0))] [.int (b2i b17)] I10 L R
      refine V_if_ne C0 (tgt := 95) (by decide) dX8_next_86 (fun c19 => ?_) (fun c19 => ?_)
      · have h := (if_neg c19).symm.trans h
        refine V_aload_n C0 1 rfl rfl dX8_next_95 ?_
        obtain ⟨I20, q21, h⟩ := bn1_some h
        refine V_callV C0 (st := []) (As := []) 7 (c_X8_readNumber G.l G.D G.cA G.ad G.bs G.X C0.2.2.2.2.2.2.2.2.2.1 C0.2.2.2.2.2.2.2.2.2.2.2.2 N x0 I10 L R I20 q21) lc_X8_readNumber lk_X8_87 c_x0.2 c_x0.1 ⟨_, rfl, rfl⟩ rfl (by rw [erm]; decide) (Nat.le_of_ble_eq_true rfl) dX8_next_96 ?_
        show V G _ 99 [(1, .int v11), (0, .ref (G.ad x0))] [] I20 L R
        refine V_goto C0 (tgt := 147) (by decide) dX8_next_99 ?_
        cases h
        exact V_vret C0 dX8_next_147
      · have h := (if_pos c19).symm.trans h
        refine V_iload_n C0 0 rfl rfl dX8_next_89 ?_
        refine V_bipush C0 (v := (45 : Int32)) (by decide) dX8_next_90 ?_
        refine V_icmp_ne C0 (tgt := 102) (by decide) dX8_next_92 (fun c22 => ?_) (fun c22 => ?_)
        · have h := (if_neg c22).symm.trans h
          refine V_iload_n C0 0 rfl rfl dX8_next_102 ?_
          refine V_bipush C0 (v := (59 : Int32)) (by decide) dX8_next_103 ?_
          refine V_icmp_eq C0 (tgt := 120) (by decide) dX8_next_105 (fun c23 => ?_) (fun c23 => ?_)
          · have h := (if_pos c23).symm.trans h
            refine V_aload_n C0 1 rfl rfl dX8_next_120 ?_
            refine V_iconst C0 (v := (3 : Int32)) (by decide) dX8_next_121 ?_
            obtain ⟨I24, eI24, h⟩ := wr_some h
            refine V_putI C0 7 4 fp_X8_38 c_x0.2 c_x0.1 rfl dX8_next_122 ?_
            rw [← eI24]
            refine V_aload_n C0 1 rfl rfl dX8_next_125 ?_
            refine V_iload_n C0 0 rfl rfl dX8_next_126 ?_
            obtain ⟨I25, eI25, h⟩ := wr_some h
            refine V_putI C0 7 6 fp_X8_31 c_x0.2 c_x0.1 rfl dX8_next_127 ?_
            rw [← eI25]
            refine V_aload_n C0 1 rfl rfl dX8_next_130 ?_
            refine V_dup C0 rfl dX8_next_131 ?_
            refine V_getI C0 7 3 fl_X8_25 c_x0.2 c_x0.1 rfl dX8_next_132 ?_
            refine V_iconst C0 (v := (1 : Int32)) (by decide) dX8_next_135 ?_
            refine V_iadd C0 dX8_next_136 ?_
            obtain ⟨I26, eI26, h⟩ := wr_some h
            refine V_putI C0 7 3 fp_X8_25 c_x0.2 c_x0.1 rfl dX8_next_137 ?_
            rw [← eI26]
            refine V_goto C0 (tgt := 147) (by decide) dX8_next_140 ?_
            cases h
            exact V_vret C0 dX8_next_147
          · have h := (if_neg c23).symm.trans h
            refine V_iload_n C0 0 rfl rfl dX8_next_108 ?_
            refine V_bipush C0 (v := (60 : Int32)) (by decide) dX8_next_109 ?_
            refine V_icmp_eq C0 (tgt := 120) (by decide) dX8_next_111 (fun c27 => ?_) (fun c27 => ?_)
            · have h := (if_pos c27).symm.trans h
              refine V_aload_n C0 1 rfl rfl dX8_next_120 ?_
              refine V_iconst C0 (v := (3 : Int32)) (by decide) dX8_next_121 ?_
              obtain ⟨I28, eI28, h⟩ := wr_some h
              refine V_putI C0 7 4 fp_X8_38 c_x0.2 c_x0.1 rfl dX8_next_122 ?_
              rw [← eI28]
              refine V_aload_n C0 1 rfl rfl dX8_next_125 ?_
              refine V_iload_n C0 0 rfl rfl dX8_next_126 ?_
              obtain ⟨I29, eI29, h⟩ := wr_some h
              refine V_putI C0 7 6 fp_X8_31 c_x0.2 c_x0.1 rfl dX8_next_127 ?_
              rw [← eI29]
              refine V_aload_n C0 1 rfl rfl dX8_next_130 ?_
              refine V_dup C0 rfl dX8_next_131 ?_
              refine V_getI C0 7 3 fl_X8_25 c_x0.2 c_x0.1 rfl dX8_next_132 ?_
              refine V_iconst C0 (v := (1 : Int32)) (by decide) dX8_next_135 ?_
              refine V_iadd C0 dX8_next_136 ?_
              obtain ⟨I30, eI30, h⟩ := wr_some h
              refine V_putI C0 7 3 fp_X8_25 c_x0.2 c_x0.1 rfl dX8_next_137 ?_
              rw [← eI30]
              refine V_goto C0 (tgt := 147) (by decide) dX8_next_140 ?_
              cases h
              exact V_vret C0 dX8_next_147
            · have h := (if_neg c27).symm.trans h
              refine V_iload_n C0 0 rfl rfl dX8_next_114 ?_
              refine V_bipush C0 (v := (62 : Int32)) (by decide) dX8_next_115 ?_
              refine V_icmp_ne C0 (tgt := 143) (by decide) dX8_next_117 (fun c31 => ?_) (fun c31 => ?_)
              · have h := (if_neg c31).symm.trans h
                refine V_aload_n C0 1 rfl rfl dX8_next_143 ?_
                obtain ⟨I32, q33, h⟩ := bn1_some h
                refine V_callV C0 (st := []) (As := []) 7 (c_X8_spoil G.l G.D G.cA G.ad G.bs G.X C0.2.2.2.2.2.2.2.2.2.1 C0.2.2.2.2.2.2.2.2.2.2.2.2 x0 I10 L R I32 q33) lc_X8_spoil lk_X8_90 c_x0.2 c_x0.1 ⟨_, rfl, rfl⟩ rfl (by rw [erm]; decide) (Nat.le_of_ble_eq_true rfl) dX8_next_144 ?_
                show V G _ 147 [(1, .int v11), (0, .ref (G.ad x0))] [] I32 L R
                cases h
                exact V_vret C0 dX8_next_147
              · have h := (if_pos c31).symm.trans h
                refine V_aload_n C0 1 rfl rfl dX8_next_120 ?_
                refine V_iconst C0 (v := (3 : Int32)) (by decide) dX8_next_121 ?_
                obtain ⟨I34, eI34, h⟩ := wr_some h
                refine V_putI C0 7 4 fp_X8_38 c_x0.2 c_x0.1 rfl dX8_next_122 ?_
                rw [← eI34]
                refine V_aload_n C0 1 rfl rfl dX8_next_125 ?_
                refine V_iload_n C0 0 rfl rfl dX8_next_126 ?_
                obtain ⟨I35, eI35, h⟩ := wr_some h
                refine V_putI C0 7 6 fp_X8_31 c_x0.2 c_x0.1 rfl dX8_next_127 ?_
                rw [← eI35]
                refine V_aload_n C0 1 rfl rfl dX8_next_130 ?_
                refine V_dup C0 rfl dX8_next_131 ?_
                refine V_getI C0 7 3 fl_X8_25 c_x0.2 c_x0.1 rfl dX8_next_132 ?_
                refine V_iconst C0 (v := (1 : Int32)) (by decide) dX8_next_135 ?_
                refine V_iadd C0 dX8_next_136 ?_
                obtain ⟨I36, eI36, h⟩ := wr_some h
                refine V_putI C0 7 3 fp_X8_25 c_x0.2 c_x0.1 rfl dX8_next_137 ?_
                rw [← eI36]
                refine V_goto C0 (tgt := 147) (by decide) dX8_next_140 ?_
                cases h
                exact V_vret C0 dX8_next_147
        · have h := (if_pos c22).symm.trans h
          refine V_aload_n C0 1 rfl rfl dX8_next_95 ?_
          obtain ⟨I37, q38, h⟩ := bn1_some h
          refine V_callV C0 (st := []) (As := []) 7 (c_X8_readNumber G.l G.D G.cA G.ad G.bs G.X C0.2.2.2.2.2.2.2.2.2.1 C0.2.2.2.2.2.2.2.2.2.2.2.2 N x0 I10 L R I37 q38) lc_X8_readNumber lk_X8_87 c_x0.2 c_x0.1 ⟨_, rfl, rfl⟩ rfl (by rw [erm]; decide) (Nat.le_of_ble_eq_true rfl) dX8_next_96 ?_
          show V G _ 99 [(1, .int v11), (0, .ref (G.ad x0))] [] I37 L R
          refine V_goto C0 (tgt := 147) (by decide) dX8_next_99 ?_
          cases h
          exact V_vret C0 dX8_next_147
    · have h := (if_neg c16).symm.trans h
      refine V_aload_n C0 1 rfl rfl dX8_next_75 ?_
      obtain ⟨I39, L40, q41, h⟩ := bn2_some h
      refine V_callV C0 (st := []) (As := []) 7 (c_X8_readWord G.l G.D G.cA G.ad G.bs G.X C0.2.2.2.2.2.2.2.2.2.1 C0.2.2.2.2.2.2.2.2.2.2.2.2 N x0 I10 L R I39 L40 q41) lc_X8_readWord lk_X8_81 c_x0.2 c_x0.1 ⟨_, rfl, rfl⟩ rfl (by rw [erm]; decide) (Nat.le_of_ble_eq_true rfl) dX8_next_76 ?_
      show V G _ 79 [(1, .int v11), (0, .ref (G.ad x0))] [] I39 L40 R
      refine V_goto C0 (tgt := 147) (by decide) dX8_next_79 ?_
      cases h
      exact V_vret C0 dX8_next_147
  · have h := (if_pos c13).symm.trans h
    refine V_aload_n C0 1 rfl rfl dX8_next_60 ?_
    refine V_iconst C0 (v := (0 : Int32)) (by decide) dX8_next_61 ?_
    obtain ⟨I42, eI42, h⟩ := wr_some h
    refine V_putI C0 7 4 fp_X8_38 c_x0.2 c_x0.1 rfl dX8_next_62 ?_
    rw [← eI42]
    refine V_goto C0 (tgt := 147) (by decide) dX8_next_65 ?_
    cases h
    exact V_vret C0 dX8_next_147
theorem dX8_isEnd_0 : decode cX8_isEnd 0 = .ok (.aload_n 0, 1) := by decide +kernel
theorem dX8_isEnd_1 : decode cX8_isEnd 1 = .ok (.getfield 38, 3) := by decide +kernel
theorem dX8_isEnd_4 : decode cX8_isEnd 4 = .ok (.ifCond .ne 7, 3) := by decide +kernel
theorem dX8_isEnd_7 : decode cX8_isEnd 7 = .ok (.iconst 1, 1) := by decide +kernel
theorem dX8_isEnd_8 : decode cX8_isEnd 8 = .ok (.goto 4, 3) := by decide +kernel
theorem dX8_isEnd_11 : decode cX8_isEnd 11 = .ok (.iconst 0, 1) := by decide +kernel
theorem dX8_isEnd_12 : decode cX8_isEnd 12 = .ok (.ireturn, 1) := by decide +kernel
def F_X8_isEnd (x0 : Nat) (I : MI) (L : ML) (R : MR) : Option (Bool) :=
  if kd x0 = 7 ∧ x0 < NN then
  if (I x0 4) = 0 then
    some (true)
  else
    some (false)
  else none
set_option maxRecDepth 100000 in
set_option maxHeartbeats 4000000 in
theorem c_X8_isEnd (l : Launch) (D : va_G) (cA : Nat → ClassId) (ad : Nat → Nat) (bs : Nat) (X : State → Prop) (hAd : Ax ad bs) (hX : Stb bs X) (x0 : Nat) (I : MI) (L : ML) (R : MR) (r : Bool) (h : F_X8_isEnd x0 I L R = some (r)) : Cn l D cA ad bs X yX8_isEnd cX8_isEnd 1 (some .boolean) 0 0 [.ref (ad x0)] I L R (some (.int (b2i r)), I, L, R) := by
  refine Cn.ofV hAd hX [(0, .ref (ad x0))] rfl (Nat.le_of_ble_eq_true rfl) (by decide) ?_
  intro G el eD ecA ead ebs eX erm eNL C0
  subst el eD ecA ead ebs eX
  unfold F_X8_isEnd at h
  obtain ⟨c_x0, h⟩ := ite_some h
  refine V_aload_n C0 0 rfl rfl dX8_isEnd_0 ?_
  refine V_getI C0 7 4 fl_X8_38 c_x0.2 c_x0.1 rfl dX8_isEnd_1 ?_
  refine V_if_ne C0 (tgt := 11) (by decide) dX8_isEnd_4 (fun c1 => ?_) (fun c1 => ?_)
  · have h := (if_neg c1).symm.trans h
    refine V_iconst C0 (v := (0 : Int32)) (by decide) dX8_isEnd_11 ?_
    cases h
    exact V_zret C0 (by decide) dX8_isEnd_12
  · have h := (if_pos c1).symm.trans h
    refine V_iconst C0 (v := (1 : Int32)) (by decide) dX8_isEnd_7 ?_
    refine V_goto C0 (tgt := 12) (by decide) dX8_isEnd_8 ?_
    cases h
    exact V_zret C0 (by decide) dX8_isEnd_12
theorem dX11_within_0 : decode cX11_within 0 = .ok (.iload_n 0, 1) := by decide +kernel
theorem dX11_within_1 : decode cX11_within 1 = .ok (.iload_n 1, 1) := by decide +kernel
theorem dX11_within_2 : decode cX11_within 2 = .ok (.if_icmp .lt 12, 3) := by decide +kernel
theorem dX11_within_5 : decode cX11_within 5 = .ok (.iload_n 0, 1) := by decide +kernel
theorem dX11_within_6 : decode cX11_within 6 = .ok (.iload_n 2, 1) := by decide +kernel
theorem dX11_within_7 : decode cX11_within 7 = .ok (.if_icmp .gt 7, 3) := by decide +kernel
theorem dX11_within_10 : decode cX11_within 10 = .ok (.iconst 1, 1) := by decide +kernel
theorem dX11_within_11 : decode cX11_within 11 = .ok (.goto 4, 3) := by decide +kernel
theorem dX11_within_14 : decode cX11_within 14 = .ok (.iconst 0, 1) := by decide +kernel
theorem dX11_within_15 : decode cX11_within 15 = .ok (.ireturn, 1) := by decide +kernel
def F_X11_within (x0 : Int32) (x1 : Int32) (x2 : Int32) (I : MI) (L : ML) (R : MR) : Option (Bool) :=
  if x0 < x1 then
    some (false)
  else
    if x2 < x0 then
      some (false)
    else
      some (true)
set_option maxRecDepth 100000 in
set_option maxHeartbeats 4000000 in
theorem c_X11_within (l : Launch) (D : va_G) (cA : Nat → ClassId) (ad : Nat → Nat) (bs : Nat) (X : State → Prop) (hAd : Ax ad bs) (hX : Stb bs X) (x0 : Int32) (x1 : Int32) (x2 : Int32) (I : MI) (L : ML) (R : MR) (r : Bool) (h : F_X11_within x0 x1 x2 I L R = some (r)) : Cn l D cA ad bs X yX11_within cX11_within 3 (some .boolean) 0 0 [.int x0, .int x1, .int x2] I L R (some (.int (b2i r)), I, L, R) := by
  refine Cn.ofV hAd hX [(0, .int x0), (1, .int x1), (2, .int x2)] rfl (Nat.le_of_ble_eq_true rfl) (by decide) ?_
  intro G el eD ecA ead ebs eX erm eNL C0
  subst el eD ecA ead ebs eX
  unfold F_X11_within at h
  refine V_iload_n C0 0 rfl rfl dX11_within_0 ?_
  refine V_iload_n C0 1 rfl rfl dX11_within_1 ?_
  refine V_icmp_lt C0 (tgt := 14) (by decide) dX11_within_2 (fun c1 => ?_) (fun c1 => ?_)
  · have h := (if_pos c1).symm.trans h
    refine V_iconst C0 (v := (0 : Int32)) (by decide) dX11_within_14 ?_
    cases h
    exact V_zret C0 (by decide) dX11_within_15
  · have h := (if_neg c1).symm.trans h
    refine V_iload_n C0 0 rfl rfl dX11_within_5 ?_
    refine V_iload_n C0 2 rfl rfl dX11_within_6 ?_
    refine V_icmp_gt C0 (tgt := 14) (by decide) dX11_within_7 (fun c2 => ?_) (fun c2 => ?_)
    · have h := (if_pos c2).symm.trans h
      refine V_iconst C0 (v := (0 : Int32)) (by decide) dX11_within_14 ?_
      cases h
      exact V_zret C0 (by decide) dX11_within_15
    · have h := (if_neg c2).symm.trans h
      refine V_iconst C0 (v := (1 : Int32)) (by decide) dX11_within_10 ?_
      refine V_goto C0 (tgt := 15) (by decide) dX11_within_11 ?_
      cases h
      exact V_zret C0 (by decide) dX11_within_15
theorem dX11_letterOf_0 : decode cX11_letterOf 0 = .ok (.iload_n 2, 1) := by decide +kernel
theorem dX11_letterOf_1 : decode cX11_letterOf 1 = .ok (.iconst 0, 1) := by decide +kernel
theorem dX11_letterOf_2 : decode cX11_letterOf 2 = .ok (.bipush 7, 2) := by decide +kernel
theorem dX11_letterOf_4 : decode cX11_letterOf 4 = .ok (.invokestatic 243, 3) := by decide +kernel
theorem dX11_letterOf_7 : decode cX11_letterOf 7 = .ok (.ifCond .eq 17, 3) := by decide +kernel
theorem dX11_letterOf_10 : decode cX11_letterOf 10 = .ok (.lload_n 0, 1) := by decide +kernel
theorem dX11_letterOf_11 : decode cX11_letterOf 11 = .ok (.bipush 8, 2) := by decide +kernel
theorem dX11_letterOf_13 : decode cX11_letterOf 13 = .ok (.iload_n 2, 1) := by decide +kernel
theorem dX11_letterOf_14 : decode cX11_letterOf 14 = .ok (.imul, 1) := by decide +kernel
theorem dX11_letterOf_15 : decode cX11_letterOf 15 = .ok (.lushr, 1) := by decide +kernel
theorem dX11_letterOf_16 : decode cX11_letterOf 16 = .ok (.l2i, 1) := by decide +kernel
theorem dX11_letterOf_17 : decode cX11_letterOf 17 = .ok (.sipush 255, 3) := by decide +kernel
theorem dX11_letterOf_20 : decode cX11_letterOf 20 = .ok (.iand, 1) := by decide +kernel
theorem dX11_letterOf_21 : decode cX11_letterOf 21 = .ok (.goto 4, 3) := by decide +kernel
theorem dX11_letterOf_24 : decode cX11_letterOf 24 = .ok (.iconst 0, 1) := by decide +kernel
theorem dX11_letterOf_25 : decode cX11_letterOf 25 = .ok (.ireturn, 1) := by decide +kernel
def F_X11_letterOf (x0 : Int64) (x2 : Int32) (I : MI) (L : ML) (R : MR) : Option (Int32) :=
  bn1 (F_X11_within x2 (0 : Int32) (7 : Int32) I L R) fun b1 =>
  if (b2i b1) = 0 then
    some ((0 : Int32))
  else
    some (((Int64.toInt32 (lU x0 ((8 : Int32) * x2))) &&& (255 : Int32)))
set_option maxRecDepth 100000 in
set_option maxHeartbeats 4000000 in
theorem c_X11_letterOf (l : Launch) (D : va_G) (cA : Nat → ClassId) (ad : Nat → Nat) (bs : Nat) (X : State → Prop) (hAd : Ax ad bs) (hX : Stb bs X) (x0 : Int64) (x2 : Int32) (I : MI) (L : ML) (R : MR) (r : Int32) (h : F_X11_letterOf x0 x2 I L R = some (r)) : Cn l D cA ad bs X yX11_letterOf cX11_letterOf 3 (some .int) 1 22 [.long x0, .int x2] I L R (some (.int r), I, L, R) := by
  refine Cn.ofV hAd hX [(0, .long x0), (2, .int x2)] rfl (Nat.le_of_ble_eq_true rfl) (by decide) ?_
  intro G el eD ecA ead ebs eX erm eNL C0
  subst el eD ecA ead ebs eX
  unfold F_X11_letterOf at h
  refine V_iload_n C0 1 rfl rfl dX11_letterOf_0 ?_
  refine V_iconst C0 (v := (0 : Int32)) (by decide) dX11_letterOf_1 ?_
  refine V_bipush C0 (v := (7 : Int32)) (by decide) dX11_letterOf_2 ?_
  obtain ⟨b1, q2, h⟩ := bn1_some h
  refine V_callS C0 (st := []) (As := [.int x2, .int (0 : Int32), .int (7 : Int32)]) (c_X11_within G.l G.D G.cA G.ad G.bs G.X C0.2.2.2.2.2.2.2.2.2.1 C0.2.2.2.2.2.2.2.2.2.2.2.2 x2 (0 : Int32) (7 : Int32) I L R b1 q2) lc_X11_within lk_X11_243 rfl (by rw [erm]; decide) (Nat.le_of_ble_eq_true rfl) dX11_letterOf_4 ?_
  show V G _ 7 [(0, .long x0), (2, .int x2)] [.int (b2i b1)] I L R
  refine V_if_eq C0 (tgt := 24) (by decide) dX11_letterOf_7 (fun c3 => ?_) (fun c3 => ?_)
  · have h := (if_pos c3).symm.trans h
    refine V_iconst C0 (v := (0 : Int32)) (by decide) dX11_letterOf_24 ?_
    cases h
    exact V_iret C0 dX11_letterOf_25
  · have h := (if_neg c3).symm.trans h
    refine V_lload_n C0 0 rfl rfl dX11_letterOf_10 ?_
    refine V_bipush C0 (v := (8 : Int32)) (by decide) dX11_letterOf_11 ?_
    refine V_iload_n C0 1 rfl rfl dX11_letterOf_13 ?_
    refine V_imul C0 dX11_letterOf_14 ?_
    refine V_lushr C0 dX11_letterOf_15 ?_
    refine V_l2i C0 dX11_letterOf_16 ?_
    refine V_sipush C0 (v := (255 : Int32)) (by decide) dX11_letterOf_17 ?_
    refine V_iand C0 dX11_letterOf_20 ?_
    refine V_goto C0 (tgt := 25) (by decide) dX11_letterOf_21 ?_
    cases h
    exact V_iret C0 dX11_letterOf_25
theorem dX8_refuse_0 : decode cX8_refuse 0 = .ok (.aload_n 0, 1) := by decide +kernel
theorem dX8_refuse_1 : decode cX8_refuse 1 = .ok (.getfield 38, 3) := by decide +kernel
theorem dX8_refuse_4 : decode cX8_refuse 4 = .ok (.iconst 4, 1) := by decide +kernel
theorem dX8_refuse_5 : decode cX8_refuse 5 = .ok (.if_icmp .eq 16, 3) := by decide +kernel
theorem dX8_refuse_8 : decode cX8_refuse 8 = .ok (.aload_n 0, 1) := by decide +kernel
theorem dX8_refuse_9 : decode cX8_refuse 9 = .ok (.iload_n 1, 1) := by decide +kernel
theorem dX8_refuse_10 : decode cX8_refuse 10 = .ok (.putfield 28, 3) := by decide +kernel
theorem dX8_refuse_13 : decode cX8_refuse 13 = .ok (.aload_n 0, 1) := by decide +kernel
theorem dX8_refuse_14 : decode cX8_refuse 14 = .ok (.aload_n 0, 1) := by decide +kernel
theorem dX8_refuse_15 : decode cX8_refuse 15 = .ok (.getfield 54, 3) := by decide +kernel
theorem dX8_refuse_18 : decode cX8_refuse 18 = .ok (.putfield 15, 3) := by decide +kernel
theorem dX8_refuse_21 : decode cX8_refuse 21 = .ok (.iconst 0, 1) := by decide +kernel
theorem dX8_refuse_22 : decode cX8_refuse 22 = .ok (.ireturn, 1) := by decide +kernel
def F_X8_refuse (x0 : Nat) (x1 : Int32) (I : MI) (L : ML) (R : MR) : Option (Bool × MI) :=
  if kd x0 = 7 ∧ x0 < NN then
  bn1 (
    if (I x0 4) = (4 : Int32) then
      some (I)
    else
      wr (uI I x0 8 x1) fun (I5 : MI) =>
      wr (uI I5 x0 9 (I5 x0 5)) fun (I6 : MI) =>
      some (I6)
  ) fun (I1 : MI) =>
  some (false, I1)
  else none
set_option maxRecDepth 100000 in
set_option maxHeartbeats 4000000 in
theorem c_X8_refuse (l : Launch) (D : va_G) (cA : Nat → ClassId) (ad : Nat → Nat) (bs : Nat) (X : State → Prop) (hAd : Ax ad bs) (hX : Stb bs X) (x0 : Nat) (x1 : Int32) (I : MI) (L : ML) (R : MR) (r : Bool) (I' : MI) (h : F_X8_refuse x0 x1 I L R = some (r, I')) : Cn l D cA ad bs X yX8_refuse cX8_refuse 2 (some .boolean) 0 0 [.ref (ad x0), .int x1] I L R (some (.int (b2i r)), I', L, R) := by
  refine Cn.ofV hAd hX [(0, .ref (ad x0)), (1, .int x1)] rfl (Nat.le_of_ble_eq_true rfl) (by decide) ?_
  intro G el eD ecA ead ebs eX erm eNL C0
  subst el eD ecA ead ebs eX
  unfold F_X8_refuse at h
  obtain ⟨c_x0, h⟩ := ite_some h
  refine V_aload_n C0 0 rfl rfl dX8_refuse_0 ?_
  refine V_getI C0 7 4 fl_X8_38 c_x0.2 c_x0.1 rfl dX8_refuse_1 ?_
  refine V_iconst C0 (v := (4 : Int32)) (by decide) dX8_refuse_4 ?_
  obtain ⟨I1, q2, h⟩ := bn1_some h
  have k3 : V G (qf G (some (.int (b2i r)), I', L, R)) 21 [] [] I1 L R := by
    refine V_iconst C0 (v := (0 : Int32)) (by decide) dX8_refuse_21 ?_
    cases h
    exact V_zret C0 (by decide) dX8_refuse_22
  refine V_icmp_eq C0 (tgt := 21) (by decide) dX8_refuse_5 (fun c4 => ?_) (fun c4 => ?_)
  · have q2 := (if_pos c4).symm.trans q2
    cases q2
    exact V_sub [] rfl k3
  · have q2 := (if_neg c4).symm.trans q2
    refine V_aload_n C0 0 rfl rfl dX8_refuse_8 ?_
    refine V_iload_n C0 1 rfl rfl dX8_refuse_9 ?_
    obtain ⟨I5, eI5, q2⟩ := wr_some q2
    refine V_putI C0 7 8 fp_X8_28 c_x0.2 c_x0.1 rfl dX8_refuse_10 ?_
    rw [← eI5]
    refine V_aload_n C0 0 rfl rfl dX8_refuse_13 ?_
    refine V_aload_n C0 0 rfl rfl dX8_refuse_14 ?_
    refine V_getI C0 7 5 fl_X8_54 c_x0.2 c_x0.1 rfl dX8_refuse_15 ?_
    obtain ⟨I6, eI6, q2⟩ := wr_some q2
    refine V_putI C0 7 9 fp_X8_15 c_x0.2 c_x0.1 rfl dX8_refuse_18 ?_
    rw [← eI6]
    cases q2
    exact V_sub [] rfl k3
theorem dX8_isAnyWord_0 : decode cX8_isAnyWord 0 = .ok (.aload_n 0, 1) := by decide +kernel
theorem dX8_isAnyWord_1 : decode cX8_isAnyWord 1 = .ok (.getfield 38, 3) := by decide +kernel
theorem dX8_isAnyWord_4 : decode cX8_isAnyWord 4 = .ok (.iconst 1, 1) := by decide +kernel
theorem dX8_isAnyWord_5 : decode cX8_isAnyWord 5 = .ok (.if_icmp .ne 7, 3) := by decide +kernel
theorem dX8_isAnyWord_8 : decode cX8_isAnyWord 8 = .ok (.iconst 1, 1) := by decide +kernel
theorem dX8_isAnyWord_9 : decode cX8_isAnyWord 9 = .ok (.goto 4, 3) := by decide +kernel
theorem dX8_isAnyWord_12 : decode cX8_isAnyWord 12 = .ok (.iconst 0, 1) := by decide +kernel
theorem dX8_isAnyWord_13 : decode cX8_isAnyWord 13 = .ok (.ireturn, 1) := by decide +kernel
def F_X8_isAnyWord (x0 : Nat) (I : MI) (L : ML) (R : MR) : Option (Bool) :=
  if kd x0 = 7 ∧ x0 < NN then
  if (I x0 4) = (1 : Int32) then
    some (true)
  else
    some (false)
  else none
set_option maxRecDepth 100000 in
set_option maxHeartbeats 4000000 in
theorem c_X8_isAnyWord (l : Launch) (D : va_G) (cA : Nat → ClassId) (ad : Nat → Nat) (bs : Nat) (X : State → Prop) (hAd : Ax ad bs) (hX : Stb bs X) (x0 : Nat) (I : MI) (L : ML) (R : MR) (r : Bool) (h : F_X8_isAnyWord x0 I L R = some (r)) : Cn l D cA ad bs X yX8_isAnyWord cX8_isAnyWord 1 (some .boolean) 0 0 [.ref (ad x0)] I L R (some (.int (b2i r)), I, L, R) := by
  refine Cn.ofV hAd hX [(0, .ref (ad x0))] rfl (Nat.le_of_ble_eq_true rfl) (by decide) ?_
  intro G el eD ecA ead ebs eX erm eNL C0
  subst el eD ecA ead ebs eX
  unfold F_X8_isAnyWord at h
  obtain ⟨c_x0, h⟩ := ite_some h
  refine V_aload_n C0 0 rfl rfl dX8_isAnyWord_0 ?_
  refine V_getI C0 7 4 fl_X8_38 c_x0.2 c_x0.1 rfl dX8_isAnyWord_1 ?_
  refine V_iconst C0 (v := (1 : Int32)) (by decide) dX8_isAnyWord_4 ?_
  refine V_icmp_ne C0 (tgt := 12) (by decide) dX8_isAnyWord_5 (fun c1 => ?_) (fun c1 => ?_)
  · have h := (if_neg c1).symm.trans h
    refine V_iconst C0 (v := (0 : Int32)) (by decide) dX8_isAnyWord_12 ?_
    cases h
    exact V_zret C0 (by decide) dX8_isAnyWord_13
  · have h := (if_pos c1).symm.trans h
    refine V_iconst C0 (v := (1 : Int32)) (by decide) dX8_isAnyWord_8 ?_
    refine V_goto C0 (tgt := 13) (by decide) dX8_isAnyWord_9 ?_
    cases h
    exact V_zret C0 (by decide) dX8_isAnyWord_13
theorem dX8_wordRead_0 : decode cX8_wordRead 0 = .ok (.aload_n 0, 1) := by decide +kernel
theorem dX8_wordRead_1 : decode cX8_wordRead 1 = .ok (.getfield 34, 3) := by decide +kernel
theorem dX8_wordRead_4 : decode cX8_wordRead 4 = .ok (.lreturn, 1) := by decide +kernel
def F_X8_wordRead (x0 : Nat) (I : MI) (L : ML) (R : MR) : Option (Int64) :=
  if kd x0 = 7 ∧ x0 < NN then
  some ((L x0 7))
  else none
set_option maxRecDepth 100000 in
set_option maxHeartbeats 4000000 in
theorem c_X8_wordRead (l : Launch) (D : va_G) (cA : Nat → ClassId) (ad : Nat → Nat) (bs : Nat) (X : State → Prop) (hAd : Ax ad bs) (hX : Stb bs X) (x0 : Nat) (I : MI) (L : ML) (R : MR) (r : Int64) (h : F_X8_wordRead x0 I L R = some (r)) : Cn l D cA ad bs X yX8_wordRead cX8_wordRead 1 (some .long) 0 0 [.ref (ad x0)] I L R (some (.long r), I, L, R) := by
  refine Cn.ofV hAd hX [(0, .ref (ad x0))] rfl (Nat.le_of_ble_eq_true rfl) (by decide) ?_
  intro G el eD ecA ead ebs eX erm eNL C0
  subst el eD ecA ead ebs eX
  unfold F_X8_wordRead at h
  obtain ⟨c_x0, h⟩ := ite_some h
  refine V_aload_n C0 0 rfl rfl dX8_wordRead_0 ?_
  refine V_getL C0 7 7 fl_X8_34 c_x0.2 c_x0.1 rfl dX8_wordRead_1 ?_
  cases h
  exact V_lret C0 dX8_wordRead_4
theorem dX0_isTaken_0 : decode cX0_isTaken 0 = .ok (.iconst 0, 1) := by decide +kernel
theorem dX0_isTaken_1 : decode cX0_isTaken 1 = .ok (.istore_n 3, 1) := by decide +kernel
theorem dX0_isTaken_2 : decode cX0_isTaken 2 = .ok (.iload_n 3, 1) := by decide +kernel
theorem dX0_isTaken_3 : decode cX0_isTaken 3 = .ok (.aload_n 0, 1) := by decide +kernel
theorem dX0_isTaken_4 : decode cX0_isTaken 4 = .ok (.getfield 22, 3) := by decide +kernel
theorem dX0_isTaken_7 : decode cX0_isTaken 7 = .ok (.if_icmp .ge 31, 3) := by decide +kernel
theorem dX0_isTaken_10 : decode cX0_isTaken 10 = .ok (.iload_n 3, 1) := by decide +kernel
theorem dX0_isTaken_11 : decode cX0_isTaken 11 = .ok (.aload_n 0, 1) := by decide +kernel
theorem dX0_isTaken_12 : decode cX0_isTaken 12 = .ok (.getfield 15, 3) := by decide +kernel
theorem dX0_isTaken_15 : decode cX0_isTaken 15 = .ok (.arraylength, 1) := by decide +kernel
theorem dX0_isTaken_16 : decode cX0_isTaken 16 = .ok (.if_icmp .ge 22, 3) := by decide +kernel
theorem dX0_isTaken_19 : decode cX0_isTaken 19 = .ok (.aload_n 0, 1) := by decide +kernel
theorem dX0_isTaken_20 : decode cX0_isTaken 20 = .ok (.getfield 15, 3) := by decide +kernel
theorem dX0_isTaken_23 : decode cX0_isTaken 23 = .ok (.iload_n 3, 1) := by decide +kernel
theorem dX0_isTaken_24 : decode cX0_isTaken 24 = .ok (.laload, 1) := by decide +kernel
theorem dX0_isTaken_25 : decode cX0_isTaken 25 = .ok (.lload_n 1, 1) := by decide +kernel
theorem dX0_isTaken_26 : decode cX0_isTaken 26 = .ok (.lcmp, 1) := by decide +kernel
theorem dX0_isTaken_27 : decode cX0_isTaken 27 = .ok (.ifCond .ne 5, 3) := by decide +kernel
theorem dX0_isTaken_30 : decode cX0_isTaken 30 = .ok (.iconst 1, 1) := by decide +kernel
theorem dX0_isTaken_31 : decode cX0_isTaken 31 = .ok (.ireturn, 1) := by decide +kernel
theorem dX0_isTaken_32 : decode cX0_isTaken 32 = .ok (.iinc 3 1, 3) := by decide +kernel
theorem dX0_isTaken_35 : decode cX0_isTaken 35 = .ok (.goto (-33), 3) := by decide +kernel
theorem dX0_isTaken_38 : decode cX0_isTaken 38 = .ok (.iconst 0, 1) := by decide +kernel
theorem dX0_isTaken_39 : decode cX0_isTaken 39 = .ok (.ireturn, 1) := by decide +kernel
def LF_X0_isTaken_2 (N : Nat) : Nat → Nat → Int64 → Int32 → MI → ML → MR → Option (Sum (Bool) (Unit))
  | 0, _, _, _, _, _, _ => none
  | k + 1, y0, y1, y3, I, L, R =>
    if (I y0 3) ≤ y3 then
      some (.inr ())
    else
      (rf R y0 1 21).bind fun a2 =>
      if (Int32.ofNat (ln a2)) ≤ y3 then
        some (.inr ())
      else
        (rl L a2 y3).bind fun v4 =>
        if (lg_cmp v4 y1) = 0 then
          some (.inl (true))
        else
          wr (y3 + (1 : Int32)) fun (u6 : Int32) =>
          LF_X0_isTaken_2 N k y0 y1 u6 I L R
def F_X0_isTaken (N : Nat) (x0 : Nat) (x1 : Int64) (I : MI) (L : ML) (R : MR) : Option (Bool) :=
  if kd x0 = 0 ∧ x0 < NN then
  bsm (LF_X0_isTaken_2 N N x0 x1 (0 : Int32) I L R) (fun z7 => some z7) fun z7 =>
  some (false)
  else none
set_option maxRecDepth 100000 in
set_option maxHeartbeats 4000000 in
theorem lp_X0_isTaken_2 {G : Gm} (C0 : Cx G (yX0_isTaken.cls) cX0_isTaken (some .boolean)) (eNL : G.nL = 4) (erm : G.rm = ({ frames := 0, cells := 0, slots := 0, locals := 0 } : Room)) (N : Nat) : ∀ (k : Nat) (y0 : Nat) (y1 : Int64) (y3 : Int32) (I : MI) (L : ML) (R : MR) (q : Sum (Bool) (Unit)) (hk0 : kd y0 = 0) (ho0 : y0 < NN), LF_X0_isTaken_2 N k y0 y1 y3 I L R = some q → ∀ f : State → Prop, (∀ w, q = .inl w → f = qf G (some (.int (b2i w)), I, L, R)) → (∀ z, q = .inr z → V G f 38 [] [] I L R) → V G f 2 [(0, .ref (G.ad y0)), (1, .long y1), (3, .int y3)] [] I L R := by
  intro k
  induction k with
  | zero =>
    intro y0 y1 y3 I L R q hk0 ho0 h
    exact absurd h (by simp [LF_X0_isTaken_2])
  | succ k ih =>
    intro y0 y1 y3 I L R q hk0 ho0 h f kr kx
    rw [LF_X0_isTaken_2] at h
    refine V_iload_n C0 2 rfl rfl dX0_isTaken_2 ?_
    refine V_aload_n C0 0 rfl rfl dX0_isTaken_3 ?_
    refine V_getI C0 0 3 fl_X0_22 ho0 hk0 rfl dX0_isTaken_4 ?_
    refine V_icmp_ge C0 (tgt := 38) (by decide) dX0_isTaken_7 (fun c1 => ?_) (fun c1 => ?_)
    · have h := (if_pos c1).symm.trans h
      cases h
      exact V_sub [] rfl (kx _ rfl)
    · have h := (if_neg c1).symm.trans h
      refine V_iload_n C0 2 rfl rfl dX0_isTaken_10 ?_
      refine V_aload_n C0 0 rfl rfl dX0_isTaken_11 ?_
      obtain ⟨a2, qa2, h⟩ := bnd_some h
      refine V_getR C0 0 1 fl_X0_15 ho0 hk0 rfl (rf_at qa2) dX0_isTaken_12 ?_
      refine V_alen C0 (v := Int32.ofNat (ln a2)) (rf_lt qa2) (by rw [(rf_kd qa2)]; decide) rfl dX0_isTaken_15 ?_
      refine V_icmp_ge C0 (tgt := 38) (by decide) dX0_isTaken_16 (fun c3 => ?_) (fun c3 => ?_)
      · have h := (if_pos c3).symm.trans h
        cases h
        exact V_sub [] rfl (kx _ rfl)
      · have h := (if_neg c3).symm.trans h
        refine V_aload_n C0 0 rfl rfl dX0_isTaken_19 ?_
        refine V_getR C0 0 1 fl_X0_15 ho0 hk0 rfl (rf_at qa2) dX0_isTaken_20 ?_
        refine V_iload_n C0 2 rfl rfl dX0_isTaken_23 ?_
        obtain ⟨v4, qv4, h⟩ := bnd_some h
        refine V_rl C0 (rf_lt qa2) (rf_kd qa2) qv4 dX0_isTaken_24 ?_
        refine V_lload_n C0 1 rfl rfl dX0_isTaken_25 ?_
        refine V_lcmp C0 dX0_isTaken_26 ?_
        refine V_if_ne C0 (tgt := 32) (by decide) dX0_isTaken_27 (fun c5 => ?_) (fun c5 => ?_)
        · have h := (if_neg c5).symm.trans h
          obtain ⟨u6, eu6, h⟩ := wr_some h
          refine V_iinc C0 2 [(3, .int u6), (0, .ref (G.ad y0)), (1, .long y1)] rfl (n := 1) (by rw [eu6]; rfl) (by rw [eNL]; decide) rfl dX0_isTaken_32 ?_
          refine V_goto C0 (tgt := 2) (by decide) dX0_isTaken_35 ?_
          exact V_sub [1, 2, 0] rfl (ih y0 y1 u6 I L R _ hk0 ho0 h f kr kx)
        · have h := (if_pos c5).symm.trans h
          refine V_iconst C0 (v := (1 : Int32)) (by decide) dX0_isTaken_30 ?_
          cases h
          rw [kr _ rfl]
          exact V_zret C0 (by decide) dX0_isTaken_31
set_option maxRecDepth 100000 in
set_option maxHeartbeats 4000000 in
theorem c_X0_isTaken (l : Launch) (D : va_G) (cA : Nat → ClassId) (ad : Nat → Nat) (bs : Nat) (X : State → Prop) (hAd : Ax ad bs) (hX : Stb bs X) (N : Nat) (x0 : Nat) (x1 : Int64) (I : MI) (L : ML) (R : MR) (r : Bool) (h : F_X0_isTaken N x0 x1 I L R = some (r)) : Cn l D cA ad bs X yX0_isTaken cX0_isTaken 4 (some .boolean) 0 0 [.ref (ad x0), .long x1] I L R (some (.int (b2i r)), I, L, R) := by
  refine Cn.ofV hAd hX [(0, .ref (ad x0)), (1, .long x1)] rfl (Nat.le_of_ble_eq_true rfl) (by decide) ?_
  intro G el eD ecA ead ebs eX erm eNL C0
  subst el eD ecA ead ebs eX
  unfold F_X0_isTaken at h
  obtain ⟨c_x0, h⟩ := ite_some h
  refine V_iconst C0 (v := (0 : Int32)) (by decide) dX0_isTaken_0 ?_
  refine V_istore_n C0 [(3, .int (0 : Int32)), (0, .ref (G.ad x0)), (1, .long x1)] rfl (by rw [eNL]; decide) rfl dX0_isTaken_1 ?_
  rcases bsm_some h with ⟨z7, q8, h⟩ | ⟨z7, q8, h⟩
  · refine V_sub [1, 2, 0] rfl (lp_X0_isTaken_2 C0 eNL erm N N x0 x1 (0 : Int32) I L R _ c_x0.1 c_x0.2 q8 _ (fun w e => ?_) (fun _ e => by cases e))
    cases e
    cases h
    rfl
  · refine V_sub [1, 2, 0] rfl (lp_X0_isTaken_2 C0 eNL erm N N x0 x1 (0 : Int32) I L R _ c_x0.1 c_x0.2 q8 _ (fun _ e => by cases e) (fun w e => ?_))
    cases e
    show V G _ 38 [] [] I L R
    refine V_iconst C0 (v := (0 : Int32)) (by decide) dX0_isTaken_38 ?_
    cases h
    exact V_zret C0 (by decide) dX0_isTaken_39
theorem dX8_takeNumber_0 : decode cX8_takeNumber 0 = .ok (.aload_n 0, 1) := by decide +kernel
theorem dX8_takeNumber_1 : decode cX8_takeNumber 1 = .ok (.invokevirtual 57, 3) := by decide +kernel
theorem dX8_takeNumber_4 : decode cX8_takeNumber 4 = .ok (.aload_n 0, 1) := by decide +kernel
theorem dX8_takeNumber_5 : decode cX8_takeNumber 5 = .ok (.getfield 38, 3) := by decide +kernel
theorem dX8_takeNumber_8 : decode cX8_takeNumber 8 = .ok (.iconst 2, 1) := by decide +kernel
theorem dX8_takeNumber_9 : decode cX8_takeNumber 9 = .ok (.if_icmp .eq 11, 3) := by decide +kernel
theorem dX8_takeNumber_12 : decode cX8_takeNumber 12 = .ok (.aload_n 0, 1) := by decide +kernel
theorem dX8_takeNumber_13 : decode cX8_takeNumber 13 = .ok (.iconst 2, 1) := by decide +kernel
theorem dX8_takeNumber_14 : decode cX8_takeNumber 14 = .ok (.invokevirtual 60, 3) := by decide +kernel
theorem dX8_takeNumber_17 : decode cX8_takeNumber 17 = .ok (.ifCond .eq 7, 3) := by decide +kernel
theorem dX8_takeNumber_20 : decode cX8_takeNumber 20 = .ok (.iconst 1, 1) := by decide +kernel
theorem dX8_takeNumber_21 : decode cX8_takeNumber 21 = .ok (.goto 4, 3) := by decide +kernel
theorem dX8_takeNumber_24 : decode cX8_takeNumber 24 = .ok (.iconst 0, 1) := by decide +kernel
theorem dX8_takeNumber_25 : decode cX8_takeNumber 25 = .ok (.ireturn, 1) := by decide +kernel
def F_X8_takeNumber (N : Nat) (x0 : Nat) (I : MI) (L : ML) (R : MR) : Option (Bool × MI × ML) :=
  if kd x0 = 7 ∧ x0 < NN then
  bn2 (F_X8_next N x0 I L R) fun I1 L2 =>
  if (I1 x0 4) = (2 : Int32) then
    some (true, I1, L2)
  else
    bn2 (F_X8_refuse x0 (2 : Int32) I1 L2 R) fun b5 I6 =>
    if (b2i b5) = 0 then
      some (false, I6, L2)
    else
      some (true, I6, L2)
  else none
set_option maxRecDepth 100000 in
set_option maxHeartbeats 4000000 in
theorem c_X8_takeNumber (l : Launch) (D : va_G) (cA : Nat → ClassId) (ad : Nat → Nat) (bs : Nat) (X : State → Prop) (hAd : Ax ad bs) (hX : Stb bs X) (N : Nat) (x0 : Nat) (I : MI) (L : ML) (R : MR) (r : Bool) (I' : MI) (L' : ML) (h : F_X8_takeNumber N x0 I L R = some (r, I', L')) : Cn l D cA ad bs X yX8_takeNumber cX8_takeNumber 1 (some .boolean) 3 64 [.ref (ad x0)] I L R (some (.int (b2i r)), I', L', R) := by
  refine Cn.ofV hAd hX [(0, .ref (ad x0))] rfl (Nat.le_of_ble_eq_true rfl) (by decide) ?_
  intro G el eD ecA ead ebs eX erm eNL C0
  subst el eD ecA ead ebs eX
  unfold F_X8_takeNumber at h
  obtain ⟨c_x0, h⟩ := ite_some h
  refine V_aload_n C0 0 rfl rfl dX8_takeNumber_0 ?_
  obtain ⟨I1, L2, q3, h⟩ := bn2_some h
  refine V_callV C0 (st := []) (As := []) 7 (c_X8_next G.l G.D G.cA G.ad G.bs G.X C0.2.2.2.2.2.2.2.2.2.1 C0.2.2.2.2.2.2.2.2.2.2.2.2 N x0 I L R I1 L2 q3) lc_X8_next lk_X8_57 c_x0.2 c_x0.1 ⟨_, rfl, rfl⟩ rfl (by rw [erm]; decide) (Nat.le_of_ble_eq_true rfl) dX8_takeNumber_1 ?_
  show V G _ 4 [(0, .ref (G.ad x0))] [] I1 L2 R
  refine V_aload_n C0 0 rfl rfl dX8_takeNumber_4 ?_
  refine V_getI C0 7 4 fl_X8_38 c_x0.2 c_x0.1 rfl dX8_takeNumber_5 ?_
  refine V_iconst C0 (v := (2 : Int32)) (by decide) dX8_takeNumber_8 ?_
  refine V_icmp_eq C0 (tgt := 20) (by decide) dX8_takeNumber_9 (fun c4 => ?_) (fun c4 => ?_)
  · have h := (if_pos c4).symm.trans h
    refine V_iconst C0 (v := (1 : Int32)) (by decide) dX8_takeNumber_20 ?_
    refine V_goto C0 (tgt := 25) (by decide) dX8_takeNumber_21 ?_
    cases h
    exact V_zret C0 (by decide) dX8_takeNumber_25
  · have h := (if_neg c4).symm.trans h
    refine V_aload_n C0 0 rfl rfl dX8_takeNumber_12 ?_
    refine V_iconst C0 (v := (2 : Int32)) (by decide) dX8_takeNumber_13 ?_
    obtain ⟨b5, I6, q7, h⟩ := bn2_some h
    refine V_callV C0 (st := []) (As := [.int (2 : Int32)]) 7 (c_X8_refuse G.l G.D G.cA G.ad G.bs G.X C0.2.2.2.2.2.2.2.2.2.1 C0.2.2.2.2.2.2.2.2.2.2.2.2 x0 (2 : Int32) I1 L2 R b5 I6 q7) lc_X8_refuse lk_X8_60 c_x0.2 c_x0.1 ⟨_, rfl, rfl⟩ rfl (by rw [erm]; decide) (Nat.le_of_ble_eq_true rfl) dX8_takeNumber_14 ?_
    show V G _ 17 [(0, .ref (G.ad x0))] [.int (b2i b5)] I6 L2 R
    refine V_if_eq C0 (tgt := 24) (by decide) dX8_takeNumber_17 (fun c8 => ?_) (fun c8 => ?_)
    · have h := (if_pos c8).symm.trans h
      refine V_iconst C0 (v := (0 : Int32)) (by decide) dX8_takeNumber_24 ?_
      cases h
      exact V_zret C0 (by decide) dX8_takeNumber_25
    · have h := (if_neg c8).symm.trans h
      refine V_iconst C0 (v := (1 : Int32)) (by decide) dX8_takeNumber_20 ?_
      refine V_goto C0 (tgt := 25) (by decide) dX8_takeNumber_21 ?_
      cases h
      exact V_zret C0 (by decide) dX8_takeNumber_25
theorem dX8_number_0 : decode cX8_number 0 = .ok (.aload_n 0, 1) := by decide +kernel
theorem dX8_number_1 : decode cX8_number 1 = .ok (.getfield 31, 3) := by decide +kernel
theorem dX8_number_4 : decode cX8_number 4 = .ok (.ireturn, 1) := by decide +kernel
def F_X8_number (x0 : Nat) (I : MI) (L : ML) (R : MR) : Option (Int32) :=
  if kd x0 = 7 ∧ x0 < NN then
  some ((I x0 6))
  else none
set_option maxRecDepth 100000 in
set_option maxHeartbeats 4000000 in
theorem c_X8_number (l : Launch) (D : va_G) (cA : Nat → ClassId) (ad : Nat → Nat) (bs : Nat) (X : State → Prop) (hAd : Ax ad bs) (hX : Stb bs X) (x0 : Nat) (I : MI) (L : ML) (R : MR) (r : Int32) (h : F_X8_number x0 I L R = some (r)) : Cn l D cA ad bs X yX8_number cX8_number 1 (some .int) 0 0 [.ref (ad x0)] I L R (some (.int r), I, L, R) := by
  refine Cn.ofV hAd hX [(0, .ref (ad x0))] rfl (Nat.le_of_ble_eq_true rfl) (by decide) ?_
  intro G el eD ecA ead ebs eX erm eNL C0
  subst el eD ecA ead ebs eX
  unfold F_X8_number at h
  obtain ⟨c_x0, h⟩ := ite_some h
  refine V_aload_n C0 0 rfl rfl dX8_number_0 ?_
  refine V_getI C0 7 6 fl_X8_31 c_x0.2 c_x0.1 rfl dX8_number_1 ?_
  cases h
  exact V_iret C0 dX8_number_4
theorem dX0_fits_0 : decode cX0_fits 0 = .ok (.iload_n 1, 1) := by decide +kernel
theorem dX0_fits_1 : decode cX0_fits 1 = .ok (.tableswitch 222 1 13 #[67, 76, 86, 94, 102, 114, 143, 172, 183, 190, 198, 207, 214], 67) := by decide +kernel
theorem dX0_fits_68 : decode cX0_fits 68 = .ok (.iload_n 2, 1) := by decide +kernel
theorem dX0_fits_69 : decode cX0_fits 69 = .ok (.iconst 1, 1) := by decide +kernel
theorem dX0_fits_70 : decode cX0_fits 70 = .ok (.sipush 2000, 3) := by decide +kernel
theorem dX0_fits_73 : decode cX0_fits 73 = .ok (.invokestatic 85, 3) := by decide +kernel
theorem dX0_fits_76 : decode cX0_fits 76 = .ok (.ireturn, 1) := by decide +kernel
theorem dX0_fits_77 : decode cX0_fits 77 = .ok (.iload_n 2, 1) := by decide +kernel
theorem dX0_fits_78 : decode cX0_fits 78 = .ok (.bipush 20, 2) := by decide +kernel
theorem dX0_fits_80 : decode cX0_fits 80 = .ok (.sipush 2000, 3) := by decide +kernel
theorem dX0_fits_83 : decode cX0_fits 83 = .ok (.invokestatic 85, 3) := by decide +kernel
theorem dX0_fits_86 : decode cX0_fits 86 = .ok (.ireturn, 1) := by decide +kernel
theorem dX0_fits_87 : decode cX0_fits 87 = .ok (.iload_n 2, 1) := by decide +kernel
theorem dX0_fits_88 : decode cX0_fits 88 = .ok (.iconst 1, 1) := by decide +kernel
theorem dX0_fits_89 : decode cX0_fits 89 = .ok (.bipush 8, 2) := by decide +kernel
theorem dX0_fits_91 : decode cX0_fits 91 = .ok (.invokestatic 85, 3) := by decide +kernel
theorem dX0_fits_94 : decode cX0_fits 94 = .ok (.ireturn, 1) := by decide +kernel
theorem dX0_fits_95 : decode cX0_fits 95 = .ok (.iload_n 2, 1) := by decide +kernel
theorem dX0_fits_96 : decode cX0_fits 96 = .ok (.iconst 1, 1) := by decide +kernel
theorem dX0_fits_97 : decode cX0_fits 97 = .ok (.bipush 50, 2) := by decide +kernel
theorem dX0_fits_99 : decode cX0_fits 99 = .ok (.invokestatic 85, 3) := by decide +kernel
theorem dX0_fits_102 : decode cX0_fits 102 = .ok (.ireturn, 1) := by decide +kernel
theorem dX0_fits_103 : decode cX0_fits 103 = .ok (.iload_n 2, 1) := by decide +kernel
theorem dX0_fits_104 : decode cX0_fits 104 = .ok (.iconst 0, 1) := by decide +kernel
theorem dX0_fits_105 : decode cX0_fits 105 = .ok (.aload_n 0, 1) := by decide +kernel
theorem dX0_fits_106 : decode cX0_fits 106 = .ok (.getfield 22, 3) := by decide +kernel
theorem dX0_fits_109 : decode cX0_fits 109 = .ok (.iconst 1, 1) := by decide +kernel
theorem dX0_fits_110 : decode cX0_fits 110 = .ok (.isub, 1) := by decide +kernel
theorem dX0_fits_111 : decode cX0_fits 111 = .ok (.invokestatic 85, 3) := by decide +kernel
theorem dX0_fits_114 : decode cX0_fits 114 = .ok (.ireturn, 1) := by decide +kernel
theorem dX0_fits_115 : decode cX0_fits 115 = .ok (.iload_n 2, 1) := by decide +kernel
theorem dX0_fits_116 : decode cX0_fits 116 = .ok (.iconst 0, 1) := by decide +kernel
theorem dX0_fits_117 : decode cX0_fits 117 = .ok (.aload_n 0, 1) := by decide +kernel
theorem dX0_fits_118 : decode cX0_fits 118 = .ok (.getfield 22, 3) := by decide +kernel
theorem dX0_fits_121 : decode cX0_fits 121 = .ok (.iconst 1, 1) := by decide +kernel
theorem dX0_fits_122 : decode cX0_fits 122 = .ok (.isub, 1) := by decide +kernel
theorem dX0_fits_123 : decode cX0_fits 123 = .ok (.invokestatic 85, 3) := by decide +kernel
theorem dX0_fits_126 : decode cX0_fits 126 = .ok (.ifCond .eq 16, 3) := by decide +kernel
theorem dX0_fits_129 : decode cX0_fits 129 = .ok (.aload_n 0, 1) := by decide +kernel
theorem dX0_fits_130 : decode cX0_fits 130 = .ok (.iload_n 2, 1) := by decide +kernel
theorem dX0_fits_131 : decode cX0_fits 131 = .ok (.invokevirtual 89, 3) := by decide +kernel
theorem dX0_fits_134 : decode cX0_fits 134 = .ok (.iconst 4, 1) := by decide +kernel
theorem dX0_fits_135 : decode cX0_fits 135 = .ok (.if_icmp .ne 7, 3) := by decide +kernel
theorem dX0_fits_138 : decode cX0_fits 138 = .ok (.iconst 1, 1) := by decide +kernel
theorem dX0_fits_139 : decode cX0_fits 139 = .ok (.goto 4, 3) := by decide +kernel
theorem dX0_fits_142 : decode cX0_fits 142 = .ok (.iconst 0, 1) := by decide +kernel
theorem dX0_fits_143 : decode cX0_fits 143 = .ok (.ireturn, 1) := by decide +kernel
theorem dX0_fits_144 : decode cX0_fits 144 = .ok (.iload_n 2, 1) := by decide +kernel
theorem dX0_fits_145 : decode cX0_fits 145 = .ok (.iconst 0, 1) := by decide +kernel
theorem dX0_fits_146 : decode cX0_fits 146 = .ok (.aload_n 0, 1) := by decide +kernel
theorem dX0_fits_147 : decode cX0_fits 147 = .ok (.getfield 22, 3) := by decide +kernel
theorem dX0_fits_150 : decode cX0_fits 150 = .ok (.iconst 1, 1) := by decide +kernel
theorem dX0_fits_151 : decode cX0_fits 151 = .ok (.isub, 1) := by decide +kernel
theorem dX0_fits_152 : decode cX0_fits 152 = .ok (.invokestatic 85, 3) := by decide +kernel
theorem dX0_fits_155 : decode cX0_fits 155 = .ok (.ifCond .eq 16, 3) := by decide +kernel
theorem dX0_fits_158 : decode cX0_fits 158 = .ok (.aload_n 0, 1) := by decide +kernel
theorem dX0_fits_159 : decode cX0_fits 159 = .ok (.iload_n 2, 1) := by decide +kernel
theorem dX0_fits_160 : decode cX0_fits 160 = .ok (.invokevirtual 89, 3) := by decide +kernel
theorem dX0_fits_163 : decode cX0_fits 163 = .ok (.iconst 5, 1) := by decide +kernel
theorem dX0_fits_164 : decode cX0_fits 164 = .ok (.if_icmp .ne 7, 3) := by decide +kernel
theorem dX0_fits_167 : decode cX0_fits 167 = .ok (.iconst 1, 1) := by decide +kernel
theorem dX0_fits_168 : decode cX0_fits 168 = .ok (.goto 4, 3) := by decide +kernel
theorem dX0_fits_171 : decode cX0_fits 171 = .ok (.iconst 0, 1) := by decide +kernel
theorem dX0_fits_172 : decode cX0_fits 172 = .ok (.ireturn, 1) := by decide +kernel
theorem dX0_fits_173 : decode cX0_fits 173 = .ok (.iload_n 2, 1) := by decide +kernel
theorem dX0_fits_174 : decode cX0_fits 174 = .ok (.sipush (-300), 3) := by decide +kernel
theorem dX0_fits_177 : decode cX0_fits 177 = .ok (.sipush 900, 3) := by decide +kernel
theorem dX0_fits_180 : decode cX0_fits 180 = .ok (.invokestatic 85, 3) := by decide +kernel
theorem dX0_fits_183 : decode cX0_fits 183 = .ok (.ireturn, 1) := by decide +kernel
theorem dX0_fits_184 : decode cX0_fits 184 = .ok (.iload_n 2, 1) := by decide +kernel
theorem dX0_fits_185 : decode cX0_fits 185 = .ok (.iconst 0, 1) := by decide +kernel
theorem dX0_fits_186 : decode cX0_fits 186 = .ok (.iconst 2, 1) := by decide +kernel
theorem dX0_fits_187 : decode cX0_fits 187 = .ok (.invokestatic 85, 3) := by decide +kernel
theorem dX0_fits_190 : decode cX0_fits 190 = .ok (.ireturn, 1) := by decide +kernel
theorem dX0_fits_191 : decode cX0_fits 191 = .ok (.iload_n 2, 1) := by decide +kernel
theorem dX0_fits_192 : decode cX0_fits 192 = .ok (.iconst 1, 1) := by decide +kernel
theorem dX0_fits_193 : decode cX0_fits 193 = .ok (.bipush 40, 2) := by decide +kernel
theorem dX0_fits_195 : decode cX0_fits 195 = .ok (.invokestatic 85, 3) := by decide +kernel
theorem dX0_fits_198 : decode cX0_fits 198 = .ok (.ireturn, 1) := by decide +kernel
theorem dX0_fits_199 : decode cX0_fits 199 = .ok (.iload_n 2, 1) := by decide +kernel
theorem dX0_fits_200 : decode cX0_fits 200 = .ok (.iconst 1, 1) := by decide +kernel
theorem dX0_fits_201 : decode cX0_fits 201 = .ok (.sipush 200, 3) := by decide +kernel
theorem dX0_fits_204 : decode cX0_fits 204 = .ok (.invokestatic 85, 3) := by decide +kernel
theorem dX0_fits_207 : decode cX0_fits 207 = .ok (.ireturn, 1) := by decide +kernel
theorem dX0_fits_208 : decode cX0_fits 208 = .ok (.iload_n 2, 1) := by decide +kernel
theorem dX0_fits_209 : decode cX0_fits 209 = .ok (.iconst 0, 1) := by decide +kernel
theorem dX0_fits_210 : decode cX0_fits 210 = .ok (.iconst 3, 1) := by decide +kernel
theorem dX0_fits_211 : decode cX0_fits 211 = .ok (.invokestatic 85, 3) := by decide +kernel
theorem dX0_fits_214 : decode cX0_fits 214 = .ok (.ireturn, 1) := by decide +kernel
theorem dX0_fits_215 : decode cX0_fits 215 = .ok (.iload_n 2, 1) := by decide +kernel
theorem dX0_fits_216 : decode cX0_fits 216 = .ok (.iconst 1, 1) := by decide +kernel
theorem dX0_fits_217 : decode cX0_fits 217 = .ok (.bipush 9, 2) := by decide +kernel
theorem dX0_fits_219 : decode cX0_fits 219 = .ok (.invokestatic 85, 3) := by decide +kernel
theorem dX0_fits_222 : decode cX0_fits 222 = .ok (.ireturn, 1) := by decide +kernel
theorem dX0_fits_223 : decode cX0_fits 223 = .ok (.iconst 0, 1) := by decide +kernel
theorem dX0_fits_224 : decode cX0_fits 224 = .ok (.ireturn, 1) := by decide +kernel
def F_X0_fits (x0 : Nat) (x1 : Int32) (x2 : Int32) (I : MI) (L : ML) (R : MR) : Option (Bool) :=
  if kd x0 = 0 ∧ x0 < NN then
  if x1 = (1 : Int32) then
    bn1 (F_X11_within x2 (1 : Int32) (2000 : Int32) I L R) fun b3 =>
    some (b3)
  else
    if x1 = (2 : Int32) then
      bn1 (F_X11_within x2 (20 : Int32) (2000 : Int32) I L R) fun b6 =>
      some (b6)
    else
      if x1 = (3 : Int32) then
        bn1 (F_X11_within x2 (1 : Int32) (8 : Int32) I L R) fun b9 =>
        some (b9)
      else
        if x1 = (4 : Int32) then
          bn1 (F_X11_within x2 (1 : Int32) (50 : Int32) I L R) fun b12 =>
          some (b12)
        else
          if x1 = (5 : Int32) then
            bn1 (F_X11_within x2 (0 : Int32) ((I x0 3) - (1 : Int32)) I L R) fun b15 =>
            some (b15)
          else
            if x1 = (6 : Int32) then
              bn1 (F_X11_within x2 (0 : Int32) ((I x0 3) - (1 : Int32)) I L R) fun b18 =>
              if (b2i b18) = 0 then
                some (false)
              else
                bn1 (F_X0_layerOf x0 x2 I L R) fun v21 =>
                if v21 = (4 : Int32) then
                  some (true)
                else
                  some (false)
            else
              if x1 = (7 : Int32) then
                bn1 (F_X11_within x2 (0 : Int32) ((I x0 3) - (1 : Int32)) I L R) fun b25 =>
                if (b2i b25) = 0 then
                  some (false)
                else
                  bn1 (F_X0_layerOf x0 x2 I L R) fun v28 =>
                  if v28 = (5 : Int32) then
                    some (true)
                  else
                    some (false)
              else
                if x1 = (8 : Int32) then
                  bn1 (F_X11_within x2 (-300 : Int32) (900 : Int32) I L R) fun b32 =>
                  some (b32)
                else
                  if x1 = (9 : Int32) then
                    bn1 (F_X11_within x2 (0 : Int32) (2 : Int32) I L R) fun b35 =>
                    some (b35)
                  else
                    if x1 = (10 : Int32) then
                      bn1 (F_X11_within x2 (1 : Int32) (40 : Int32) I L R) fun b38 =>
                      some (b38)
                    else
                      if x1 = (11 : Int32) then
                        bn1 (F_X11_within x2 (1 : Int32) (200 : Int32) I L R) fun b41 =>
                        some (b41)
                      else
                        if x1 = (12 : Int32) then
                          bn1 (F_X11_within x2 (0 : Int32) (3 : Int32) I L R) fun b44 =>
                          some (b44)
                        else
                          if x1 = (13 : Int32) then
                            bn1 (F_X11_within x2 (1 : Int32) (9 : Int32) I L R) fun b47 =>
                            some (b47)
                          else
                            some (false)
  else none
set_option maxRecDepth 100000 in
set_option maxHeartbeats 4000000 in
theorem c_X0_fits (l : Launch) (D : va_G) (cA : Nat → ClassId) (ad : Nat → Nat) (bs : Nat) (X : State → Prop) (hAd : Ax ad bs) (hX : Stb bs X) (x0 : Nat) (x1 : Int32) (x2 : Int32) (I : MI) (L : ML) (R : MR) (r : Bool) (h : F_X0_fits x0 x1 x2 I L R = some (r)) : Cn l D cA ad bs X yX0_fits cX0_fits 3 (some .boolean) 1 22 [.ref (ad x0), .int x1, .int x2] I L R (some (.int (b2i r)), I, L, R) := by
  refine Cn.ofV hAd hX [(0, .ref (ad x0)), (1, .int x1), (2, .int x2)] rfl (Nat.le_of_ble_eq_true rfl) (by decide) ?_
  intro G el eD ecA ead ebs eX erm eNL C0
  subst el eD ecA ead ebs eX
  unfold F_X0_fits at h
  obtain ⟨c_x0, h⟩ := ite_some h
  refine V_iload_n C0 1 rfl rfl dX0_fits_0 ?_
  have nd1 := nd_0 x1
  by_cases c2 : x1 = (1 : Int32)
  · have h := (if_pos c2).symm.trans h
    refine V_tableC C0 (tgt := 68) (v := (1 : Int32)) c2 (by decide) (by decide) dX0_fits_1 ?_
    refine V_iload_n C0 2 rfl rfl dX0_fits_68 ?_
    refine V_iconst C0 (v := (1 : Int32)) (by decide) dX0_fits_69 ?_
    refine V_sipush C0 (v := (2000 : Int32)) (by decide) dX0_fits_70 ?_
    obtain ⟨b3, q4, h⟩ := bn1_some h
    refine V_callS C0 (st := []) (As := [.int x2, .int (1 : Int32), .int (2000 : Int32)]) (c_X11_within G.l G.D G.cA G.ad G.bs G.X C0.2.2.2.2.2.2.2.2.2.1 C0.2.2.2.2.2.2.2.2.2.2.2.2 x2 (1 : Int32) (2000 : Int32) I L R b3 q4) lc_X11_within lk_X0_85 rfl (by rw [erm]; decide) (Nat.le_of_ble_eq_true rfl) dX0_fits_73 ?_
    show V G _ 76 [(0, .ref (G.ad x0)), (1, .int x1), (2, .int x2)] [.int (b2i b3)] I L R
    cases h
    exact V_zret C0 (b2i01 _) dX0_fits_76
  · have h := (if_neg c2).symm.trans h
    have nd1 := nd_add nd1 c2
    by_cases c5 : x1 = (2 : Int32)
    · have h := (if_pos c5).symm.trans h
      refine V_tableC C0 (tgt := 77) (v := (2 : Int32)) c5 (by decide) (by decide) dX0_fits_1 ?_
      refine V_iload_n C0 2 rfl rfl dX0_fits_77 ?_
      refine V_bipush C0 (v := (20 : Int32)) (by decide) dX0_fits_78 ?_
      refine V_sipush C0 (v := (2000 : Int32)) (by decide) dX0_fits_80 ?_
      obtain ⟨b6, q7, h⟩ := bn1_some h
      refine V_callS C0 (st := []) (As := [.int x2, .int (20 : Int32), .int (2000 : Int32)]) (c_X11_within G.l G.D G.cA G.ad G.bs G.X C0.2.2.2.2.2.2.2.2.2.1 C0.2.2.2.2.2.2.2.2.2.2.2.2 x2 (20 : Int32) (2000 : Int32) I L R b6 q7) lc_X11_within lk_X0_85 rfl (by rw [erm]; decide) (Nat.le_of_ble_eq_true rfl) dX0_fits_83 ?_
      show V G _ 86 [(0, .ref (G.ad x0)), (1, .int x1), (2, .int x2)] [.int (b2i b6)] I L R
      cases h
      exact V_zret C0 (b2i01 _) dX0_fits_86
    · have h := (if_neg c5).symm.trans h
      have nd1 := nd_add nd1 c5
      by_cases c8 : x1 = (3 : Int32)
      · have h := (if_pos c8).symm.trans h
        refine V_tableC C0 (tgt := 87) (v := (3 : Int32)) c8 (by decide) (by decide) dX0_fits_1 ?_
        refine V_iload_n C0 2 rfl rfl dX0_fits_87 ?_
        refine V_iconst C0 (v := (1 : Int32)) (by decide) dX0_fits_88 ?_
        refine V_bipush C0 (v := (8 : Int32)) (by decide) dX0_fits_89 ?_
        obtain ⟨b9, q10, h⟩ := bn1_some h
        refine V_callS C0 (st := []) (As := [.int x2, .int (1 : Int32), .int (8 : Int32)]) (c_X11_within G.l G.D G.cA G.ad G.bs G.X C0.2.2.2.2.2.2.2.2.2.1 C0.2.2.2.2.2.2.2.2.2.2.2.2 x2 (1 : Int32) (8 : Int32) I L R b9 q10) lc_X11_within lk_X0_85 rfl (by rw [erm]; decide) (Nat.le_of_ble_eq_true rfl) dX0_fits_91 ?_
        show V G _ 94 [(0, .ref (G.ad x0)), (1, .int x1), (2, .int x2)] [.int (b2i b9)] I L R
        cases h
        exact V_zret C0 (b2i01 _) dX0_fits_94
      · have h := (if_neg c8).symm.trans h
        have nd1 := nd_add nd1 c8
        by_cases c11 : x1 = (4 : Int32)
        · have h := (if_pos c11).symm.trans h
          refine V_tableC C0 (tgt := 95) (v := (4 : Int32)) c11 (by decide) (by decide) dX0_fits_1 ?_
          refine V_iload_n C0 2 rfl rfl dX0_fits_95 ?_
          refine V_iconst C0 (v := (1 : Int32)) (by decide) dX0_fits_96 ?_
          refine V_bipush C0 (v := (50 : Int32)) (by decide) dX0_fits_97 ?_
          obtain ⟨b12, q13, h⟩ := bn1_some h
          refine V_callS C0 (st := []) (As := [.int x2, .int (1 : Int32), .int (50 : Int32)]) (c_X11_within G.l G.D G.cA G.ad G.bs G.X C0.2.2.2.2.2.2.2.2.2.1 C0.2.2.2.2.2.2.2.2.2.2.2.2 x2 (1 : Int32) (50 : Int32) I L R b12 q13) lc_X11_within lk_X0_85 rfl (by rw [erm]; decide) (Nat.le_of_ble_eq_true rfl) dX0_fits_99 ?_
          show V G _ 102 [(0, .ref (G.ad x0)), (1, .int x1), (2, .int x2)] [.int (b2i b12)] I L R
          cases h
          exact V_zret C0 (b2i01 _) dX0_fits_102
        · have h := (if_neg c11).symm.trans h
          have nd1 := nd_add nd1 c11
          by_cases c14 : x1 = (5 : Int32)
          · have h := (if_pos c14).symm.trans h
            refine V_tableC C0 (tgt := 103) (v := (5 : Int32)) c14 (by decide) (by decide) dX0_fits_1 ?_
            refine V_iload_n C0 2 rfl rfl dX0_fits_103 ?_
            refine V_iconst C0 (v := (0 : Int32)) (by decide) dX0_fits_104 ?_
            refine V_aload_n C0 0 rfl rfl dX0_fits_105 ?_
            refine V_getI C0 0 3 fl_X0_22 c_x0.2 c_x0.1 rfl dX0_fits_106 ?_
            refine V_iconst C0 (v := (1 : Int32)) (by decide) dX0_fits_109 ?_
            refine V_isub C0 dX0_fits_110 ?_
            obtain ⟨b15, q16, h⟩ := bn1_some h
            refine V_callS C0 (st := []) (As := [.int x2, .int (0 : Int32), .int ((I x0 3) - (1 : Int32))]) (c_X11_within G.l G.D G.cA G.ad G.bs G.X C0.2.2.2.2.2.2.2.2.2.1 C0.2.2.2.2.2.2.2.2.2.2.2.2 x2 (0 : Int32) ((I x0 3) - (1 : Int32)) I L R b15 q16) lc_X11_within lk_X0_85 rfl (by rw [erm]; decide) (Nat.le_of_ble_eq_true rfl) dX0_fits_111 ?_
            show V G _ 114 [(0, .ref (G.ad x0)), (1, .int x1), (2, .int x2)] [.int (b2i b15)] I L R
            cases h
            exact V_zret C0 (b2i01 _) dX0_fits_114
          · have h := (if_neg c14).symm.trans h
            have nd1 := nd_add nd1 c14
            by_cases c17 : x1 = (6 : Int32)
            · have h := (if_pos c17).symm.trans h
              refine V_tableC C0 (tgt := 115) (v := (6 : Int32)) c17 (by decide) (by decide) dX0_fits_1 ?_
              refine V_iload_n C0 2 rfl rfl dX0_fits_115 ?_
              refine V_iconst C0 (v := (0 : Int32)) (by decide) dX0_fits_116 ?_
              refine V_aload_n C0 0 rfl rfl dX0_fits_117 ?_
              refine V_getI C0 0 3 fl_X0_22 c_x0.2 c_x0.1 rfl dX0_fits_118 ?_
              refine V_iconst C0 (v := (1 : Int32)) (by decide) dX0_fits_121 ?_
              refine V_isub C0 dX0_fits_122 ?_
              obtain ⟨b18, q19, h⟩ := bn1_some h
              refine V_callS C0 (st := []) (As := [.int x2, .int (0 : Int32), .int ((I x0 3) - (1 : Int32))]) (c_X11_within G.l G.D G.cA G.ad G.bs G.X C0.2.2.2.2.2.2.2.2.2.1 C0.2.2.2.2.2.2.2.2.2.2.2.2 x2 (0 : Int32) ((I x0 3) - (1 : Int32)) I L R b18 q19) lc_X11_within lk_X0_85 rfl (by rw [erm]; decide) (Nat.le_of_ble_eq_true rfl) dX0_fits_123 ?_
              show V G _ 126 [(0, .ref (G.ad x0)), (1, .int x1), (2, .int x2)] [.int (b2i b18)] I L R
              refine V_if_eq C0 (tgt := 142) (by decide) dX0_fits_126 (fun c20 => ?_) (fun c20 => ?_)
              · have h := (if_pos c20).symm.trans h
                refine V_iconst C0 (v := (0 : Int32)) (by decide) dX0_fits_142 ?_
                cases h
                exact V_zret C0 (by decide) dX0_fits_143
              · have h := (if_neg c20).symm.trans h
                refine V_aload_n C0 0 rfl rfl dX0_fits_129 ?_
                refine V_iload_n C0 2 rfl rfl dX0_fits_130 ?_
                obtain ⟨v21, q22, h⟩ := bn1_some h
                refine V_callV C0 (st := []) (As := [.int x2]) 0 (c_X0_layerOf G.l G.D G.cA G.ad G.bs G.X C0.2.2.2.2.2.2.2.2.2.1 C0.2.2.2.2.2.2.2.2.2.2.2.2 x0 x2 I L R v21 q22) lc_X0_layerOf lk_X0_89 c_x0.2 c_x0.1 ⟨_, rfl, rfl⟩ rfl (by rw [erm]; decide) (Nat.le_of_ble_eq_true rfl) dX0_fits_131 ?_
                show V G _ 134 [(0, .ref (G.ad x0)), (1, .int x1), (2, .int x2)] [.int v21] I L R
                refine V_iconst C0 (v := (4 : Int32)) (by decide) dX0_fits_134 ?_
                refine V_icmp_ne C0 (tgt := 142) (by decide) dX0_fits_135 (fun c23 => ?_) (fun c23 => ?_)
                · have h := (if_neg c23).symm.trans h
                  refine V_iconst C0 (v := (0 : Int32)) (by decide) dX0_fits_142 ?_
                  cases h
                  exact V_zret C0 (by decide) dX0_fits_143
                · have h := (if_pos c23).symm.trans h
                  refine V_iconst C0 (v := (1 : Int32)) (by decide) dX0_fits_138 ?_
                  refine V_goto C0 (tgt := 143) (by decide) dX0_fits_139 ?_
                  cases h
                  exact V_zret C0 (by decide) dX0_fits_143
            · have h := (if_neg c17).symm.trans h
              have nd1 := nd_add nd1 c17
              by_cases c24 : x1 = (7 : Int32)
              · have h := (if_pos c24).symm.trans h
                refine V_tableC C0 (tgt := 144) (v := (7 : Int32)) c24 (by decide) (by decide) dX0_fits_1 ?_
                refine V_iload_n C0 2 rfl rfl dX0_fits_144 ?_
                refine V_iconst C0 (v := (0 : Int32)) (by decide) dX0_fits_145 ?_
                refine V_aload_n C0 0 rfl rfl dX0_fits_146 ?_
                refine V_getI C0 0 3 fl_X0_22 c_x0.2 c_x0.1 rfl dX0_fits_147 ?_
                refine V_iconst C0 (v := (1 : Int32)) (by decide) dX0_fits_150 ?_
                refine V_isub C0 dX0_fits_151 ?_
                obtain ⟨b25, q26, h⟩ := bn1_some h
                refine V_callS C0 (st := []) (As := [.int x2, .int (0 : Int32), .int ((I x0 3) - (1 : Int32))]) (c_X11_within G.l G.D G.cA G.ad G.bs G.X C0.2.2.2.2.2.2.2.2.2.1 C0.2.2.2.2.2.2.2.2.2.2.2.2 x2 (0 : Int32) ((I x0 3) - (1 : Int32)) I L R b25 q26) lc_X11_within lk_X0_85 rfl (by rw [erm]; decide) (Nat.le_of_ble_eq_true rfl) dX0_fits_152 ?_
                show V G _ 155 [(0, .ref (G.ad x0)), (1, .int x1), (2, .int x2)] [.int (b2i b25)] I L R
                refine V_if_eq C0 (tgt := 171) (by decide) dX0_fits_155 (fun c27 => ?_) (fun c27 => ?_)
                · have h := (if_pos c27).symm.trans h
                  refine V_iconst C0 (v := (0 : Int32)) (by decide) dX0_fits_171 ?_
                  cases h
                  exact V_zret C0 (by decide) dX0_fits_172
                · have h := (if_neg c27).symm.trans h
                  refine V_aload_n C0 0 rfl rfl dX0_fits_158 ?_
                  refine V_iload_n C0 2 rfl rfl dX0_fits_159 ?_
                  obtain ⟨v28, q29, h⟩ := bn1_some h
                  refine V_callV C0 (st := []) (As := [.int x2]) 0 (c_X0_layerOf G.l G.D G.cA G.ad G.bs G.X C0.2.2.2.2.2.2.2.2.2.1 C0.2.2.2.2.2.2.2.2.2.2.2.2 x0 x2 I L R v28 q29) lc_X0_layerOf lk_X0_89 c_x0.2 c_x0.1 ⟨_, rfl, rfl⟩ rfl (by rw [erm]; decide) (Nat.le_of_ble_eq_true rfl) dX0_fits_160 ?_
                  show V G _ 163 [(0, .ref (G.ad x0)), (1, .int x1), (2, .int x2)] [.int v28] I L R
                  refine V_iconst C0 (v := (5 : Int32)) (by decide) dX0_fits_163 ?_
                  refine V_icmp_ne C0 (tgt := 171) (by decide) dX0_fits_164 (fun c30 => ?_) (fun c30 => ?_)
                  · have h := (if_neg c30).symm.trans h
                    refine V_iconst C0 (v := (0 : Int32)) (by decide) dX0_fits_171 ?_
                    cases h
                    exact V_zret C0 (by decide) dX0_fits_172
                  · have h := (if_pos c30).symm.trans h
                    refine V_iconst C0 (v := (1 : Int32)) (by decide) dX0_fits_167 ?_
                    refine V_goto C0 (tgt := 172) (by decide) dX0_fits_168 ?_
                    cases h
                    exact V_zret C0 (by decide) dX0_fits_172
              · have h := (if_neg c24).symm.trans h
                have nd1 := nd_add nd1 c24
                by_cases c31 : x1 = (8 : Int32)
                · have h := (if_pos c31).symm.trans h
                  refine V_tableC C0 (tgt := 173) (v := (8 : Int32)) c31 (by decide) (by decide) dX0_fits_1 ?_
                  refine V_iload_n C0 2 rfl rfl dX0_fits_173 ?_
                  refine V_sipush C0 (v := (-300 : Int32)) (by decide) dX0_fits_174 ?_
                  refine V_sipush C0 (v := (900 : Int32)) (by decide) dX0_fits_177 ?_
                  obtain ⟨b32, q33, h⟩ := bn1_some h
                  refine V_callS C0 (st := []) (As := [.int x2, .int (-300 : Int32), .int (900 : Int32)]) (c_X11_within G.l G.D G.cA G.ad G.bs G.X C0.2.2.2.2.2.2.2.2.2.1 C0.2.2.2.2.2.2.2.2.2.2.2.2 x2 (-300 : Int32) (900 : Int32) I L R b32 q33) lc_X11_within lk_X0_85 rfl (by rw [erm]; decide) (Nat.le_of_ble_eq_true rfl) dX0_fits_180 ?_
                  show V G _ 183 [(0, .ref (G.ad x0)), (1, .int x1), (2, .int x2)] [.int (b2i b32)] I L R
                  cases h
                  exact V_zret C0 (b2i01 _) dX0_fits_183
                · have h := (if_neg c31).symm.trans h
                  have nd1 := nd_add nd1 c31
                  by_cases c34 : x1 = (9 : Int32)
                  · have h := (if_pos c34).symm.trans h
                    refine V_tableC C0 (tgt := 184) (v := (9 : Int32)) c34 (by decide) (by decide) dX0_fits_1 ?_
                    refine V_iload_n C0 2 rfl rfl dX0_fits_184 ?_
                    refine V_iconst C0 (v := (0 : Int32)) (by decide) dX0_fits_185 ?_
                    refine V_iconst C0 (v := (2 : Int32)) (by decide) dX0_fits_186 ?_
                    obtain ⟨b35, q36, h⟩ := bn1_some h
                    refine V_callS C0 (st := []) (As := [.int x2, .int (0 : Int32), .int (2 : Int32)]) (c_X11_within G.l G.D G.cA G.ad G.bs G.X C0.2.2.2.2.2.2.2.2.2.1 C0.2.2.2.2.2.2.2.2.2.2.2.2 x2 (0 : Int32) (2 : Int32) I L R b35 q36) lc_X11_within lk_X0_85 rfl (by rw [erm]; decide) (Nat.le_of_ble_eq_true rfl) dX0_fits_187 ?_
                    show V G _ 190 [(0, .ref (G.ad x0)), (1, .int x1), (2, .int x2)] [.int (b2i b35)] I L R
                    cases h
                    exact V_zret C0 (b2i01 _) dX0_fits_190
                  · have h := (if_neg c34).symm.trans h
                    have nd1 := nd_add nd1 c34
                    by_cases c37 : x1 = (10 : Int32)
                    · have h := (if_pos c37).symm.trans h
                      refine V_tableC C0 (tgt := 191) (v := (10 : Int32)) c37 (by decide) (by decide) dX0_fits_1 ?_
                      refine V_iload_n C0 2 rfl rfl dX0_fits_191 ?_
                      refine V_iconst C0 (v := (1 : Int32)) (by decide) dX0_fits_192 ?_
                      refine V_bipush C0 (v := (40 : Int32)) (by decide) dX0_fits_193 ?_
                      obtain ⟨b38, q39, h⟩ := bn1_some h
                      refine V_callS C0 (st := []) (As := [.int x2, .int (1 : Int32), .int (40 : Int32)]) (c_X11_within G.l G.D G.cA G.ad G.bs G.X C0.2.2.2.2.2.2.2.2.2.1 C0.2.2.2.2.2.2.2.2.2.2.2.2 x2 (1 : Int32) (40 : Int32) I L R b38 q39) lc_X11_within lk_X0_85 rfl (by rw [erm]; decide) (Nat.le_of_ble_eq_true rfl) dX0_fits_195 ?_
                      show V G _ 198 [(0, .ref (G.ad x0)), (1, .int x1), (2, .int x2)] [.int (b2i b38)] I L R
                      cases h
                      exact V_zret C0 (b2i01 _) dX0_fits_198
                    · have h := (if_neg c37).symm.trans h
                      have nd1 := nd_add nd1 c37
                      by_cases c40 : x1 = (11 : Int32)
                      · have h := (if_pos c40).symm.trans h
                        refine V_tableC C0 (tgt := 199) (v := (11 : Int32)) c40 (by decide) (by decide) dX0_fits_1 ?_
                        refine V_iload_n C0 2 rfl rfl dX0_fits_199 ?_
                        refine V_iconst C0 (v := (1 : Int32)) (by decide) dX0_fits_200 ?_
                        refine V_sipush C0 (v := (200 : Int32)) (by decide) dX0_fits_201 ?_
                        obtain ⟨b41, q42, h⟩ := bn1_some h
                        refine V_callS C0 (st := []) (As := [.int x2, .int (1 : Int32), .int (200 : Int32)]) (c_X11_within G.l G.D G.cA G.ad G.bs G.X C0.2.2.2.2.2.2.2.2.2.1 C0.2.2.2.2.2.2.2.2.2.2.2.2 x2 (1 : Int32) (200 : Int32) I L R b41 q42) lc_X11_within lk_X0_85 rfl (by rw [erm]; decide) (Nat.le_of_ble_eq_true rfl) dX0_fits_204 ?_
                        show V G _ 207 [(0, .ref (G.ad x0)), (1, .int x1), (2, .int x2)] [.int (b2i b41)] I L R
                        cases h
                        exact V_zret C0 (b2i01 _) dX0_fits_207
                      · have h := (if_neg c40).symm.trans h
                        have nd1 := nd_add nd1 c40
                        by_cases c43 : x1 = (12 : Int32)
                        · have h := (if_pos c43).symm.trans h
                          refine V_tableC C0 (tgt := 208) (v := (12 : Int32)) c43 (by decide) (by decide) dX0_fits_1 ?_
                          refine V_iload_n C0 2 rfl rfl dX0_fits_208 ?_
                          refine V_iconst C0 (v := (0 : Int32)) (by decide) dX0_fits_209 ?_
                          refine V_iconst C0 (v := (3 : Int32)) (by decide) dX0_fits_210 ?_
                          obtain ⟨b44, q45, h⟩ := bn1_some h
                          refine V_callS C0 (st := []) (As := [.int x2, .int (0 : Int32), .int (3 : Int32)]) (c_X11_within G.l G.D G.cA G.ad G.bs G.X C0.2.2.2.2.2.2.2.2.2.1 C0.2.2.2.2.2.2.2.2.2.2.2.2 x2 (0 : Int32) (3 : Int32) I L R b44 q45) lc_X11_within lk_X0_85 rfl (by rw [erm]; decide) (Nat.le_of_ble_eq_true rfl) dX0_fits_211 ?_
                          show V G _ 214 [(0, .ref (G.ad x0)), (1, .int x1), (2, .int x2)] [.int (b2i b44)] I L R
                          cases h
                          exact V_zret C0 (b2i01 _) dX0_fits_214
                        · have h := (if_neg c43).symm.trans h
                          have nd1 := nd_add nd1 c43
                          by_cases c46 : x1 = (13 : Int32)
                          · have h := (if_pos c46).symm.trans h
                            refine V_tableC C0 (tgt := 215) (v := (13 : Int32)) c46 (by decide) (by decide) dX0_fits_1 ?_
                            refine V_iload_n C0 2 rfl rfl dX0_fits_215 ?_
                            refine V_iconst C0 (v := (1 : Int32)) (by decide) dX0_fits_216 ?_
                            refine V_bipush C0 (v := (9 : Int32)) (by decide) dX0_fits_217 ?_
                            obtain ⟨b47, q48, h⟩ := bn1_some h
                            refine V_callS C0 (st := []) (As := [.int x2, .int (1 : Int32), .int (9 : Int32)]) (c_X11_within G.l G.D G.cA G.ad G.bs G.X C0.2.2.2.2.2.2.2.2.2.1 C0.2.2.2.2.2.2.2.2.2.2.2.2 x2 (1 : Int32) (9 : Int32) I L R b47 q48) lc_X11_within lk_X0_85 rfl (by rw [erm]; decide) (Nat.le_of_ble_eq_true rfl) dX0_fits_219 ?_
                            show V G _ 222 [(0, .ref (G.ad x0)), (1, .int x1), (2, .int x2)] [.int (b2i b47)] I L R
                            cases h
                            exact V_zret C0 (b2i01 _) dX0_fits_222
                          · have h := (if_neg c46).symm.trans h
                            have nd1 := nd_add nd1 c46
                            refine V_tableN C0 (tgt := 223) nd1 (by decide) (by decide) dX0_fits_1 ?_
                            refine V_iconst C0 (v := (0 : Int32)) (by decide) dX0_fits_223 ?_
                            cases h
                            exact V_zret C0 (by decide) dX0_fits_224
theorem dX8_isSign_0 : decode cX8_isSign 0 = .ok (.aload_n 0, 1) := by decide +kernel
theorem dX8_isSign_1 : decode cX8_isSign 1 = .ok (.getfield 38, 3) := by decide +kernel
theorem dX8_isSign_4 : decode cX8_isSign 4 = .ok (.iconst 3, 1) := by decide +kernel
theorem dX8_isSign_5 : decode cX8_isSign 5 = .ok (.if_icmp .ne 15, 3) := by decide +kernel
theorem dX8_isSign_8 : decode cX8_isSign 8 = .ok (.aload_n 0, 1) := by decide +kernel
theorem dX8_isSign_9 : decode cX8_isSign 9 = .ok (.getfield 31, 3) := by decide +kernel
theorem dX8_isSign_12 : decode cX8_isSign 12 = .ok (.iload_n 1, 1) := by decide +kernel
theorem dX8_isSign_13 : decode cX8_isSign 13 = .ok (.if_icmp .ne 7, 3) := by decide +kernel
theorem dX8_isSign_16 : decode cX8_isSign 16 = .ok (.iconst 1, 1) := by decide +kernel
theorem dX8_isSign_17 : decode cX8_isSign 17 = .ok (.goto 4, 3) := by decide +kernel
theorem dX8_isSign_20 : decode cX8_isSign 20 = .ok (.iconst 0, 1) := by decide +kernel
theorem dX8_isSign_21 : decode cX8_isSign 21 = .ok (.ireturn, 1) := by decide +kernel
def F_X8_isSign (x0 : Nat) (x1 : Int32) (I : MI) (L : ML) (R : MR) : Option (Bool) :=
  if kd x0 = 7 ∧ x0 < NN then
  if (I x0 4) = (3 : Int32) then
    if (I x0 6) = x1 then
      some (true)
    else
      some (false)
  else
    some (false)
  else none
set_option maxRecDepth 100000 in
set_option maxHeartbeats 4000000 in
theorem c_X8_isSign (l : Launch) (D : va_G) (cA : Nat → ClassId) (ad : Nat → Nat) (bs : Nat) (X : State → Prop) (hAd : Ax ad bs) (hX : Stb bs X) (x0 : Nat) (x1 : Int32) (I : MI) (L : ML) (R : MR) (r : Bool) (h : F_X8_isSign x0 x1 I L R = some (r)) : Cn l D cA ad bs X yX8_isSign cX8_isSign 2 (some .boolean) 0 0 [.ref (ad x0), .int x1] I L R (some (.int (b2i r)), I, L, R) := by
  refine Cn.ofV hAd hX [(0, .ref (ad x0)), (1, .int x1)] rfl (Nat.le_of_ble_eq_true rfl) (by decide) ?_
  intro G el eD ecA ead ebs eX erm eNL C0
  subst el eD ecA ead ebs eX
  unfold F_X8_isSign at h
  obtain ⟨c_x0, h⟩ := ite_some h
  refine V_aload_n C0 0 rfl rfl dX8_isSign_0 ?_
  refine V_getI C0 7 4 fl_X8_38 c_x0.2 c_x0.1 rfl dX8_isSign_1 ?_
  refine V_iconst C0 (v := (3 : Int32)) (by decide) dX8_isSign_4 ?_
  refine V_icmp_ne C0 (tgt := 20) (by decide) dX8_isSign_5 (fun c1 => ?_) (fun c1 => ?_)
  · have h := (if_neg c1).symm.trans h
    refine V_iconst C0 (v := (0 : Int32)) (by decide) dX8_isSign_20 ?_
    cases h
    exact V_zret C0 (by decide) dX8_isSign_21
  · have h := (if_pos c1).symm.trans h
    refine V_aload_n C0 0 rfl rfl dX8_isSign_8 ?_
    refine V_getI C0 7 6 fl_X8_31 c_x0.2 c_x0.1 rfl dX8_isSign_9 ?_
    refine V_iload_n C0 1 rfl rfl dX8_isSign_12 ?_
    refine V_icmp_ne C0 (tgt := 20) (by decide) dX8_isSign_13 (fun c2 => ?_) (fun c2 => ?_)
    · have h := (if_neg c2).symm.trans h
      refine V_iconst C0 (v := (0 : Int32)) (by decide) dX8_isSign_20 ?_
      cases h
      exact V_zret C0 (by decide) dX8_isSign_21
    · have h := (if_pos c2).symm.trans h
      refine V_iconst C0 (v := (1 : Int32)) (by decide) dX8_isSign_16 ?_
      refine V_goto C0 (tgt := 21) (by decide) dX8_isSign_17 ?_
      cases h
      exact V_zret C0 (by decide) dX8_isSign_21
theorem dX8_takeSign_0 : decode cX8_takeSign 0 = .ok (.aload_n 0, 1) := by decide +kernel
theorem dX8_takeSign_1 : decode cX8_takeSign 1 = .ok (.invokevirtual 57, 3) := by decide +kernel
theorem dX8_takeSign_4 : decode cX8_takeSign 4 = .ok (.aload_n 0, 1) := by decide +kernel
theorem dX8_takeSign_5 : decode cX8_takeSign 5 = .ok (.iload_n 1, 1) := by decide +kernel
theorem dX8_takeSign_6 : decode cX8_takeSign 6 = .ok (.invokevirtual 68, 3) := by decide +kernel
theorem dX8_takeSign_9 : decode cX8_takeSign 9 = .ok (.ifCond .ne 11, 3) := by decide +kernel
theorem dX8_takeSign_12 : decode cX8_takeSign 12 = .ok (.aload_n 0, 1) := by decide +kernel
theorem dX8_takeSign_13 : decode cX8_takeSign 13 = .ok (.iconst 2, 1) := by decide +kernel
theorem dX8_takeSign_14 : decode cX8_takeSign 14 = .ok (.invokevirtual 60, 3) := by decide +kernel
theorem dX8_takeSign_17 : decode cX8_takeSign 17 = .ok (.ifCond .eq 7, 3) := by decide +kernel
theorem dX8_takeSign_20 : decode cX8_takeSign 20 = .ok (.iconst 1, 1) := by decide +kernel
theorem dX8_takeSign_21 : decode cX8_takeSign 21 = .ok (.goto 4, 3) := by decide +kernel
theorem dX8_takeSign_24 : decode cX8_takeSign 24 = .ok (.iconst 0, 1) := by decide +kernel
theorem dX8_takeSign_25 : decode cX8_takeSign 25 = .ok (.ireturn, 1) := by decide +kernel
def F_X8_takeSign (N : Nat) (x0 : Nat) (x1 : Int32) (I : MI) (L : ML) (R : MR) : Option (Bool × MI × ML) :=
  if kd x0 = 7 ∧ x0 < NN then
  bn2 (F_X8_next N x0 I L R) fun I1 L2 =>
  bn1 (F_X8_isSign x0 x1 I1 L2 R) fun b4 =>
  if (b2i b4) = 0 then
    bn2 (F_X8_refuse x0 (2 : Int32) I1 L2 R) fun b7 I8 =>
    if (b2i b7) = 0 then
      some (false, I8, L2)
    else
      some (true, I8, L2)
  else
    some (true, I1, L2)
  else none
set_option maxRecDepth 100000 in
set_option maxHeartbeats 4000000 in
theorem c_X8_takeSign (l : Launch) (D : va_G) (cA : Nat → ClassId) (ad : Nat → Nat) (bs : Nat) (X : State → Prop) (hAd : Ax ad bs) (hX : Stb bs X) (N : Nat) (x0 : Nat) (x1 : Int32) (I : MI) (L : ML) (R : MR) (r : Bool) (I' : MI) (L' : ML) (h : F_X8_takeSign N x0 x1 I L R = some (r, I', L')) : Cn l D cA ad bs X yX8_takeSign cX8_takeSign 2 (some .boolean) 3 64 [.ref (ad x0), .int x1] I L R (some (.int (b2i r)), I', L', R) := by
  refine Cn.ofV hAd hX [(0, .ref (ad x0)), (1, .int x1)] rfl (Nat.le_of_ble_eq_true rfl) (by decide) ?_
  intro G el eD ecA ead ebs eX erm eNL C0
  subst el eD ecA ead ebs eX
  unfold F_X8_takeSign at h
  obtain ⟨c_x0, h⟩ := ite_some h
  refine V_aload_n C0 0 rfl rfl dX8_takeSign_0 ?_
  obtain ⟨I1, L2, q3, h⟩ := bn2_some h
  refine V_callV C0 (st := []) (As := []) 7 (c_X8_next G.l G.D G.cA G.ad G.bs G.X C0.2.2.2.2.2.2.2.2.2.1 C0.2.2.2.2.2.2.2.2.2.2.2.2 N x0 I L R I1 L2 q3) lc_X8_next lk_X8_57 c_x0.2 c_x0.1 ⟨_, rfl, rfl⟩ rfl (by rw [erm]; decide) (Nat.le_of_ble_eq_true rfl) dX8_takeSign_1 ?_
  show V G _ 4 [(0, .ref (G.ad x0)), (1, .int x1)] [] I1 L2 R
  refine V_aload_n C0 0 rfl rfl dX8_takeSign_4 ?_
  refine V_iload_n C0 1 rfl rfl dX8_takeSign_5 ?_
  obtain ⟨b4, q5, h⟩ := bn1_some h
  refine V_callV C0 (st := []) (As := [.int x1]) 7 (c_X8_isSign G.l G.D G.cA G.ad G.bs G.X C0.2.2.2.2.2.2.2.2.2.1 C0.2.2.2.2.2.2.2.2.2.2.2.2 x0 x1 I1 L2 R b4 q5) lc_X8_isSign lk_X8_68 c_x0.2 c_x0.1 ⟨_, rfl, rfl⟩ rfl (by rw [erm]; decide) (Nat.le_of_ble_eq_true rfl) dX8_takeSign_6 ?_
  show V G _ 9 [(0, .ref (G.ad x0)), (1, .int x1)] [.int (b2i b4)] I1 L2 R
  refine V_if_ne C0 (tgt := 20) (by decide) dX8_takeSign_9 (fun c6 => ?_) (fun c6 => ?_)
  · have h := (if_neg c6).symm.trans h
    refine V_iconst C0 (v := (1 : Int32)) (by decide) dX8_takeSign_20 ?_
    refine V_goto C0 (tgt := 25) (by decide) dX8_takeSign_21 ?_
    cases h
    exact V_zret C0 (by decide) dX8_takeSign_25
  · have h := (if_pos c6).symm.trans h
    refine V_aload_n C0 0 rfl rfl dX8_takeSign_12 ?_
    refine V_iconst C0 (v := (2 : Int32)) (by decide) dX8_takeSign_13 ?_
    obtain ⟨b7, I8, q9, h⟩ := bn2_some h
    refine V_callV C0 (st := []) (As := [.int (2 : Int32)]) 7 (c_X8_refuse G.l G.D G.cA G.ad G.bs G.X C0.2.2.2.2.2.2.2.2.2.1 C0.2.2.2.2.2.2.2.2.2.2.2.2 x0 (2 : Int32) I1 L2 R b7 I8 q9) lc_X8_refuse lk_X8_60 c_x0.2 c_x0.1 ⟨_, rfl, rfl⟩ rfl (by rw [erm]; decide) (Nat.le_of_ble_eq_true rfl) dX8_takeSign_14 ?_
    show V G _ 17 [(0, .ref (G.ad x0)), (1, .int x1)] [.int (b2i b7)] I8 L2 R
    refine V_if_eq C0 (tgt := 24) (by decide) dX8_takeSign_17 (fun c10 => ?_) (fun c10 => ?_)
    · have h := (if_pos c10).symm.trans h
      refine V_iconst C0 (v := (0 : Int32)) (by decide) dX8_takeSign_24 ?_
      cases h
      exact V_zret C0 (by decide) dX8_takeSign_25
    · have h := (if_neg c10).symm.trans h
      refine V_iconst C0 (v := (1 : Int32)) (by decide) dX8_takeSign_20 ?_
      refine V_goto C0 (tgt := 25) (by decide) dX8_takeSign_21 ?_
      cases h
      exact V_zret C0 (by decide) dX8_takeSign_25
theorem dX1_begin_0 : decode cX1_begin 0 = .ok (.aload_n 0, 1) := by decide +kernel
theorem dX1_begin_1 : decode cX1_begin 1 = .ok (.iconst 0, 1) := by decide +kernel
theorem dX1_begin_2 : decode cX1_begin 2 = .ok (.putfield 15, 3) := by decide +kernel
theorem dX1_begin_5 : decode cX1_begin 5 = .ok (.return_, 1) := by decide +kernel
def F_X1_begin (x0 : Nat) (I : MI) (L : ML) (R : MR) : Option (MI) :=
  if kd x0 = 1 ∧ x0 < NN then
  wr (uI I x0 1 (0 : Int32)) fun (I1 : MI) =>
  some (I1)
  else none
set_option maxRecDepth 100000 in
set_option maxHeartbeats 4000000 in
theorem c_X1_begin (l : Launch) (D : va_G) (cA : Nat → ClassId) (ad : Nat → Nat) (bs : Nat) (X : State → Prop) (hAd : Ax ad bs) (hX : Stb bs X) (x0 : Nat) (I : MI) (L : ML) (R : MR) (I' : MI) (h : F_X1_begin x0 I L R = some (I')) : Cn l D cA ad bs X yX1_begin cX1_begin 1 none 0 0 [.ref (ad x0)] I L R (none, I', L, R) := by
  refine Cn.ofV hAd hX [(0, .ref (ad x0))] rfl (Nat.le_of_ble_eq_true rfl) (by decide) ?_
  intro G el eD ecA ead ebs eX erm eNL C0
  subst el eD ecA ead ebs eX
  unfold F_X1_begin at h
  obtain ⟨c_x0, h⟩ := ite_some h
  refine V_aload_n C0 0 rfl rfl dX1_begin_0 ?_
  refine V_iconst C0 (v := (0 : Int32)) (by decide) dX1_begin_1 ?_
  obtain ⟨I1, eI1, h⟩ := wr_some h
  refine V_putI C0 1 1 fp_X1_15 c_x0.2 c_x0.1 rfl dX1_begin_2 ?_
  rw [← eI1]
  cases h
  exact V_vret C0 dX1_begin_5
theorem dX1_byteCount_0 : decode cX1_byteCount 0 = .ok (.aload_n 0, 1) := by decide +kernel
theorem dX1_byteCount_1 : decode cX1_byteCount 1 = .ok (.getfield 15, 3) := by decide +kernel
theorem dX1_byteCount_4 : decode cX1_byteCount 4 = .ok (.ireturn, 1) := by decide +kernel
def F_X1_byteCount (x0 : Nat) (I : MI) (L : ML) (R : MR) : Option (Int32) :=
  if kd x0 = 1 ∧ x0 < NN then
  some ((I x0 1))
  else none
set_option maxRecDepth 100000 in
set_option maxHeartbeats 4000000 in
theorem c_X1_byteCount (l : Launch) (D : va_G) (cA : Nat → ClassId) (ad : Nat → Nat) (bs : Nat) (X : State → Prop) (hAd : Ax ad bs) (hX : Stb bs X) (x0 : Nat) (I : MI) (L : ML) (R : MR) (r : Int32) (h : F_X1_byteCount x0 I L R = some (r)) : Cn l D cA ad bs X yX1_byteCount cX1_byteCount 1 (some .int) 0 0 [.ref (ad x0)] I L R (some (.int r), I, L, R) := by
  refine Cn.ofV hAd hX [(0, .ref (ad x0))] rfl (Nat.le_of_ble_eq_true rfl) (by decide) ?_
  intro G el eD ecA ead ebs eX erm eNL C0
  subst el eD ecA ead ebs eX
  unfold F_X1_byteCount at h
  obtain ⟨c_x0, h⟩ := ite_some h
  refine V_aload_n C0 0 rfl rfl dX1_byteCount_0 ?_
  refine V_getI C0 1 1 fl_X1_15 c_x0.2 c_x0.1 rfl dX1_byteCount_1 ?_
  cases h
  exact V_iret C0 dX1_byteCount_4
theorem dJ9_floorMod_7cf53_0 : decode cJ9_floorMod_7cf53 0 = .ok (.iload_n 0, 1) := by decide +kernel
theorem dJ9_floorMod_7cf53_1 : decode cJ9_floorMod_7cf53 1 = .ok (.iload_n 1, 1) := by decide +kernel
theorem dJ9_floorMod_7cf53_2 : decode cJ9_floorMod_7cf53 2 = .ok (.irem, 1) := by decide +kernel
theorem dJ9_floorMod_7cf53_3 : decode cJ9_floorMod_7cf53 3 = .ok (.istore_n 2, 1) := by decide +kernel
theorem dJ9_floorMod_7cf53_4 : decode cJ9_floorMod_7cf53 4 = .ok (.iload_n 0, 1) := by decide +kernel
theorem dJ9_floorMod_7cf53_5 : decode cJ9_floorMod_7cf53 5 = .ok (.iload_n 1, 1) := by decide +kernel
theorem dJ9_floorMod_7cf53_6 : decode cJ9_floorMod_7cf53 6 = .ok (.ixor, 1) := by decide +kernel
theorem dJ9_floorMod_7cf53_7 : decode cJ9_floorMod_7cf53 7 = .ok (.ifCond .ge 11, 3) := by decide +kernel
theorem dJ9_floorMod_7cf53_10 : decode cJ9_floorMod_7cf53 10 = .ok (.iload_n 2, 1) := by decide +kernel
theorem dJ9_floorMod_7cf53_11 : decode cJ9_floorMod_7cf53 11 = .ok (.ifCond .eq 7, 3) := by decide +kernel
theorem dJ9_floorMod_7cf53_14 : decode cJ9_floorMod_7cf53 14 = .ok (.iload_n 2, 1) := by decide +kernel
theorem dJ9_floorMod_7cf53_15 : decode cJ9_floorMod_7cf53 15 = .ok (.iload_n 1, 1) := by decide +kernel
theorem dJ9_floorMod_7cf53_16 : decode cJ9_floorMod_7cf53 16 = .ok (.iadd, 1) := by decide +kernel
theorem dJ9_floorMod_7cf53_17 : decode cJ9_floorMod_7cf53 17 = .ok (.ireturn, 1) := by decide +kernel
theorem dJ9_floorMod_7cf53_18 : decode cJ9_floorMod_7cf53 18 = .ok (.iload_n 2, 1) := by decide +kernel
theorem dJ9_floorMod_7cf53_19 : decode cJ9_floorMod_7cf53 19 = .ok (.ireturn, 1) := by decide +kernel
def F_J9_floorMod_7cf53 (x0 : Int32) (x1 : Int32) (I : MI) (L : ML) (R : MR) : Option (Int32) :=
  if x1 = 0 then none else
  wr (iR x0 x1) fun (u2 : Int32) =>
  if 0 ≤ (x0 ^^^ x1) then
    some (u2)
  else
    if u2 = 0 then
      some (u2)
    else
      some ((u2 + x1))
set_option maxRecDepth 100000 in
set_option maxHeartbeats 4000000 in
theorem c_J9_floorMod_7cf53 (l : Launch) (D : va_G) (cA : Nat → ClassId) (ad : Nat → Nat) (bs : Nat) (X : State → Prop) (hAd : Ax ad bs) (hX : Stb bs X) (x0 : Int32) (x1 : Int32) (I : MI) (L : ML) (R : MR) (r : Int32) (h : F_J9_floorMod_7cf53 x0 x1 I L R = some (r)) : Cn l D cA ad bs X yJ9_floorMod_7cf53 cJ9_floorMod_7cf53 3 (some .int) 0 0 [.int x0, .int x1] I L R (some (.int r), I, L, R) := by
  refine Cn.ofV hAd hX [(0, .int x0), (1, .int x1)] rfl (Nat.le_of_ble_eq_true rfl) (by decide +kernel) ?_
  intro G el eD ecA ead ebs eX erm eNL C0
  subst el eD ecA ead ebs eX
  unfold F_J9_floorMod_7cf53 at h
  refine V_iload_n C0 0 rfl rfl dJ9_floorMod_7cf53_0 ?_
  refine V_iload_n C0 1 rfl rfl dJ9_floorMod_7cf53_1 ?_
  obtain ⟨c1, h⟩ := ite_none h
  refine V_irem C0 c1 dJ9_floorMod_7cf53_2 ?_
  obtain ⟨u2, eu2, h⟩ := wr_some h
  rw [← eu2]
  refine V_istore_n C0 [(2, .int u2), (0, .int x0), (1, .int x1)] rfl (by rw [eNL]; decide) rfl dJ9_floorMod_7cf53_3 ?_
  refine V_iload_n C0 1 rfl rfl dJ9_floorMod_7cf53_4 ?_
  refine V_iload_n C0 2 rfl rfl dJ9_floorMod_7cf53_5 ?_
  refine V_ixor C0 dJ9_floorMod_7cf53_6 ?_
  refine V_if_ge C0 (tgt := 18) (by decide) dJ9_floorMod_7cf53_7 (fun c3 => ?_) (fun c3 => ?_)
  · have h := (if_pos c3).symm.trans h
    refine V_iload_n C0 0 rfl rfl dJ9_floorMod_7cf53_18 ?_
    cases h
    exact V_iret C0 dJ9_floorMod_7cf53_19
  · have h := (if_neg c3).symm.trans h
    refine V_iload_n C0 0 rfl rfl dJ9_floorMod_7cf53_10 ?_
    refine V_if_eq C0 (tgt := 18) (by decide) dJ9_floorMod_7cf53_11 (fun c4 => ?_) (fun c4 => ?_)
    · have h := (if_pos c4).symm.trans h
      refine V_iload_n C0 0 rfl rfl dJ9_floorMod_7cf53_18 ?_
      cases h
      exact V_iret C0 dJ9_floorMod_7cf53_19
    · have h := (if_neg c4).symm.trans h
      refine V_iload_n C0 0 rfl rfl dJ9_floorMod_7cf53_14 ?_
      refine V_iload_n C0 2 rfl rfl dJ9_floorMod_7cf53_15 ?_
      refine V_iadd C0 dJ9_floorMod_7cf53_16 ?_
      cases h
      exact V_iret C0 dJ9_floorMod_7cf53_17
theorem dX1_send_0 : decode cX1_send 0 = .ok (.aload_n 0, 1) := by decide +kernel
theorem dX1_send_1 : decode cX1_send 1 = .ok (.getfield 11, 3) := by decide +kernel
theorem dX1_send_4 : decode cX1_send 4 = .ok (.aload_n 0, 1) := by decide +kernel
theorem dX1_send_5 : decode cX1_send 5 = .ok (.getfield 15, 3) := by decide +kernel
theorem dX1_send_8 : decode cX1_send 8 = .ok (.sipush 500, 3) := by decide +kernel
theorem dX1_send_11 : decode cX1_send 11 = .ok (.invokestatic 19, 3) := by decide +kernel
theorem dX1_send_14 : decode cX1_send 14 = .ok (.iload_n 1, 1) := by decide +kernel
theorem dX1_send_15 : decode cX1_send 15 = .ok (.iastore, 1) := by decide +kernel
theorem dX1_send_16 : decode cX1_send 16 = .ok (.aload_n 0, 1) := by decide +kernel
theorem dX1_send_17 : decode cX1_send 17 = .ok (.dup, 1) := by decide +kernel
theorem dX1_send_18 : decode cX1_send 18 = .ok (.getfield 15, 3) := by decide +kernel
theorem dX1_send_21 : decode cX1_send 21 = .ok (.iconst 1, 1) := by decide +kernel
theorem dX1_send_22 : decode cX1_send 22 = .ok (.iadd, 1) := by decide +kernel
theorem dX1_send_23 : decode cX1_send 23 = .ok (.putfield 15, 3) := by decide +kernel
theorem dX1_send_26 : decode cX1_send 26 = .ok (.return_, 1) := by decide +kernel
def F_X1_send (x0 : Nat) (x1 : Int32) (I : MI) (L : ML) (R : MR) : Option (MI) :=
  if kd x0 = 1 ∧ x0 < NN then
  (rf R x0 0 20).bind fun a1 =>
  bn1 (F_J9_floorMod_7cf53 (I x0 1) (500 : Int32) I L R) fun v2 =>
  (wi I a1 v2 x1).bind fun I4 =>
  wr (uI I4 x0 1 ((I4 x0 1) + (1 : Int32))) fun (I5 : MI) =>
  some (I5)
  else none
set_option maxRecDepth 100000 in
set_option maxHeartbeats 4000000 in
theorem c_X1_send (l : Launch) (D : va_G) (cA : Nat → ClassId) (ad : Nat → Nat) (bs : Nat) (X : State → Prop) (hAd : Ax ad bs) (hX : Stb bs X) (x0 : Nat) (x1 : Int32) (I : MI) (L : ML) (R : MR) (I' : MI) (h : F_X1_send x0 x1 I L R = some (I')) : Cn l D cA ad bs X yX1_send cX1_send 2 none 1 22 [.ref (ad x0), .int x1] I L R (none, I', L, R) := by
  refine Cn.ofV hAd hX [(0, .ref (ad x0)), (1, .int x1)] rfl (Nat.le_of_ble_eq_true rfl) (by decide) ?_
  intro G el eD ecA ead ebs eX erm eNL C0
  subst el eD ecA ead ebs eX
  unfold F_X1_send at h
  obtain ⟨c_x0, h⟩ := ite_some h
  refine V_aload_n C0 0 rfl rfl dX1_send_0 ?_
  obtain ⟨a1, qa1, h⟩ := bnd_some h
  refine V_getR C0 1 0 fl_X1_11 c_x0.2 c_x0.1 rfl (rf_at qa1) dX1_send_1 ?_
  refine V_aload_n C0 0 rfl rfl dX1_send_4 ?_
  refine V_getI C0 1 1 fl_X1_15 c_x0.2 c_x0.1 rfl dX1_send_5 ?_
  refine V_sipush C0 (v := (500 : Int32)) (by decide) dX1_send_8 ?_
  obtain ⟨v2, q3, h⟩ := bn1_some h
  refine V_callS C0 (st := [.ref (G.ad a1)]) (As := [.int (I x0 1), .int (500 : Int32)]) (c_J9_floorMod_7cf53 G.l G.D G.cA G.ad G.bs G.X C0.2.2.2.2.2.2.2.2.2.1 C0.2.2.2.2.2.2.2.2.2.2.2.2 (I x0 1) (500 : Int32) I L R v2 q3) lc_J9_floorMod_7cf53 lk_X1_19 rfl (by rw [erm]; decide) (Nat.le_of_ble_eq_true rfl) dX1_send_11 ?_
  show V G _ 14 [(0, .ref (G.ad x0)), (1, .int x1)] [.int v2, .ref (G.ad a1)] I L R
  refine V_iload_n C0 1 rfl rfl dX1_send_14 ?_
  obtain ⟨I4, qI4, h⟩ := bnd_some h
  refine V_wi C0 (rf_lt qa1) (rf_kd qa1) qI4 dX1_send_15 ?_
  refine V_aload_n C0 0 rfl rfl dX1_send_16 ?_
  refine V_dup C0 rfl dX1_send_17 ?_
  refine V_getI C0 1 1 fl_X1_15 c_x0.2 c_x0.1 rfl dX1_send_18 ?_
  refine V_iconst C0 (v := (1 : Int32)) (by decide) dX1_send_21 ?_
  refine V_iadd C0 dX1_send_22 ?_
  obtain ⟨I5, eI5, h⟩ := wr_some h
  refine V_putI C0 1 1 fp_X1_15 c_x0.2 c_x0.1 rfl dX1_send_23 ?_
  rw [← eI5]
  cases h
  exact V_vret C0 dX1_send_26
theorem dX1_latest_0 : decode cX1_latest 0 = .ok (.iload_n 1, 1) := by decide +kernel
theorem dX1_latest_1 : decode cX1_latest 1 = .ok (.ifCond .lt 18, 3) := by decide +kernel
theorem dX1_latest_4 : decode cX1_latest 4 = .ok (.iload_n 1, 1) := by decide +kernel
theorem dX1_latest_5 : decode cX1_latest 5 = .ok (.aload_n 0, 1) := by decide +kernel
theorem dX1_latest_6 : decode cX1_latest 6 = .ok (.getfield 15, 3) := by decide +kernel
theorem dX1_latest_9 : decode cX1_latest 9 = .ok (.if_icmp .ge 10, 3) := by decide +kernel
theorem dX1_latest_12 : decode cX1_latest 12 = .ok (.iload_n 1, 1) := by decide +kernel
theorem dX1_latest_13 : decode cX1_latest 13 = .ok (.sipush 500, 3) := by decide +kernel
theorem dX1_latest_16 : decode cX1_latest 16 = .ok (.if_icmp .lt 5, 3) := by decide +kernel
theorem dX1_latest_19 : decode cX1_latest 19 = .ok (.iconst (-1), 1) := by decide +kernel
theorem dX1_latest_20 : decode cX1_latest 20 = .ok (.ireturn, 1) := by decide +kernel
theorem dX1_latest_21 : decode cX1_latest 21 = .ok (.aload_n 0, 1) := by decide +kernel
theorem dX1_latest_22 : decode cX1_latest 22 = .ok (.getfield 11, 3) := by decide +kernel
theorem dX1_latest_25 : decode cX1_latest 25 = .ok (.aload_n 0, 1) := by decide +kernel
theorem dX1_latest_26 : decode cX1_latest 26 = .ok (.getfield 15, 3) := by decide +kernel
theorem dX1_latest_29 : decode cX1_latest 29 = .ok (.iconst 1, 1) := by decide +kernel
theorem dX1_latest_30 : decode cX1_latest 30 = .ok (.isub, 1) := by decide +kernel
theorem dX1_latest_31 : decode cX1_latest 31 = .ok (.iload_n 1, 1) := by decide +kernel
theorem dX1_latest_32 : decode cX1_latest 32 = .ok (.isub, 1) := by decide +kernel
theorem dX1_latest_33 : decode cX1_latest 33 = .ok (.sipush 500, 3) := by decide +kernel
theorem dX1_latest_36 : decode cX1_latest 36 = .ok (.invokestatic 19, 3) := by decide +kernel
theorem dX1_latest_39 : decode cX1_latest 39 = .ok (.iaload, 1) := by decide +kernel
theorem dX1_latest_40 : decode cX1_latest 40 = .ok (.ireturn, 1) := by decide +kernel
def F_X1_latest (x0 : Nat) (x1 : Int32) (I : MI) (L : ML) (R : MR) : Option (Int32) :=
  if kd x0 = 1 ∧ x0 < NN then
  if x1 < 0 then
    some ((-1 : Int32))
  else
    if (I x0 1) ≤ x1 then
      some ((-1 : Int32))
    else
      if x1 < (500 : Int32) then
        (rf R x0 0 20).bind fun a4 =>
        bn1 (F_J9_floorMod_7cf53 (((I x0 1) - (1 : Int32)) - x1) (500 : Int32) I L R) fun v5 =>
        (ri I a4 v5).bind fun v7 =>
        some (v7)
      else
        some ((-1 : Int32))
  else none
set_option maxRecDepth 100000 in
set_option maxHeartbeats 4000000 in
theorem c_X1_latest (l : Launch) (D : va_G) (cA : Nat → ClassId) (ad : Nat → Nat) (bs : Nat) (X : State → Prop) (hAd : Ax ad bs) (hX : Stb bs X) (x0 : Nat) (x1 : Int32) (I : MI) (L : ML) (R : MR) (r : Int32) (h : F_X1_latest x0 x1 I L R = some (r)) : Cn l D cA ad bs X yX1_latest cX1_latest 2 (some .int) 1 22 [.ref (ad x0), .int x1] I L R (some (.int r), I, L, R) := by
  refine Cn.ofV hAd hX [(0, .ref (ad x0)), (1, .int x1)] rfl (Nat.le_of_ble_eq_true rfl) (by decide) ?_
  intro G el eD ecA ead ebs eX erm eNL C0
  subst el eD ecA ead ebs eX
  unfold F_X1_latest at h
  obtain ⟨c_x0, h⟩ := ite_some h
  refine V_iload_n C0 1 rfl rfl dX1_latest_0 ?_
  refine V_if_lt C0 (tgt := 19) (by decide) dX1_latest_1 (fun c1 => ?_) (fun c1 => ?_)
  · have h := (if_pos c1).symm.trans h
    refine V_iconst C0 (v := (-1 : Int32)) (by decide) dX1_latest_19 ?_
    cases h
    exact V_iret C0 dX1_latest_20
  · have h := (if_neg c1).symm.trans h
    refine V_iload_n C0 1 rfl rfl dX1_latest_4 ?_
    refine V_aload_n C0 0 rfl rfl dX1_latest_5 ?_
    refine V_getI C0 1 1 fl_X1_15 c_x0.2 c_x0.1 rfl dX1_latest_6 ?_
    refine V_icmp_ge C0 (tgt := 19) (by decide) dX1_latest_9 (fun c2 => ?_) (fun c2 => ?_)
    · have h := (if_pos c2).symm.trans h
      refine V_iconst C0 (v := (-1 : Int32)) (by decide) dX1_latest_19 ?_
      cases h
      exact V_iret C0 dX1_latest_20
    · have h := (if_neg c2).symm.trans h
      refine V_iload_n C0 1 rfl rfl dX1_latest_12 ?_
      refine V_sipush C0 (v := (500 : Int32)) (by decide) dX1_latest_13 ?_
      refine V_icmp_lt C0 (tgt := 21) (by decide) dX1_latest_16 (fun c3 => ?_) (fun c3 => ?_)
      · have h := (if_pos c3).symm.trans h
        refine V_aload_n C0 0 rfl rfl dX1_latest_21 ?_
        obtain ⟨a4, qa4, h⟩ := bnd_some h
        refine V_getR C0 1 0 fl_X1_11 c_x0.2 c_x0.1 rfl (rf_at qa4) dX1_latest_22 ?_
        refine V_aload_n C0 0 rfl rfl dX1_latest_25 ?_
        refine V_getI C0 1 1 fl_X1_15 c_x0.2 c_x0.1 rfl dX1_latest_26 ?_
        refine V_iconst C0 (v := (1 : Int32)) (by decide) dX1_latest_29 ?_
        refine V_isub C0 dX1_latest_30 ?_
        refine V_iload_n C0 1 rfl rfl dX1_latest_31 ?_
        refine V_isub C0 dX1_latest_32 ?_
        refine V_sipush C0 (v := (500 : Int32)) (by decide) dX1_latest_33 ?_
        obtain ⟨v5, q6, h⟩ := bn1_some h
        refine V_callS C0 (st := [.ref (G.ad a4)]) (As := [.int (((I x0 1) - (1 : Int32)) - x1), .int (500 : Int32)]) (c_J9_floorMod_7cf53 G.l G.D G.cA G.ad G.bs G.X C0.2.2.2.2.2.2.2.2.2.1 C0.2.2.2.2.2.2.2.2.2.2.2.2 (((I x0 1) - (1 : Int32)) - x1) (500 : Int32) I L R v5 q6) lc_J9_floorMod_7cf53 lk_X1_19 rfl (by rw [erm]; decide) (Nat.le_of_ble_eq_true rfl) dX1_latest_36 ?_
        show V G _ 39 [(0, .ref (G.ad x0)), (1, .int x1)] [.int v5, .ref (G.ad a4)] I L R
        obtain ⟨v7, qv7, h⟩ := bnd_some h
        refine V_ri C0 (rf_lt qa4) (rf_kd qa4) qv7 dX1_latest_39 ?_
        cases h
        exact V_iret C0 dX1_latest_40
      · have h := (if_neg c3).symm.trans h
        refine V_iconst C0 (v := (-1 : Int32)) (by decide) dX1_latest_19 ?_
        cases h
        exact V_iret C0 dX1_latest_20
theorem dX7_begin_0 : decode cX7_begin 0 = .ok (.iconst 0, 1) := by decide +kernel
theorem dX7_begin_1 : decode cX7_begin 1 = .ok (.istore_n 1, 1) := by decide +kernel
theorem dX7_begin_2 : decode cX7_begin 2 = .ok (.iload_n 1, 1) := by decide +kernel
theorem dX7_begin_3 : decode cX7_begin 3 = .ok (.iconst 3, 1) := by decide +kernel
theorem dX7_begin_4 : decode cX7_begin 4 = .ok (.if_icmp .ge 30, 3) := by decide +kernel
theorem dX7_begin_7 : decode cX7_begin 7 = .ok (.aload_n 0, 1) := by decide +kernel
theorem dX7_begin_8 : decode cX7_begin 8 = .ok (.getfield 9, 3) := by decide +kernel
theorem dX7_begin_11 : decode cX7_begin 11 = .ok (.iload_n 1, 1) := by decide +kernel
theorem dX7_begin_12 : decode cX7_begin 12 = .ok (.iconst 0, 1) := by decide +kernel
theorem dX7_begin_13 : decode cX7_begin 13 = .ok (.iastore, 1) := by decide +kernel
theorem dX7_begin_14 : decode cX7_begin 14 = .ok (.aload_n 0, 1) := by decide +kernel
theorem dX7_begin_15 : decode cX7_begin 15 = .ok (.getfield 15, 3) := by decide +kernel
theorem dX7_begin_18 : decode cX7_begin 18 = .ok (.iload_n 1, 1) := by decide +kernel
theorem dX7_begin_19 : decode cX7_begin 19 = .ok (.iconst 0, 1) := by decide +kernel
theorem dX7_begin_20 : decode cX7_begin 20 = .ok (.iastore, 1) := by decide +kernel
theorem dX7_begin_21 : decode cX7_begin 21 = .ok (.aload_n 0, 1) := by decide +kernel
theorem dX7_begin_22 : decode cX7_begin 22 = .ok (.getfield 18, 3) := by decide +kernel
theorem dX7_begin_25 : decode cX7_begin 25 = .ok (.iload_n 1, 1) := by decide +kernel
theorem dX7_begin_26 : decode cX7_begin 26 = .ok (.iconst 0, 1) := by decide +kernel
theorem dX7_begin_27 : decode cX7_begin 27 = .ok (.iastore, 1) := by decide +kernel
theorem dX7_begin_28 : decode cX7_begin 28 = .ok (.iinc 1 1, 3) := by decide +kernel
theorem dX7_begin_31 : decode cX7_begin 31 = .ok (.goto (-29), 3) := by decide +kernel
theorem dX7_begin_34 : decode cX7_begin 34 = .ok (.return_, 1) := by decide +kernel
def LF_X7_begin_2 (N : Nat) : Nat → Nat → Int32 → MI → ML → MR → Option (MI)
  | 0, _, _, _, _, _ => none
  | k + 1, y0, y1, I, L, R =>
    if (3 : Int32) ≤ y1 then
      some (I)
    else
      (rf R y0 1 20).bind fun a2 =>
      (wi I a2 y1 (0 : Int32)).bind fun I3 =>
      (rf R y0 2 20).bind fun a4 =>
      (wi I3 a4 y1 (0 : Int32)).bind fun I5 =>
      (rf R y0 3 20).bind fun a6 =>
      (wi I5 a6 y1 (0 : Int32)).bind fun I7 =>
      wr (y1 + (1 : Int32)) fun (u8 : Int32) =>
      LF_X7_begin_2 N k y0 u8 I7 L R
def F_X7_begin (N : Nat) (x0 : Nat) (I : MI) (L : ML) (R : MR) : Option (MI) :=
  if kd x0 = 6 ∧ x0 < NN then
  bn1 (LF_X7_begin_2 N N x0 (0 : Int32) I L R) fun z9 =>
  some (z9)
  else none
set_option maxRecDepth 100000 in
set_option maxHeartbeats 4000000 in
theorem lp_X7_begin_2 {G : Gm} (C0 : Cx G (yX7_begin.cls) cX7_begin none) (eNL : G.nL = 2) (erm : G.rm = ({ frames := 0, cells := 0, slots := 0, locals := 0 } : Room)) (N : Nat) : ∀ (k : Nat) (y0 : Nat) (y1 : Int32) (I : MI) (L : ML) (R : MR) (z : MI) (hk0 : kd y0 = 6) (ho0 : y0 < NN), LF_X7_begin_2 N k y0 y1 I L R = some z → ∀ f : State → Prop, V G f 34 [] [] z L R → V G f 2 [(0, .ref (G.ad y0)), (1, .int y1)] [] I L R := by
  intro k
  induction k with
  | zero =>
    intro y0 y1 I L R q hk0 ho0 h
    exact absurd h (by simp [LF_X7_begin_2])
  | succ k ih =>
    intro y0 y1 I L R q hk0 ho0 h f kx
    rw [LF_X7_begin_2] at h
    refine V_iload_n C0 1 rfl rfl dX7_begin_2 ?_
    refine V_iconst C0 (v := (3 : Int32)) (by decide) dX7_begin_3 ?_
    refine V_icmp_ge C0 (tgt := 34) (by decide) dX7_begin_4 (fun c1 => ?_) (fun c1 => ?_)
    · have h := (if_pos c1).symm.trans h
      cases h
      exact V_sub [] rfl kx
    · have h := (if_neg c1).symm.trans h
      refine V_aload_n C0 0 rfl rfl dX7_begin_7 ?_
      obtain ⟨a2, qa2, h⟩ := bnd_some h
      refine V_getR C0 6 1 fl_X7_9 ho0 hk0 rfl (rf_at qa2) dX7_begin_8 ?_
      refine V_iload_n C0 1 rfl rfl dX7_begin_11 ?_
      refine V_iconst C0 (v := (0 : Int32)) (by decide) dX7_begin_12 ?_
      obtain ⟨I3, qI3, h⟩ := bnd_some h
      refine V_wi C0 (rf_lt qa2) (rf_kd qa2) qI3 dX7_begin_13 ?_
      refine V_aload_n C0 0 rfl rfl dX7_begin_14 ?_
      obtain ⟨a4, qa4, h⟩ := bnd_some h
      refine V_getR C0 6 2 fl_X7_15 ho0 hk0 rfl (rf_at qa4) dX7_begin_15 ?_
      refine V_iload_n C0 1 rfl rfl dX7_begin_18 ?_
      refine V_iconst C0 (v := (0 : Int32)) (by decide) dX7_begin_19 ?_
      obtain ⟨I5, qI5, h⟩ := bnd_some h
      refine V_wi C0 (rf_lt qa4) (rf_kd qa4) qI5 dX7_begin_20 ?_
      refine V_aload_n C0 0 rfl rfl dX7_begin_21 ?_
      obtain ⟨a6, qa6, h⟩ := bnd_some h
      refine V_getR C0 6 3 fl_X7_18 ho0 hk0 rfl (rf_at qa6) dX7_begin_22 ?_
      refine V_iload_n C0 1 rfl rfl dX7_begin_25 ?_
      refine V_iconst C0 (v := (0 : Int32)) (by decide) dX7_begin_26 ?_
      obtain ⟨I7, qI7, h⟩ := bnd_some h
      refine V_wi C0 (rf_lt qa6) (rf_kd qa6) qI7 dX7_begin_27 ?_
      obtain ⟨u8, eu8, h⟩ := wr_some h
      refine V_iinc C0 1 [(1, .int u8), (0, .ref (G.ad y0))] rfl (n := 1) (by rw [eu8]; rfl) (by rw [eNL]; decide) rfl dX7_begin_28 ?_
      refine V_goto C0 (tgt := 2) (by decide) dX7_begin_31 ?_
      exact V_sub [1, 0] rfl (ih y0 u8 I7 L R _ hk0 ho0 h f kx)
set_option maxRecDepth 100000 in
set_option maxHeartbeats 4000000 in
theorem c_X7_begin (l : Launch) (D : va_G) (cA : Nat → ClassId) (ad : Nat → Nat) (bs : Nat) (X : State → Prop) (hAd : Ax ad bs) (hX : Stb bs X) (N : Nat) (x0 : Nat) (I : MI) (L : ML) (R : MR) (I' : MI) (h : F_X7_begin N x0 I L R = some (I')) : Cn l D cA ad bs X yX7_begin cX7_begin 2 none 0 0 [.ref (ad x0)] I L R (none, I', L, R) := by
  refine Cn.ofV hAd hX [(0, .ref (ad x0))] rfl (Nat.le_of_ble_eq_true rfl) (by decide) ?_
  intro G el eD ecA ead ebs eX erm eNL C0
  subst el eD ecA ead ebs eX
  unfold F_X7_begin at h
  obtain ⟨c_x0, h⟩ := ite_some h
  refine V_iconst C0 (v := (0 : Int32)) (by decide) dX7_begin_0 ?_
  refine V_istore_n C0 [(1, .int (0 : Int32)), (0, .ref (G.ad x0))] rfl (by rw [eNL]; decide) rfl dX7_begin_1 ?_
  obtain ⟨z9, q10, h⟩ := bn1_some h
  refine V_sub [1, 0] rfl (lp_X7_begin_2 C0 eNL erm N N x0 (0 : Int32) I L R _ c_x0.1 c_x0.2 q10 _ ?_)
  show V G _ 34 [] [] z9 L R
  cases h
  exact V_vret C0 dX7_begin_34
theorem dX6_begin_0 : decode cX6_begin 0 = .ok (.aload_n 0, 1) := by decide +kernel
theorem dX6_begin_1 : decode cX6_begin 1 = .ok (.iconst 0, 1) := by decide +kernel
theorem dX6_begin_2 : decode cX6_begin 2 = .ok (.putfield 19, 3) := by decide +kernel
theorem dX6_begin_5 : decode cX6_begin 5 = .ok (.aload_n 0, 1) := by decide +kernel
theorem dX6_begin_6 : decode cX6_begin 6 = .ok (.iconst 0, 1) := by decide +kernel
theorem dX6_begin_7 : decode cX6_begin 7 = .ok (.putfield 23, 3) := by decide +kernel
theorem dX6_begin_10 : decode cX6_begin 10 = .ok (.aload_n 0, 1) := by decide +kernel
theorem dX6_begin_11 : decode cX6_begin 11 = .ok (.iconst 0, 1) := by decide +kernel
theorem dX6_begin_12 : decode cX6_begin 12 = .ok (.putfield 26, 3) := by decide +kernel
theorem dX6_begin_15 : decode cX6_begin 15 = .ok (.aload_n 0, 1) := by decide +kernel
theorem dX6_begin_16 : decode cX6_begin 16 = .ok (.iconst 0, 1) := by decide +kernel
theorem dX6_begin_17 : decode cX6_begin 17 = .ok (.putfield 29, 3) := by decide +kernel
theorem dX6_begin_20 : decode cX6_begin 20 = .ok (.return_, 1) := by decide +kernel
def F_X6_begin (x0 : Nat) (I : MI) (L : ML) (R : MR) : Option (MI) :=
  if kd x0 = 5 ∧ x0 < NN then
  wr (uI I x0 2 (0 : Int32)) fun (I1 : MI) =>
  wr (uI I1 x0 3 (0 : Int32)) fun (I2 : MI) =>
  wr (uI I2 x0 4 (0 : Int32)) fun (I3 : MI) =>
  wr (uI I3 x0 5 (0 : Int32)) fun (I4 : MI) =>
  some (I4)
  else none
set_option maxRecDepth 100000 in
set_option maxHeartbeats 4000000 in
theorem c_X6_begin (l : Launch) (D : va_G) (cA : Nat → ClassId) (ad : Nat → Nat) (bs : Nat) (X : State → Prop) (hAd : Ax ad bs) (hX : Stb bs X) (x0 : Nat) (I : MI) (L : ML) (R : MR) (I' : MI) (h : F_X6_begin x0 I L R = some (I')) : Cn l D cA ad bs X yX6_begin cX6_begin 1 none 0 0 [.ref (ad x0)] I L R (none, I', L, R) := by
  refine Cn.ofV hAd hX [(0, .ref (ad x0))] rfl (Nat.le_of_ble_eq_true rfl) (by decide) ?_
  intro G el eD ecA ead ebs eX erm eNL C0
  subst el eD ecA ead ebs eX
  unfold F_X6_begin at h
  obtain ⟨c_x0, h⟩ := ite_some h
  refine V_aload_n C0 0 rfl rfl dX6_begin_0 ?_
  refine V_iconst C0 (v := (0 : Int32)) (by decide) dX6_begin_1 ?_
  obtain ⟨I1, eI1, h⟩ := wr_some h
  refine V_putI C0 5 2 fp_X6_19 c_x0.2 c_x0.1 rfl dX6_begin_2 ?_
  rw [← eI1]
  refine V_aload_n C0 0 rfl rfl dX6_begin_5 ?_
  refine V_iconst C0 (v := (0 : Int32)) (by decide) dX6_begin_6 ?_
  obtain ⟨I2, eI2, h⟩ := wr_some h
  refine V_putI C0 5 3 fp_X6_23 c_x0.2 c_x0.1 rfl dX6_begin_7 ?_
  rw [← eI2]
  refine V_aload_n C0 0 rfl rfl dX6_begin_10 ?_
  refine V_iconst C0 (v := (0 : Int32)) (by decide) dX6_begin_11 ?_
  obtain ⟨I3, eI3, h⟩ := wr_some h
  refine V_putI C0 5 4 fp_X6_26 c_x0.2 c_x0.1 rfl dX6_begin_12 ?_
  rw [← eI3]
  refine V_aload_n C0 0 rfl rfl dX6_begin_15 ?_
  refine V_iconst C0 (v := (0 : Int32)) (by decide) dX6_begin_16 ?_
  obtain ⟨I4, eI4, h⟩ := wr_some h
  refine V_putI C0 5 5 fp_X6_29 c_x0.2 c_x0.1 rfl dX6_begin_17 ?_
  rw [← eI4]
  cases h
  exact V_vret C0 dX6_begin_20
theorem dX5_clear_0 : decode cX5_clear 0 = .ok (.aload_n 0, 1) := by decide +kernel
theorem dX5_clear_1 : decode cX5_clear 1 = .ok (.iconst 0, 1) := by decide +kernel
theorem dX5_clear_2 : decode cX5_clear 2 = .ok (.putfield 22, 3) := by decide +kernel
theorem dX5_clear_5 : decode cX5_clear 5 = .ok (.return_, 1) := by decide +kernel
def F_X5_clear (x0 : Nat) (I : MI) (L : ML) (R : MR) : Option (MI) :=
  if kd x0 = 4 ∧ x0 < NN then
  wr (uI I x0 2 (0 : Int32)) fun (I1 : MI) =>
  some (I1)
  else none
set_option maxRecDepth 100000 in
set_option maxHeartbeats 4000000 in
theorem c_X5_clear (l : Launch) (D : va_G) (cA : Nat → ClassId) (ad : Nat → Nat) (bs : Nat) (X : State → Prop) (hAd : Ax ad bs) (hX : Stb bs X) (x0 : Nat) (I : MI) (L : ML) (R : MR) (I' : MI) (h : F_X5_clear x0 I L R = some (I')) : Cn l D cA ad bs X yX5_clear cX5_clear 1 none 0 0 [.ref (ad x0)] I L R (none, I', L, R) := by
  refine Cn.ofV hAd hX [(0, .ref (ad x0))] rfl (Nat.le_of_ble_eq_true rfl) (by decide) ?_
  intro G el eD ecA ead ebs eX erm eNL C0
  subst el eD ecA ead ebs eX
  unfold F_X5_clear at h
  obtain ⟨c_x0, h⟩ := ite_some h
  refine V_aload_n C0 0 rfl rfl dX5_clear_0 ?_
  refine V_iconst C0 (v := (0 : Int32)) (by decide) dX5_clear_1 ?_
  obtain ⟨I1, eI1, h⟩ := wr_some h
  refine V_putI C0 4 2 fp_X5_22 c_x0.2 c_x0.1 rfl dX5_clear_2 ?_
  rw [← eI1]
  cases h
  exact V_vret C0 dX5_clear_5
theorem dX2_begin_0 : decode cX2_begin 0 = .ok (.aload_n 0, 1) := by decide +kernel
theorem dX2_begin_1 : decode cX2_begin 1 = .ok (.getfield 24, 3) := by decide +kernel
theorem dX2_begin_4 : decode cX2_begin 4 = .ok (.invokevirtual 49, 3) := by decide +kernel
theorem dX2_begin_7 : decode cX2_begin 7 = .ok (.aload_n 0, 1) := by decide +kernel
theorem dX2_begin_8 : decode cX2_begin 8 = .ok (.getfield 31, 3) := by decide +kernel
theorem dX2_begin_11 : decode cX2_begin 11 = .ok (.invokevirtual 52, 3) := by decide +kernel
theorem dX2_begin_14 : decode cX2_begin 14 = .ok (.aload_n 0, 1) := by decide +kernel
theorem dX2_begin_15 : decode cX2_begin 15 = .ok (.getfield 38, 3) := by decide +kernel
theorem dX2_begin_18 : decode cX2_begin 18 = .ok (.invokevirtual 53, 3) := by decide +kernel
theorem dX2_begin_21 : decode cX2_begin 21 = .ok (.aload_n 0, 1) := by decide +kernel
theorem dX2_begin_22 : decode cX2_begin 22 = .ok (.getfield 45, 3) := by decide +kernel
theorem dX2_begin_25 : decode cX2_begin 25 = .ok (.invokevirtual 54, 3) := by decide +kernel
theorem dX2_begin_28 : decode cX2_begin 28 = .ok (.aload_n 0, 1) := by decide +kernel
theorem dX2_begin_29 : decode cX2_begin 29 = .ok (.iconst 0, 1) := by decide +kernel
theorem dX2_begin_30 : decode cX2_begin 30 = .ok (.putfield 57, 3) := by decide +kernel
theorem dX2_begin_33 : decode cX2_begin 33 = .ok (.aload_n 0, 1) := by decide +kernel
theorem dX2_begin_34 : decode cX2_begin 34 = .ok (.iconst 0, 1) := by decide +kernel
theorem dX2_begin_35 : decode cX2_begin 35 = .ok (.putfield 61, 3) := by decide +kernel
theorem dX2_begin_38 : decode cX2_begin 38 = .ok (.aload_n 0, 1) := by decide +kernel
theorem dX2_begin_39 : decode cX2_begin 39 = .ok (.iconst 0, 1) := by decide +kernel
theorem dX2_begin_40 : decode cX2_begin 40 = .ok (.putfield 64, 3) := by decide +kernel
theorem dX2_begin_43 : decode cX2_begin 43 = .ok (.aload_n 0, 1) := by decide +kernel
theorem dX2_begin_44 : decode cX2_begin 44 = .ok (.iconst 0, 1) := by decide +kernel
theorem dX2_begin_45 : decode cX2_begin 45 = .ok (.putfield 67, 3) := by decide +kernel
theorem dX2_begin_48 : decode cX2_begin 48 = .ok (.aload_n 0, 1) := by decide +kernel
theorem dX2_begin_49 : decode cX2_begin 49 = .ok (.iconst 0, 1) := by decide +kernel
theorem dX2_begin_50 : decode cX2_begin 50 = .ok (.putfield 70, 3) := by decide +kernel
theorem dX2_begin_53 : decode cX2_begin 53 = .ok (.aload_n 0, 1) := by decide +kernel
theorem dX2_begin_54 : decode cX2_begin 54 = .ok (.iconst 0, 1) := by decide +kernel
theorem dX2_begin_55 : decode cX2_begin 55 = .ok (.putfield 73, 3) := by decide +kernel
theorem dX2_begin_58 : decode cX2_begin 58 = .ok (.aload_n 0, 1) := by decide +kernel
theorem dX2_begin_59 : decode cX2_begin 59 = .ok (.iconst 0, 1) := by decide +kernel
theorem dX2_begin_60 : decode cX2_begin 60 = .ok (.putfield 76, 3) := by decide +kernel
theorem dX2_begin_63 : decode cX2_begin 63 = .ok (.return_, 1) := by decide +kernel
def F_X2_begin (N : Nat) (x0 : Nat) (I : MI) (L : ML) (R : MR) : Option (MI) :=
  if kd x0 = 2 ∧ x0 < NN then
  (rf R x0 1 6).bind fun a1 =>
  bn1 (F_X7_begin N a1 I L R) fun I2 =>
  (rf R x0 2 5).bind fun a4 =>
  bn1 (F_X6_begin a4 I2 L R) fun I5 =>
  (rf R x0 3 1).bind fun a7 =>
  bn1 (F_X1_begin a7 I5 L R) fun I8 =>
  (rf R x0 5 4).bind fun a10 =>
  bn1 (F_X5_clear a10 I8 L R) fun I11 =>
  wr (uI I11 x0 6 (0 : Int32)) fun (I13 : MI) =>
  wr (uI I13 x0 7 (0 : Int32)) fun (I14 : MI) =>
  wr (uI I14 x0 8 (0 : Int32)) fun (I15 : MI) =>
  wr (uI I15 x0 9 (0 : Int32)) fun (I16 : MI) =>
  wr (uI I16 x0 10 (0 : Int32)) fun (I17 : MI) =>
  wr (uI I17 x0 11 (0 : Int32)) fun (I18 : MI) =>
  wr (uI I18 x0 12 (0 : Int32)) fun (I19 : MI) =>
  some (I19)
  else none
set_option maxRecDepth 100000 in
set_option maxHeartbeats 4000000 in
theorem c_X2_begin (l : Launch) (D : va_G) (cA : Nat → ClassId) (ad : Nat → Nat) (bs : Nat) (X : State → Prop) (hAd : Ax ad bs) (hX : Stb bs X) (N : Nat) (x0 : Nat) (I : MI) (L : ML) (R : MR) (I' : MI) (h : F_X2_begin N x0 I L R = some (I')) : Cn l D cA ad bs X yX2_begin cX2_begin 1 none 1 21 [.ref (ad x0)] I L R (none, I', L, R) := by
  refine Cn.ofV hAd hX [(0, .ref (ad x0))] rfl (Nat.le_of_ble_eq_true rfl) (by decide) ?_
  intro G el eD ecA ead ebs eX erm eNL C0
  subst el eD ecA ead ebs eX
  unfold F_X2_begin at h
  obtain ⟨c_x0, h⟩ := ite_some h
  refine V_aload_n C0 0 rfl rfl dX2_begin_0 ?_
  obtain ⟨a1, qa1, h⟩ := bnd_some h
  refine V_getR C0 2 1 fl_X2_24 c_x0.2 c_x0.1 rfl (rf_at qa1) dX2_begin_1 ?_
  obtain ⟨I2, q3, h⟩ := bn1_some h
  refine V_callV C0 (st := []) (As := []) 6 (c_X7_begin G.l G.D G.cA G.ad G.bs G.X C0.2.2.2.2.2.2.2.2.2.1 C0.2.2.2.2.2.2.2.2.2.2.2.2 N a1 I L R I2 q3) lc_X7_begin lk_X2_49 (rf_lt qa1) (rf_kd qa1) ⟨_, rfl, rfl⟩ rfl (by rw [erm]; decide) (Nat.le_of_ble_eq_true rfl) dX2_begin_4 ?_
  show V G _ 7 [(0, .ref (G.ad x0))] [] I2 L R
  refine V_aload_n C0 0 rfl rfl dX2_begin_7 ?_
  obtain ⟨a4, qa4, h⟩ := bnd_some h
  refine V_getR C0 2 2 fl_X2_31 c_x0.2 c_x0.1 rfl (rf_at qa4) dX2_begin_8 ?_
  obtain ⟨I5, q6, h⟩ := bn1_some h
  refine V_callV C0 (st := []) (As := []) 5 (c_X6_begin G.l G.D G.cA G.ad G.bs G.X C0.2.2.2.2.2.2.2.2.2.1 C0.2.2.2.2.2.2.2.2.2.2.2.2 a4 I2 L R I5 q6) lc_X6_begin lk_X2_52 (rf_lt qa4) (rf_kd qa4) ⟨_, rfl, rfl⟩ rfl (by rw [erm]; decide) (Nat.le_of_ble_eq_true rfl) dX2_begin_11 ?_
  show V G _ 14 [(0, .ref (G.ad x0))] [] I5 L R
  refine V_aload_n C0 0 rfl rfl dX2_begin_14 ?_
  obtain ⟨a7, qa7, h⟩ := bnd_some h
  refine V_getR C0 2 3 fl_X2_38 c_x0.2 c_x0.1 rfl (rf_at qa7) dX2_begin_15 ?_
  obtain ⟨I8, q9, h⟩ := bn1_some h
  refine V_callV C0 (st := []) (As := []) 1 (c_X1_begin G.l G.D G.cA G.ad G.bs G.X C0.2.2.2.2.2.2.2.2.2.1 C0.2.2.2.2.2.2.2.2.2.2.2.2 a7 I5 L R I8 q9) lc_X1_begin lk_X2_53 (rf_lt qa7) (rf_kd qa7) ⟨_, rfl, rfl⟩ rfl (by rw [erm]; decide) (Nat.le_of_ble_eq_true rfl) dX2_begin_18 ?_
  show V G _ 21 [(0, .ref (G.ad x0))] [] I8 L R
  refine V_aload_n C0 0 rfl rfl dX2_begin_21 ?_
  obtain ⟨a10, qa10, h⟩ := bnd_some h
  refine V_getR C0 2 5 fl_X2_45 c_x0.2 c_x0.1 rfl (rf_at qa10) dX2_begin_22 ?_
  obtain ⟨I11, q12, h⟩ := bn1_some h
  refine V_callV C0 (st := []) (As := []) 4 (c_X5_clear G.l G.D G.cA G.ad G.bs G.X C0.2.2.2.2.2.2.2.2.2.1 C0.2.2.2.2.2.2.2.2.2.2.2.2 a10 I8 L R I11 q12) lc_X5_clear lk_X2_54 (rf_lt qa10) (rf_kd qa10) ⟨_, rfl, rfl⟩ rfl (by rw [erm]; decide) (Nat.le_of_ble_eq_true rfl) dX2_begin_25 ?_
  show V G _ 28 [(0, .ref (G.ad x0))] [] I11 L R
  refine V_aload_n C0 0 rfl rfl dX2_begin_28 ?_
  refine V_iconst C0 (v := (0 : Int32)) (by decide) dX2_begin_29 ?_
  obtain ⟨I13, eI13, h⟩ := wr_some h
  refine V_putI C0 2 6 fp_X2_57 c_x0.2 c_x0.1 rfl dX2_begin_30 ?_
  rw [← eI13]
  refine V_aload_n C0 0 rfl rfl dX2_begin_33 ?_
  refine V_iconst C0 (v := (0 : Int32)) (by decide) dX2_begin_34 ?_
  obtain ⟨I14, eI14, h⟩ := wr_some h
  refine V_putI C0 2 7 fp_X2_61 c_x0.2 c_x0.1 rfl dX2_begin_35 ?_
  rw [← eI14]
  refine V_aload_n C0 0 rfl rfl dX2_begin_38 ?_
  refine V_iconst C0 (v := (0 : Int32)) (by decide) dX2_begin_39 ?_
  obtain ⟨I15, eI15, h⟩ := wr_some h
  refine V_putI C0 2 8 fp_X2_64 c_x0.2 c_x0.1 rfl dX2_begin_40 ?_
  rw [← eI15]
  refine V_aload_n C0 0 rfl rfl dX2_begin_43 ?_
  refine V_iconst C0 (v := (0 : Int32)) (by decide) dX2_begin_44 ?_
  obtain ⟨I16, eI16, h⟩ := wr_some h
  refine V_putI C0 2 9 fp_X2_67 c_x0.2 c_x0.1 rfl dX2_begin_45 ?_
  rw [← eI16]
  refine V_aload_n C0 0 rfl rfl dX2_begin_48 ?_
  refine V_iconst C0 (v := (0 : Int32)) (by decide) dX2_begin_49 ?_
  obtain ⟨I17, eI17, h⟩ := wr_some h
  refine V_putI C0 2 10 fp_X2_70 c_x0.2 c_x0.1 rfl dX2_begin_50 ?_
  rw [← eI17]
  refine V_aload_n C0 0 rfl rfl dX2_begin_53 ?_
  refine V_iconst C0 (v := (0 : Int32)) (by decide) dX2_begin_54 ?_
  obtain ⟨I18, eI18, h⟩ := wr_some h
  refine V_putI C0 2 11 fp_X2_73 c_x0.2 c_x0.1 rfl dX2_begin_55 ?_
  rw [← eI18]
  refine V_aload_n C0 0 rfl rfl dX2_begin_58 ?_
  refine V_iconst C0 (v := (0 : Int32)) (by decide) dX2_begin_59 ?_
  obtain ⟨I19, eI19, h⟩ := wr_some h
  refine V_putI C0 2 12 fp_X2_76 c_x0.2 c_x0.1 rfl dX2_begin_60 ?_
  rw [← eI19]
  cases h
  exact V_vret C0 dX2_begin_63
theorem dX2_exchangePlan_0 : decode cX2_exchangePlan 0 = .ok (.aload_n 0, 1) := by decide +kernel
theorem dX2_exchangePlan_1 : decode cX2_exchangePlan 1 = .ok (.getfield 45, 3) := by decide +kernel
theorem dX2_exchangePlan_4 : decode cX2_exchangePlan 4 = .ok (.astore_n 2, 1) := by decide +kernel
theorem dX2_exchangePlan_5 : decode cX2_exchangePlan 5 = .ok (.aload_n 0, 1) := by decide +kernel
theorem dX2_exchangePlan_6 : decode cX2_exchangePlan 6 = .ok (.aload_n 1, 1) := by decide +kernel
theorem dX2_exchangePlan_7 : decode cX2_exchangePlan 7 = .ok (.putfield 45, 3) := by decide +kernel
theorem dX2_exchangePlan_10 : decode cX2_exchangePlan 10 = .ok (.aload_n 2, 1) := by decide +kernel
theorem dX2_exchangePlan_11 : decode cX2_exchangePlan 11 = .ok (.areturn, 1) := by decide +kernel
def F_X2_exchangePlan (x0 : Nat) (x1 : Nat) (I : MI) (L : ML) (R : MR) : Option (Nat × MR) :=
  if kd x0 = 2 ∧ x0 < NN then
  if kd x1 = 4 ∧ x1 < NN then
  (rf R x0 5 4).bind fun a1 =>
  wr (uR R x0 5 (some x1)) fun (R2 : MR) =>
  some (a1, R2)
  else none
  else none
set_option maxRecDepth 100000 in
set_option maxHeartbeats 4000000 in
theorem c_X2_exchangePlan (l : Launch) (D : va_G) (cA : Nat → ClassId) (ad : Nat → Nat) (bs : Nat) (X : State → Prop) (hAd : Ax ad bs) (hX : Stb bs X) (x0 : Nat) (x1 : Nat) (I : MI) (L : ML) (R : MR) (r : Nat) (R' : MR) (h : F_X2_exchangePlan x0 x1 I L R = some (r, R')) : Cn l D cA ad bs X yX2_exchangePlan cX2_exchangePlan 3 (some (.object "SmallCraft$Plan")) 0 0 [.ref (ad x0), .ref (ad x1)] I L R (some (.ref (ad r)), I, L, R') := by
  refine Cn.ofV hAd hX [(0, .ref (ad x0)), (1, .ref (ad x1))] rfl (Nat.le_of_ble_eq_true rfl) (by decide) ?_
  intro G el eD ecA ead ebs eX erm eNL C0
  subst el eD ecA ead ebs eX
  unfold F_X2_exchangePlan at h
  obtain ⟨c_x0, h⟩ := ite_some h
  obtain ⟨c_x1, h⟩ := ite_some h
  refine V_aload_n C0 0 rfl rfl dX2_exchangePlan_0 ?_
  obtain ⟨a1, qa1, h⟩ := bnd_some h
  refine V_getR C0 2 5 fl_X2_45 c_x0.2 c_x0.1 rfl (rf_at qa1) dX2_exchangePlan_1 ?_
  refine V_astore_n C0 [(2, .ref (G.ad a1)), (0, .ref (G.ad x0)), (1, .ref (G.ad x1))] rfl (by rw [eNL]; decide) rfl dX2_exchangePlan_4 ?_
  refine V_aload_n C0 1 rfl rfl dX2_exchangePlan_5 ?_
  refine V_aload_n C0 2 rfl rfl dX2_exchangePlan_6 ?_
  obtain ⟨R2, eR2, h⟩ := wr_some h
  refine V_putR C0 "SmallCraft$Plan" 2 5 fp_X2_45 rfl c_x0.2 c_x0.1 rfl dX2_exchangePlan_7 ?_
  rw [← eR2]
  refine V_aload_n C0 0 rfl rfl dX2_exchangePlan_10 ?_
  cases h
  exact V_aret C0 dX2_exchangePlan_11
theorem dX2_planned_0 : decode cX2_planned 0 = .ok (.aload_n 0, 1) := by decide +kernel
theorem dX2_planned_1 : decode cX2_planned 1 = .ok (.getfield 45, 3) := by decide +kernel
theorem dX2_planned_4 : decode cX2_planned 4 = .ok (.areturn, 1) := by decide +kernel
def F_X2_planned (x0 : Nat) (I : MI) (L : ML) (R : MR) : Option (Nat) :=
  if kd x0 = 2 ∧ x0 < NN then
  (rf R x0 5 4).bind fun a1 =>
  some (a1)
  else none
set_option maxRecDepth 100000 in
set_option maxHeartbeats 4000000 in
theorem c_X2_planned (l : Launch) (D : va_G) (cA : Nat → ClassId) (ad : Nat → Nat) (bs : Nat) (X : State → Prop) (hAd : Ax ad bs) (hX : Stb bs X) (x0 : Nat) (I : MI) (L : ML) (R : MR) (r : Nat) (h : F_X2_planned x0 I L R = some (r)) : Cn l D cA ad bs X yX2_planned cX2_planned 1 (some (.object "SmallCraft$Plan")) 0 0 [.ref (ad x0)] I L R (some (.ref (ad r)), I, L, R) := by
  refine Cn.ofV hAd hX [(0, .ref (ad x0))] rfl (Nat.le_of_ble_eq_true rfl) (by decide) ?_
  intro G el eD ecA ead ebs eX erm eNL C0
  subst el eD ecA ead ebs eX
  unfold F_X2_planned at h
  obtain ⟨c_x0, h⟩ := ite_some h
  refine V_aload_n C0 0 rfl rfl dX2_planned_0 ?_
  obtain ⟨a1, qa1, h⟩ := bnd_some h
  refine V_getR C0 2 5 fl_X2_45 c_x0.2 c_x0.1 rfl (rf_at qa1) dX2_planned_1 ?_
  cases h
  exact V_aret C0 dX2_planned_4
theorem dX2_downlink_0 : decode cX2_downlink 0 = .ok (.aload_n 0, 1) := by decide +kernel
theorem dX2_downlink_1 : decode cX2_downlink 1 = .ok (.getfield 38, 3) := by decide +kernel
theorem dX2_downlink_4 : decode cX2_downlink 4 = .ok (.areturn, 1) := by decide +kernel
def F_X2_downlink (x0 : Nat) (I : MI) (L : ML) (R : MR) : Option (Nat) :=
  if kd x0 = 2 ∧ x0 < NN then
  (rf R x0 3 1).bind fun a1 =>
  some (a1)
  else none
set_option maxRecDepth 100000 in
set_option maxHeartbeats 4000000 in
theorem c_X2_downlink (l : Launch) (D : va_G) (cA : Nat → ClassId) (ad : Nat → Nat) (bs : Nat) (X : State → Prop) (hAd : Ax ad bs) (hX : Stb bs X) (x0 : Nat) (I : MI) (L : ML) (R : MR) (r : Nat) (h : F_X2_downlink x0 I L R = some (r)) : Cn l D cA ad bs X yX2_downlink cX2_downlink 1 (some (.object "SmallCraft$Downlink")) 0 0 [.ref (ad x0)] I L R (some (.ref (ad r)), I, L, R) := by
  refine Cn.ofV hAd hX [(0, .ref (ad x0))] rfl (Nat.le_of_ble_eq_true rfl) (by decide) ?_
  intro G el eD ecA ead ebs eX erm eNL C0
  subst el eD ecA ead ebs eX
  unfold F_X2_downlink at h
  obtain ⟨c_x0, h⟩ := ite_some h
  refine V_aload_n C0 0 rfl rfl dX2_downlink_0 ?_
  obtain ⟨a1, qa1, h⟩ := bnd_some h
  refine V_getR C0 2 3 fl_X2_38 c_x0.2 c_x0.1 rfl (rf_at qa1) dX2_downlink_1 ?_
  cases h
  exact V_aret C0 dX2_downlink_4
theorem dX2_steering_0 : decode cX2_steering 0 = .ok (.aload_n 0, 1) := by decide +kernel
theorem dX2_steering_1 : decode cX2_steering 1 = .ok (.getfield 24, 3) := by decide +kernel
theorem dX2_steering_4 : decode cX2_steering 4 = .ok (.areturn, 1) := by decide +kernel
def F_X2_steering (x0 : Nat) (I : MI) (L : ML) (R : MR) : Option (Nat) :=
  if kd x0 = 2 ∧ x0 < NN then
  (rf R x0 1 6).bind fun a1 =>
  some (a1)
  else none
set_option maxRecDepth 100000 in
set_option maxHeartbeats 4000000 in
theorem c_X2_steering (l : Launch) (D : va_G) (cA : Nat → ClassId) (ad : Nat → Nat) (bs : Nat) (X : State → Prop) (hAd : Ax ad bs) (hX : Stb bs X) (x0 : Nat) (I : MI) (L : ML) (R : MR) (r : Nat) (h : F_X2_steering x0 I L R = some (r)) : Cn l D cA ad bs X yX2_steering cX2_steering 1 (some (.object "SmallCraft$Steering")) 0 0 [.ref (ad x0)] I L R (some (.ref (ad r)), I, L, R) := by
  refine Cn.ofV hAd hX [(0, .ref (ad x0))] rfl (Nat.le_of_ble_eq_true rfl) (by decide) ?_
  intro G el eD ecA ead ebs eX erm eNL C0
  subst el eD ecA ead ebs eX
  unfold F_X2_steering at h
  obtain ⟨c_x0, h⟩ := ite_some h
  refine V_aload_n C0 0 rfl rfl dX2_steering_0 ?_
  obtain ⟨a1, qa1, h⟩ := bnd_some h
  refine V_getR C0 2 1 fl_X2_24 c_x0.2 c_x0.1 rfl (rf_at qa1) dX2_steering_1 ?_
  cases h
  exact V_aret C0 dX2_steering_4
theorem dX2_ticksSoFar_0 : decode cX2_ticksSoFar 0 = .ok (.aload_n 0, 1) := by decide +kernel
theorem dX2_ticksSoFar_1 : decode cX2_ticksSoFar 1 = .ok (.getfield 57, 3) := by decide +kernel
theorem dX2_ticksSoFar_4 : decode cX2_ticksSoFar 4 = .ok (.ireturn, 1) := by decide +kernel
def F_X2_ticksSoFar (x0 : Nat) (I : MI) (L : ML) (R : MR) : Option (Int32) :=
  if kd x0 = 2 ∧ x0 < NN then
  some ((I x0 6))
  else none
set_option maxRecDepth 100000 in
set_option maxHeartbeats 4000000 in
theorem c_X2_ticksSoFar (l : Launch) (D : va_G) (cA : Nat → ClassId) (ad : Nat → Nat) (bs : Nat) (X : State → Prop) (hAd : Ax ad bs) (hX : Stb bs X) (x0 : Nat) (I : MI) (L : ML) (R : MR) (r : Int32) (h : F_X2_ticksSoFar x0 I L R = some (r)) : Cn l D cA ad bs X yX2_ticksSoFar cX2_ticksSoFar 1 (some .int) 0 0 [.ref (ad x0)] I L R (some (.int r), I, L, R) := by
  refine Cn.ofV hAd hX [(0, .ref (ad x0))] rfl (Nat.le_of_ble_eq_true rfl) (by decide) ?_
  intro G el eD ecA ead ebs eX erm eNL C0
  subst el eD ecA ead ebs eX
  unfold F_X2_ticksSoFar at h
  obtain ⟨c_x0, h⟩ := ite_some h
  refine V_aload_n C0 0 rfl rfl dX2_ticksSoFar_0 ?_
  refine V_getI C0 2 6 fl_X2_57 c_x0.2 c_x0.1 rfl dX2_ticksSoFar_1 ?_
  cases h
  exact V_iret C0 dX2_ticksSoFar_4
theorem dX6_brownoutCount_0 : decode cX6_brownoutCount 0 = .ok (.aload_n 0, 1) := by decide +kernel
theorem dX6_brownoutCount_1 : decode cX6_brownoutCount 1 = .ok (.getfield 26, 3) := by decide +kernel
theorem dX6_brownoutCount_4 : decode cX6_brownoutCount 4 = .ok (.ireturn, 1) := by decide +kernel
def F_X6_brownoutCount (x0 : Nat) (I : MI) (L : ML) (R : MR) : Option (Int32) :=
  if kd x0 = 5 ∧ x0 < NN then
  some ((I x0 4))
  else none
set_option maxRecDepth 100000 in
set_option maxHeartbeats 4000000 in
theorem c_X6_brownoutCount (l : Launch) (D : va_G) (cA : Nat → ClassId) (ad : Nat → Nat) (bs : Nat) (X : State → Prop) (hAd : Ax ad bs) (hX : Stb bs X) (x0 : Nat) (I : MI) (L : ML) (R : MR) (r : Int32) (h : F_X6_brownoutCount x0 I L R = some (r)) : Cn l D cA ad bs X yX6_brownoutCount cX6_brownoutCount 1 (some .int) 0 0 [.ref (ad x0)] I L R (some (.int r), I, L, R) := by
  refine Cn.ofV hAd hX [(0, .ref (ad x0))] rfl (Nat.le_of_ble_eq_true rfl) (by decide) ?_
  intro G el eD ecA ead ebs eX erm eNL C0
  subst el eD ecA ead ebs eX
  unfold F_X6_brownoutCount at h
  obtain ⟨c_x0, h⟩ := ite_some h
  refine V_aload_n C0 0 rfl rfl dX6_brownoutCount_0 ?_
  refine V_getI C0 5 4 fl_X6_26 c_x0.2 c_x0.1 rfl dX6_brownoutCount_1 ?_
  cases h
  exact V_iret C0 dX6_brownoutCount_4
theorem dX6_failureCount_0 : decode cX6_failureCount 0 = .ok (.aload_n 0, 1) := by decide +kernel
theorem dX6_failureCount_1 : decode cX6_failureCount 1 = .ok (.getfield 29, 3) := by decide +kernel
theorem dX6_failureCount_4 : decode cX6_failureCount 4 = .ok (.ireturn, 1) := by decide +kernel
def F_X6_failureCount (x0 : Nat) (I : MI) (L : ML) (R : MR) : Option (Int32) :=
  if kd x0 = 5 ∧ x0 < NN then
  some ((I x0 5))
  else none
set_option maxRecDepth 100000 in
set_option maxHeartbeats 4000000 in
theorem c_X6_failureCount (l : Launch) (D : va_G) (cA : Nat → ClassId) (ad : Nat → Nat) (bs : Nat) (X : State → Prop) (hAd : Ax ad bs) (hX : Stb bs X) (x0 : Nat) (I : MI) (L : ML) (R : MR) (r : Int32) (h : F_X6_failureCount x0 I L R = some (r)) : Cn l D cA ad bs X yX6_failureCount cX6_failureCount 1 (some .int) 0 0 [.ref (ad x0)] I L R (some (.int r), I, L, R) := by
  refine Cn.ofV hAd hX [(0, .ref (ad x0))] rfl (Nat.le_of_ble_eq_true rfl) (by decide) ?_
  intro G el eD ecA ead ebs eX erm eNL C0
  subst el eD ecA ead ebs eX
  unfold F_X6_failureCount at h
  obtain ⟨c_x0, h⟩ := ite_some h
  refine V_aload_n C0 0 rfl rfl dX6_failureCount_0 ?_
  refine V_getI C0 5 5 fl_X6_29 c_x0.2 c_x0.1 rfl dX6_failureCount_1 ?_
  cases h
  exact V_iret C0 dX6_failureCount_4
theorem dX6_supplyNow_0 : decode cX6_supplyNow 0 = .ok (.aload_n 0, 1) := by decide +kernel
theorem dX6_supplyNow_1 : decode cX6_supplyNow 1 = .ok (.getfield 19, 3) := by decide +kernel
theorem dX6_supplyNow_4 : decode cX6_supplyNow 4 = .ok (.ireturn, 1) := by decide +kernel
def F_X6_supplyNow (x0 : Nat) (I : MI) (L : ML) (R : MR) : Option (Int32) :=
  if kd x0 = 5 ∧ x0 < NN then
  some ((I x0 2))
  else none
set_option maxRecDepth 100000 in
set_option maxHeartbeats 4000000 in
theorem c_X6_supplyNow (l : Launch) (D : va_G) (cA : Nat → ClassId) (ad : Nat → Nat) (bs : Nat) (X : State → Prop) (hAd : Ax ad bs) (hX : Stb bs X) (x0 : Nat) (I : MI) (L : ML) (R : MR) (r : Int32) (h : F_X6_supplyNow x0 I L R = some (r)) : Cn l D cA ad bs X yX6_supplyNow cX6_supplyNow 1 (some .int) 0 0 [.ref (ad x0)] I L R (some (.int r), I, L, R) := by
  refine Cn.ofV hAd hX [(0, .ref (ad x0))] rfl (Nat.le_of_ble_eq_true rfl) (by decide) ?_
  intro G el eD ecA ead ebs eX erm eNL C0
  subst el eD ecA ead ebs eX
  unfold F_X6_supplyNow at h
  obtain ⟨c_x0, h⟩ := ite_some h
  refine V_aload_n C0 0 rfl rfl dX6_supplyNow_0 ?_
  refine V_getI C0 5 2 fl_X6_19 c_x0.2 c_x0.1 rfl dX6_supplyNow_1 ?_
  cases h
  exact V_iret C0 dX6_supplyNow_4
theorem dX6_demandNow_0 : decode cX6_demandNow 0 = .ok (.aload_n 0, 1) := by decide +kernel
theorem dX6_demandNow_1 : decode cX6_demandNow 1 = .ok (.getfield 23, 3) := by decide +kernel
theorem dX6_demandNow_4 : decode cX6_demandNow 4 = .ok (.ireturn, 1) := by decide +kernel
def F_X6_demandNow (x0 : Nat) (I : MI) (L : ML) (R : MR) : Option (Int32) :=
  if kd x0 = 5 ∧ x0 < NN then
  some ((I x0 3))
  else none
set_option maxRecDepth 100000 in
set_option maxHeartbeats 4000000 in
theorem c_X6_demandNow (l : Launch) (D : va_G) (cA : Nat → ClassId) (ad : Nat → Nat) (bs : Nat) (X : State → Prop) (hAd : Ax ad bs) (hX : Stb bs X) (x0 : Nat) (I : MI) (L : ML) (R : MR) (r : Int32) (h : F_X6_demandNow x0 I L R = some (r)) : Cn l D cA ad bs X yX6_demandNow cX6_demandNow 1 (some .int) 0 0 [.ref (ad x0)] I L R (some (.int r), I, L, R) := by
  refine Cn.ofV hAd hX [(0, .ref (ad x0))] rfl (Nat.le_of_ble_eq_true rfl) (by decide) ?_
  intro G el eD ecA ead ebs eX erm eNL C0
  subst el eD ecA ead ebs eX
  unfold F_X6_demandNow at h
  obtain ⟨c_x0, h⟩ := ite_some h
  refine V_aload_n C0 0 rfl rfl dX6_demandNow_0 ?_
  refine V_getI C0 5 3 fl_X6_23 c_x0.2 c_x0.1 rfl dX6_demandNow_1 ?_
  cases h
  exact V_iret C0 dX6_demandNow_4
theorem dX2_gauge_0 : decode cX2_gauge 0 = .ok (.iload_n 1, 1) := by decide +kernel
theorem dX2_gauge_1 : decode cX2_gauge 1 = .ok (.tableswitch 190 1 27 #[123, 128, 190, 190, 190, 190, 190, 190, 190, 190, 190, 190, 190, 190, 190, 133, 141, 149, 154, 190, 159, 164, 190, 190, 169, 174, 182], 123) := by decide +kernel
theorem dX2_gauge_124 : decode cX2_gauge 124 = .ok (.aload_n 0, 1) := by decide +kernel
theorem dX2_gauge_125 : decode cX2_gauge 125 = .ok (.getfield 57, 3) := by decide +kernel
theorem dX2_gauge_128 : decode cX2_gauge 128 = .ok (.ireturn, 1) := by decide +kernel
theorem dX2_gauge_129 : decode cX2_gauge 129 = .ok (.aload_n 0, 1) := by decide +kernel
theorem dX2_gauge_130 : decode cX2_gauge 130 = .ok (.getfield 61, 3) := by decide +kernel
theorem dX2_gauge_133 : decode cX2_gauge 133 = .ok (.ireturn, 1) := by decide +kernel
theorem dX2_gauge_134 : decode cX2_gauge 134 = .ok (.aload_n 0, 1) := by decide +kernel
theorem dX2_gauge_135 : decode cX2_gauge 135 = .ok (.getfield 31, 3) := by decide +kernel
theorem dX2_gauge_138 : decode cX2_gauge 138 = .ok (.invokevirtual 79, 3) := by decide +kernel
theorem dX2_gauge_141 : decode cX2_gauge 141 = .ok (.ireturn, 1) := by decide +kernel
theorem dX2_gauge_142 : decode cX2_gauge 142 = .ok (.aload_n 0, 1) := by decide +kernel
theorem dX2_gauge_143 : decode cX2_gauge 143 = .ok (.getfield 31, 3) := by decide +kernel
theorem dX2_gauge_146 : decode cX2_gauge 146 = .ok (.invokevirtual 83, 3) := by decide +kernel
theorem dX2_gauge_149 : decode cX2_gauge 149 = .ok (.ireturn, 1) := by decide +kernel
theorem dX2_gauge_150 : decode cX2_gauge 150 = .ok (.aload_n 0, 1) := by decide +kernel
theorem dX2_gauge_151 : decode cX2_gauge 151 = .ok (.getfield 67, 3) := by decide +kernel
theorem dX2_gauge_154 : decode cX2_gauge 154 = .ok (.ireturn, 1) := by decide +kernel
theorem dX2_gauge_155 : decode cX2_gauge 155 = .ok (.aload_n 0, 1) := by decide +kernel
theorem dX2_gauge_156 : decode cX2_gauge 156 = .ok (.getfield 70, 3) := by decide +kernel
theorem dX2_gauge_159 : decode cX2_gauge 159 = .ok (.ireturn, 1) := by decide +kernel
theorem dX2_gauge_160 : decode cX2_gauge 160 = .ok (.aload_n 0, 1) := by decide +kernel
theorem dX2_gauge_161 : decode cX2_gauge 161 = .ok (.getfield 73, 3) := by decide +kernel
theorem dX2_gauge_164 : decode cX2_gauge 164 = .ok (.ireturn, 1) := by decide +kernel
theorem dX2_gauge_165 : decode cX2_gauge 165 = .ok (.aload_n 0, 1) := by decide +kernel
theorem dX2_gauge_166 : decode cX2_gauge 166 = .ok (.getfield 76, 3) := by decide +kernel
theorem dX2_gauge_169 : decode cX2_gauge 169 = .ok (.ireturn, 1) := by decide +kernel
theorem dX2_gauge_170 : decode cX2_gauge 170 = .ok (.aload_n 0, 1) := by decide +kernel
theorem dX2_gauge_171 : decode cX2_gauge 171 = .ok (.getfield 64, 3) := by decide +kernel
theorem dX2_gauge_174 : decode cX2_gauge 174 = .ok (.ireturn, 1) := by decide +kernel
theorem dX2_gauge_175 : decode cX2_gauge 175 = .ok (.aload_n 0, 1) := by decide +kernel
theorem dX2_gauge_176 : decode cX2_gauge 176 = .ok (.getfield 31, 3) := by decide +kernel
theorem dX2_gauge_179 : decode cX2_gauge 179 = .ok (.invokevirtual 86, 3) := by decide +kernel
theorem dX2_gauge_182 : decode cX2_gauge 182 = .ok (.ireturn, 1) := by decide +kernel
theorem dX2_gauge_183 : decode cX2_gauge 183 = .ok (.aload_n 0, 1) := by decide +kernel
theorem dX2_gauge_184 : decode cX2_gauge 184 = .ok (.getfield 31, 3) := by decide +kernel
theorem dX2_gauge_187 : decode cX2_gauge 187 = .ok (.invokevirtual 89, 3) := by decide +kernel
theorem dX2_gauge_190 : decode cX2_gauge 190 = .ok (.ireturn, 1) := by decide +kernel
theorem dX2_gauge_191 : decode cX2_gauge 191 = .ok (.iconst 0, 1) := by decide +kernel
theorem dX2_gauge_192 : decode cX2_gauge 192 = .ok (.ireturn, 1) := by decide +kernel
def F_X2_gauge (x0 : Nat) (x1 : Int32) (I : MI) (L : ML) (R : MR) : Option (Int32) :=
  if kd x0 = 2 ∧ x0 < NN then
  if x1 = (1 : Int32) then
    some ((I x0 6))
  else
    if x1 = (2 : Int32) then
      some ((I x0 7))
    else
      if x1 = (16 : Int32) then
        (rf R x0 2 5).bind fun a5 =>
        bn1 (F_X6_brownoutCount a5 I L R) fun v6 =>
        some (v6)
      else
        if x1 = (17 : Int32) then
          (rf R x0 2 5).bind fun a9 =>
          bn1 (F_X6_failureCount a9 I L R) fun v10 =>
          some (v10)
        else
          if x1 = (18 : Int32) then
            some ((I x0 9))
          else
            if x1 = (19 : Int32) then
              some ((I x0 10))
            else
              if x1 = (21 : Int32) then
                some ((I x0 11))
              else
                if x1 = (22 : Int32) then
                  some ((I x0 12))
                else
                  if x1 = (25 : Int32) then
                    some ((I x0 8))
                  else
                    if x1 = (26 : Int32) then
                      (rf R x0 2 5).bind fun a18 =>
                      bn1 (F_X6_supplyNow a18 I L R) fun v19 =>
                      some (v19)
                    else
                      if x1 = (27 : Int32) then
                        (rf R x0 2 5).bind fun a22 =>
                        bn1 (F_X6_demandNow a22 I L R) fun v23 =>
                        some (v23)
                      else
                        some ((0 : Int32))
  else none
set_option maxRecDepth 100000 in
set_option maxHeartbeats 4000000 in
theorem c_X2_gauge (l : Launch) (D : va_G) (cA : Nat → ClassId) (ad : Nat → Nat) (bs : Nat) (X : State → Prop) (hAd : Ax ad bs) (hX : Stb bs X) (x0 : Nat) (x1 : Int32) (I : MI) (L : ML) (R : MR) (r : Int32) (h : F_X2_gauge x0 x1 I L R = some (r)) : Cn l D cA ad bs X yX2_gauge cX2_gauge 2 (some .int) 1 20 [.ref (ad x0), .int x1] I L R (some (.int r), I, L, R) := by
  refine Cn.ofV hAd hX [(0, .ref (ad x0)), (1, .int x1)] rfl (Nat.le_of_ble_eq_true rfl) (by decide) ?_
  intro G el eD ecA ead ebs eX erm eNL C0
  subst el eD ecA ead ebs eX
  unfold F_X2_gauge at h
  obtain ⟨c_x0, h⟩ := ite_some h
  refine V_iload_n C0 1 rfl rfl dX2_gauge_0 ?_
  have nd1 := nd_0 x1
  by_cases c2 : x1 = (1 : Int32)
  · have h := (if_pos c2).symm.trans h
    refine V_tableC C0 (tgt := 124) (v := (1 : Int32)) c2 (by decide) (by decide) dX2_gauge_1 ?_
    refine V_aload_n C0 0 rfl rfl dX2_gauge_124 ?_
    refine V_getI C0 2 6 fl_X2_57 c_x0.2 c_x0.1 rfl dX2_gauge_125 ?_
    cases h
    exact V_iret C0 dX2_gauge_128
  · have h := (if_neg c2).symm.trans h
    have nd1 := nd_add nd1 c2
    by_cases c3 : x1 = (2 : Int32)
    · have h := (if_pos c3).symm.trans h
      refine V_tableC C0 (tgt := 129) (v := (2 : Int32)) c3 (by decide) (by decide) dX2_gauge_1 ?_
      refine V_aload_n C0 0 rfl rfl dX2_gauge_129 ?_
      refine V_getI C0 2 7 fl_X2_61 c_x0.2 c_x0.1 rfl dX2_gauge_130 ?_
      cases h
      exact V_iret C0 dX2_gauge_133
    · have h := (if_neg c3).symm.trans h
      have nd1 := nd_add nd1 c3
      by_cases c4 : x1 = (16 : Int32)
      · have h := (if_pos c4).symm.trans h
        refine V_tableC C0 (tgt := 134) (v := (16 : Int32)) c4 (by decide) (by decide) dX2_gauge_1 ?_
        refine V_aload_n C0 0 rfl rfl dX2_gauge_134 ?_
        obtain ⟨a5, qa5, h⟩ := bnd_some h
        refine V_getR C0 2 2 fl_X2_31 c_x0.2 c_x0.1 rfl (rf_at qa5) dX2_gauge_135 ?_
        obtain ⟨v6, q7, h⟩ := bn1_some h
        refine V_callV C0 (st := []) (As := []) 5 (c_X6_brownoutCount G.l G.D G.cA G.ad G.bs G.X C0.2.2.2.2.2.2.2.2.2.1 C0.2.2.2.2.2.2.2.2.2.2.2.2 a5 I L R v6 q7) lc_X6_brownoutCount lk_X2_79 (rf_lt qa5) (rf_kd qa5) ⟨_, rfl, rfl⟩ rfl (by rw [erm]; decide) (Nat.le_of_ble_eq_true rfl) dX2_gauge_138 ?_
        show V G _ 141 [(0, .ref (G.ad x0)), (1, .int x1)] [.int v6] I L R
        cases h
        exact V_iret C0 dX2_gauge_141
      · have h := (if_neg c4).symm.trans h
        have nd1 := nd_add nd1 c4
        by_cases c8 : x1 = (17 : Int32)
        · have h := (if_pos c8).symm.trans h
          refine V_tableC C0 (tgt := 142) (v := (17 : Int32)) c8 (by decide) (by decide) dX2_gauge_1 ?_
          refine V_aload_n C0 0 rfl rfl dX2_gauge_142 ?_
          obtain ⟨a9, qa9, h⟩ := bnd_some h
          refine V_getR C0 2 2 fl_X2_31 c_x0.2 c_x0.1 rfl (rf_at qa9) dX2_gauge_143 ?_
          obtain ⟨v10, q11, h⟩ := bn1_some h
          refine V_callV C0 (st := []) (As := []) 5 (c_X6_failureCount G.l G.D G.cA G.ad G.bs G.X C0.2.2.2.2.2.2.2.2.2.1 C0.2.2.2.2.2.2.2.2.2.2.2.2 a9 I L R v10 q11) lc_X6_failureCount lk_X2_83 (rf_lt qa9) (rf_kd qa9) ⟨_, rfl, rfl⟩ rfl (by rw [erm]; decide) (Nat.le_of_ble_eq_true rfl) dX2_gauge_146 ?_
          show V G _ 149 [(0, .ref (G.ad x0)), (1, .int x1)] [.int v10] I L R
          cases h
          exact V_iret C0 dX2_gauge_149
        · have h := (if_neg c8).symm.trans h
          have nd1 := nd_add nd1 c8
          by_cases c12 : x1 = (18 : Int32)
          · have h := (if_pos c12).symm.trans h
            refine V_tableC C0 (tgt := 150) (v := (18 : Int32)) c12 (by decide) (by decide) dX2_gauge_1 ?_
            refine V_aload_n C0 0 rfl rfl dX2_gauge_150 ?_
            refine V_getI C0 2 9 fl_X2_67 c_x0.2 c_x0.1 rfl dX2_gauge_151 ?_
            cases h
            exact V_iret C0 dX2_gauge_154
          · have h := (if_neg c12).symm.trans h
            have nd1 := nd_add nd1 c12
            by_cases c13 : x1 = (19 : Int32)
            · have h := (if_pos c13).symm.trans h
              refine V_tableC C0 (tgt := 155) (v := (19 : Int32)) c13 (by decide) (by decide) dX2_gauge_1 ?_
              refine V_aload_n C0 0 rfl rfl dX2_gauge_155 ?_
              refine V_getI C0 2 10 fl_X2_70 c_x0.2 c_x0.1 rfl dX2_gauge_156 ?_
              cases h
              exact V_iret C0 dX2_gauge_159
            · have h := (if_neg c13).symm.trans h
              have nd1 := nd_add nd1 c13
              by_cases c14 : x1 = (21 : Int32)
              · have h := (if_pos c14).symm.trans h
                refine V_tableC C0 (tgt := 160) (v := (21 : Int32)) c14 (by decide) (by decide) dX2_gauge_1 ?_
                refine V_aload_n C0 0 rfl rfl dX2_gauge_160 ?_
                refine V_getI C0 2 11 fl_X2_73 c_x0.2 c_x0.1 rfl dX2_gauge_161 ?_
                cases h
                exact V_iret C0 dX2_gauge_164
              · have h := (if_neg c14).symm.trans h
                have nd1 := nd_add nd1 c14
                by_cases c15 : x1 = (22 : Int32)
                · have h := (if_pos c15).symm.trans h
                  refine V_tableC C0 (tgt := 165) (v := (22 : Int32)) c15 (by decide) (by decide) dX2_gauge_1 ?_
                  refine V_aload_n C0 0 rfl rfl dX2_gauge_165 ?_
                  refine V_getI C0 2 12 fl_X2_76 c_x0.2 c_x0.1 rfl dX2_gauge_166 ?_
                  cases h
                  exact V_iret C0 dX2_gauge_169
                · have h := (if_neg c15).symm.trans h
                  have nd1 := nd_add nd1 c15
                  by_cases c16 : x1 = (25 : Int32)
                  · have h := (if_pos c16).symm.trans h
                    refine V_tableC C0 (tgt := 170) (v := (25 : Int32)) c16 (by decide) (by decide) dX2_gauge_1 ?_
                    refine V_aload_n C0 0 rfl rfl dX2_gauge_170 ?_
                    refine V_getI C0 2 8 fl_X2_64 c_x0.2 c_x0.1 rfl dX2_gauge_171 ?_
                    cases h
                    exact V_iret C0 dX2_gauge_174
                  · have h := (if_neg c16).symm.trans h
                    have nd1 := nd_add nd1 c16
                    by_cases c17 : x1 = (26 : Int32)
                    · have h := (if_pos c17).symm.trans h
                      refine V_tableC C0 (tgt := 175) (v := (26 : Int32)) c17 (by decide) (by decide) dX2_gauge_1 ?_
                      refine V_aload_n C0 0 rfl rfl dX2_gauge_175 ?_
                      obtain ⟨a18, qa18, h⟩ := bnd_some h
                      refine V_getR C0 2 2 fl_X2_31 c_x0.2 c_x0.1 rfl (rf_at qa18) dX2_gauge_176 ?_
                      obtain ⟨v19, q20, h⟩ := bn1_some h
                      refine V_callV C0 (st := []) (As := []) 5 (c_X6_supplyNow G.l G.D G.cA G.ad G.bs G.X C0.2.2.2.2.2.2.2.2.2.1 C0.2.2.2.2.2.2.2.2.2.2.2.2 a18 I L R v19 q20) lc_X6_supplyNow lk_X2_86 (rf_lt qa18) (rf_kd qa18) ⟨_, rfl, rfl⟩ rfl (by rw [erm]; decide) (Nat.le_of_ble_eq_true rfl) dX2_gauge_179 ?_
                      show V G _ 182 [(0, .ref (G.ad x0)), (1, .int x1)] [.int v19] I L R
                      cases h
                      exact V_iret C0 dX2_gauge_182
                    · have h := (if_neg c17).symm.trans h
                      have nd1 := nd_add nd1 c17
                      by_cases c21 : x1 = (27 : Int32)
                      · have h := (if_pos c21).symm.trans h
                        refine V_tableC C0 (tgt := 183) (v := (27 : Int32)) c21 (by decide) (by decide) dX2_gauge_1 ?_
                        refine V_aload_n C0 0 rfl rfl dX2_gauge_183 ?_
                        obtain ⟨a22, qa22, h⟩ := bnd_some h
                        refine V_getR C0 2 2 fl_X2_31 c_x0.2 c_x0.1 rfl (rf_at qa22) dX2_gauge_184 ?_
                        obtain ⟨v23, q24, h⟩ := bn1_some h
                        refine V_callV C0 (st := []) (As := []) 5 (c_X6_demandNow G.l G.D G.cA G.ad G.bs G.X C0.2.2.2.2.2.2.2.2.2.1 C0.2.2.2.2.2.2.2.2.2.2.2.2 a22 I L R v23 q24) lc_X6_demandNow lk_X2_89 (rf_lt qa22) (rf_kd qa22) ⟨_, rfl, rfl⟩ rfl (by rw [erm]; decide) (Nat.le_of_ble_eq_true rfl) dX2_gauge_187 ?_
                        show V G _ 190 [(0, .ref (G.ad x0)), (1, .int x1)] [.int v23] I L R
                        cases h
                        exact V_iret C0 dX2_gauge_190
                      · have h := (if_neg c21).symm.trans h
                        have nd1 := nd_add nd1 c21
                        refine V_tableN C0 (tgt := 191) nd1 (by decide) (by decide) dX2_gauge_1 ?_
                        refine V_iconst C0 (v := (0 : Int32)) (by decide) dX2_gauge_191 ?_
                        cases h
                        exact V_iret C0 dX2_gauge_192
theorem dX2_lightAt_0 : decode cX2_lightAt 0 = .ok (.iload_n 0, 1) := by decide +kernel
theorem dX2_lightAt_1 : decode cX2_lightAt 1 = .ok (.sipush 339, 3) := by decide +kernel
theorem dX2_lightAt_4 : decode cX2_lightAt 4 = .ok (.if_icmp .gt 6, 3) := by decide +kernel
theorem dX2_lightAt_7 : decode cX2_lightAt 7 = .ok (.bipush 100, 2) := by decide +kernel
theorem dX2_lightAt_9 : decode cX2_lightAt 9 = .ok (.ireturn, 1) := by decide +kernel
theorem dX2_lightAt_10 : decode cX2_lightAt 10 = .ok (.iload_n 0, 1) := by decide +kernel
theorem dX2_lightAt_11 : decode cX2_lightAt 11 = .ok (.sipush 359, 3) := by decide +kernel
theorem dX2_lightAt_14 : decode cX2_lightAt 14 = .ok (.if_icmp .gt 14, 3) := by decide +kernel
theorem dX2_lightAt_17 : decode cX2_lightAt 17 = .ok (.bipush 100, 2) := by decide +kernel
theorem dX2_lightAt_19 : decode cX2_lightAt 19 = .ok (.iconst 5, 1) := by decide +kernel
theorem dX2_lightAt_20 : decode cX2_lightAt 20 = .ok (.iload_n 0, 1) := by decide +kernel
theorem dX2_lightAt_21 : decode cX2_lightAt 21 = .ok (.sipush 339, 3) := by decide +kernel
theorem dX2_lightAt_24 : decode cX2_lightAt 24 = .ok (.isub, 1) := by decide +kernel
theorem dX2_lightAt_25 : decode cX2_lightAt 25 = .ok (.imul, 1) := by decide +kernel
theorem dX2_lightAt_26 : decode cX2_lightAt 26 = .ok (.isub, 1) := by decide +kernel
theorem dX2_lightAt_27 : decode cX2_lightAt 27 = .ok (.ireturn, 1) := by decide +kernel
theorem dX2_lightAt_28 : decode cX2_lightAt 28 = .ok (.iload_n 0, 1) := by decide +kernel
theorem dX2_lightAt_29 : decode cX2_lightAt 29 = .ok (.sipush 579, 3) := by decide +kernel
theorem dX2_lightAt_32 : decode cX2_lightAt 32 = .ok (.if_icmp .gt 7, 3) := by decide +kernel
theorem dX2_lightAt_35 : decode cX2_lightAt 35 = .ok (.iconst 0, 1) := by decide +kernel
theorem dX2_lightAt_36 : decode cX2_lightAt 36 = .ok (.goto 10, 3) := by decide +kernel
theorem dX2_lightAt_39 : decode cX2_lightAt 39 = .ok (.iconst 5, 1) := by decide +kernel
theorem dX2_lightAt_40 : decode cX2_lightAt 40 = .ok (.iload_n 0, 1) := by decide +kernel
theorem dX2_lightAt_41 : decode cX2_lightAt 41 = .ok (.sipush 579, 3) := by decide +kernel
theorem dX2_lightAt_44 : decode cX2_lightAt 44 = .ok (.isub, 1) := by decide +kernel
theorem dX2_lightAt_45 : decode cX2_lightAt 45 = .ok (.imul, 1) := by decide +kernel
theorem dX2_lightAt_46 : decode cX2_lightAt 46 = .ok (.ireturn, 1) := by decide +kernel
def F_X2_lightAt (x0 : Int32) (I : MI) (L : ML) (R : MR) : Option (Int32) :=
  if (339 : Int32) < x0 then
    if (359 : Int32) < x0 then
      if (579 : Int32) < x0 then
        some (((5 : Int32) * (x0 - (579 : Int32))))
      else
        some ((0 : Int32))
    else
      some (((100 : Int32) - ((5 : Int32) * (x0 - (339 : Int32)))))
  else
    some ((100 : Int32))
set_option maxRecDepth 100000 in
set_option maxHeartbeats 4000000 in
theorem c_X2_lightAt (l : Launch) (D : va_G) (cA : Nat → ClassId) (ad : Nat → Nat) (bs : Nat) (X : State → Prop) (hAd : Ax ad bs) (hX : Stb bs X) (x0 : Int32) (I : MI) (L : ML) (R : MR) (r : Int32) (h : F_X2_lightAt x0 I L R = some (r)) : Cn l D cA ad bs X yX2_lightAt cX2_lightAt 1 (some .int) 0 0 [.int x0] I L R (some (.int r), I, L, R) := by
  refine Cn.ofV hAd hX [(0, .int x0)] rfl (Nat.le_of_ble_eq_true rfl) (by decide) ?_
  intro G el eD ecA ead ebs eX erm eNL C0
  subst el eD ecA ead ebs eX
  unfold F_X2_lightAt at h
  refine V_iload_n C0 0 rfl rfl dX2_lightAt_0 ?_
  refine V_sipush C0 (v := (339 : Int32)) (by decide) dX2_lightAt_1 ?_
  refine V_icmp_gt C0 (tgt := 10) (by decide) dX2_lightAt_4 (fun c1 => ?_) (fun c1 => ?_)
  · have h := (if_pos c1).symm.trans h
    refine V_iload_n C0 0 rfl rfl dX2_lightAt_10 ?_
    refine V_sipush C0 (v := (359 : Int32)) (by decide) dX2_lightAt_11 ?_
    refine V_icmp_gt C0 (tgt := 28) (by decide) dX2_lightAt_14 (fun c2 => ?_) (fun c2 => ?_)
    · have h := (if_pos c2).symm.trans h
      refine V_iload_n C0 0 rfl rfl dX2_lightAt_28 ?_
      refine V_sipush C0 (v := (579 : Int32)) (by decide) dX2_lightAt_29 ?_
      refine V_icmp_gt C0 (tgt := 39) (by decide) dX2_lightAt_32 (fun c3 => ?_) (fun c3 => ?_)
      · have h := (if_pos c3).symm.trans h
        refine V_iconst C0 (v := (5 : Int32)) (by decide) dX2_lightAt_39 ?_
        refine V_iload_n C0 0 rfl rfl dX2_lightAt_40 ?_
        refine V_sipush C0 (v := (579 : Int32)) (by decide) dX2_lightAt_41 ?_
        refine V_isub C0 dX2_lightAt_44 ?_
        refine V_imul C0 dX2_lightAt_45 ?_
        cases h
        exact V_iret C0 dX2_lightAt_46
      · have h := (if_neg c3).symm.trans h
        refine V_iconst C0 (v := (0 : Int32)) (by decide) dX2_lightAt_35 ?_
        refine V_goto C0 (tgt := 46) (by decide) dX2_lightAt_36 ?_
        cases h
        exact V_iret C0 dX2_lightAt_46
    · have h := (if_neg c2).symm.trans h
      refine V_bipush C0 (v := (100 : Int32)) (by decide) dX2_lightAt_17 ?_
      refine V_iconst C0 (v := (5 : Int32)) (by decide) dX2_lightAt_19 ?_
      refine V_iload_n C0 0 rfl rfl dX2_lightAt_20 ?_
      refine V_sipush C0 (v := (339 : Int32)) (by decide) dX2_lightAt_21 ?_
      refine V_isub C0 dX2_lightAt_24 ?_
      refine V_imul C0 dX2_lightAt_25 ?_
      refine V_isub C0 dX2_lightAt_26 ?_
      cases h
      exact V_iret C0 dX2_lightAt_27
  · have h := (if_neg c1).symm.trans h
    refine V_bipush C0 (v := (100 : Int32)) (by decide) dX2_lightAt_7 ?_
    cases h
    exact V_iret C0 dX2_lightAt_9
theorem dX5_size_0 : decode cX5_size 0 = .ok (.aload_n 0, 1) := by decide +kernel
theorem dX5_size_1 : decode cX5_size 1 = .ok (.getfield 22, 3) := by decide +kernel
theorem dX5_size_4 : decode cX5_size 4 = .ok (.ireturn, 1) := by decide +kernel
def F_X5_size (x0 : Nat) (I : MI) (L : ML) (R : MR) : Option (Int32) :=
  if kd x0 = 4 ∧ x0 < NN then
  some ((I x0 2))
  else none
set_option maxRecDepth 100000 in
set_option maxHeartbeats 4000000 in
theorem c_X5_size (l : Launch) (D : va_G) (cA : Nat → ClassId) (ad : Nat → Nat) (bs : Nat) (X : State → Prop) (hAd : Ax ad bs) (hX : Stb bs X) (x0 : Nat) (I : MI) (L : ML) (R : MR) (r : Int32) (h : F_X5_size x0 I L R = some (r)) : Cn l D cA ad bs X yX5_size cX5_size 1 (some .int) 0 0 [.ref (ad x0)] I L R (some (.int r), I, L, R) := by
  refine Cn.ofV hAd hX [(0, .ref (ad x0))] rfl (Nat.le_of_ble_eq_true rfl) (by decide) ?_
  intro G el eD ecA ead ebs eX erm eNL C0
  subst el eD ecA ead ebs eX
  unfold F_X5_size at h
  obtain ⟨c_x0, h⟩ := ite_some h
  refine V_aload_n C0 0 rfl rfl dX5_size_0 ?_
  refine V_getI C0 4 2 fl_X5_22 c_x0.2 c_x0.1 rfl dX5_size_1 ?_
  cases h
  exact V_iret C0 dX5_size_4
theorem dX5_itemAt_0 : decode cX5_itemAt 0 = .ok (.iload_n 1, 1) := by decide +kernel
theorem dX5_itemAt_1 : decode cX5_itemAt 1 = .ok (.ifCond .lt 29, 3) := by decide +kernel
theorem dX5_itemAt_4 : decode cX5_itemAt 4 = .ok (.iload_n 1, 1) := by decide +kernel
theorem dX5_itemAt_5 : decode cX5_itemAt 5 = .ok (.aload_n 0, 1) := by decide +kernel
theorem dX5_itemAt_6 : decode cX5_itemAt 6 = .ok (.getfield 22, 3) := by decide +kernel
theorem dX5_itemAt_9 : decode cX5_itemAt 9 = .ok (.if_icmp .ge 21, 3) := by decide +kernel
theorem dX5_itemAt_12 : decode cX5_itemAt 12 = .ok (.iload_n 1, 1) := by decide +kernel
theorem dX5_itemAt_13 : decode cX5_itemAt 13 = .ok (.aload_n 0, 1) := by decide +kernel
theorem dX5_itemAt_14 : decode cX5_itemAt 14 = .ok (.getfield 11, 3) := by decide +kernel
theorem dX5_itemAt_17 : decode cX5_itemAt 17 = .ok (.arraylength, 1) := by decide +kernel
theorem dX5_itemAt_18 : decode cX5_itemAt 18 = .ok (.if_icmp .ge 12, 3) := by decide +kernel
theorem dX5_itemAt_21 : decode cX5_itemAt 21 = .ok (.aload_n 0, 1) := by decide +kernel
theorem dX5_itemAt_22 : decode cX5_itemAt 22 = .ok (.getfield 11, 3) := by decide +kernel
theorem dX5_itemAt_25 : decode cX5_itemAt 25 = .ok (.iload_n 1, 1) := by decide +kernel
theorem dX5_itemAt_26 : decode cX5_itemAt 26 = .ok (.aaload, 1) := by decide +kernel
theorem dX5_itemAt_27 : decode cX5_itemAt 27 = .ok (.goto 7, 3) := by decide +kernel
theorem dX5_itemAt_30 : decode cX5_itemAt 30 = .ok (.aload_n 0, 1) := by decide +kernel
theorem dX5_itemAt_31 : decode cX5_itemAt 31 = .ok (.getfield 18, 3) := by decide +kernel
theorem dX5_itemAt_34 : decode cX5_itemAt 34 = .ok (.areturn, 1) := by decide +kernel
def F_X5_itemAt (x0 : Nat) (x1 : Int32) (I : MI) (L : ML) (R : MR) : Option (Nat) :=
  if kd x0 = 4 ∧ x0 < NN then
  if x1 < 0 then
    (rf R x0 1 3).bind fun a2 =>
    some (a2)
  else
    if (I x0 2) ≤ x1 then
      (rf R x0 1 3).bind fun a4 =>
      some (a4)
    else
      (rf R x0 0 24).bind fun a5 =>
      if (Int32.ofNat (ln a5)) ≤ x1 then
        (rf R x0 1 3).bind fun a7 =>
        some (a7)
      else
        (ra R a5 x1 3).bind fun a8 =>
        some (a8)
  else none
set_option maxRecDepth 100000 in
set_option maxHeartbeats 4000000 in
theorem c_X5_itemAt (l : Launch) (D : va_G) (cA : Nat → ClassId) (ad : Nat → Nat) (bs : Nat) (X : State → Prop) (hAd : Ax ad bs) (hX : Stb bs X) (x0 : Nat) (x1 : Int32) (I : MI) (L : ML) (R : MR) (r : Nat) (h : F_X5_itemAt x0 x1 I L R = some (r)) : Cn l D cA ad bs X yX5_itemAt cX5_itemAt 2 (some (.object "SmallCraft$Item")) 0 0 [.ref (ad x0), .int x1] I L R (some (.ref (ad r)), I, L, R) := by
  refine Cn.ofV hAd hX [(0, .ref (ad x0)), (1, .int x1)] rfl (Nat.le_of_ble_eq_true rfl) (by decide) ?_
  intro G el eD ecA ead ebs eX erm eNL C0
  subst el eD ecA ead ebs eX
  unfold F_X5_itemAt at h
  obtain ⟨c_x0, h⟩ := ite_some h
  refine V_iload_n C0 1 rfl rfl dX5_itemAt_0 ?_
  refine V_if_lt C0 (tgt := 30) (by decide) dX5_itemAt_1 (fun c1 => ?_) (fun c1 => ?_)
  · have h := (if_pos c1).symm.trans h
    refine V_aload_n C0 0 rfl rfl dX5_itemAt_30 ?_
    obtain ⟨a2, qa2, h⟩ := bnd_some h
    refine V_getR C0 4 1 fl_X5_18 c_x0.2 c_x0.1 rfl (rf_at qa2) dX5_itemAt_31 ?_
    cases h
    exact V_aret C0 dX5_itemAt_34
  · have h := (if_neg c1).symm.trans h
    refine V_iload_n C0 1 rfl rfl dX5_itemAt_4 ?_
    refine V_aload_n C0 0 rfl rfl dX5_itemAt_5 ?_
    refine V_getI C0 4 2 fl_X5_22 c_x0.2 c_x0.1 rfl dX5_itemAt_6 ?_
    refine V_icmp_ge C0 (tgt := 30) (by decide) dX5_itemAt_9 (fun c3 => ?_) (fun c3 => ?_)
    · have h := (if_pos c3).symm.trans h
      refine V_aload_n C0 0 rfl rfl dX5_itemAt_30 ?_
      obtain ⟨a4, qa4, h⟩ := bnd_some h
      refine V_getR C0 4 1 fl_X5_18 c_x0.2 c_x0.1 rfl (rf_at qa4) dX5_itemAt_31 ?_
      cases h
      exact V_aret C0 dX5_itemAt_34
    · have h := (if_neg c3).symm.trans h
      refine V_iload_n C0 1 rfl rfl dX5_itemAt_12 ?_
      refine V_aload_n C0 0 rfl rfl dX5_itemAt_13 ?_
      obtain ⟨a5, qa5, h⟩ := bnd_some h
      refine V_getR C0 4 0 fl_X5_11 c_x0.2 c_x0.1 rfl (rf_at qa5) dX5_itemAt_14 ?_
      refine V_alen C0 (v := Int32.ofNat (ln a5)) (rf_lt qa5) (by rw [(rf_kd qa5)]; decide) rfl dX5_itemAt_17 ?_
      refine V_icmp_ge C0 (tgt := 30) (by decide) dX5_itemAt_18 (fun c6 => ?_) (fun c6 => ?_)
      · have h := (if_pos c6).symm.trans h
        refine V_aload_n C0 0 rfl rfl dX5_itemAt_30 ?_
        obtain ⟨a7, qa7, h⟩ := bnd_some h
        refine V_getR C0 4 1 fl_X5_18 c_x0.2 c_x0.1 rfl (rf_at qa7) dX5_itemAt_31 ?_
        cases h
        exact V_aret C0 dX5_itemAt_34
      · have h := (if_neg c6).symm.trans h
        refine V_aload_n C0 0 rfl rfl dX5_itemAt_21 ?_
        refine V_getR C0 4 0 fl_X5_11 c_x0.2 c_x0.1 rfl (rf_at qa5) dX5_itemAt_22 ?_
        refine V_iload_n C0 1 rfl rfl dX5_itemAt_25 ?_
        obtain ⟨a8, qa8, h⟩ := bnd_some h
        refine V_ra C0 (rf_lt qa5) (Or.inr (rf_kd qa5)) qa8 dX5_itemAt_26 ?_
        refine V_goto C0 (tgt := 34) (by decide) dX5_itemAt_27 ?_
        cases h
        exact V_aret C0 dX5_itemAt_34
theorem dX3_isWatch_0 : decode cX3_isWatch 0 = .ok (.aload_n 0, 1) := by decide +kernel
theorem dX3_isWatch_1 : decode cX3_isWatch 1 = .ok (.getfield 11, 3) := by decide +kernel
theorem dX3_isWatch_4 : decode cX3_isWatch 4 = .ok (.iconst 2, 1) := by decide +kernel
theorem dX3_isWatch_5 : decode cX3_isWatch 5 = .ok (.if_icmp .eq 11, 3) := by decide +kernel
theorem dX3_isWatch_8 : decode cX3_isWatch 8 = .ok (.aload_n 0, 1) := by decide +kernel
theorem dX3_isWatch_9 : decode cX3_isWatch 9 = .ok (.getfield 11, 3) := by decide +kernel
theorem dX3_isWatch_12 : decode cX3_isWatch 12 = .ok (.iconst 3, 1) := by decide +kernel
theorem dX3_isWatch_13 : decode cX3_isWatch 13 = .ok (.if_icmp .ne 7, 3) := by decide +kernel
theorem dX3_isWatch_16 : decode cX3_isWatch 16 = .ok (.iconst 1, 1) := by decide +kernel
theorem dX3_isWatch_17 : decode cX3_isWatch 17 = .ok (.goto 4, 3) := by decide +kernel
theorem dX3_isWatch_20 : decode cX3_isWatch 20 = .ok (.iconst 0, 1) := by decide +kernel
theorem dX3_isWatch_21 : decode cX3_isWatch 21 = .ok (.ireturn, 1) := by decide +kernel
def F_X3_isWatch (x0 : Nat) (I : MI) (L : ML) (R : MR) : Option (Bool) :=
  if kd x0 = 3 ∧ x0 < NN then
  if (I x0 0) = (2 : Int32) then
    some (true)
  else
    if (I x0 0) = (3 : Int32) then
      some (true)
    else
      some (false)
  else none
set_option maxRecDepth 100000 in
set_option maxHeartbeats 4000000 in
theorem c_X3_isWatch (l : Launch) (D : va_G) (cA : Nat → ClassId) (ad : Nat → Nat) (bs : Nat) (X : State → Prop) (hAd : Ax ad bs) (hX : Stb bs X) (x0 : Nat) (I : MI) (L : ML) (R : MR) (r : Bool) (h : F_X3_isWatch x0 I L R = some (r)) : Cn l D cA ad bs X yX3_isWatch cX3_isWatch 1 (some .boolean) 0 0 [.ref (ad x0)] I L R (some (.int (b2i r)), I, L, R) := by
  refine Cn.ofV hAd hX [(0, .ref (ad x0))] rfl (Nat.le_of_ble_eq_true rfl) (by decide) ?_
  intro G el eD ecA ead ebs eX erm eNL C0
  subst el eD ecA ead ebs eX
  unfold F_X3_isWatch at h
  obtain ⟨c_x0, h⟩ := ite_some h
  refine V_aload_n C0 0 rfl rfl dX3_isWatch_0 ?_
  refine V_getI C0 3 0 fl_X3_11 c_x0.2 c_x0.1 rfl dX3_isWatch_1 ?_
  refine V_iconst C0 (v := (2 : Int32)) (by decide) dX3_isWatch_4 ?_
  refine V_icmp_eq C0 (tgt := 16) (by decide) dX3_isWatch_5 (fun c1 => ?_) (fun c1 => ?_)
  · have h := (if_pos c1).symm.trans h
    refine V_iconst C0 (v := (1 : Int32)) (by decide) dX3_isWatch_16 ?_
    refine V_goto C0 (tgt := 21) (by decide) dX3_isWatch_17 ?_
    cases h
    exact V_zret C0 (by decide) dX3_isWatch_21
  · have h := (if_neg c1).symm.trans h
    refine V_aload_n C0 0 rfl rfl dX3_isWatch_8 ?_
    refine V_getI C0 3 0 fl_X3_11 c_x0.2 c_x0.1 rfl dX3_isWatch_9 ?_
    refine V_iconst C0 (v := (3 : Int32)) (by decide) dX3_isWatch_12 ?_
    refine V_icmp_ne C0 (tgt := 20) (by decide) dX3_isWatch_13 (fun c2 => ?_) (fun c2 => ?_)
    · have h := (if_neg c2).symm.trans h
      refine V_iconst C0 (v := (0 : Int32)) (by decide) dX3_isWatch_20 ?_
      cases h
      exact V_zret C0 (by decide) dX3_isWatch_21
    · have h := (if_pos c2).symm.trans h
      refine V_iconst C0 (v := (1 : Int32)) (by decide) dX3_isWatch_16 ?_
      refine V_goto C0 (tgt := 21) (by decide) dX3_isWatch_17 ?_
      cases h
      exact V_zret C0 (by decide) dX3_isWatch_21
theorem dX10_has_0 : decode cX10_has 0 = .ok (.iload_n 1, 1) := by decide +kernel
theorem dX10_has_1 : decode cX10_has 1 = .ok (.ifCond .lt 15, 3) := by decide +kernel
theorem dX10_has_4 : decode cX10_has 4 = .ok (.iload_n 1, 1) := by decide +kernel
theorem dX10_has_5 : decode cX10_has 5 = .ok (.aload_n 0, 1) := by decide +kernel
theorem dX10_has_6 : decode cX10_has 6 = .ok (.getfield 26, 3) := by decide +kernel
theorem dX10_has_9 : decode cX10_has 9 = .ok (.if_icmp .ge 7, 3) := by decide +kernel
theorem dX10_has_12 : decode cX10_has 12 = .ok (.iconst 1, 1) := by decide +kernel
theorem dX10_has_13 : decode cX10_has 13 = .ok (.goto 4, 3) := by decide +kernel
theorem dX10_has_16 : decode cX10_has 16 = .ok (.iconst 0, 1) := by decide +kernel
theorem dX10_has_17 : decode cX10_has 17 = .ok (.ireturn, 1) := by decide +kernel
def F_X10_has (x0 : Nat) (x1 : Int32) (I : MI) (L : ML) (R : MR) : Option (Bool) :=
  if kd x0 = 9 ∧ x0 < NN then
  if x1 < 0 then
    some (false)
  else
    if (I x0 3) ≤ x1 then
      some (false)
    else
      some (true)
  else none
set_option maxRecDepth 100000 in
set_option maxHeartbeats 4000000 in
theorem c_X10_has (l : Launch) (D : va_G) (cA : Nat → ClassId) (ad : Nat → Nat) (bs : Nat) (X : State → Prop) (hAd : Ax ad bs) (hX : Stb bs X) (x0 : Nat) (x1 : Int32) (I : MI) (L : ML) (R : MR) (r : Bool) (h : F_X10_has x0 x1 I L R = some (r)) : Cn l D cA ad bs X yX10_has cX10_has 2 (some .boolean) 0 0 [.ref (ad x0), .int x1] I L R (some (.int (b2i r)), I, L, R) := by
  refine Cn.ofV hAd hX [(0, .ref (ad x0)), (1, .int x1)] rfl (Nat.le_of_ble_eq_true rfl) (by decide) ?_
  intro G el eD ecA ead ebs eX erm eNL C0
  subst el eD ecA ead ebs eX
  unfold F_X10_has at h
  obtain ⟨c_x0, h⟩ := ite_some h
  refine V_iload_n C0 1 rfl rfl dX10_has_0 ?_
  refine V_if_lt C0 (tgt := 16) (by decide) dX10_has_1 (fun c1 => ?_) (fun c1 => ?_)
  · have h := (if_pos c1).symm.trans h
    refine V_iconst C0 (v := (0 : Int32)) (by decide) dX10_has_16 ?_
    cases h
    exact V_zret C0 (by decide) dX10_has_17
  · have h := (if_neg c1).symm.trans h
    refine V_iload_n C0 1 rfl rfl dX10_has_4 ?_
    refine V_aload_n C0 0 rfl rfl dX10_has_5 ?_
    refine V_getI C0 9 3 fl_X10_26 c_x0.2 c_x0.1 rfl dX10_has_6 ?_
    refine V_icmp_ge C0 (tgt := 16) (by decide) dX10_has_9 (fun c2 => ?_) (fun c2 => ?_)
    · have h := (if_pos c2).symm.trans h
      refine V_iconst C0 (v := (0 : Int32)) (by decide) dX10_has_16 ?_
      cases h
      exact V_zret C0 (by decide) dX10_has_17
    · have h := (if_neg c2).symm.trans h
      refine V_iconst C0 (v := (1 : Int32)) (by decide) dX10_has_12 ?_
      refine V_goto C0 (tgt := 17) (by decide) dX10_has_13 ?_
      cases h
      exact V_zret C0 (by decide) dX10_has_17
theorem dX10_unitAt_0 : decode cX10_unitAt 0 = .ok (.aload_n 0, 1) := by decide +kernel
theorem dX10_unitAt_1 : decode cX10_unitAt 1 = .ok (.iload_n 1, 1) := by decide +kernel
theorem dX10_unitAt_2 : decode cX10_unitAt 2 = .ok (.invokevirtual 30, 3) := by decide +kernel
theorem dX10_unitAt_5 : decode cX10_unitAt 5 = .ok (.ifCond .eq 21, 3) := by decide +kernel
theorem dX10_unitAt_8 : decode cX10_unitAt 8 = .ok (.iload_n 1, 1) := by decide +kernel
theorem dX10_unitAt_9 : decode cX10_unitAt 9 = .ok (.aload_n 0, 1) := by decide +kernel
theorem dX10_unitAt_10 : decode cX10_unitAt 10 = .ok (.getfield 11, 3) := by decide +kernel
theorem dX10_unitAt_13 : decode cX10_unitAt 13 = .ok (.arraylength, 1) := by decide +kernel
theorem dX10_unitAt_14 : decode cX10_unitAt 14 = .ok (.if_icmp .ge 12, 3) := by decide +kernel
theorem dX10_unitAt_17 : decode cX10_unitAt 17 = .ok (.aload_n 0, 1) := by decide +kernel
theorem dX10_unitAt_18 : decode cX10_unitAt 18 = .ok (.getfield 11, 3) := by decide +kernel
theorem dX10_unitAt_21 : decode cX10_unitAt 21 = .ok (.iload_n 1, 1) := by decide +kernel
theorem dX10_unitAt_22 : decode cX10_unitAt 22 = .ok (.aaload, 1) := by decide +kernel
theorem dX10_unitAt_23 : decode cX10_unitAt 23 = .ok (.goto 7, 3) := by decide +kernel
theorem dX10_unitAt_26 : decode cX10_unitAt 26 = .ok (.aload_n 0, 1) := by decide +kernel
theorem dX10_unitAt_27 : decode cX10_unitAt 27 = .ok (.getfield 18, 3) := by decide +kernel
theorem dX10_unitAt_30 : decode cX10_unitAt 30 = .ok (.areturn, 1) := by decide +kernel
def F_X10_unitAt (x0 : Nat) (x1 : Int32) (I : MI) (L : ML) (R : MR) : Option (Nat) :=
  if kd x0 = 9 ∧ x0 < NN then
  bn1 (F_X10_has x0 x1 I L R) fun b1 =>
  if (b2i b1) = 0 then
    (rf R x0 1 8).bind fun a4 =>
    some (a4)
  else
    (rf R x0 0 23).bind fun a5 =>
    if (Int32.ofNat (ln a5)) ≤ x1 then
      (rf R x0 1 8).bind fun a7 =>
      some (a7)
    else
      (ra R a5 x1 8).bind fun a8 =>
      some (a8)
  else none
set_option maxRecDepth 100000 in
set_option maxHeartbeats 4000000 in
theorem c_X10_unitAt (l : Launch) (D : va_G) (cA : Nat → ClassId) (ad : Nat → Nat) (bs : Nat) (X : State → Prop) (hAd : Ax ad bs) (hX : Stb bs X) (x0 : Nat) (x1 : Int32) (I : MI) (L : ML) (R : MR) (r : Nat) (h : F_X10_unitAt x0 x1 I L R = some (r)) : Cn l D cA ad bs X yX10_unitAt cX10_unitAt 2 (some (.object "SmallCraft$Unit")) 1 21 [.ref (ad x0), .int x1] I L R (some (.ref (ad r)), I, L, R) := by
  refine Cn.ofV hAd hX [(0, .ref (ad x0)), (1, .int x1)] rfl (Nat.le_of_ble_eq_true rfl) (by decide) ?_
  intro G el eD ecA ead ebs eX erm eNL C0
  subst el eD ecA ead ebs eX
  unfold F_X10_unitAt at h
  obtain ⟨c_x0, h⟩ := ite_some h
  refine V_aload_n C0 0 rfl rfl dX10_unitAt_0 ?_
  refine V_iload_n C0 1 rfl rfl dX10_unitAt_1 ?_
  obtain ⟨b1, q2, h⟩ := bn1_some h
  refine V_callV C0 (st := []) (As := [.int x1]) 9 (c_X10_has G.l G.D G.cA G.ad G.bs G.X C0.2.2.2.2.2.2.2.2.2.1 C0.2.2.2.2.2.2.2.2.2.2.2.2 x0 x1 I L R b1 q2) lc_X10_has lk_X10_30 c_x0.2 c_x0.1 ⟨_, rfl, rfl⟩ rfl (by rw [erm]; decide) (Nat.le_of_ble_eq_true rfl) dX10_unitAt_2 ?_
  show V G _ 5 [(0, .ref (G.ad x0)), (1, .int x1)] [.int (b2i b1)] I L R
  refine V_if_eq C0 (tgt := 26) (by decide) dX10_unitAt_5 (fun c3 => ?_) (fun c3 => ?_)
  · have h := (if_pos c3).symm.trans h
    refine V_aload_n C0 0 rfl rfl dX10_unitAt_26 ?_
    obtain ⟨a4, qa4, h⟩ := bnd_some h
    refine V_getR C0 9 1 fl_X10_18 c_x0.2 c_x0.1 rfl (rf_at qa4) dX10_unitAt_27 ?_
    cases h
    exact V_aret C0 dX10_unitAt_30
  · have h := (if_neg c3).symm.trans h
    refine V_iload_n C0 1 rfl rfl dX10_unitAt_8 ?_
    refine V_aload_n C0 0 rfl rfl dX10_unitAt_9 ?_
    obtain ⟨a5, qa5, h⟩ := bnd_some h
    refine V_getR C0 9 0 fl_X10_11 c_x0.2 c_x0.1 rfl (rf_at qa5) dX10_unitAt_10 ?_
    refine V_alen C0 (v := Int32.ofNat (ln a5)) (rf_lt qa5) (by rw [(rf_kd qa5)]; decide) rfl dX10_unitAt_13 ?_
    refine V_icmp_ge C0 (tgt := 26) (by decide) dX10_unitAt_14 (fun c6 => ?_) (fun c6 => ?_)
    · have h := (if_pos c6).symm.trans h
      refine V_aload_n C0 0 rfl rfl dX10_unitAt_26 ?_
      obtain ⟨a7, qa7, h⟩ := bnd_some h
      refine V_getR C0 9 1 fl_X10_18 c_x0.2 c_x0.1 rfl (rf_at qa7) dX10_unitAt_27 ?_
      cases h
      exact V_aret C0 dX10_unitAt_30
    · have h := (if_neg c6).symm.trans h
      refine V_aload_n C0 0 rfl rfl dX10_unitAt_17 ?_
      refine V_getR C0 9 0 fl_X10_11 c_x0.2 c_x0.1 rfl (rf_at qa5) dX10_unitAt_18 ?_
      refine V_iload_n C0 1 rfl rfl dX10_unitAt_21 ?_
      obtain ⟨a8, qa8, h⟩ := bnd_some h
      refine V_ra C0 (rf_lt qa5) (Or.inl (rf_kd qa5)) qa8 dX10_unitAt_22 ?_
      refine V_goto C0 (tgt := 30) (by decide) dX10_unitAt_23 ?_
      cases h
      exact V_aret C0 dX10_unitAt_30
theorem dX7_angle_0 : decode cX7_angle 0 = .ok (.iload_n 1, 1) := by decide +kernel
theorem dX7_angle_1 : decode cX7_angle 1 = .ok (.ifCond .lt 21, 3) := by decide +kernel
theorem dX7_angle_4 : decode cX7_angle 4 = .ok (.iload_n 1, 1) := by decide +kernel
theorem dX7_angle_5 : decode cX7_angle 5 = .ok (.aload_n 0, 1) := by decide +kernel
theorem dX7_angle_6 : decode cX7_angle 6 = .ok (.getfield 9, 3) := by decide +kernel
theorem dX7_angle_9 : decode cX7_angle 9 = .ok (.arraylength, 1) := by decide +kernel
theorem dX7_angle_10 : decode cX7_angle 10 = .ok (.if_icmp .ge 12, 3) := by decide +kernel
theorem dX7_angle_13 : decode cX7_angle 13 = .ok (.aload_n 0, 1) := by decide +kernel
theorem dX7_angle_14 : decode cX7_angle 14 = .ok (.getfield 9, 3) := by decide +kernel
theorem dX7_angle_17 : decode cX7_angle 17 = .ok (.iload_n 1, 1) := by decide +kernel
theorem dX7_angle_18 : decode cX7_angle 18 = .ok (.iaload, 1) := by decide +kernel
theorem dX7_angle_19 : decode cX7_angle 19 = .ok (.goto 4, 3) := by decide +kernel
theorem dX7_angle_22 : decode cX7_angle 22 = .ok (.iconst 0, 1) := by decide +kernel
theorem dX7_angle_23 : decode cX7_angle 23 = .ok (.ireturn, 1) := by decide +kernel
def F_X7_angle (x0 : Nat) (x1 : Int32) (I : MI) (L : ML) (R : MR) : Option (Int32) :=
  if kd x0 = 6 ∧ x0 < NN then
  if x1 < 0 then
    some ((0 : Int32))
  else
    (rf R x0 1 20).bind fun a2 =>
    if (Int32.ofNat (ln a2)) ≤ x1 then
      some ((0 : Int32))
    else
      (ri I a2 x1).bind fun v4 =>
      some (v4)
  else none
set_option maxRecDepth 100000 in
set_option maxHeartbeats 4000000 in
theorem c_X7_angle (l : Launch) (D : va_G) (cA : Nat → ClassId) (ad : Nat → Nat) (bs : Nat) (X : State → Prop) (hAd : Ax ad bs) (hX : Stb bs X) (x0 : Nat) (x1 : Int32) (I : MI) (L : ML) (R : MR) (r : Int32) (h : F_X7_angle x0 x1 I L R = some (r)) : Cn l D cA ad bs X yX7_angle cX7_angle 2 (some .int) 0 0 [.ref (ad x0), .int x1] I L R (some (.int r), I, L, R) := by
  refine Cn.ofV hAd hX [(0, .ref (ad x0)), (1, .int x1)] rfl (Nat.le_of_ble_eq_true rfl) (by decide) ?_
  intro G el eD ecA ead ebs eX erm eNL C0
  subst el eD ecA ead ebs eX
  unfold F_X7_angle at h
  obtain ⟨c_x0, h⟩ := ite_some h
  refine V_iload_n C0 1 rfl rfl dX7_angle_0 ?_
  refine V_if_lt C0 (tgt := 22) (by decide) dX7_angle_1 (fun c1 => ?_) (fun c1 => ?_)
  · have h := (if_pos c1).symm.trans h
    refine V_iconst C0 (v := (0 : Int32)) (by decide) dX7_angle_22 ?_
    cases h
    exact V_iret C0 dX7_angle_23
  · have h := (if_neg c1).symm.trans h
    refine V_iload_n C0 1 rfl rfl dX7_angle_4 ?_
    refine V_aload_n C0 0 rfl rfl dX7_angle_5 ?_
    obtain ⟨a2, qa2, h⟩ := bnd_some h
    refine V_getR C0 6 1 fl_X7_9 c_x0.2 c_x0.1 rfl (rf_at qa2) dX7_angle_6 ?_
    refine V_alen C0 (v := Int32.ofNat (ln a2)) (rf_lt qa2) (by rw [(rf_kd qa2)]; decide) rfl dX7_angle_9 ?_
    refine V_icmp_ge C0 (tgt := 22) (by decide) dX7_angle_10 (fun c3 => ?_) (fun c3 => ?_)
    · have h := (if_pos c3).symm.trans h
      refine V_iconst C0 (v := (0 : Int32)) (by decide) dX7_angle_22 ?_
      cases h
      exact V_iret C0 dX7_angle_23
    · have h := (if_neg c3).symm.trans h
      refine V_aload_n C0 0 rfl rfl dX7_angle_13 ?_
      refine V_getR C0 6 1 fl_X7_9 c_x0.2 c_x0.1 rfl (rf_at qa2) dX7_angle_14 ?_
      refine V_iload_n C0 1 rfl rfl dX7_angle_17 ?_
      obtain ⟨v4, qv4, h⟩ := bnd_some h
      refine V_ri C0 (rf_lt qa2) (rf_kd qa2) qv4 dX7_angle_18 ?_
      refine V_goto C0 (tgt := 23) (by decide) dX7_angle_19 ?_
      cases h
      exact V_iret C0 dX7_angle_23
theorem dX7_rate_0 : decode cX7_rate 0 = .ok (.iload_n 1, 1) := by decide +kernel
theorem dX7_rate_1 : decode cX7_rate 1 = .ok (.ifCond .lt 21, 3) := by decide +kernel
theorem dX7_rate_4 : decode cX7_rate 4 = .ok (.iload_n 1, 1) := by decide +kernel
theorem dX7_rate_5 : decode cX7_rate 5 = .ok (.aload_n 0, 1) := by decide +kernel
theorem dX7_rate_6 : decode cX7_rate 6 = .ok (.getfield 15, 3) := by decide +kernel
theorem dX7_rate_9 : decode cX7_rate 9 = .ok (.arraylength, 1) := by decide +kernel
theorem dX7_rate_10 : decode cX7_rate 10 = .ok (.if_icmp .ge 12, 3) := by decide +kernel
theorem dX7_rate_13 : decode cX7_rate 13 = .ok (.aload_n 0, 1) := by decide +kernel
theorem dX7_rate_14 : decode cX7_rate 14 = .ok (.getfield 15, 3) := by decide +kernel
theorem dX7_rate_17 : decode cX7_rate 17 = .ok (.iload_n 1, 1) := by decide +kernel
theorem dX7_rate_18 : decode cX7_rate 18 = .ok (.iaload, 1) := by decide +kernel
theorem dX7_rate_19 : decode cX7_rate 19 = .ok (.goto 4, 3) := by decide +kernel
theorem dX7_rate_22 : decode cX7_rate 22 = .ok (.iconst 0, 1) := by decide +kernel
theorem dX7_rate_23 : decode cX7_rate 23 = .ok (.ireturn, 1) := by decide +kernel
def F_X7_rate (x0 : Nat) (x1 : Int32) (I : MI) (L : ML) (R : MR) : Option (Int32) :=
  if kd x0 = 6 ∧ x0 < NN then
  if x1 < 0 then
    some ((0 : Int32))
  else
    (rf R x0 2 20).bind fun a2 =>
    if (Int32.ofNat (ln a2)) ≤ x1 then
      some ((0 : Int32))
    else
      (ri I a2 x1).bind fun v4 =>
      some (v4)
  else none
set_option maxRecDepth 100000 in
set_option maxHeartbeats 4000000 in
theorem c_X7_rate (l : Launch) (D : va_G) (cA : Nat → ClassId) (ad : Nat → Nat) (bs : Nat) (X : State → Prop) (hAd : Ax ad bs) (hX : Stb bs X) (x0 : Nat) (x1 : Int32) (I : MI) (L : ML) (R : MR) (r : Int32) (h : F_X7_rate x0 x1 I L R = some (r)) : Cn l D cA ad bs X yX7_rate cX7_rate 2 (some .int) 0 0 [.ref (ad x0), .int x1] I L R (some (.int r), I, L, R) := by
  refine Cn.ofV hAd hX [(0, .ref (ad x0)), (1, .int x1)] rfl (Nat.le_of_ble_eq_true rfl) (by decide) ?_
  intro G el eD ecA ead ebs eX erm eNL C0
  subst el eD ecA ead ebs eX
  unfold F_X7_rate at h
  obtain ⟨c_x0, h⟩ := ite_some h
  refine V_iload_n C0 1 rfl rfl dX7_rate_0 ?_
  refine V_if_lt C0 (tgt := 22) (by decide) dX7_rate_1 (fun c1 => ?_) (fun c1 => ?_)
  · have h := (if_pos c1).symm.trans h
    refine V_iconst C0 (v := (0 : Int32)) (by decide) dX7_rate_22 ?_
    cases h
    exact V_iret C0 dX7_rate_23
  · have h := (if_neg c1).symm.trans h
    refine V_iload_n C0 1 rfl rfl dX7_rate_4 ?_
    refine V_aload_n C0 0 rfl rfl dX7_rate_5 ?_
    obtain ⟨a2, qa2, h⟩ := bnd_some h
    refine V_getR C0 6 2 fl_X7_15 c_x0.2 c_x0.1 rfl (rf_at qa2) dX7_rate_6 ?_
    refine V_alen C0 (v := Int32.ofNat (ln a2)) (rf_lt qa2) (by rw [(rf_kd qa2)]; decide) rfl dX7_rate_9 ?_
    refine V_icmp_ge C0 (tgt := 22) (by decide) dX7_rate_10 (fun c3 => ?_) (fun c3 => ?_)
    · have h := (if_pos c3).symm.trans h
      refine V_iconst C0 (v := (0 : Int32)) (by decide) dX7_rate_22 ?_
      cases h
      exact V_iret C0 dX7_rate_23
    · have h := (if_neg c3).symm.trans h
      refine V_aload_n C0 0 rfl rfl dX7_rate_13 ?_
      refine V_getR C0 6 2 fl_X7_15 c_x0.2 c_x0.1 rfl (rf_at qa2) dX7_rate_14 ?_
      refine V_iload_n C0 1 rfl rfl dX7_rate_17 ?_
      obtain ⟨v4, qv4, h⟩ := bnd_some h
      refine V_ri C0 (rf_lt qa2) (rf_kd qa2) qv4 dX7_rate_18 ?_
      refine V_goto C0 (tgt := 23) (by decide) dX7_rate_19 ?_
      cases h
      exact V_iret C0 dX7_rate_23
theorem dX2_valueOf_0 : decode cX2_valueOf 0 = .ok (.aload_n 1, 1) := by decide +kernel
theorem dX2_valueOf_1 : decode cX2_valueOf 1 = .ok (.getfield 193, 3) := by decide +kernel
theorem dX2_valueOf_4 : decode cX2_valueOf 4 = .ok (.tableswitch 140 0 6 #[44, 62, 80, 98, 140, 116, 128], 44) := by decide +kernel
theorem dX2_valueOf_48 : decode cX2_valueOf 48 = .ok (.aload_n 0, 1) := by decide +kernel
theorem dX2_valueOf_49 : decode cX2_valueOf 49 = .ok (.getfield 15, 3) := by decide +kernel
theorem dX2_valueOf_52 : decode cX2_valueOf 52 = .ok (.aload_n 1, 1) := by decide +kernel
theorem dX2_valueOf_53 : decode cX2_valueOf 53 = .ok (.getfield 196, 3) := by decide +kernel
theorem dX2_valueOf_56 : decode cX2_valueOf 56 = .ok (.invokevirtual 199, 3) := by decide +kernel
theorem dX2_valueOf_59 : decode cX2_valueOf 59 = .ok (.getfield 205, 3) := by decide +kernel
theorem dX2_valueOf_62 : decode cX2_valueOf 62 = .ok (.bipush 10, 2) := by decide +kernel
theorem dX2_valueOf_64 : decode cX2_valueOf 64 = .ok (.iaload, 1) := by decide +kernel
theorem dX2_valueOf_65 : decode cX2_valueOf 65 = .ok (.ireturn, 1) := by decide +kernel
theorem dX2_valueOf_66 : decode cX2_valueOf 66 = .ok (.aload_n 0, 1) := by decide +kernel
theorem dX2_valueOf_67 : decode cX2_valueOf 67 = .ok (.getfield 15, 3) := by decide +kernel
theorem dX2_valueOf_70 : decode cX2_valueOf 70 = .ok (.aload_n 1, 1) := by decide +kernel
theorem dX2_valueOf_71 : decode cX2_valueOf 71 = .ok (.getfield 196, 3) := by decide +kernel
theorem dX2_valueOf_74 : decode cX2_valueOf 74 = .ok (.invokevirtual 199, 3) := by decide +kernel
theorem dX2_valueOf_77 : decode cX2_valueOf 77 = .ok (.getfield 205, 3) := by decide +kernel
theorem dX2_valueOf_80 : decode cX2_valueOf 80 = .ok (.bipush 62, 2) := by decide +kernel
theorem dX2_valueOf_82 : decode cX2_valueOf 82 = .ok (.iaload, 1) := by decide +kernel
theorem dX2_valueOf_83 : decode cX2_valueOf 83 = .ok (.ireturn, 1) := by decide +kernel
theorem dX2_valueOf_84 : decode cX2_valueOf 84 = .ok (.aload_n 0, 1) := by decide +kernel
theorem dX2_valueOf_85 : decode cX2_valueOf 85 = .ok (.getfield 15, 3) := by decide +kernel
theorem dX2_valueOf_88 : decode cX2_valueOf 88 = .ok (.aload_n 1, 1) := by decide +kernel
theorem dX2_valueOf_89 : decode cX2_valueOf 89 = .ok (.getfield 196, 3) := by decide +kernel
theorem dX2_valueOf_92 : decode cX2_valueOf 92 = .ok (.invokevirtual 199, 3) := by decide +kernel
theorem dX2_valueOf_95 : decode cX2_valueOf 95 = .ok (.getfield 205, 3) := by decide +kernel
theorem dX2_valueOf_98 : decode cX2_valueOf 98 = .ok (.bipush 44, 2) := by decide +kernel
theorem dX2_valueOf_100 : decode cX2_valueOf 100 = .ok (.iaload, 1) := by decide +kernel
theorem dX2_valueOf_101 : decode cX2_valueOf 101 = .ok (.ireturn, 1) := by decide +kernel
theorem dX2_valueOf_102 : decode cX2_valueOf 102 = .ok (.aload_n 0, 1) := by decide +kernel
theorem dX2_valueOf_103 : decode cX2_valueOf 103 = .ok (.getfield 15, 3) := by decide +kernel
theorem dX2_valueOf_106 : decode cX2_valueOf 106 = .ok (.aload_n 1, 1) := by decide +kernel
theorem dX2_valueOf_107 : decode cX2_valueOf 107 = .ok (.getfield 196, 3) := by decide +kernel
theorem dX2_valueOf_110 : decode cX2_valueOf 110 = .ok (.invokevirtual 199, 3) := by decide +kernel
theorem dX2_valueOf_113 : decode cX2_valueOf 113 = .ok (.getfield 205, 3) := by decide +kernel
theorem dX2_valueOf_116 : decode cX2_valueOf 116 = .ok (.bipush 32, 2) := by decide +kernel
theorem dX2_valueOf_118 : decode cX2_valueOf 118 = .ok (.iaload, 1) := by decide +kernel
theorem dX2_valueOf_119 : decode cX2_valueOf 119 = .ok (.ireturn, 1) := by decide +kernel
theorem dX2_valueOf_120 : decode cX2_valueOf 120 = .ok (.aload_n 0, 1) := by decide +kernel
theorem dX2_valueOf_121 : decode cX2_valueOf 121 = .ok (.getfield 24, 3) := by decide +kernel
theorem dX2_valueOf_124 : decode cX2_valueOf 124 = .ok (.aload_n 1, 1) := by decide +kernel
theorem dX2_valueOf_125 : decode cX2_valueOf 125 = .ok (.getfield 196, 3) := by decide +kernel
theorem dX2_valueOf_128 : decode cX2_valueOf 128 = .ok (.invokevirtual 123, 3) := by decide +kernel
theorem dX2_valueOf_131 : decode cX2_valueOf 131 = .ok (.ireturn, 1) := by decide +kernel
theorem dX2_valueOf_132 : decode cX2_valueOf 132 = .ok (.aload_n 0, 1) := by decide +kernel
theorem dX2_valueOf_133 : decode cX2_valueOf 133 = .ok (.getfield 24, 3) := by decide +kernel
theorem dX2_valueOf_136 : decode cX2_valueOf 136 = .ok (.aload_n 1, 1) := by decide +kernel
theorem dX2_valueOf_137 : decode cX2_valueOf 137 = .ok (.getfield 196, 3) := by decide +kernel
theorem dX2_valueOf_140 : decode cX2_valueOf 140 = .ok (.invokevirtual 210, 3) := by decide +kernel
theorem dX2_valueOf_143 : decode cX2_valueOf 143 = .ok (.ireturn, 1) := by decide +kernel
theorem dX2_valueOf_144 : decode cX2_valueOf 144 = .ok (.aload_n 0, 1) := by decide +kernel
theorem dX2_valueOf_145 : decode cX2_valueOf 145 = .ok (.getfield 64, 3) := by decide +kernel
theorem dX2_valueOf_148 : decode cX2_valueOf 148 = .ok (.ireturn, 1) := by decide +kernel
def F_X2_valueOf (x0 : Nat) (x1 : Nat) (I : MI) (L : ML) (R : MR) : Option (Int32) :=
  if kd x0 = 2 ∧ x0 < NN then
  if kd x1 = 3 ∧ x1 < NN then
  wr (I x1 2) fun (u1 : Int32) =>
  if u1 = (0 : Int32) then
    (rf R x0 0 9).bind fun a4 =>
    bn1 (F_X10_unitAt a4 (I x1 3) I L R) fun a5 =>
    if kd a5 = 8 ∧ a5 < NN then
    (rf R a5 0 20).bind fun a8 =>
    (ri I a8 (10 : Int32)).bind fun v9 =>
    some (v9)
    else none
  else
    if u1 = (1 : Int32) then
      (rf R x0 0 9).bind fun a11 =>
      bn1 (F_X10_unitAt a11 (I x1 3) I L R) fun a12 =>
      if kd a12 = 8 ∧ a12 < NN then
      (rf R a12 0 20).bind fun a15 =>
      (ri I a15 (62 : Int32)).bind fun v16 =>
      some (v16)
      else none
    else
      if u1 = (2 : Int32) then
        (rf R x0 0 9).bind fun a18 =>
        bn1 (F_X10_unitAt a18 (I x1 3) I L R) fun a19 =>
        if kd a19 = 8 ∧ a19 < NN then
        (rf R a19 0 20).bind fun a22 =>
        (ri I a22 (44 : Int32)).bind fun v23 =>
        some (v23)
        else none
      else
        if u1 = (3 : Int32) then
          (rf R x0 0 9).bind fun a25 =>
          bn1 (F_X10_unitAt a25 (I x1 3) I L R) fun a26 =>
          if kd a26 = 8 ∧ a26 < NN then
          (rf R a26 0 20).bind fun a29 =>
          (ri I a29 (32 : Int32)).bind fun v30 =>
          some (v30)
          else none
        else
          if u1 = (5 : Int32) then
            (rf R x0 1 6).bind fun a32 =>
            bn1 (F_X7_angle a32 (I x1 3) I L R) fun v33 =>
            some (v33)
          else
            if u1 = (6 : Int32) then
              (rf R x0 1 6).bind fun a36 =>
              bn1 (F_X7_rate a36 (I x1 3) I L R) fun v37 =>
              some (v37)
            else
              some ((I x0 8))
  else none
  else none
set_option maxRecDepth 100000 in
set_option maxHeartbeats 4000000 in
theorem c_X2_valueOf (l : Launch) (D : va_G) (cA : Nat → ClassId) (ad : Nat → Nat) (bs : Nat) (X : State → Prop) (hAd : Ax ad bs) (hX : Stb bs X) (x0 : Nat) (x1 : Nat) (I : MI) (L : ML) (R : MR) (r : Int32) (h : F_X2_valueOf x0 x1 I L R = some (r)) : Cn l D cA ad bs X yX2_valueOf cX2_valueOf 2 (some .int) 2 42 [.ref (ad x0), .ref (ad x1)] I L R (some (.int r), I, L, R) := by
  refine Cn.ofV hAd hX [(0, .ref (ad x0)), (1, .ref (ad x1))] rfl (Nat.le_of_ble_eq_true rfl) (by decide) ?_
  intro G el eD ecA ead ebs eX erm eNL C0
  subst el eD ecA ead ebs eX
  unfold F_X2_valueOf at h
  obtain ⟨c_x0, h⟩ := ite_some h
  obtain ⟨c_x1, h⟩ := ite_some h
  refine V_aload_n C0 1 rfl rfl dX2_valueOf_0 ?_
  refine V_getI C0 3 2 fl_X2_193 c_x1.2 c_x1.1 rfl dX2_valueOf_1 ?_
  obtain ⟨u1, eu1, h⟩ := wr_some h
  rw [← eu1]
  have nd2 := nd_0 u1
  by_cases c3 : u1 = (0 : Int32)
  · have h := (if_pos c3).symm.trans h
    refine V_tableC C0 (tgt := 48) (v := (0 : Int32)) c3 (by decide) (by decide) dX2_valueOf_4 ?_
    refine V_aload_n C0 0 rfl rfl dX2_valueOf_48 ?_
    obtain ⟨a4, qa4, h⟩ := bnd_some h
    refine V_getR C0 2 0 fl_X2_15 c_x0.2 c_x0.1 rfl (rf_at qa4) dX2_valueOf_49 ?_
    refine V_aload_n C0 1 rfl rfl dX2_valueOf_52 ?_
    refine V_getI C0 3 3 fl_X2_196 c_x1.2 c_x1.1 rfl dX2_valueOf_53 ?_
    obtain ⟨a5, q6, h⟩ := bn1_some h
    refine V_callV C0 (st := []) (As := [.int (I x1 3)]) 9 (c_X10_unitAt G.l G.D G.cA G.ad G.bs G.X C0.2.2.2.2.2.2.2.2.2.1 C0.2.2.2.2.2.2.2.2.2.2.2.2 a4 (I x1 3) I L R a5 q6) lc_X10_unitAt lk_X2_199 (rf_lt qa4) (rf_kd qa4) ⟨_, rfl, rfl⟩ rfl (by rw [erm]; decide) (Nat.le_of_ble_eq_true rfl) dX2_valueOf_56 ?_
    show V G _ 59 [(0, .ref (G.ad x0)), (1, .ref (G.ad x1))] [.ref (G.ad a5)] I L R
    obtain ⟨c7, h⟩ := ite_some h
    obtain ⟨a8, qa8, h⟩ := bnd_some h
    refine V_getR C0 8 0 fl_X2_205 c7.2 c7.1 rfl (rf_at qa8) dX2_valueOf_59 ?_
    refine V_bipush C0 (v := (10 : Int32)) (by decide) dX2_valueOf_62 ?_
    obtain ⟨v9, qv9, h⟩ := bnd_some h
    refine V_ri C0 (rf_lt qa8) (rf_kd qa8) qv9 dX2_valueOf_64 ?_
    cases h
    exact V_iret C0 dX2_valueOf_65
  · have h := (if_neg c3).symm.trans h
    have nd2 := nd_add nd2 c3
    by_cases c10 : u1 = (1 : Int32)
    · have h := (if_pos c10).symm.trans h
      refine V_tableC C0 (tgt := 66) (v := (1 : Int32)) c10 (by decide) (by decide) dX2_valueOf_4 ?_
      refine V_aload_n C0 0 rfl rfl dX2_valueOf_66 ?_
      obtain ⟨a11, qa11, h⟩ := bnd_some h
      refine V_getR C0 2 0 fl_X2_15 c_x0.2 c_x0.1 rfl (rf_at qa11) dX2_valueOf_67 ?_
      refine V_aload_n C0 1 rfl rfl dX2_valueOf_70 ?_
      refine V_getI C0 3 3 fl_X2_196 c_x1.2 c_x1.1 rfl dX2_valueOf_71 ?_
      obtain ⟨a12, q13, h⟩ := bn1_some h
      refine V_callV C0 (st := []) (As := [.int (I x1 3)]) 9 (c_X10_unitAt G.l G.D G.cA G.ad G.bs G.X C0.2.2.2.2.2.2.2.2.2.1 C0.2.2.2.2.2.2.2.2.2.2.2.2 a11 (I x1 3) I L R a12 q13) lc_X10_unitAt lk_X2_199 (rf_lt qa11) (rf_kd qa11) ⟨_, rfl, rfl⟩ rfl (by rw [erm]; decide) (Nat.le_of_ble_eq_true rfl) dX2_valueOf_74 ?_
      show V G _ 77 [(0, .ref (G.ad x0)), (1, .ref (G.ad x1))] [.ref (G.ad a12)] I L R
      obtain ⟨c14, h⟩ := ite_some h
      obtain ⟨a15, qa15, h⟩ := bnd_some h
      refine V_getR C0 8 0 fl_X2_205 c14.2 c14.1 rfl (rf_at qa15) dX2_valueOf_77 ?_
      refine V_bipush C0 (v := (62 : Int32)) (by decide) dX2_valueOf_80 ?_
      obtain ⟨v16, qv16, h⟩ := bnd_some h
      refine V_ri C0 (rf_lt qa15) (rf_kd qa15) qv16 dX2_valueOf_82 ?_
      cases h
      exact V_iret C0 dX2_valueOf_83
    · have h := (if_neg c10).symm.trans h
      have nd2 := nd_add nd2 c10
      by_cases c17 : u1 = (2 : Int32)
      · have h := (if_pos c17).symm.trans h
        refine V_tableC C0 (tgt := 84) (v := (2 : Int32)) c17 (by decide) (by decide) dX2_valueOf_4 ?_
        refine V_aload_n C0 0 rfl rfl dX2_valueOf_84 ?_
        obtain ⟨a18, qa18, h⟩ := bnd_some h
        refine V_getR C0 2 0 fl_X2_15 c_x0.2 c_x0.1 rfl (rf_at qa18) dX2_valueOf_85 ?_
        refine V_aload_n C0 1 rfl rfl dX2_valueOf_88 ?_
        refine V_getI C0 3 3 fl_X2_196 c_x1.2 c_x1.1 rfl dX2_valueOf_89 ?_
        obtain ⟨a19, q20, h⟩ := bn1_some h
        refine V_callV C0 (st := []) (As := [.int (I x1 3)]) 9 (c_X10_unitAt G.l G.D G.cA G.ad G.bs G.X C0.2.2.2.2.2.2.2.2.2.1 C0.2.2.2.2.2.2.2.2.2.2.2.2 a18 (I x1 3) I L R a19 q20) lc_X10_unitAt lk_X2_199 (rf_lt qa18) (rf_kd qa18) ⟨_, rfl, rfl⟩ rfl (by rw [erm]; decide) (Nat.le_of_ble_eq_true rfl) dX2_valueOf_92 ?_
        show V G _ 95 [(0, .ref (G.ad x0)), (1, .ref (G.ad x1))] [.ref (G.ad a19)] I L R
        obtain ⟨c21, h⟩ := ite_some h
        obtain ⟨a22, qa22, h⟩ := bnd_some h
        refine V_getR C0 8 0 fl_X2_205 c21.2 c21.1 rfl (rf_at qa22) dX2_valueOf_95 ?_
        refine V_bipush C0 (v := (44 : Int32)) (by decide) dX2_valueOf_98 ?_
        obtain ⟨v23, qv23, h⟩ := bnd_some h
        refine V_ri C0 (rf_lt qa22) (rf_kd qa22) qv23 dX2_valueOf_100 ?_
        cases h
        exact V_iret C0 dX2_valueOf_101
      · have h := (if_neg c17).symm.trans h
        have nd2 := nd_add nd2 c17
        by_cases c24 : u1 = (3 : Int32)
        · have h := (if_pos c24).symm.trans h
          refine V_tableC C0 (tgt := 102) (v := (3 : Int32)) c24 (by decide) (by decide) dX2_valueOf_4 ?_
          refine V_aload_n C0 0 rfl rfl dX2_valueOf_102 ?_
          obtain ⟨a25, qa25, h⟩ := bnd_some h
          refine V_getR C0 2 0 fl_X2_15 c_x0.2 c_x0.1 rfl (rf_at qa25) dX2_valueOf_103 ?_
          refine V_aload_n C0 1 rfl rfl dX2_valueOf_106 ?_
          refine V_getI C0 3 3 fl_X2_196 c_x1.2 c_x1.1 rfl dX2_valueOf_107 ?_
          obtain ⟨a26, q27, h⟩ := bn1_some h
          refine V_callV C0 (st := []) (As := [.int (I x1 3)]) 9 (c_X10_unitAt G.l G.D G.cA G.ad G.bs G.X C0.2.2.2.2.2.2.2.2.2.1 C0.2.2.2.2.2.2.2.2.2.2.2.2 a25 (I x1 3) I L R a26 q27) lc_X10_unitAt lk_X2_199 (rf_lt qa25) (rf_kd qa25) ⟨_, rfl, rfl⟩ rfl (by rw [erm]; decide) (Nat.le_of_ble_eq_true rfl) dX2_valueOf_110 ?_
          show V G _ 113 [(0, .ref (G.ad x0)), (1, .ref (G.ad x1))] [.ref (G.ad a26)] I L R
          obtain ⟨c28, h⟩ := ite_some h
          obtain ⟨a29, qa29, h⟩ := bnd_some h
          refine V_getR C0 8 0 fl_X2_205 c28.2 c28.1 rfl (rf_at qa29) dX2_valueOf_113 ?_
          refine V_bipush C0 (v := (32 : Int32)) (by decide) dX2_valueOf_116 ?_
          obtain ⟨v30, qv30, h⟩ := bnd_some h
          refine V_ri C0 (rf_lt qa29) (rf_kd qa29) qv30 dX2_valueOf_118 ?_
          cases h
          exact V_iret C0 dX2_valueOf_119
        · have h := (if_neg c24).symm.trans h
          have nd2 := nd_add nd2 c24
          by_cases c31 : u1 = (5 : Int32)
          · have h := (if_pos c31).symm.trans h
            refine V_tableC C0 (tgt := 120) (v := (5 : Int32)) c31 (by decide) (by decide) dX2_valueOf_4 ?_
            refine V_aload_n C0 0 rfl rfl dX2_valueOf_120 ?_
            obtain ⟨a32, qa32, h⟩ := bnd_some h
            refine V_getR C0 2 1 fl_X2_24 c_x0.2 c_x0.1 rfl (rf_at qa32) dX2_valueOf_121 ?_
            refine V_aload_n C0 1 rfl rfl dX2_valueOf_124 ?_
            refine V_getI C0 3 3 fl_X2_196 c_x1.2 c_x1.1 rfl dX2_valueOf_125 ?_
            obtain ⟨v33, q34, h⟩ := bn1_some h
            refine V_callV C0 (st := []) (As := [.int (I x1 3)]) 6 (c_X7_angle G.l G.D G.cA G.ad G.bs G.X C0.2.2.2.2.2.2.2.2.2.1 C0.2.2.2.2.2.2.2.2.2.2.2.2 a32 (I x1 3) I L R v33 q34) lc_X7_angle lk_X2_123 (rf_lt qa32) (rf_kd qa32) ⟨_, rfl, rfl⟩ rfl (by rw [erm]; decide) (Nat.le_of_ble_eq_true rfl) dX2_valueOf_128 ?_
            show V G _ 131 [(0, .ref (G.ad x0)), (1, .ref (G.ad x1))] [.int v33] I L R
            cases h
            exact V_iret C0 dX2_valueOf_131
          · have h := (if_neg c31).symm.trans h
            have nd2 := nd_add nd2 c31
            by_cases c35 : u1 = (6 : Int32)
            · have h := (if_pos c35).symm.trans h
              refine V_tableC C0 (tgt := 132) (v := (6 : Int32)) c35 (by decide) (by decide) dX2_valueOf_4 ?_
              refine V_aload_n C0 0 rfl rfl dX2_valueOf_132 ?_
              obtain ⟨a36, qa36, h⟩ := bnd_some h
              refine V_getR C0 2 1 fl_X2_24 c_x0.2 c_x0.1 rfl (rf_at qa36) dX2_valueOf_133 ?_
              refine V_aload_n C0 1 rfl rfl dX2_valueOf_136 ?_
              refine V_getI C0 3 3 fl_X2_196 c_x1.2 c_x1.1 rfl dX2_valueOf_137 ?_
              obtain ⟨v37, q38, h⟩ := bn1_some h
              refine V_callV C0 (st := []) (As := [.int (I x1 3)]) 6 (c_X7_rate G.l G.D G.cA G.ad G.bs G.X C0.2.2.2.2.2.2.2.2.2.1 C0.2.2.2.2.2.2.2.2.2.2.2.2 a36 (I x1 3) I L R v37 q38) lc_X7_rate lk_X2_210 (rf_lt qa36) (rf_kd qa36) ⟨_, rfl, rfl⟩ rfl (by rw [erm]; decide) (Nat.le_of_ble_eq_true rfl) dX2_valueOf_140 ?_
              show V G _ 143 [(0, .ref (G.ad x0)), (1, .ref (G.ad x1))] [.int v37] I L R
              cases h
              exact V_iret C0 dX2_valueOf_143
            · have h := (if_neg c35).symm.trans h
              have nd2 := nd_add nd2 c35
              refine V_tableN C0 (tgt := 144) nd2 (by decide) (by decide) dX2_valueOf_4 ?_
              refine V_aload_n C0 0 rfl rfl dX2_valueOf_144 ?_
              refine V_getI C0 2 8 fl_X2_64 c_x0.2 c_x0.1 rfl dX2_valueOf_145 ?_
              cases h
              exact V_iret C0 dX2_valueOf_148
theorem dX3_hasCome_0 : decode cX3_hasCome 0 = .ok (.aload_n 0, 1) := by decide +kernel
theorem dX3_hasCome_1 : decode cX3_hasCome 1 = .ok (.getfield 11, 3) := by decide +kernel
theorem dX3_hasCome_4 : decode cX3_hasCome 4 = .ok (.iconst 2, 1) := by decide +kernel
theorem dX3_hasCome_5 : decode cX3_hasCome 5 = .ok (.if_icmp .ne 19, 3) := by decide +kernel
theorem dX3_hasCome_8 : decode cX3_hasCome 8 = .ok (.iload_n 1, 1) := by decide +kernel
theorem dX3_hasCome_9 : decode cX3_hasCome 9 = .ok (.aload_n 0, 1) := by decide +kernel
theorem dX3_hasCome_10 : decode cX3_hasCome 10 = .ok (.getfield 15, 3) := by decide +kernel
theorem dX3_hasCome_13 : decode cX3_hasCome 13 = .ok (.if_icmp .ge 7, 3) := by decide +kernel
theorem dX3_hasCome_16 : decode cX3_hasCome 16 = .ok (.iconst 1, 1) := by decide +kernel
theorem dX3_hasCome_17 : decode cX3_hasCome 17 = .ok (.goto 20, 3) := by decide +kernel
theorem dX3_hasCome_20 : decode cX3_hasCome 20 = .ok (.iconst 0, 1) := by decide +kernel
theorem dX3_hasCome_21 : decode cX3_hasCome 21 = .ok (.goto 16, 3) := by decide +kernel
theorem dX3_hasCome_24 : decode cX3_hasCome 24 = .ok (.iload_n 1, 1) := by decide +kernel
theorem dX3_hasCome_25 : decode cX3_hasCome 25 = .ok (.aload_n 0, 1) := by decide +kernel
theorem dX3_hasCome_26 : decode cX3_hasCome 26 = .ok (.getfield 15, 3) := by decide +kernel
theorem dX3_hasCome_29 : decode cX3_hasCome 29 = .ok (.if_icmp .le 7, 3) := by decide +kernel
theorem dX3_hasCome_32 : decode cX3_hasCome 32 = .ok (.iconst 1, 1) := by decide +kernel
theorem dX3_hasCome_33 : decode cX3_hasCome 33 = .ok (.goto 4, 3) := by decide +kernel
theorem dX3_hasCome_36 : decode cX3_hasCome 36 = .ok (.iconst 0, 1) := by decide +kernel
theorem dX3_hasCome_37 : decode cX3_hasCome 37 = .ok (.istore_n 2, 1) := by decide +kernel
theorem dX3_hasCome_38 : decode cX3_hasCome 38 = .ok (.iload_n 2, 1) := by decide +kernel
theorem dX3_hasCome_39 : decode cX3_hasCome 39 = .ok (.ifCond .eq 14, 3) := by decide +kernel
theorem dX3_hasCome_42 : decode cX3_hasCome 42 = .ok (.aload_n 0, 1) := by decide +kernel
theorem dX3_hasCome_43 : decode cX3_hasCome 43 = .ok (.getfield 43, 3) := by decide +kernel
theorem dX3_hasCome_46 : decode cX3_hasCome 46 = .ok (.ifCond .ne 7, 3) := by decide +kernel
theorem dX3_hasCome_49 : decode cX3_hasCome 49 = .ok (.iconst 1, 1) := by decide +kernel
theorem dX3_hasCome_50 : decode cX3_hasCome 50 = .ok (.goto 4, 3) := by decide +kernel
theorem dX3_hasCome_53 : decode cX3_hasCome 53 = .ok (.iconst 0, 1) := by decide +kernel
theorem dX3_hasCome_54 : decode cX3_hasCome 54 = .ok (.istore_n 3, 1) := by decide +kernel
theorem dX3_hasCome_55 : decode cX3_hasCome 55 = .ok (.aload_n 0, 1) := by decide +kernel
theorem dX3_hasCome_56 : decode cX3_hasCome 56 = .ok (.iload_n 2, 1) := by decide +kernel
theorem dX3_hasCome_57 : decode cX3_hasCome 57 = .ok (.putfield 43, 3) := by decide +kernel
theorem dX3_hasCome_60 : decode cX3_hasCome 60 = .ok (.iload_n 3, 1) := by decide +kernel
theorem dX3_hasCome_61 : decode cX3_hasCome 61 = .ok (.ireturn, 1) := by decide +kernel
def F_X3_hasCome (x0 : Nat) (x1 : Int32) (I : MI) (L : ML) (R : MR) : Option (Bool × MI) :=
  if kd x0 = 3 ∧ x0 < NN then
  bn1 (
    if (I x0 0) = (2 : Int32) then
      bn1 (
        if (I x0 1) ≤ x1 then
          some ((0 : Int32))
        else
          some ((1 : Int32))
      ) fun (s9 : Int32) =>
      some (s9)
    else
      bn1 (
        if x1 ≤ (I x0 1) then
          some ((0 : Int32))
        else
          some ((1 : Int32))
      ) fun (s5 : Int32) =>
      some (s5)
  ) fun (s1 : Int32) =>
  bn1 (
    if s1 = 0 then
      some ((0 : Int32))
    else
      bn1 (
        if (I x0 10) = 0 then
          some ((1 : Int32))
        else
          some ((0 : Int32))
      ) fun (s17 : Int32) =>
      some (s17)
  ) fun (s13 : Int32) =>
  (z01 s1).bind fun _ =>
  wr (uI I x0 10 s1) fun (I22 : MI) =>
  (z01 s13).bind fun q23 =>
  some (q23, I22)
  else none
set_option maxRecDepth 100000 in
set_option maxHeartbeats 4000000 in
theorem c_X3_hasCome (l : Launch) (D : va_G) (cA : Nat → ClassId) (ad : Nat → Nat) (bs : Nat) (X : State → Prop) (hAd : Ax ad bs) (hX : Stb bs X) (x0 : Nat) (x1 : Int32) (I : MI) (L : ML) (R : MR) (r : Bool) (I' : MI) (h : F_X3_hasCome x0 x1 I L R = some (r, I')) : Cn l D cA ad bs X yX3_hasCome cX3_hasCome 4 (some .boolean) 0 0 [.ref (ad x0), .int x1] I L R (some (.int (b2i r)), I', L, R) := by
  refine Cn.ofV hAd hX [(0, .ref (ad x0)), (1, .int x1)] rfl (Nat.le_of_ble_eq_true rfl) (by decide) ?_
  intro G el eD ecA ead ebs eX erm eNL C0
  subst el eD ecA ead ebs eX
  unfold F_X3_hasCome at h
  obtain ⟨c_x0, h⟩ := ite_some h
  refine V_aload_n C0 0 rfl rfl dX3_hasCome_0 ?_
  refine V_getI C0 3 0 fl_X3_11 c_x0.2 c_x0.1 rfl dX3_hasCome_1 ?_
  refine V_iconst C0 (v := (2 : Int32)) (by decide) dX3_hasCome_4 ?_
  obtain ⟨s1, q2, h⟩ := bn1_some h
  have k3 : V G (qf G (some (.int (b2i r)), I', L, R)) 37 [(0, .ref (G.ad x0))] [.int s1] I L R := by
    refine V_istore_n C0 [(2, .int s1), (0, .ref (G.ad x0))] rfl (by rw [eNL]; decide) rfl dX3_hasCome_37 ?_
    refine V_iload_n C0 0 rfl rfl dX3_hasCome_38 ?_
    obtain ⟨s13, q14, h⟩ := bn1_some h
    have k15 : V G (qf G (some (.int (b2i r)), I', L, R)) 54 [(0, .ref (G.ad x0)), (2, .int s1)] [.int s13] I L R := by
      refine V_istore_n C0 [(3, .int s13), (0, .ref (G.ad x0)), (2, .int s1)] rfl (by rw [eNL]; decide) rfl dX3_hasCome_54 ?_
      refine V_aload_n C0 1 rfl rfl dX3_hasCome_55 ?_
      refine V_iload_n C0 2 rfl rfl dX3_hasCome_56 ?_
      obtain ⟨_, c21, h⟩ := bnd_some h
      obtain ⟨I22, eI22, h⟩ := wr_some h
      refine V_putZ C0 3 10 fp_X3_43 c_x0.2 c_x0.1 rfl (z01_or c21) dX3_hasCome_57 ?_
      rw [← eI22]
      refine V_iload_n C0 0 rfl rfl dX3_hasCome_60 ?_
      obtain ⟨q23, qq23, h⟩ := bnd_some h
      rw [z01_b qq23]
      cases h
      exact V_zret C0 (b2i01 _) dX3_hasCome_61
    refine V_if_eq C0 (tgt := 53) (by decide) dX3_hasCome_39 (fun c16 => ?_) (fun c16 => ?_)
    · have q14 := (if_pos c16).symm.trans q14
      refine V_iconst C0 (v := (0 : Int32)) (by decide) dX3_hasCome_53 ?_
      cases q14
      exact V_sub [1, 0] rfl k15
    · have q14 := (if_neg c16).symm.trans q14
      refine V_aload_n C0 1 rfl rfl dX3_hasCome_42 ?_
      refine V_getI C0 3 10 fl_X3_43 c_x0.2 c_x0.1 rfl dX3_hasCome_43 ?_
      obtain ⟨s17, q18, q14⟩ := bn1_some q14
      have k19 : V G (qf G (some (.int (b2i r)), I', L, R)) 54 [(0, .ref (G.ad x0)), (2, .int s1)] [.int s17] I L R := by
        cases q14
        exact V_sub [0, 1] rfl k15
      refine V_if_ne C0 (tgt := 53) (by decide) dX3_hasCome_46 (fun c20 => ?_) (fun c20 => ?_)
      · have q18 := (if_neg c20).symm.trans q18
        refine V_iconst C0 (v := (0 : Int32)) (by decide) dX3_hasCome_53 ?_
        cases q18
        exact V_sub [1, 0] rfl k19
      · have q18 := (if_pos c20).symm.trans q18
        refine V_iconst C0 (v := (1 : Int32)) (by decide) dX3_hasCome_49 ?_
        refine V_goto C0 (tgt := 54) (by decide) dX3_hasCome_50 ?_
        cases q18
        exact V_sub [1, 0] rfl k19
  refine V_icmp_ne C0 (tgt := 24) (by decide) dX3_hasCome_5 (fun c4 => ?_) (fun c4 => ?_)
  · have q2 := (if_neg c4).symm.trans q2
    refine V_iload_n C0 1 rfl rfl dX3_hasCome_24 ?_
    refine V_aload_n C0 0 rfl rfl dX3_hasCome_25 ?_
    refine V_getI C0 3 1 fl_X3_15 c_x0.2 c_x0.1 rfl dX3_hasCome_26 ?_
    obtain ⟨s5, q6, q2⟩ := bn1_some q2
    have k7 : V G (qf G (some (.int (b2i r)), I', L, R)) 37 [(0, .ref (G.ad x0))] [.int s5] I L R := by
      cases q2
      exact V_sub [0] rfl k3
    refine V_icmp_le C0 (tgt := 36) (by decide) dX3_hasCome_29 (fun c8 => ?_) (fun c8 => ?_)
    · have q6 := (if_pos c8).symm.trans q6
      refine V_iconst C0 (v := (0 : Int32)) (by decide) dX3_hasCome_36 ?_
      cases q6
      exact V_sub [0] rfl k7
    · have q6 := (if_neg c8).symm.trans q6
      refine V_iconst C0 (v := (1 : Int32)) (by decide) dX3_hasCome_32 ?_
      refine V_goto C0 (tgt := 37) (by decide) dX3_hasCome_33 ?_
      cases q6
      exact V_sub [0] rfl k7
  · have q2 := (if_pos c4).symm.trans q2
    refine V_iload_n C0 1 rfl rfl dX3_hasCome_8 ?_
    refine V_aload_n C0 0 rfl rfl dX3_hasCome_9 ?_
    refine V_getI C0 3 1 fl_X3_15 c_x0.2 c_x0.1 rfl dX3_hasCome_10 ?_
    obtain ⟨s9, q10, q2⟩ := bn1_some q2
    have k11 : V G (qf G (some (.int (b2i r)), I', L, R)) 37 [(0, .ref (G.ad x0))] [.int s9] I L R := by
      cases q2
      exact V_sub [0] rfl k3
    refine V_icmp_ge C0 (tgt := 20) (by decide) dX3_hasCome_13 (fun c12 => ?_) (fun c12 => ?_)
    · have q10 := (if_pos c12).symm.trans q10
      refine V_iconst C0 (v := (0 : Int32)) (by decide) dX3_hasCome_20 ?_
      refine V_goto C0 (tgt := 37) (by decide) dX3_hasCome_21 ?_
      cases q10
      exact V_sub [0] rfl k11
    · have q10 := (if_neg c12).symm.trans q10
      refine V_iconst C0 (v := (1 : Int32)) (by decide) dX3_hasCome_16 ?_
      refine V_goto C0 (tgt := 37) (by decide) dX3_hasCome_17 ?_
      cases q10
      exact V_sub [0] rfl k11
theorem dX11_isMultiple_0 : decode cX11_isMultiple 0 = .ok (.iload_n 1, 1) := by decide +kernel
theorem dX11_isMultiple_1 : decode cX11_isMultiple 1 = .ok (.ifCond .le 15, 3) := by decide +kernel
theorem dX11_isMultiple_4 : decode cX11_isMultiple 4 = .ok (.iload_n 0, 1) := by decide +kernel
theorem dX11_isMultiple_5 : decode cX11_isMultiple 5 = .ok (.iload_n 1, 1) := by decide +kernel
theorem dX11_isMultiple_6 : decode cX11_isMultiple 6 = .ok (.invokestatic 246, 3) := by decide +kernel
theorem dX11_isMultiple_9 : decode cX11_isMultiple 9 = .ok (.ifCond .ne 7, 3) := by decide +kernel
theorem dX11_isMultiple_12 : decode cX11_isMultiple 12 = .ok (.iconst 1, 1) := by decide +kernel
theorem dX11_isMultiple_13 : decode cX11_isMultiple 13 = .ok (.goto 4, 3) := by decide +kernel
theorem dX11_isMultiple_16 : decode cX11_isMultiple 16 = .ok (.iconst 0, 1) := by decide +kernel
theorem dX11_isMultiple_17 : decode cX11_isMultiple 17 = .ok (.ireturn, 1) := by decide +kernel
def F_X11_isMultiple (x0 : Int32) (x1 : Int32) (I : MI) (L : ML) (R : MR) : Option (Bool) :=
  if x1 ≤ 0 then
    some (false)
  else
    bn1 (F_J9_floorMod_7cf53 x0 x1 I L R) fun v2 =>
    if v2 = 0 then
      some (true)
    else
      some (false)
set_option maxRecDepth 100000 in
set_option maxHeartbeats 4000000 in
theorem c_X11_isMultiple (l : Launch) (D : va_G) (cA : Nat → ClassId) (ad : Nat → Nat) (bs : Nat) (X : State → Prop) (hAd : Ax ad bs) (hX : Stb bs X) (x0 : Int32) (x1 : Int32) (I : MI) (L : ML) (R : MR) (r : Bool) (h : F_X11_isMultiple x0 x1 I L R = some (r)) : Cn l D cA ad bs X yX11_isMultiple cX11_isMultiple 2 (some .boolean) 1 22 [.int x0, .int x1] I L R (some (.int (b2i r)), I, L, R) := by
  refine Cn.ofV hAd hX [(0, .int x0), (1, .int x1)] rfl (Nat.le_of_ble_eq_true rfl) (by decide) ?_
  intro G el eD ecA ead ebs eX erm eNL C0
  subst el eD ecA ead ebs eX
  unfold F_X11_isMultiple at h
  refine V_iload_n C0 1 rfl rfl dX11_isMultiple_0 ?_
  refine V_if_le C0 (tgt := 16) (by decide) dX11_isMultiple_1 (fun c1 => ?_) (fun c1 => ?_)
  · have h := (if_pos c1).symm.trans h
    refine V_iconst C0 (v := (0 : Int32)) (by decide) dX11_isMultiple_16 ?_
    cases h
    exact V_zret C0 (by decide) dX11_isMultiple_17
  · have h := (if_neg c1).symm.trans h
    refine V_iload_n C0 0 rfl rfl dX11_isMultiple_4 ?_
    refine V_iload_n C0 1 rfl rfl dX11_isMultiple_5 ?_
    obtain ⟨v2, q3, h⟩ := bn1_some h
    refine V_callS C0 (st := []) (As := [.int x0, .int x1]) (c_J9_floorMod_7cf53 G.l G.D G.cA G.ad G.bs G.X C0.2.2.2.2.2.2.2.2.2.1 C0.2.2.2.2.2.2.2.2.2.2.2.2 x0 x1 I L R v2 q3) lc_J9_floorMod_7cf53 lk_X11_246 rfl (by rw [erm]; decide) (Nat.le_of_ble_eq_true rfl) dX11_isMultiple_6 ?_
    show V G _ 9 [(0, .int x0), (1, .int x1)] [.int v2] I L R
    refine V_if_ne C0 (tgt := 16) (by decide) dX11_isMultiple_9 (fun c4 => ?_) (fun c4 => ?_)
    · have h := (if_neg c4).symm.trans h
      refine V_iconst C0 (v := (0 : Int32)) (by decide) dX11_isMultiple_16 ?_
      cases h
      exact V_zret C0 (by decide) dX11_isMultiple_17
    · have h := (if_pos c4).symm.trans h
      refine V_iconst C0 (v := (1 : Int32)) (by decide) dX11_isMultiple_12 ?_
      refine V_goto C0 (tgt := 17) (by decide) dX11_isMultiple_13 ?_
      cases h
      exact V_zret C0 (by decide) dX11_isMultiple_17
theorem dX3_isDueAt_0 : decode cX3_isDueAt 0 = .ok (.aload_n 0, 1) := by decide +kernel
theorem dX3_isDueAt_1 : decode cX3_isDueAt 1 = .ok (.getfield 11, 3) := by decide +kernel
theorem dX3_isDueAt_4 : decode cX3_isDueAt 4 = .ok (.ifCond .ne 19, 3) := by decide +kernel
theorem dX3_isDueAt_7 : decode cX3_isDueAt 7 = .ok (.iload_n 1, 1) := by decide +kernel
theorem dX3_isDueAt_8 : decode cX3_isDueAt 8 = .ok (.aload_n 0, 1) := by decide +kernel
theorem dX3_isDueAt_9 : decode cX3_isDueAt 9 = .ok (.getfield 15, 3) := by decide +kernel
theorem dX3_isDueAt_12 : decode cX3_isDueAt 12 = .ok (.if_icmp .ne 7, 3) := by decide +kernel
theorem dX3_isDueAt_15 : decode cX3_isDueAt 15 = .ok (.iconst 1, 1) := by decide +kernel
theorem dX3_isDueAt_16 : decode cX3_isDueAt 16 = .ok (.goto 27, 3) := by decide +kernel
theorem dX3_isDueAt_19 : decode cX3_isDueAt 19 = .ok (.iconst 0, 1) := by decide +kernel
theorem dX3_isDueAt_20 : decode cX3_isDueAt 20 = .ok (.goto 23, 3) := by decide +kernel
theorem dX3_isDueAt_23 : decode cX3_isDueAt 23 = .ok (.iload_n 1, 1) := by decide +kernel
theorem dX3_isDueAt_24 : decode cX3_isDueAt 24 = .ok (.ifCond .le 18, 3) := by decide +kernel
theorem dX3_isDueAt_27 : decode cX3_isDueAt 27 = .ok (.iload_n 1, 1) := by decide +kernel
theorem dX3_isDueAt_28 : decode cX3_isDueAt 28 = .ok (.aload_n 0, 1) := by decide +kernel
theorem dX3_isDueAt_29 : decode cX3_isDueAt 29 = .ok (.getfield 15, 3) := by decide +kernel
theorem dX3_isDueAt_32 : decode cX3_isDueAt 32 = .ok (.invokestatic 46, 3) := by decide +kernel
theorem dX3_isDueAt_35 : decode cX3_isDueAt 35 = .ok (.ifCond .eq 7, 3) := by decide +kernel
theorem dX3_isDueAt_38 : decode cX3_isDueAt 38 = .ok (.iconst 1, 1) := by decide +kernel
theorem dX3_isDueAt_39 : decode cX3_isDueAt 39 = .ok (.goto 4, 3) := by decide +kernel
theorem dX3_isDueAt_42 : decode cX3_isDueAt 42 = .ok (.iconst 0, 1) := by decide +kernel
theorem dX3_isDueAt_43 : decode cX3_isDueAt 43 = .ok (.ireturn, 1) := by decide +kernel
def F_X3_isDueAt (x0 : Nat) (x1 : Int32) (I : MI) (L : ML) (R : MR) : Option (Bool) :=
  if kd x0 = 3 ∧ x0 < NN then
  if (I x0 0) = 0 then
    if x1 = (I x0 1) then
      some (true)
    else
      some (false)
  else
    if x1 ≤ 0 then
      some (false)
    else
      bn1 (F_X11_isMultiple x1 (I x0 1) I L R) fun b3 =>
      if (b2i b3) = 0 then
        some (false)
      else
        some (true)
  else none
set_option maxRecDepth 100000 in
set_option maxHeartbeats 4000000 in
theorem c_X3_isDueAt (l : Launch) (D : va_G) (cA : Nat → ClassId) (ad : Nat → Nat) (bs : Nat) (X : State → Prop) (hAd : Ax ad bs) (hX : Stb bs X) (x0 : Nat) (x1 : Int32) (I : MI) (L : ML) (R : MR) (r : Bool) (h : F_X3_isDueAt x0 x1 I L R = some (r)) : Cn l D cA ad bs X yX3_isDueAt cX3_isDueAt 2 (some .boolean) 2 43 [.ref (ad x0), .int x1] I L R (some (.int (b2i r)), I, L, R) := by
  refine Cn.ofV hAd hX [(0, .ref (ad x0)), (1, .int x1)] rfl (Nat.le_of_ble_eq_true rfl) (by decide) ?_
  intro G el eD ecA ead ebs eX erm eNL C0
  subst el eD ecA ead ebs eX
  unfold F_X3_isDueAt at h
  obtain ⟨c_x0, h⟩ := ite_some h
  refine V_aload_n C0 0 rfl rfl dX3_isDueAt_0 ?_
  refine V_getI C0 3 0 fl_X3_11 c_x0.2 c_x0.1 rfl dX3_isDueAt_1 ?_
  refine V_if_ne C0 (tgt := 23) (by decide) dX3_isDueAt_4 (fun c1 => ?_) (fun c1 => ?_)
  · have h := (if_neg c1).symm.trans h
    refine V_iload_n C0 1 rfl rfl dX3_isDueAt_23 ?_
    refine V_if_le C0 (tgt := 42) (by decide) dX3_isDueAt_24 (fun c2 => ?_) (fun c2 => ?_)
    · have h := (if_pos c2).symm.trans h
      refine V_iconst C0 (v := (0 : Int32)) (by decide) dX3_isDueAt_42 ?_
      cases h
      exact V_zret C0 (by decide) dX3_isDueAt_43
    · have h := (if_neg c2).symm.trans h
      refine V_iload_n C0 1 rfl rfl dX3_isDueAt_27 ?_
      refine V_aload_n C0 0 rfl rfl dX3_isDueAt_28 ?_
      refine V_getI C0 3 1 fl_X3_15 c_x0.2 c_x0.1 rfl dX3_isDueAt_29 ?_
      obtain ⟨b3, q4, h⟩ := bn1_some h
      refine V_callS C0 (st := []) (As := [.int x1, .int (I x0 1)]) (c_X11_isMultiple G.l G.D G.cA G.ad G.bs G.X C0.2.2.2.2.2.2.2.2.2.1 C0.2.2.2.2.2.2.2.2.2.2.2.2 x1 (I x0 1) I L R b3 q4) lc_X11_isMultiple lk_X3_46 rfl (by rw [erm]; decide) (Nat.le_of_ble_eq_true rfl) dX3_isDueAt_32 ?_
      show V G _ 35 [(0, .ref (G.ad x0)), (1, .int x1)] [.int (b2i b3)] I L R
      refine V_if_eq C0 (tgt := 42) (by decide) dX3_isDueAt_35 (fun c5 => ?_) (fun c5 => ?_)
      · have h := (if_pos c5).symm.trans h
        refine V_iconst C0 (v := (0 : Int32)) (by decide) dX3_isDueAt_42 ?_
        cases h
        exact V_zret C0 (by decide) dX3_isDueAt_43
      · have h := (if_neg c5).symm.trans h
        refine V_iconst C0 (v := (1 : Int32)) (by decide) dX3_isDueAt_38 ?_
        refine V_goto C0 (tgt := 43) (by decide) dX3_isDueAt_39 ?_
        cases h
        exact V_zret C0 (by decide) dX3_isDueAt_43
  · have h := (if_pos c1).symm.trans h
    refine V_iload_n C0 1 rfl rfl dX3_isDueAt_7 ?_
    refine V_aload_n C0 0 rfl rfl dX3_isDueAt_8 ?_
    refine V_getI C0 3 1 fl_X3_15 c_x0.2 c_x0.1 rfl dX3_isDueAt_9 ?_
    refine V_icmp_ne C0 (tgt := 19) (by decide) dX3_isDueAt_12 (fun c6 => ?_) (fun c6 => ?_)
    · have h := (if_neg c6).symm.trans h
      refine V_iconst C0 (v := (0 : Int32)) (by decide) dX3_isDueAt_19 ?_
      refine V_goto C0 (tgt := 43) (by decide) dX3_isDueAt_20 ?_
      cases h
      exact V_zret C0 (by decide) dX3_isDueAt_43
    · have h := (if_pos c6).symm.trans h
      refine V_iconst C0 (v := (1 : Int32)) (by decide) dX3_isDueAt_15 ?_
      refine V_goto C0 (tgt := 43) (by decide) dX3_isDueAt_16 ?_
      cases h
      exact V_zret C0 (by decide) dX3_isDueAt_43
theorem dX2_isDue_0 : decode cX2_isDue 0 = .ok (.aload_n 1, 1) := by decide +kernel
theorem dX2_isDue_1 : decode cX2_isDue 1 = .ok (.invokevirtual 178, 3) := by decide +kernel
theorem dX2_isDue_4 : decode cX2_isDue 4 = .ok (.ifCond .eq 15, 3) := by decide +kernel
theorem dX2_isDue_7 : decode cX2_isDue 7 = .ok (.aload_n 1, 1) := by decide +kernel
theorem dX2_isDue_8 : decode cX2_isDue 8 = .ok (.aload_n 0, 1) := by decide +kernel
theorem dX2_isDue_9 : decode cX2_isDue 9 = .ok (.aload_n 1, 1) := by decide +kernel
theorem dX2_isDue_10 : decode cX2_isDue 10 = .ok (.invokevirtual 182, 3) := by decide +kernel
theorem dX2_isDue_13 : decode cX2_isDue 13 = .ok (.invokevirtual 186, 3) := by decide +kernel
theorem dX2_isDue_16 : decode cX2_isDue 16 = .ok (.goto 8, 3) := by decide +kernel
theorem dX2_isDue_19 : decode cX2_isDue 19 = .ok (.aload_n 1, 1) := by decide +kernel
theorem dX2_isDue_20 : decode cX2_isDue 20 = .ok (.iload_n 2, 1) := by decide +kernel
theorem dX2_isDue_21 : decode cX2_isDue 21 = .ok (.invokevirtual 190, 3) := by decide +kernel
theorem dX2_isDue_24 : decode cX2_isDue 24 = .ok (.ireturn, 1) := by decide +kernel
def F_X2_isDue (x0 : Nat) (x1 : Nat) (x2 : Int32) (I : MI) (L : ML) (R : MR) : Option (Bool × MI) :=
  if kd x0 = 2 ∧ x0 < NN then
  if kd x1 = 3 ∧ x1 < NN then
  bn1 (F_X3_isWatch x1 I L R) fun b1 =>
  if (b2i b1) = 0 then
    bn1 (F_X3_isDueAt x1 x2 I L R) fun b4 =>
    some (b4, I)
  else
    bn1 (F_X2_valueOf x0 x1 I L R) fun v6 =>
    bn2 (F_X3_hasCome x1 v6 I L R) fun b8 I9 =>
    some (b8, I9)
  else none
  else none
set_option maxRecDepth 100000 in
set_option maxHeartbeats 4000000 in
theorem c_X2_isDue (l : Launch) (D : va_G) (cA : Nat → ClassId) (ad : Nat → Nat) (bs : Nat) (X : State → Prop) (hAd : Ax ad bs) (hX : Stb bs X) (x0 : Nat) (x1 : Nat) (x2 : Int32) (I : MI) (L : ML) (R : MR) (r : Bool) (I' : MI) (h : F_X2_isDue x0 x1 x2 I L R = some (r, I')) : Cn l D cA ad bs X yX2_isDue cX2_isDue 3 (some .boolean) 3 64 [.ref (ad x0), .ref (ad x1), .int x2] I L R (some (.int (b2i r)), I', L, R) := by
  refine Cn.ofV hAd hX [(0, .ref (ad x0)), (1, .ref (ad x1)), (2, .int x2)] rfl (Nat.le_of_ble_eq_true rfl) (by decide) ?_
  intro G el eD ecA ead ebs eX erm eNL C0
  subst el eD ecA ead ebs eX
  unfold F_X2_isDue at h
  obtain ⟨c_x0, h⟩ := ite_some h
  obtain ⟨c_x1, h⟩ := ite_some h
  refine V_aload_n C0 1 rfl rfl dX2_isDue_0 ?_
  obtain ⟨b1, q2, h⟩ := bn1_some h
  refine V_callV C0 (st := []) (As := []) 3 (c_X3_isWatch G.l G.D G.cA G.ad G.bs G.X C0.2.2.2.2.2.2.2.2.2.1 C0.2.2.2.2.2.2.2.2.2.2.2.2 x1 I L R b1 q2) lc_X3_isWatch lk_X2_178 c_x1.2 c_x1.1 ⟨_, rfl, rfl⟩ rfl (by rw [erm]; decide) (Nat.le_of_ble_eq_true rfl) dX2_isDue_1 ?_
  show V G _ 4 [(0, .ref (G.ad x0)), (1, .ref (G.ad x1)), (2, .int x2)] [.int (b2i b1)] I L R
  refine V_if_eq C0 (tgt := 19) (by decide) dX2_isDue_4 (fun c3 => ?_) (fun c3 => ?_)
  · have h := (if_pos c3).symm.trans h
    refine V_aload_n C0 1 rfl rfl dX2_isDue_19 ?_
    refine V_iload_n C0 2 rfl rfl dX2_isDue_20 ?_
    obtain ⟨b4, q5, h⟩ := bn1_some h
    refine V_callV C0 (st := []) (As := [.int x2]) 3 (c_X3_isDueAt G.l G.D G.cA G.ad G.bs G.X C0.2.2.2.2.2.2.2.2.2.1 C0.2.2.2.2.2.2.2.2.2.2.2.2 x1 x2 I L R b4 q5) lc_X3_isDueAt lk_X2_190 c_x1.2 c_x1.1 ⟨_, rfl, rfl⟩ rfl (by rw [erm]; decide) (Nat.le_of_ble_eq_true rfl) dX2_isDue_21 ?_
    show V G _ 24 [(0, .ref (G.ad x0)), (1, .ref (G.ad x1)), (2, .int x2)] [.int (b2i b4)] I L R
    cases h
    exact V_zret C0 (b2i01 _) dX2_isDue_24
  · have h := (if_neg c3).symm.trans h
    refine V_aload_n C0 1 rfl rfl dX2_isDue_7 ?_
    refine V_aload_n C0 0 rfl rfl dX2_isDue_8 ?_
    refine V_aload_n C0 1 rfl rfl dX2_isDue_9 ?_
    obtain ⟨v6, q7, h⟩ := bn1_some h
    refine V_callV C0 (st := [.ref (G.ad x1)]) (As := [.ref (G.ad x1)]) 2 (c_X2_valueOf G.l G.D G.cA G.ad G.bs G.X C0.2.2.2.2.2.2.2.2.2.1 C0.2.2.2.2.2.2.2.2.2.2.2.2 x0 x1 I L R v6 q7) lc_X2_valueOf lk_X2_182 c_x0.2 c_x0.1 ⟨_, rfl, rfl⟩ rfl (by rw [erm]; decide) (Nat.le_of_ble_eq_true rfl) dX2_isDue_10 ?_
    show V G _ 13 [(0, .ref (G.ad x0)), (1, .ref (G.ad x1)), (2, .int x2)] [.int v6, .ref (G.ad x1)] I L R
    obtain ⟨b8, I9, q10, h⟩ := bn2_some h
    refine V_callV C0 (st := []) (As := [.int v6]) 3 (c_X3_hasCome G.l G.D G.cA G.ad G.bs G.X C0.2.2.2.2.2.2.2.2.2.1 C0.2.2.2.2.2.2.2.2.2.2.2.2 x1 v6 I L R b8 I9 q10) lc_X3_hasCome lk_X2_186 c_x1.2 c_x1.1 ⟨_, rfl, rfl⟩ rfl (by rw [erm]; decide) (Nat.le_of_ble_eq_true rfl) dX2_isDue_13 ?_
    show V G _ 16 [(0, .ref (G.ad x0)), (1, .ref (G.ad x1)), (2, .int x2)] [.int (b2i b8)] I9 L R
    refine V_goto C0 (tgt := 24) (by decide) dX2_isDue_16 ?_
    cases h
    exact V_zret C0 (b2i01 _) dX2_isDue_24
theorem dX9_is_0 : decode cX9_is 0 = .ok (.aload_n 0, 1) := by decide +kernel
theorem dX9_is_1 : decode cX9_is 1 = .ok (.getfield 56, 3) := by decide +kernel
theorem dX9_is_4 : decode cX9_is 4 = .ok (.iload_n 1, 1) := by decide +kernel
theorem dX9_is_5 : decode cX9_is 5 = .ok (.iushr, 1) := by decide +kernel
theorem dX9_is_6 : decode cX9_is 6 = .ok (.iconst 1, 1) := by decide +kernel
theorem dX9_is_7 : decode cX9_is 7 = .ok (.iand, 1) := by decide +kernel
theorem dX9_is_8 : decode cX9_is 8 = .ok (.iconst 1, 1) := by decide +kernel
theorem dX9_is_9 : decode cX9_is 9 = .ok (.if_icmp .ne 7, 3) := by decide +kernel
theorem dX9_is_12 : decode cX9_is 12 = .ok (.iconst 1, 1) := by decide +kernel
theorem dX9_is_13 : decode cX9_is 13 = .ok (.goto 4, 3) := by decide +kernel
theorem dX9_is_16 : decode cX9_is 16 = .ok (.iconst 0, 1) := by decide +kernel
theorem dX9_is_17 : decode cX9_is 17 = .ok (.ireturn, 1) := by decide +kernel
def F_X9_is (x0 : Nat) (x1 : Int32) (I : MI) (L : ML) (R : MR) : Option (Bool) :=
  if kd x0 = 8 ∧ x0 < NN then
  if ((iU (I x0 8) x1) &&& (1 : Int32)) = (1 : Int32) then
    some (true)
  else
    some (false)
  else none
set_option maxRecDepth 100000 in
set_option maxHeartbeats 4000000 in
theorem c_X9_is (l : Launch) (D : va_G) (cA : Nat → ClassId) (ad : Nat → Nat) (bs : Nat) (X : State → Prop) (hAd : Ax ad bs) (hX : Stb bs X) (x0 : Nat) (x1 : Int32) (I : MI) (L : ML) (R : MR) (r : Bool) (h : F_X9_is x0 x1 I L R = some (r)) : Cn l D cA ad bs X yX9_is cX9_is 2 (some .boolean) 0 0 [.ref (ad x0), .int x1] I L R (some (.int (b2i r)), I, L, R) := by
  refine Cn.ofV hAd hX [(0, .ref (ad x0)), (1, .int x1)] rfl (Nat.le_of_ble_eq_true rfl) (by decide) ?_
  intro G el eD ecA ead ebs eX erm eNL C0
  subst el eD ecA ead ebs eX
  unfold F_X9_is at h
  obtain ⟨c_x0, h⟩ := ite_some h
  refine V_aload_n C0 0 rfl rfl dX9_is_0 ?_
  refine V_getI C0 8 8 fl_X9_56 c_x0.2 c_x0.1 rfl dX9_is_1 ?_
  refine V_iload_n C0 1 rfl rfl dX9_is_4 ?_
  refine V_iushr C0 dX9_is_5 ?_
  refine V_iconst C0 (v := (1 : Int32)) (by decide) dX9_is_6 ?_
  refine V_iand C0 dX9_is_7 ?_
  refine V_iconst C0 (v := (1 : Int32)) (by decide) dX9_is_8 ?_
  refine V_icmp_ne C0 (tgt := 16) (by decide) dX9_is_9 (fun c1 => ?_) (fun c1 => ?_)
  · have h := (if_neg c1).symm.trans h
    refine V_iconst C0 (v := (0 : Int32)) (by decide) dX9_is_16 ?_
    cases h
    exact V_zret C0 (by decide) dX9_is_17
  · have h := (if_pos c1).symm.trans h
    refine V_iconst C0 (v := (1 : Int32)) (by decide) dX9_is_12 ?_
    refine V_goto C0 (tgt := 17) (by decide) dX9_is_13 ?_
    cases h
    exact V_zret C0 (by decide) dX9_is_17
theorem dX9_isWhole_0 : decode cX9_isWhole 0 = .ok (.aload_n 0, 1) := by decide +kernel
theorem dX9_isWhole_1 : decode cX9_isWhole 1 = .ok (.iload_n 1, 1) := by decide +kernel
theorem dX9_isWhole_2 : decode cX9_isWhole 2 = .ok (.invokevirtual 62, 3) := by decide +kernel
theorem dX9_isWhole_5 : decode cX9_isWhole 5 = .ok (.ifCond .eq 17, 3) := by decide +kernel
theorem dX9_isWhole_8 : decode cX9_isWhole 8 = .ok (.aload_n 0, 1) := by decide +kernel
theorem dX9_isWhole_9 : decode cX9_isWhole 9 = .ok (.getfield 9, 3) := by decide +kernel
theorem dX9_isWhole_12 : decode cX9_isWhole 12 = .ok (.bipush 63, 2) := by decide +kernel
theorem dX9_isWhole_14 : decode cX9_isWhole 14 = .ok (.iaload, 1) := by decide +kernel
theorem dX9_isWhole_15 : decode cX9_isWhole 15 = .ok (.ifCond .ne 7, 3) := by decide +kernel
theorem dX9_isWhole_18 : decode cX9_isWhole 18 = .ok (.iconst 1, 1) := by decide +kernel
theorem dX9_isWhole_19 : decode cX9_isWhole 19 = .ok (.goto 4, 3) := by decide +kernel
theorem dX9_isWhole_22 : decode cX9_isWhole 22 = .ok (.iconst 0, 1) := by decide +kernel
theorem dX9_isWhole_23 : decode cX9_isWhole 23 = .ok (.ireturn, 1) := by decide +kernel
def F_X9_isWhole (x0 : Nat) (x1 : Int32) (I : MI) (L : ML) (R : MR) : Option (Bool) :=
  if kd x0 = 8 ∧ x0 < NN then
  bn1 (F_X9_is x0 x1 I L R) fun b1 =>
  if (b2i b1) = 0 then
    some (false)
  else
    (rf R x0 0 20).bind fun a4 =>
    (ri I a4 (63 : Int32)).bind fun v5 =>
    if v5 = 0 then
      some (true)
    else
      some (false)
  else none
set_option maxRecDepth 100000 in
set_option maxHeartbeats 4000000 in
theorem c_X9_isWhole (l : Launch) (D : va_G) (cA : Nat → ClassId) (ad : Nat → Nat) (bs : Nat) (X : State → Prop) (hAd : Ax ad bs) (hX : Stb bs X) (x0 : Nat) (x1 : Int32) (I : MI) (L : ML) (R : MR) (r : Bool) (h : F_X9_isWhole x0 x1 I L R = some (r)) : Cn l D cA ad bs X yX9_isWhole cX9_isWhole 2 (some .boolean) 1 21 [.ref (ad x0), .int x1] I L R (some (.int (b2i r)), I, L, R) := by
  refine Cn.ofV hAd hX [(0, .ref (ad x0)), (1, .int x1)] rfl (Nat.le_of_ble_eq_true rfl) (by decide) ?_
  intro G el eD ecA ead ebs eX erm eNL C0
  subst el eD ecA ead ebs eX
  unfold F_X9_isWhole at h
  obtain ⟨c_x0, h⟩ := ite_some h
  refine V_aload_n C0 0 rfl rfl dX9_isWhole_0 ?_
  refine V_iload_n C0 1 rfl rfl dX9_isWhole_1 ?_
  obtain ⟨b1, q2, h⟩ := bn1_some h
  refine V_callV C0 (st := []) (As := [.int x1]) 8 (c_X9_is G.l G.D G.cA G.ad G.bs G.X C0.2.2.2.2.2.2.2.2.2.1 C0.2.2.2.2.2.2.2.2.2.2.2.2 x0 x1 I L R b1 q2) lc_X9_is lk_X9_62 c_x0.2 c_x0.1 ⟨_, rfl, rfl⟩ rfl (by rw [erm]; decide) (Nat.le_of_ble_eq_true rfl) dX9_isWhole_2 ?_
  show V G _ 5 [(0, .ref (G.ad x0)), (1, .int x1)] [.int (b2i b1)] I L R
  refine V_if_eq C0 (tgt := 22) (by decide) dX9_isWhole_5 (fun c3 => ?_) (fun c3 => ?_)
  · have h := (if_pos c3).symm.trans h
    refine V_iconst C0 (v := (0 : Int32)) (by decide) dX9_isWhole_22 ?_
    cases h
    exact V_zret C0 (by decide) dX9_isWhole_23
  · have h := (if_neg c3).symm.trans h
    refine V_aload_n C0 0 rfl rfl dX9_isWhole_8 ?_
    obtain ⟨a4, qa4, h⟩ := bnd_some h
    refine V_getR C0 8 0 fl_X9_9 c_x0.2 c_x0.1 rfl (rf_at qa4) dX9_isWhole_9 ?_
    refine V_bipush C0 (v := (63 : Int32)) (by decide) dX9_isWhole_12 ?_
    obtain ⟨v5, qv5, h⟩ := bnd_some h
    refine V_ri C0 (rf_lt qa4) (rf_kd qa4) qv5 dX9_isWhole_14 ?_
    refine V_if_ne C0 (tgt := 22) (by decide) dX9_isWhole_15 (fun c6 => ?_) (fun c6 => ?_)
    · have h := (if_neg c6).symm.trans h
      refine V_iconst C0 (v := (0 : Int32)) (by decide) dX9_isWhole_22 ?_
      cases h
      exact V_zret C0 (by decide) dX9_isWhole_23
    · have h := (if_pos c6).symm.trans h
      refine V_iconst C0 (v := (1 : Int32)) (by decide) dX9_isWhole_18 ?_
      refine V_goto C0 (tgt := 23) (by decide) dX9_isWhole_19 ?_
      cases h
      exact V_zret C0 (by decide) dX9_isWhole_23
theorem dX2_switchOn_0 : decode cX2_switchOn 0 = .ok (.aload_n 0, 1) := by decide +kernel
theorem dX2_switchOn_1 : decode cX2_switchOn 1 = .ok (.bipush 6, 2) := by decide +kernel
theorem dX2_switchOn_3 : decode cX2_switchOn 3 = .ok (.invokevirtual 229, 3) := by decide +kernel
theorem dX2_switchOn_6 : decode cX2_switchOn 6 = .ok (.ifCond .ne 5, 3) := by decide +kernel
theorem dX2_switchOn_9 : decode cX2_switchOn 9 = .ok (.iconst 0, 1) := by decide +kernel
theorem dX2_switchOn_10 : decode cX2_switchOn 10 = .ok (.ireturn, 1) := by decide +kernel
theorem dX2_switchOn_11 : decode cX2_switchOn 11 = .ok (.aload_n 0, 1) := by decide +kernel
theorem dX2_switchOn_12 : decode cX2_switchOn 12 = .ok (.getfield 205, 3) := by decide +kernel
theorem dX2_switchOn_15 : decode cX2_switchOn 15 = .ok (.bipush 64, 2) := by decide +kernel
theorem dX2_switchOn_17 : decode cX2_switchOn 17 = .ok (.iaload, 1) := by decide +kernel
theorem dX2_switchOn_18 : decode cX2_switchOn 18 = .ok (.iconst 1, 1) := by decide +kernel
theorem dX2_switchOn_19 : decode cX2_switchOn 19 = .ok (.if_icmp .ne 13, 3) := by decide +kernel
theorem dX2_switchOn_22 : decode cX2_switchOn 22 = .ok (.aload_n 0, 1) := by decide +kernel
theorem dX2_switchOn_23 : decode cX2_switchOn 23 = .ok (.getfield 205, 3) := by decide +kernel
theorem dX2_switchOn_26 : decode cX2_switchOn 26 = .ok (.bipush 64, 2) := by decide +kernel
theorem dX2_switchOn_28 : decode cX2_switchOn 28 = .ok (.iconst 0, 1) := by decide +kernel
theorem dX2_switchOn_29 : decode cX2_switchOn 29 = .ok (.iastore, 1) := by decide +kernel
theorem dX2_switchOn_30 : decode cX2_switchOn 30 = .ok (.iconst 0, 1) := by decide +kernel
theorem dX2_switchOn_31 : decode cX2_switchOn 31 = .ok (.ireturn, 1) := by decide +kernel
theorem dX2_switchOn_32 : decode cX2_switchOn 32 = .ok (.aload_n 0, 1) := by decide +kernel
theorem dX2_switchOn_33 : decode cX2_switchOn 33 = .ok (.getfield 205, 3) := by decide +kernel
theorem dX2_switchOn_36 : decode cX2_switchOn 36 = .ok (.bipush 22, 2) := by decide +kernel
theorem dX2_switchOn_38 : decode cX2_switchOn 38 = .ok (.iconst 1, 1) := by decide +kernel
theorem dX2_switchOn_39 : decode cX2_switchOn 39 = .ok (.iastore, 1) := by decide +kernel
theorem dX2_switchOn_40 : decode cX2_switchOn 40 = .ok (.iconst 1, 1) := by decide +kernel
theorem dX2_switchOn_41 : decode cX2_switchOn 41 = .ok (.ireturn, 1) := by decide +kernel
def F_X2_switchOn (x0 : Nat) (I : MI) (L : ML) (R : MR) : Option (Bool × MI) :=
  if kd x0 = 8 ∧ x0 < NN then
  bn1 (F_X9_isWhole x0 (6 : Int32) I L R) fun b1 =>
  if (b2i b1) = 0 then
    some (false, I)
  else
    (rf R x0 0 20).bind fun a4 =>
    (ri I a4 (64 : Int32)).bind fun v5 =>
    if v5 = (1 : Int32) then
      (wi I a4 (64 : Int32) (0 : Int32)).bind fun I8 =>
      some (false, I8)
    else
      (wi I a4 (22 : Int32) (1 : Int32)).bind fun I7 =>
      some (true, I7)
  else none
set_option maxRecDepth 100000 in
set_option maxHeartbeats 4000000 in
theorem c_X2_switchOn (l : Launch) (D : va_G) (cA : Nat → ClassId) (ad : Nat → Nat) (bs : Nat) (X : State → Prop) (hAd : Ax ad bs) (hX : Stb bs X) (x0 : Nat) (I : MI) (L : ML) (R : MR) (r : Bool) (I' : MI) (h : F_X2_switchOn x0 I L R = some (r, I')) : Cn l D cA ad bs X yX2_switchOn cX2_switchOn 1 (some .boolean) 2 42 [.ref (ad x0)] I L R (some (.int (b2i r)), I', L, R) := by
  refine Cn.ofV hAd hX [(0, .ref (ad x0))] rfl (Nat.le_of_ble_eq_true rfl) (by decide) ?_
  intro G el eD ecA ead ebs eX erm eNL C0
  subst el eD ecA ead ebs eX
  unfold F_X2_switchOn at h
  obtain ⟨c_x0, h⟩ := ite_some h
  refine V_aload_n C0 0 rfl rfl dX2_switchOn_0 ?_
  refine V_bipush C0 (v := (6 : Int32)) (by decide) dX2_switchOn_1 ?_
  obtain ⟨b1, q2, h⟩ := bn1_some h
  refine V_callV C0 (st := []) (As := [.int (6 : Int32)]) 8 (c_X9_isWhole G.l G.D G.cA G.ad G.bs G.X C0.2.2.2.2.2.2.2.2.2.1 C0.2.2.2.2.2.2.2.2.2.2.2.2 x0 (6 : Int32) I L R b1 q2) lc_X9_isWhole lk_X2_229 c_x0.2 c_x0.1 ⟨_, rfl, rfl⟩ rfl (by rw [erm]; decide) (Nat.le_of_ble_eq_true rfl) dX2_switchOn_3 ?_
  show V G _ 6 [(0, .ref (G.ad x0))] [.int (b2i b1)] I L R
  refine V_if_ne C0 (tgt := 11) (by decide) dX2_switchOn_6 (fun c3 => ?_) (fun c3 => ?_)
  · have h := (if_neg c3).symm.trans h
    refine V_aload_n C0 0 rfl rfl dX2_switchOn_11 ?_
    obtain ⟨a4, qa4, h⟩ := bnd_some h
    refine V_getR C0 8 0 fl_X2_205 c_x0.2 c_x0.1 rfl (rf_at qa4) dX2_switchOn_12 ?_
    refine V_bipush C0 (v := (64 : Int32)) (by decide) dX2_switchOn_15 ?_
    obtain ⟨v5, qv5, h⟩ := bnd_some h
    refine V_ri C0 (rf_lt qa4) (rf_kd qa4) qv5 dX2_switchOn_17 ?_
    refine V_iconst C0 (v := (1 : Int32)) (by decide) dX2_switchOn_18 ?_
    refine V_icmp_ne C0 (tgt := 32) (by decide) dX2_switchOn_19 (fun c6 => ?_) (fun c6 => ?_)
    · have h := (if_neg c6).symm.trans h
      refine V_aload_n C0 0 rfl rfl dX2_switchOn_32 ?_
      refine V_getR C0 8 0 fl_X2_205 c_x0.2 c_x0.1 rfl (rf_at qa4) dX2_switchOn_33 ?_
      refine V_bipush C0 (v := (22 : Int32)) (by decide) dX2_switchOn_36 ?_
      refine V_iconst C0 (v := (1 : Int32)) (by decide) dX2_switchOn_38 ?_
      obtain ⟨I7, qI7, h⟩ := bnd_some h
      refine V_wi C0 (rf_lt qa4) (rf_kd qa4) qI7 dX2_switchOn_39 ?_
      refine V_iconst C0 (v := (1 : Int32)) (by decide) dX2_switchOn_40 ?_
      cases h
      exact V_zret C0 (by decide) dX2_switchOn_41
    · have h := (if_pos c6).symm.trans h
      refine V_aload_n C0 0 rfl rfl dX2_switchOn_22 ?_
      refine V_getR C0 8 0 fl_X2_205 c_x0.2 c_x0.1 rfl (rf_at qa4) dX2_switchOn_23 ?_
      refine V_bipush C0 (v := (64 : Int32)) (by decide) dX2_switchOn_26 ?_
      refine V_iconst C0 (v := (0 : Int32)) (by decide) dX2_switchOn_28 ?_
      obtain ⟨I8, qI8, h⟩ := bnd_some h
      refine V_wi C0 (rf_lt qa4) (rf_kd qa4) qI8 dX2_switchOn_29 ?_
      refine V_iconst C0 (v := (0 : Int32)) (by decide) dX2_switchOn_30 ?_
      cases h
      exact V_zret C0 (by decide) dX2_switchOn_31
  · have h := (if_pos c3).symm.trans h
    refine V_iconst C0 (v := (0 : Int32)) (by decide) dX2_switchOn_9 ?_
    cases h
    exact V_zret C0 (by decide) dX2_switchOn_10
