theorem dX10_makeRadio_0 : decode cX10_makeRadio 0 = .ok (.aload_n 1, 1) := by decide +kernel
theorem dX10_makeRadio_1 : decode cX10_makeRadio 1 = .ok (.getfield 42, 3) := by decide +kernel
theorem dX10_makeRadio_4 : decode cX10_makeRadio 4 = .ok (.astore_n 2, 1) := by decide +kernel
theorem dX10_makeRadio_5 : decode cX10_makeRadio 5 = .ok (.aload_n 2, 1) := by decide +kernel
theorem dX10_makeRadio_6 : decode cX10_makeRadio 6 = .ok (.bipush 49, 2) := by decide +kernel
theorem dX10_makeRadio_8 : decode cX10_makeRadio 8 = .ok (.aload_n 2, 1) := by decide +kernel
theorem dX10_makeRadio_9 : decode cX10_makeRadio 9 = .ok (.iconst 4, 1) := by decide +kernel
theorem dX10_makeRadio_10 : decode cX10_makeRadio 10 = .ok (.iaload, 1) := by decide +kernel
theorem dX10_makeRadio_11 : decode cX10_makeRadio 11 = .ok (.iconst 2, 1) := by decide +kernel
theorem dX10_makeRadio_12 : decode cX10_makeRadio 12 = .ok (.imul, 1) := by decide +kernel
theorem dX10_makeRadio_13 : decode cX10_makeRadio 13 = .ok (.iconst 1, 1) := by decide +kernel
theorem dX10_makeRadio_14 : decode cX10_makeRadio 14 = .ok (.iadd, 1) := by decide +kernel
theorem dX10_makeRadio_15 : decode cX10_makeRadio 15 = .ok (.iastore, 1) := by decide +kernel
theorem dX10_makeRadio_16 : decode cX10_makeRadio 16 = .ok (.aload_n 2, 1) := by decide +kernel
theorem dX10_makeRadio_17 : decode cX10_makeRadio 17 = .ok (.bipush 50, 2) := by decide +kernel
theorem dX10_makeRadio_19 : decode cX10_makeRadio 19 = .ok (.aload_n 1, 1) := by decide +kernel
theorem dX10_makeRadio_20 : decode cX10_makeRadio 20 = .ok (.getfield 206, 3) := by decide +kernel
theorem dX10_makeRadio_23 : decode cX10_makeRadio 23 = .ok (.iastore, 1) := by decide +kernel
theorem dX10_makeRadio_24 : decode cX10_makeRadio 24 = .ok (.aload_n 2, 1) := by decide +kernel
theorem dX10_makeRadio_25 : decode cX10_makeRadio 25 = .ok (.bipush 51, 2) := by decide +kernel
theorem dX10_makeRadio_27 : decode cX10_makeRadio 27 = .ok (.iconst 0, 1) := by decide +kernel
theorem dX10_makeRadio_28 : decode cX10_makeRadio 28 = .ok (.iastore, 1) := by decide +kernel
theorem dX10_makeRadio_29 : decode cX10_makeRadio 29 = .ok (.aload_n 0, 1) := by decide +kernel
theorem dX10_makeRadio_30 : decode cX10_makeRadio 30 = .ok (.aload_n 1, 1) := by decide +kernel
theorem dX10_makeRadio_31 : decode cX10_makeRadio 31 = .ok (.bipush 20, 2) := by decide +kernel
theorem dX10_makeRadio_33 : decode cX10_makeRadio 33 = .ok (.aload_n 2, 1) := by decide +kernel
theorem dX10_makeRadio_34 : decode cX10_makeRadio 34 = .ok (.bipush 49, 2) := by decide +kernel
theorem dX10_makeRadio_36 : decode cX10_makeRadio 36 = .ok (.iaload, 1) := by decide +kernel
theorem dX10_makeRadio_37 : decode cX10_makeRadio 37 = .ok (.invokevirtual 196, 3) := by decide +kernel
theorem dX10_makeRadio_40 : decode cX10_makeRadio 40 = .ok (.return_, 1) := by decide +kernel
def F_X10_makeRadio (x0 : Nat) (x1 : Nat) (I : MI) (L : ML) (R : MR) : Option (MI) :=
  if kd x0 = 9 ∧ x0 < NN then
  if kd x1 = 8 ∧ x1 < NN then
  (rf R x1 0 20).bind fun a1 =>
  (ri I a1 (4 : Int32)).bind fun v2 =>
  (wi I a1 (49 : Int32) ((v2 * (2 : Int32)) + (1 : Int32))).bind fun I3 =>
  (wi I3 a1 (50 : Int32) (I3 x1 5)).bind fun I4 =>
  (wi I4 a1 (51 : Int32) (0 : Int32)).bind fun I5 =>
  (ri I5 a1 (49 : Int32)).bind fun v6 =>
  bn1 (F_X10_jot x0 x1 (20 : Int32) v6 I5 L R) fun I7 =>
  some (I7)
  else none
  else none
set_option maxRecDepth 100000 in
set_option maxHeartbeats 4000000 in
theorem c_X10_makeRadio (l : Launch) (D : va_G) (cA : Nat → ClassId) (ad : Nat → Nat) (bs : Nat) (X : State → Prop) (hAd : Ax ad bs) (hX : Stb bs X) (x0 : Nat) (x1 : Nat) (I : MI) (L : ML) (R : MR) (I' : MI) (h : F_X10_makeRadio x0 x1 I L R = some (I')) : Cn l D cA ad bs X yX10_makeRadio cX10_makeRadio 3 none 1 24 [.ref (ad x0), .ref (ad x1)] I L R (none, I', L, R) := by
  refine Cn.ofV hAd hX [(0, .ref (ad x0)), (1, .ref (ad x1))] rfl (Nat.le_of_ble_eq_true rfl) (by decide) ?_
  intro G el eD ecA ead ebs eX erm eNL C0
  subst el eD ecA ead ebs eX
  unfold F_X10_makeRadio at h
  obtain ⟨c_x0, h⟩ := ite_some h
  obtain ⟨c_x1, h⟩ := ite_some h
  refine V_aload_n C0 1 rfl rfl dX10_makeRadio_0 ?_
  obtain ⟨a1, qa1, h⟩ := bnd_some h
  refine V_getR C0 8 0 fl_X10_42 c_x1.2 c_x1.1 rfl (rf_at qa1) dX10_makeRadio_1 ?_
  refine V_astore_n C0 [(2, .ref (G.ad a1)), (0, .ref (G.ad x0)), (1, .ref (G.ad x1))] rfl (by rw [eNL]; decide) rfl dX10_makeRadio_4 ?_
  refine V_aload_n C0 0 rfl rfl dX10_makeRadio_5 ?_
  refine V_bipush C0 (v := (49 : Int32)) (by decide) dX10_makeRadio_6 ?_
  refine V_aload_n C0 0 rfl rfl dX10_makeRadio_8 ?_
  refine V_iconst C0 (v := (4 : Int32)) (by decide) dX10_makeRadio_9 ?_
  obtain ⟨v2, qv2, h⟩ := bnd_some h
  refine V_ri C0 (rf_lt qa1) (rf_kd qa1) qv2 dX10_makeRadio_10 ?_
  refine V_iconst C0 (v := (2 : Int32)) (by decide) dX10_makeRadio_11 ?_
  refine V_imul C0 dX10_makeRadio_12 ?_
  refine V_iconst C0 (v := (1 : Int32)) (by decide) dX10_makeRadio_13 ?_
  refine V_iadd C0 dX10_makeRadio_14 ?_
  obtain ⟨I3, qI3, h⟩ := bnd_some h
  refine V_wi C0 (rf_lt qa1) (rf_kd qa1) qI3 dX10_makeRadio_15 ?_
  refine V_aload_n C0 0 rfl rfl dX10_makeRadio_16 ?_
  refine V_bipush C0 (v := (50 : Int32)) (by decide) dX10_makeRadio_17 ?_
  refine V_aload_n C0 2 rfl rfl dX10_makeRadio_19 ?_
  refine V_getI C0 8 5 fl_X10_206 c_x1.2 c_x1.1 rfl dX10_makeRadio_20 ?_
  obtain ⟨I4, qI4, h⟩ := bnd_some h
  refine V_wi C0 (rf_lt qa1) (rf_kd qa1) qI4 dX10_makeRadio_23 ?_
  refine V_aload_n C0 0 rfl rfl dX10_makeRadio_24 ?_
  refine V_bipush C0 (v := (51 : Int32)) (by decide) dX10_makeRadio_25 ?_
  refine V_iconst C0 (v := (0 : Int32)) (by decide) dX10_makeRadio_27 ?_
  obtain ⟨I5, qI5, h⟩ := bnd_some h
  refine V_wi C0 (rf_lt qa1) (rf_kd qa1) qI5 dX10_makeRadio_28 ?_
  refine V_aload_n C0 1 rfl rfl dX10_makeRadio_29 ?_
  refine V_aload_n C0 2 rfl rfl dX10_makeRadio_30 ?_
  refine V_bipush C0 (v := (20 : Int32)) (by decide) dX10_makeRadio_31 ?_
  refine V_aload_n C0 0 rfl rfl dX10_makeRadio_33 ?_
  refine V_bipush C0 (v := (49 : Int32)) (by decide) dX10_makeRadio_34 ?_
  obtain ⟨v6, qv6, h⟩ := bnd_some h
  refine V_ri C0 (rf_lt qa1) (rf_kd qa1) qv6 dX10_makeRadio_36 ?_
  obtain ⟨I7, q8, h⟩ := bn1_some h
  refine V_callV C0 (st := []) (As := [.ref (G.ad x1), .int (20 : Int32), .int v6]) 9 (c_X10_jot G.l G.D G.cA G.ad G.bs G.X C0.2.2.2.2.2.2.2.2.2.1 C0.2.2.2.2.2.2.2.2.2.2.2.2 x0 x1 (20 : Int32) v6 I5 L R I7 q8) lc_X10_jot lk_X10_196 c_x0.2 c_x0.1 ⟨_, rfl, rfl⟩ rfl (by rw [erm]; decide) (Nat.le_of_ble_eq_true rfl) dX10_makeRadio_37 ?_
  show V G _ 40 [(2, .ref (G.ad a1)), (0, .ref (G.ad x0)), (1, .ref (G.ad x1))] [] I7 L R
  cases h
  exact V_vret C0 dX10_makeRadio_40
theorem dX10_makeBeacon_0 : decode cX10_makeBeacon 0 = .ok (.aload_n 1, 1) := by decide +kernel
theorem dX10_makeBeacon_1 : decode cX10_makeBeacon 1 = .ok (.getfield 42, 3) := by decide +kernel
theorem dX10_makeBeacon_4 : decode cX10_makeBeacon 4 = .ok (.astore_n 2, 1) := by decide +kernel
theorem dX10_makeBeacon_5 : decode cX10_makeBeacon 5 = .ok (.aload_n 2, 1) := by decide +kernel
theorem dX10_makeBeacon_6 : decode cX10_makeBeacon 6 = .ok (.bipush 31, 2) := by decide +kernel
theorem dX10_makeBeacon_8 : decode cX10_makeBeacon 8 = .ok (.bipush 10, 2) := by decide +kernel
theorem dX10_makeBeacon_10 : decode cX10_makeBeacon 10 = .ok (.aload_n 2, 1) := by decide +kernel
theorem dX10_makeBeacon_11 : decode cX10_makeBeacon 11 = .ok (.bipush 49, 2) := by decide +kernel
theorem dX10_makeBeacon_13 : decode cX10_makeBeacon 13 = .ok (.iaload, 1) := by decide +kernel
theorem dX10_makeBeacon_14 : decode cX10_makeBeacon 14 = .ok (.bipush 7, 2) := by decide +kernel
theorem dX10_makeBeacon_16 : decode cX10_makeBeacon 16 = .ok (.irem, 1) := by decide +kernel
theorem dX10_makeBeacon_17 : decode cX10_makeBeacon 17 = .ok (.iadd, 1) := by decide +kernel
theorem dX10_makeBeacon_18 : decode cX10_makeBeacon 18 = .ok (.iastore, 1) := by decide +kernel
theorem dX10_makeBeacon_19 : decode cX10_makeBeacon 19 = .ok (.aload_n 2, 1) := by decide +kernel
theorem dX10_makeBeacon_20 : decode cX10_makeBeacon 20 = .ok (.bipush 50, 2) := by decide +kernel
theorem dX10_makeBeacon_22 : decode cX10_makeBeacon 22 = .ok (.aload_n 2, 1) := by decide +kernel
theorem dX10_makeBeacon_23 : decode cX10_makeBeacon 23 = .ok (.bipush 50, 2) := by decide +kernel
theorem dX10_makeBeacon_25 : decode cX10_makeBeacon 25 = .ok (.iaload, 1) := by decide +kernel
theorem dX10_makeBeacon_26 : decode cX10_makeBeacon 26 = .ok (.iconst 2, 1) := by decide +kernel
theorem dX10_makeBeacon_27 : decode cX10_makeBeacon 27 = .ok (.idiv, 1) := by decide +kernel
theorem dX10_makeBeacon_28 : decode cX10_makeBeacon 28 = .ok (.iconst 1, 1) := by decide +kernel
theorem dX10_makeBeacon_29 : decode cX10_makeBeacon 29 = .ok (.iadd, 1) := by decide +kernel
theorem dX10_makeBeacon_30 : decode cX10_makeBeacon 30 = .ok (.iastore, 1) := by decide +kernel
theorem dX10_makeBeacon_31 : decode cX10_makeBeacon 31 = .ok (.aload_n 0, 1) := by decide +kernel
theorem dX10_makeBeacon_32 : decode cX10_makeBeacon 32 = .ok (.aload_n 1, 1) := by decide +kernel
theorem dX10_makeBeacon_33 : decode cX10_makeBeacon 33 = .ok (.bipush 21, 2) := by decide +kernel
theorem dX10_makeBeacon_35 : decode cX10_makeBeacon 35 = .ok (.aload_n 2, 1) := by decide +kernel
theorem dX10_makeBeacon_36 : decode cX10_makeBeacon 36 = .ok (.bipush 50, 2) := by decide +kernel
theorem dX10_makeBeacon_38 : decode cX10_makeBeacon 38 = .ok (.iaload, 1) := by decide +kernel
theorem dX10_makeBeacon_39 : decode cX10_makeBeacon 39 = .ok (.invokevirtual 196, 3) := by decide +kernel
theorem dX10_makeBeacon_42 : decode cX10_makeBeacon 42 = .ok (.return_, 1) := by decide +kernel
def F_X10_makeBeacon (x0 : Nat) (x1 : Nat) (I : MI) (L : ML) (R : MR) : Option (MI) :=
  if kd x0 = 9 ∧ x0 < NN then
  if kd x1 = 8 ∧ x1 < NN then
  (rf R x1 0 20).bind fun a1 =>
  (ri I a1 (49 : Int32)).bind fun v2 =>
  (wi I a1 (31 : Int32) ((10 : Int32) + (iR v2 (7 : Int32)))).bind fun I3 =>
  (ri I3 a1 (50 : Int32)).bind fun v4 =>
  (wi I3 a1 (50 : Int32) ((v4 / (2 : Int32)) + (1 : Int32))).bind fun I5 =>
  (ri I5 a1 (50 : Int32)).bind fun v6 =>
  bn1 (F_X10_jot x0 x1 (21 : Int32) v6 I5 L R) fun I7 =>
  some (I7)
  else none
  else none
set_option maxRecDepth 100000 in
set_option maxHeartbeats 4000000 in
theorem c_X10_makeBeacon (l : Launch) (D : va_G) (cA : Nat → ClassId) (ad : Nat → Nat) (bs : Nat) (X : State → Prop) (hAd : Ax ad bs) (hX : Stb bs X) (x0 : Nat) (x1 : Nat) (I : MI) (L : ML) (R : MR) (I' : MI) (h : F_X10_makeBeacon x0 x1 I L R = some (I')) : Cn l D cA ad bs X yX10_makeBeacon cX10_makeBeacon 3 none 1 24 [.ref (ad x0), .ref (ad x1)] I L R (none, I', L, R) := by
  refine Cn.ofV hAd hX [(0, .ref (ad x0)), (1, .ref (ad x1))] rfl (Nat.le_of_ble_eq_true rfl) (by decide) ?_
  intro G el eD ecA ead ebs eX erm eNL C0
  subst el eD ecA ead ebs eX
  unfold F_X10_makeBeacon at h
  obtain ⟨c_x0, h⟩ := ite_some h
  obtain ⟨c_x1, h⟩ := ite_some h
  refine V_aload_n C0 1 rfl rfl dX10_makeBeacon_0 ?_
  obtain ⟨a1, qa1, h⟩ := bnd_some h
  refine V_getR C0 8 0 fl_X10_42 c_x1.2 c_x1.1 rfl (rf_at qa1) dX10_makeBeacon_1 ?_
  refine V_astore_n C0 [(2, .ref (G.ad a1)), (0, .ref (G.ad x0)), (1, .ref (G.ad x1))] rfl (by rw [eNL]; decide) rfl dX10_makeBeacon_4 ?_
  refine V_aload_n C0 0 rfl rfl dX10_makeBeacon_5 ?_
  refine V_bipush C0 (v := (31 : Int32)) (by decide) dX10_makeBeacon_6 ?_
  refine V_bipush C0 (v := (10 : Int32)) (by decide) dX10_makeBeacon_8 ?_
  refine V_aload_n C0 0 rfl rfl dX10_makeBeacon_10 ?_
  refine V_bipush C0 (v := (49 : Int32)) (by decide) dX10_makeBeacon_11 ?_
  obtain ⟨v2, qv2, h⟩ := bnd_some h
  refine V_ri C0 (rf_lt qa1) (rf_kd qa1) qv2 dX10_makeBeacon_13 ?_
  refine V_bipush C0 (v := (7 : Int32)) (by decide) dX10_makeBeacon_14 ?_
  refine V_irem C0 (by decide) dX10_makeBeacon_16 ?_
  refine V_iadd C0 dX10_makeBeacon_17 ?_
  obtain ⟨I3, qI3, h⟩ := bnd_some h
  refine V_wi C0 (rf_lt qa1) (rf_kd qa1) qI3 dX10_makeBeacon_18 ?_
  refine V_aload_n C0 0 rfl rfl dX10_makeBeacon_19 ?_
  refine V_bipush C0 (v := (50 : Int32)) (by decide) dX10_makeBeacon_20 ?_
  refine V_aload_n C0 0 rfl rfl dX10_makeBeacon_22 ?_
  refine V_bipush C0 (v := (50 : Int32)) (by decide) dX10_makeBeacon_23 ?_
  obtain ⟨v4, qv4, h⟩ := bnd_some h
  refine V_ri C0 (rf_lt qa1) (rf_kd qa1) qv4 dX10_makeBeacon_25 ?_
  refine V_iconst C0 (v := (2 : Int32)) (by decide) dX10_makeBeacon_26 ?_
  refine V_idiv C0 (by decide) dX10_makeBeacon_27 ?_
  refine V_iconst C0 (v := (1 : Int32)) (by decide) dX10_makeBeacon_28 ?_
  refine V_iadd C0 dX10_makeBeacon_29 ?_
  obtain ⟨I5, qI5, h⟩ := bnd_some h
  refine V_wi C0 (rf_lt qa1) (rf_kd qa1) qI5 dX10_makeBeacon_30 ?_
  refine V_aload_n C0 1 rfl rfl dX10_makeBeacon_31 ?_
  refine V_aload_n C0 2 rfl rfl dX10_makeBeacon_32 ?_
  refine V_bipush C0 (v := (21 : Int32)) (by decide) dX10_makeBeacon_33 ?_
  refine V_aload_n C0 0 rfl rfl dX10_makeBeacon_35 ?_
  refine V_bipush C0 (v := (50 : Int32)) (by decide) dX10_makeBeacon_36 ?_
  obtain ⟨v6, qv6, h⟩ := bnd_some h
  refine V_ri C0 (rf_lt qa1) (rf_kd qa1) qv6 dX10_makeBeacon_38 ?_
  obtain ⟨I7, q8, h⟩ := bn1_some h
  refine V_callV C0 (st := []) (As := [.ref (G.ad x1), .int (21 : Int32), .int v6]) 9 (c_X10_jot G.l G.D G.cA G.ad G.bs G.X C0.2.2.2.2.2.2.2.2.2.1 C0.2.2.2.2.2.2.2.2.2.2.2.2 x0 x1 (21 : Int32) v6 I5 L R I7 q8) lc_X10_jot lk_X10_196 c_x0.2 c_x0.1 ⟨_, rfl, rfl⟩ rfl (by rw [erm]; decide) (Nat.le_of_ble_eq_true rfl) dX10_makeBeacon_39 ?_
  show V G _ 42 [(2, .ref (G.ad a1)), (0, .ref (G.ad x0)), (1, .ref (G.ad x1))] [] I7 L R
  cases h
  exact V_vret C0 dX10_makeBeacon_42
theorem dX10_makeSource_0 : decode cX10_makeSource 0 = .ok (.aload_n 1, 1) := by decide +kernel
theorem dX10_makeSource_1 : decode cX10_makeSource 1 = .ok (.getfield 42, 3) := by decide +kernel
theorem dX10_makeSource_4 : decode cX10_makeSource 4 = .ok (.astore_n 2, 1) := by decide +kernel
theorem dX10_makeSource_5 : decode cX10_makeSource 5 = .ok (.aload_n 2, 1) := by decide +kernel
theorem dX10_makeSource_6 : decode cX10_makeSource 6 = .ok (.bipush 52, 2) := by decide +kernel
theorem dX10_makeSource_8 : decode cX10_makeSource 8 = .ok (.aload_n 0, 1) := by decide +kernel
theorem dX10_makeSource_9 : decode cX10_makeSource 9 = .ok (.invokevirtual 184, 3) := by decide +kernel
theorem dX10_makeSource_12 : decode cX10_makeSource 12 = .ok (.iconst 3, 1) := by decide +kernel
theorem dX10_makeSource_13 : decode cX10_makeSource 13 = .ok (.irem, 1) := by decide +kernel
theorem dX10_makeSource_14 : decode cX10_makeSource 14 = .ok (.iastore, 1) := by decide +kernel
theorem dX10_makeSource_15 : decode cX10_makeSource 15 = .ok (.aload_n 2, 1) := by decide +kernel
theorem dX10_makeSource_16 : decode cX10_makeSource 16 = .ok (.bipush 43, 2) := by decide +kernel
theorem dX10_makeSource_18 : decode cX10_makeSource 18 = .ok (.aload_n 1, 1) := by decide +kernel
theorem dX10_makeSource_19 : decode cX10_makeSource 19 = .ok (.getfield 200, 3) := by decide +kernel
theorem dX10_makeSource_22 : decode cX10_makeSource 22 = .ok (.iastore, 1) := by decide +kernel
theorem dX10_makeSource_23 : decode cX10_makeSource 23 = .ok (.aload_n 0, 1) := by decide +kernel
theorem dX10_makeSource_24 : decode cX10_makeSource 24 = .ok (.aload_n 1, 1) := by decide +kernel
theorem dX10_makeSource_25 : decode cX10_makeSource 25 = .ok (.bipush 22, 2) := by decide +kernel
theorem dX10_makeSource_27 : decode cX10_makeSource 27 = .ok (.aload_n 1, 1) := by decide +kernel
theorem dX10_makeSource_28 : decode cX10_makeSource 28 = .ok (.invokevirtual 187, 3) := by decide +kernel
theorem dX10_makeSource_31 : decode cX10_makeSource 31 = .ok (.invokevirtual 196, 3) := by decide +kernel
theorem dX10_makeSource_34 : decode cX10_makeSource 34 = .ok (.return_, 1) := by decide +kernel
def F_X10_makeSource (N : Nat) (x0 : Nat) (x1 : Nat) (I : MI) (L : ML) (R : MR) : Option (MI) :=
  if kd x0 = 9 ∧ x0 < NN then
  if kd x1 = 8 ∧ x1 < NN then
  (rf R x1 0 20).bind fun a1 =>
  bn2 (F_X10_draw x0 I L R) fun v2 I3 =>
  (wi I3 a1 (52 : Int32) (iR v2 (3 : Int32))).bind fun I5 =>
  (wi I5 a1 (43 : Int32) (I5 x1 4)).bind fun I6 =>
  bn1 (F_X9_mass N x1 I6 L R) fun v7 =>
  bn1 (F_X10_jot x0 x1 (22 : Int32) v7 I6 L R) fun I9 =>
  some (I9)
  else none
  else none
set_option maxRecDepth 100000 in
set_option maxHeartbeats 4000000 in
theorem c_X10_makeSource (l : Launch) (D : va_G) (cA : Nat → ClassId) (ad : Nat → Nat) (bs : Nat) (X : State → Prop) (hAd : Ax ad bs) (hX : Stb bs X) (N : Nat) (x0 : Nat) (x1 : Nat) (I : MI) (L : ML) (R : MR) (I' : MI) (h : F_X10_makeSource N x0 x1 I L R = some (I')) : Cn l D cA ad bs X yX10_makeSource cX10_makeSource 3 none 1 24 [.ref (ad x0), .ref (ad x1)] I L R (none, I', L, R) := by
  refine Cn.ofV hAd hX [(0, .ref (ad x0)), (1, .ref (ad x1))] rfl (Nat.le_of_ble_eq_true rfl) (by decide) ?_
  intro G el eD ecA ead ebs eX erm eNL C0
  subst el eD ecA ead ebs eX
  unfold F_X10_makeSource at h
  obtain ⟨c_x0, h⟩ := ite_some h
  obtain ⟨c_x1, h⟩ := ite_some h
  refine V_aload_n C0 1 rfl rfl dX10_makeSource_0 ?_
  obtain ⟨a1, qa1, h⟩ := bnd_some h
  refine V_getR C0 8 0 fl_X10_42 c_x1.2 c_x1.1 rfl (rf_at qa1) dX10_makeSource_1 ?_
  refine V_astore_n C0 [(2, .ref (G.ad a1)), (0, .ref (G.ad x0)), (1, .ref (G.ad x1))] rfl (by rw [eNL]; decide) rfl dX10_makeSource_4 ?_
  refine V_aload_n C0 0 rfl rfl dX10_makeSource_5 ?_
  refine V_bipush C0 (v := (52 : Int32)) (by decide) dX10_makeSource_6 ?_
  refine V_aload_n C0 1 rfl rfl dX10_makeSource_8 ?_
  obtain ⟨v2, I3, q4, h⟩ := bn2_some h
  refine V_callV C0 (st := [.int (52 : Int32), .ref (G.ad a1)]) (As := []) 9 (c_X10_draw G.l G.D G.cA G.ad G.bs G.X C0.2.2.2.2.2.2.2.2.2.1 C0.2.2.2.2.2.2.2.2.2.2.2.2 x0 I L R v2 I3 q4) lc_X10_draw lk_X10_184 c_x0.2 c_x0.1 ⟨_, rfl, rfl⟩ rfl (by rw [erm]; decide) (Nat.le_of_ble_eq_true rfl) dX10_makeSource_9 ?_
  show V G _ 12 [(2, .ref (G.ad a1)), (0, .ref (G.ad x0)), (1, .ref (G.ad x1))] [.int v2, .int (52 : Int32), .ref (G.ad a1)] I3 L R
  refine V_iconst C0 (v := (3 : Int32)) (by decide) dX10_makeSource_12 ?_
  refine V_irem C0 (by decide) dX10_makeSource_13 ?_
  obtain ⟨I5, qI5, h⟩ := bnd_some h
  refine V_wi C0 (rf_lt qa1) (rf_kd qa1) qI5 dX10_makeSource_14 ?_
  refine V_aload_n C0 0 rfl rfl dX10_makeSource_15 ?_
  refine V_bipush C0 (v := (43 : Int32)) (by decide) dX10_makeSource_16 ?_
  refine V_aload_n C0 2 rfl rfl dX10_makeSource_18 ?_
  refine V_getI C0 8 4 fl_X10_200 c_x1.2 c_x1.1 rfl dX10_makeSource_19 ?_
  obtain ⟨I6, qI6, h⟩ := bnd_some h
  refine V_wi C0 (rf_lt qa1) (rf_kd qa1) qI6 dX10_makeSource_22 ?_
  refine V_aload_n C0 1 rfl rfl dX10_makeSource_23 ?_
  refine V_aload_n C0 2 rfl rfl dX10_makeSource_24 ?_
  refine V_bipush C0 (v := (22 : Int32)) (by decide) dX10_makeSource_25 ?_
  refine V_aload_n C0 2 rfl rfl dX10_makeSource_27 ?_
  obtain ⟨v7, q8, h⟩ := bn1_some h
  refine V_callV C0 (st := [.int (22 : Int32), .ref (G.ad x1), .ref (G.ad x0)]) (As := []) 8 (c_X9_mass G.l G.D G.cA G.ad G.bs G.X C0.2.2.2.2.2.2.2.2.2.1 C0.2.2.2.2.2.2.2.2.2.2.2.2 N x1 I6 L R v7 q8) lc_X9_mass lk_X10_187 c_x1.2 c_x1.1 ⟨_, rfl, rfl⟩ rfl (by rw [erm]; decide) (Nat.le_of_ble_eq_true rfl) dX10_makeSource_28 ?_
  show V G _ 31 [(2, .ref (G.ad a1)), (0, .ref (G.ad x0)), (1, .ref (G.ad x1))] [.int v7, .int (22 : Int32), .ref (G.ad x1), .ref (G.ad x0)] I6 L R
  obtain ⟨I9, q10, h⟩ := bn1_some h
  refine V_callV C0 (st := []) (As := [.ref (G.ad x1), .int (22 : Int32), .int v7]) 9 (c_X10_jot G.l G.D G.cA G.ad G.bs G.X C0.2.2.2.2.2.2.2.2.2.1 C0.2.2.2.2.2.2.2.2.2.2.2.2 x0 x1 (22 : Int32) v7 I6 L R I9 q10) lc_X10_jot lk_X10_196 c_x0.2 c_x0.1 ⟨_, rfl, rfl⟩ rfl (by rw [erm]; decide) (Nat.le_of_ble_eq_true rfl) dX10_makeSource_31 ?_
  show V G _ 34 [(2, .ref (G.ad a1)), (0, .ref (G.ad x0)), (1, .ref (G.ad x1))] [] I9 L R
  cases h
  exact V_vret C0 dX10_makeSource_34
theorem dX10_makePanel_0 : decode cX10_makePanel 0 = .ok (.aload_n 1, 1) := by decide +kernel
theorem dX10_makePanel_1 : decode cX10_makePanel 1 = .ok (.getfield 42, 3) := by decide +kernel
theorem dX10_makePanel_4 : decode cX10_makePanel 4 = .ok (.astore_n 2, 1) := by decide +kernel
theorem dX10_makePanel_5 : decode cX10_makePanel 5 = .ok (.aload_n 2, 1) := by decide +kernel
theorem dX10_makePanel_6 : decode cX10_makePanel 6 = .ok (.bipush 53, 2) := by decide +kernel
theorem dX10_makePanel_8 : decode cX10_makePanel 8 = .ok (.aload_n 2, 1) := by decide +kernel
theorem dX10_makePanel_9 : decode cX10_makePanel 9 = .ok (.bipush 52, 2) := by decide +kernel
theorem dX10_makePanel_11 : decode cX10_makePanel 11 = .ok (.iaload, 1) := by decide +kernel
theorem dX10_makePanel_12 : decode cX10_makePanel 12 = .ok (.bipush 10, 2) := by decide +kernel
theorem dX10_makePanel_14 : decode cX10_makePanel 14 = .ok (.imul, 1) := by decide +kernel
theorem dX10_makePanel_15 : decode cX10_makePanel 15 = .ok (.iastore, 1) := by decide +kernel
theorem dX10_makePanel_16 : decode cX10_makePanel 16 = .ok (.aload_n 2, 1) := by decide +kernel
theorem dX10_makePanel_17 : decode cX10_makePanel 17 = .ok (.bipush 54, 2) := by decide +kernel
theorem dX10_makePanel_19 : decode cX10_makePanel 19 = .ok (.aload_n 1, 1) := by decide +kernel
theorem dX10_makePanel_20 : decode cX10_makePanel 20 = .ok (.getfield 206, 3) := by decide +kernel
theorem dX10_makePanel_23 : decode cX10_makePanel 23 = .ok (.iastore, 1) := by decide +kernel
theorem dX10_makePanel_24 : decode cX10_makePanel 24 = .ok (.aload_n 0, 1) := by decide +kernel
theorem dX10_makePanel_25 : decode cX10_makePanel 25 = .ok (.aload_n 1, 1) := by decide +kernel
theorem dX10_makePanel_26 : decode cX10_makePanel 26 = .ok (.bipush 23, 2) := by decide +kernel
theorem dX10_makePanel_28 : decode cX10_makePanel 28 = .ok (.aload_n 2, 1) := by decide +kernel
theorem dX10_makePanel_29 : decode cX10_makePanel 29 = .ok (.bipush 53, 2) := by decide +kernel
theorem dX10_makePanel_31 : decode cX10_makePanel 31 = .ok (.iaload, 1) := by decide +kernel
theorem dX10_makePanel_32 : decode cX10_makePanel 32 = .ok (.aload_n 2, 1) := by decide +kernel
theorem dX10_makePanel_33 : decode cX10_makePanel 33 = .ok (.bipush 54, 2) := by decide +kernel
theorem dX10_makePanel_35 : decode cX10_makePanel 35 = .ok (.iaload, 1) := by decide +kernel
theorem dX10_makePanel_36 : decode cX10_makePanel 36 = .ok (.iadd, 1) := by decide +kernel
theorem dX10_makePanel_37 : decode cX10_makePanel 37 = .ok (.invokevirtual 196, 3) := by decide +kernel
theorem dX10_makePanel_40 : decode cX10_makePanel 40 = .ok (.return_, 1) := by decide +kernel
def F_X10_makePanel (x0 : Nat) (x1 : Nat) (I : MI) (L : ML) (R : MR) : Option (MI) :=
  if kd x0 = 9 ∧ x0 < NN then
  if kd x1 = 8 ∧ x1 < NN then
  (rf R x1 0 20).bind fun a1 =>
  (ri I a1 (52 : Int32)).bind fun v2 =>
  (wi I a1 (53 : Int32) (v2 * (10 : Int32))).bind fun I3 =>
  (wi I3 a1 (54 : Int32) (I3 x1 5)).bind fun I4 =>
  (ri I4 a1 (53 : Int32)).bind fun v5 =>
  (ri I4 a1 (54 : Int32)).bind fun v6 =>
  bn1 (F_X10_jot x0 x1 (23 : Int32) (v5 + v6) I4 L R) fun I7 =>
  some (I7)
  else none
  else none
set_option maxRecDepth 100000 in
set_option maxHeartbeats 4000000 in
theorem c_X10_makePanel (l : Launch) (D : va_G) (cA : Nat → ClassId) (ad : Nat → Nat) (bs : Nat) (X : State → Prop) (hAd : Ax ad bs) (hX : Stb bs X) (x0 : Nat) (x1 : Nat) (I : MI) (L : ML) (R : MR) (I' : MI) (h : F_X10_makePanel x0 x1 I L R = some (I')) : Cn l D cA ad bs X yX10_makePanel cX10_makePanel 3 none 1 24 [.ref (ad x0), .ref (ad x1)] I L R (none, I', L, R) := by
  refine Cn.ofV hAd hX [(0, .ref (ad x0)), (1, .ref (ad x1))] rfl (Nat.le_of_ble_eq_true rfl) (by decide) ?_
  intro G el eD ecA ead ebs eX erm eNL C0
  subst el eD ecA ead ebs eX
  unfold F_X10_makePanel at h
  obtain ⟨c_x0, h⟩ := ite_some h
  obtain ⟨c_x1, h⟩ := ite_some h
  refine V_aload_n C0 1 rfl rfl dX10_makePanel_0 ?_
  obtain ⟨a1, qa1, h⟩ := bnd_some h
  refine V_getR C0 8 0 fl_X10_42 c_x1.2 c_x1.1 rfl (rf_at qa1) dX10_makePanel_1 ?_
  refine V_astore_n C0 [(2, .ref (G.ad a1)), (0, .ref (G.ad x0)), (1, .ref (G.ad x1))] rfl (by rw [eNL]; decide) rfl dX10_makePanel_4 ?_
  refine V_aload_n C0 0 rfl rfl dX10_makePanel_5 ?_
  refine V_bipush C0 (v := (53 : Int32)) (by decide) dX10_makePanel_6 ?_
  refine V_aload_n C0 0 rfl rfl dX10_makePanel_8 ?_
  refine V_bipush C0 (v := (52 : Int32)) (by decide) dX10_makePanel_9 ?_
  obtain ⟨v2, qv2, h⟩ := bnd_some h
  refine V_ri C0 (rf_lt qa1) (rf_kd qa1) qv2 dX10_makePanel_11 ?_
  refine V_bipush C0 (v := (10 : Int32)) (by decide) dX10_makePanel_12 ?_
  refine V_imul C0 dX10_makePanel_14 ?_
  obtain ⟨I3, qI3, h⟩ := bnd_some h
  refine V_wi C0 (rf_lt qa1) (rf_kd qa1) qI3 dX10_makePanel_15 ?_
  refine V_aload_n C0 0 rfl rfl dX10_makePanel_16 ?_
  refine V_bipush C0 (v := (54 : Int32)) (by decide) dX10_makePanel_17 ?_
  refine V_aload_n C0 2 rfl rfl dX10_makePanel_19 ?_
  refine V_getI C0 8 5 fl_X10_206 c_x1.2 c_x1.1 rfl dX10_makePanel_20 ?_
  obtain ⟨I4, qI4, h⟩ := bnd_some h
  refine V_wi C0 (rf_lt qa1) (rf_kd qa1) qI4 dX10_makePanel_23 ?_
  refine V_aload_n C0 1 rfl rfl dX10_makePanel_24 ?_
  refine V_aload_n C0 2 rfl rfl dX10_makePanel_25 ?_
  refine V_bipush C0 (v := (23 : Int32)) (by decide) dX10_makePanel_26 ?_
  refine V_aload_n C0 0 rfl rfl dX10_makePanel_28 ?_
  refine V_bipush C0 (v := (53 : Int32)) (by decide) dX10_makePanel_29 ?_
  obtain ⟨v5, qv5, h⟩ := bnd_some h
  refine V_ri C0 (rf_lt qa1) (rf_kd qa1) qv5 dX10_makePanel_31 ?_
  refine V_aload_n C0 0 rfl rfl dX10_makePanel_32 ?_
  refine V_bipush C0 (v := (54 : Int32)) (by decide) dX10_makePanel_33 ?_
  obtain ⟨v6, qv6, h⟩ := bnd_some h
  refine V_ri C0 (rf_lt qa1) (rf_kd qa1) qv6 dX10_makePanel_35 ?_
  refine V_iadd C0 dX10_makePanel_36 ?_
  obtain ⟨I7, q8, h⟩ := bn1_some h
  refine V_callV C0 (st := []) (As := [.ref (G.ad x1), .int (23 : Int32), .int (v5 + v6)]) 9 (c_X10_jot G.l G.D G.cA G.ad G.bs G.X C0.2.2.2.2.2.2.2.2.2.1 C0.2.2.2.2.2.2.2.2.2.2.2.2 x0 x1 (23 : Int32) (v5 + v6) I4 L R I7 q8) lc_X10_jot lk_X10_196 c_x0.2 c_x0.1 ⟨_, rfl, rfl⟩ rfl (by rw [erm]; decide) (Nat.le_of_ble_eq_true rfl) dX10_makePanel_37 ?_
  show V G _ 40 [(2, .ref (G.ad a1)), (0, .ref (G.ad x0)), (1, .ref (G.ad x1))] [] I7 L R
  cases h
  exact V_vret C0 dX10_makePanel_40
theorem dX10_makeTracker_0 : decode cX10_makeTracker 0 = .ok (.aload_n 1, 1) := by decide +kernel
theorem dX10_makeTracker_1 : decode cX10_makeTracker 1 = .ok (.getfield 42, 3) := by decide +kernel
theorem dX10_makeTracker_4 : decode cX10_makeTracker 4 = .ok (.astore_n 2, 1) := by decide +kernel
theorem dX10_makeTracker_5 : decode cX10_makeTracker 5 = .ok (.aload_n 2, 1) := by decide +kernel
theorem dX10_makeTracker_6 : decode cX10_makeTracker 6 = .ok (.bipush 56, 2) := by decide +kernel
theorem dX10_makeTracker_8 : decode cX10_makeTracker 8 = .ok (.aload_n 2, 1) := by decide +kernel
theorem dX10_makeTracker_9 : decode cX10_makeTracker 9 = .ok (.bipush 54, 2) := by decide +kernel
theorem dX10_makeTracker_11 : decode cX10_makeTracker 11 = .ok (.iaload, 1) := by decide +kernel
theorem dX10_makeTracker_12 : decode cX10_makeTracker 12 = .ok (.sipush 900, 3) := by decide +kernel
theorem dX10_makeTracker_15 : decode cX10_makeTracker 15 = .ok (.imul, 1) := by decide +kernel
theorem dX10_makeTracker_16 : decode cX10_makeTracker 16 = .ok (.aload_n 2, 1) := by decide +kernel
theorem dX10_makeTracker_17 : decode cX10_makeTracker 17 = .ok (.bipush 53, 2) := by decide +kernel
theorem dX10_makeTracker_19 : decode cX10_makeTracker 19 = .ok (.iaload, 1) := by decide +kernel
theorem dX10_makeTracker_20 : decode cX10_makeTracker 20 = .ok (.iadd, 1) := by decide +kernel
theorem dX10_makeTracker_21 : decode cX10_makeTracker 21 = .ok (.sipush 3600, 3) := by decide +kernel
theorem dX10_makeTracker_24 : decode cX10_makeTracker 24 = .ok (.irem, 1) := by decide +kernel
theorem dX10_makeTracker_25 : decode cX10_makeTracker 25 = .ok (.iastore, 1) := by decide +kernel
theorem dX10_makeTracker_26 : decode cX10_makeTracker 26 = .ok (.aload_n 0, 1) := by decide +kernel
theorem dX10_makeTracker_27 : decode cX10_makeTracker 27 = .ok (.aload_n 1, 1) := by decide +kernel
theorem dX10_makeTracker_28 : decode cX10_makeTracker 28 = .ok (.bipush 24, 2) := by decide +kernel
theorem dX10_makeTracker_30 : decode cX10_makeTracker 30 = .ok (.aload_n 2, 1) := by decide +kernel
theorem dX10_makeTracker_31 : decode cX10_makeTracker 31 = .ok (.bipush 56, 2) := by decide +kernel
theorem dX10_makeTracker_33 : decode cX10_makeTracker 33 = .ok (.iaload, 1) := by decide +kernel
theorem dX10_makeTracker_34 : decode cX10_makeTracker 34 = .ok (.invokevirtual 196, 3) := by decide +kernel
theorem dX10_makeTracker_37 : decode cX10_makeTracker 37 = .ok (.return_, 1) := by decide +kernel
def F_X10_makeTracker (x0 : Nat) (x1 : Nat) (I : MI) (L : ML) (R : MR) : Option (MI) :=
  if kd x0 = 9 ∧ x0 < NN then
  if kd x1 = 8 ∧ x1 < NN then
  (rf R x1 0 20).bind fun a1 =>
  (ri I a1 (54 : Int32)).bind fun v2 =>
  (ri I a1 (53 : Int32)).bind fun v3 =>
  (wi I a1 (56 : Int32) (iR ((v2 * (900 : Int32)) + v3) (3600 : Int32))).bind fun I4 =>
  (ri I4 a1 (56 : Int32)).bind fun v5 =>
  bn1 (F_X10_jot x0 x1 (24 : Int32) v5 I4 L R) fun I6 =>
  some (I6)
  else none
  else none
set_option maxRecDepth 100000 in
set_option maxHeartbeats 4000000 in
theorem c_X10_makeTracker (l : Launch) (D : va_G) (cA : Nat → ClassId) (ad : Nat → Nat) (bs : Nat) (X : State → Prop) (hAd : Ax ad bs) (hX : Stb bs X) (x0 : Nat) (x1 : Nat) (I : MI) (L : ML) (R : MR) (I' : MI) (h : F_X10_makeTracker x0 x1 I L R = some (I')) : Cn l D cA ad bs X yX10_makeTracker cX10_makeTracker 3 none 1 24 [.ref (ad x0), .ref (ad x1)] I L R (none, I', L, R) := by
  refine Cn.ofV hAd hX [(0, .ref (ad x0)), (1, .ref (ad x1))] rfl (Nat.le_of_ble_eq_true rfl) (by decide) ?_
  intro G el eD ecA ead ebs eX erm eNL C0
  subst el eD ecA ead ebs eX
  unfold F_X10_makeTracker at h
  obtain ⟨c_x0, h⟩ := ite_some h
  obtain ⟨c_x1, h⟩ := ite_some h
  refine V_aload_n C0 1 rfl rfl dX10_makeTracker_0 ?_
  obtain ⟨a1, qa1, h⟩ := bnd_some h
  refine V_getR C0 8 0 fl_X10_42 c_x1.2 c_x1.1 rfl (rf_at qa1) dX10_makeTracker_1 ?_
  refine V_astore_n C0 [(2, .ref (G.ad a1)), (0, .ref (G.ad x0)), (1, .ref (G.ad x1))] rfl (by rw [eNL]; decide) rfl dX10_makeTracker_4 ?_
  refine V_aload_n C0 0 rfl rfl dX10_makeTracker_5 ?_
  refine V_bipush C0 (v := (56 : Int32)) (by decide) dX10_makeTracker_6 ?_
  refine V_aload_n C0 0 rfl rfl dX10_makeTracker_8 ?_
  refine V_bipush C0 (v := (54 : Int32)) (by decide) dX10_makeTracker_9 ?_
  obtain ⟨v2, qv2, h⟩ := bnd_some h
  refine V_ri C0 (rf_lt qa1) (rf_kd qa1) qv2 dX10_makeTracker_11 ?_
  refine V_sipush C0 (v := (900 : Int32)) (by decide) dX10_makeTracker_12 ?_
  refine V_imul C0 dX10_makeTracker_15 ?_
  refine V_aload_n C0 0 rfl rfl dX10_makeTracker_16 ?_
  refine V_bipush C0 (v := (53 : Int32)) (by decide) dX10_makeTracker_17 ?_
  obtain ⟨v3, qv3, h⟩ := bnd_some h
  refine V_ri C0 (rf_lt qa1) (rf_kd qa1) qv3 dX10_makeTracker_19 ?_
  refine V_iadd C0 dX10_makeTracker_20 ?_
  refine V_sipush C0 (v := (3600 : Int32)) (by decide) dX10_makeTracker_21 ?_
  refine V_irem C0 (by decide) dX10_makeTracker_24 ?_
  obtain ⟨I4, qI4, h⟩ := bnd_some h
  refine V_wi C0 (rf_lt qa1) (rf_kd qa1) qI4 dX10_makeTracker_25 ?_
  refine V_aload_n C0 1 rfl rfl dX10_makeTracker_26 ?_
  refine V_aload_n C0 2 rfl rfl dX10_makeTracker_27 ?_
  refine V_bipush C0 (v := (24 : Int32)) (by decide) dX10_makeTracker_28 ?_
  refine V_aload_n C0 0 rfl rfl dX10_makeTracker_30 ?_
  refine V_bipush C0 (v := (56 : Int32)) (by decide) dX10_makeTracker_31 ?_
  obtain ⟨v5, qv5, h⟩ := bnd_some h
  refine V_ri C0 (rf_lt qa1) (rf_kd qa1) qv5 dX10_makeTracker_33 ?_
  obtain ⟨I6, q7, h⟩ := bn1_some h
  refine V_callV C0 (st := []) (As := [.ref (G.ad x1), .int (24 : Int32), .int v5]) 9 (c_X10_jot G.l G.D G.cA G.ad G.bs G.X C0.2.2.2.2.2.2.2.2.2.1 C0.2.2.2.2.2.2.2.2.2.2.2.2 x0 x1 (24 : Int32) v5 I4 L R I6 q7) lc_X10_jot lk_X10_196 c_x0.2 c_x0.1 ⟨_, rfl, rfl⟩ rfl (by rw [erm]; decide) (Nat.le_of_ble_eq_true rfl) dX10_makeTracker_34 ?_
  show V G _ 37 [(2, .ref (G.ad a1)), (0, .ref (G.ad x0)), (1, .ref (G.ad x1))] [] I6 L R
  cases h
  exact V_vret C0 dX10_makeTracker_37
theorem dX10_makeGenerator_0 : decode cX10_makeGenerator 0 = .ok (.aload_n 1, 1) := by decide +kernel
theorem dX10_makeGenerator_1 : decode cX10_makeGenerator 1 = .ok (.getfield 42, 3) := by decide +kernel
theorem dX10_makeGenerator_4 : decode cX10_makeGenerator 4 = .ok (.astore_n 2, 1) := by decide +kernel
theorem dX10_makeGenerator_5 : decode cX10_makeGenerator 5 = .ok (.aload_n 2, 1) := by decide +kernel
theorem dX10_makeGenerator_6 : decode cX10_makeGenerator 6 = .ok (.bipush 57, 2) := by decide +kernel
theorem dX10_makeGenerator_8 : decode cX10_makeGenerator 8 = .ok (.aload_n 2, 1) := by decide +kernel
theorem dX10_makeGenerator_9 : decode cX10_makeGenerator 9 = .ok (.iconst 3, 1) := by decide +kernel
theorem dX10_makeGenerator_10 : decode cX10_makeGenerator 10 = .ok (.iaload, 1) := by decide +kernel
theorem dX10_makeGenerator_11 : decode cX10_makeGenerator 11 = .ok (.iconst 2, 1) := by decide +kernel
theorem dX10_makeGenerator_12 : decode cX10_makeGenerator 12 = .ok (.imul, 1) := by decide +kernel
theorem dX10_makeGenerator_13 : decode cX10_makeGenerator 13 = .ok (.aload_n 2, 1) := by decide +kernel
theorem dX10_makeGenerator_14 : decode cX10_makeGenerator 14 = .ok (.bipush 52, 2) := by decide +kernel
theorem dX10_makeGenerator_16 : decode cX10_makeGenerator 16 = .ok (.iaload, 1) := by decide +kernel
theorem dX10_makeGenerator_17 : decode cX10_makeGenerator 17 = .ok (.iadd, 1) := by decide +kernel
theorem dX10_makeGenerator_18 : decode cX10_makeGenerator 18 = .ok (.iastore, 1) := by decide +kernel
theorem dX10_makeGenerator_19 : decode cX10_makeGenerator 19 = .ok (.aload_n 2, 1) := by decide +kernel
theorem dX10_makeGenerator_20 : decode cX10_makeGenerator 20 = .ok (.bipush 27, 2) := by decide +kernel
theorem dX10_makeGenerator_22 : decode cX10_makeGenerator 22 = .ok (.aload_n 1, 1) := by decide +kernel
theorem dX10_makeGenerator_23 : decode cX10_makeGenerator 23 = .ok (.getfield 206, 3) := by decide +kernel
theorem dX10_makeGenerator_26 : decode cX10_makeGenerator 26 = .ok (.iastore, 1) := by decide +kernel
theorem dX10_makeGenerator_27 : decode cX10_makeGenerator 27 = .ok (.aload_n 0, 1) := by decide +kernel
theorem dX10_makeGenerator_28 : decode cX10_makeGenerator 28 = .ok (.aload_n 1, 1) := by decide +kernel
theorem dX10_makeGenerator_29 : decode cX10_makeGenerator 29 = .ok (.bipush 25, 2) := by decide +kernel
theorem dX10_makeGenerator_31 : decode cX10_makeGenerator 31 = .ok (.aload_n 2, 1) := by decide +kernel
theorem dX10_makeGenerator_32 : decode cX10_makeGenerator 32 = .ok (.bipush 57, 2) := by decide +kernel
theorem dX10_makeGenerator_34 : decode cX10_makeGenerator 34 = .ok (.iaload, 1) := by decide +kernel
theorem dX10_makeGenerator_35 : decode cX10_makeGenerator 35 = .ok (.invokevirtual 196, 3) := by decide +kernel
theorem dX10_makeGenerator_38 : decode cX10_makeGenerator 38 = .ok (.return_, 1) := by decide +kernel
def F_X10_makeGenerator (x0 : Nat) (x1 : Nat) (I : MI) (L : ML) (R : MR) : Option (MI) :=
  if kd x0 = 9 ∧ x0 < NN then
  if kd x1 = 8 ∧ x1 < NN then
  (rf R x1 0 20).bind fun a1 =>
  (ri I a1 (3 : Int32)).bind fun v2 =>
  (ri I a1 (52 : Int32)).bind fun v3 =>
  (wi I a1 (57 : Int32) ((v2 * (2 : Int32)) + v3)).bind fun I4 =>
  (wi I4 a1 (27 : Int32) (I4 x1 5)).bind fun I5 =>
  (ri I5 a1 (57 : Int32)).bind fun v6 =>
  bn1 (F_X10_jot x0 x1 (25 : Int32) v6 I5 L R) fun I7 =>
  some (I7)
  else none
  else none
set_option maxRecDepth 100000 in
set_option maxHeartbeats 4000000 in
theorem c_X10_makeGenerator (l : Launch) (D : va_G) (cA : Nat → ClassId) (ad : Nat → Nat) (bs : Nat) (X : State → Prop) (hAd : Ax ad bs) (hX : Stb bs X) (x0 : Nat) (x1 : Nat) (I : MI) (L : ML) (R : MR) (I' : MI) (h : F_X10_makeGenerator x0 x1 I L R = some (I')) : Cn l D cA ad bs X yX10_makeGenerator cX10_makeGenerator 3 none 1 24 [.ref (ad x0), .ref (ad x1)] I L R (none, I', L, R) := by
  refine Cn.ofV hAd hX [(0, .ref (ad x0)), (1, .ref (ad x1))] rfl (Nat.le_of_ble_eq_true rfl) (by decide) ?_
  intro G el eD ecA ead ebs eX erm eNL C0
  subst el eD ecA ead ebs eX
  unfold F_X10_makeGenerator at h
  obtain ⟨c_x0, h⟩ := ite_some h
  obtain ⟨c_x1, h⟩ := ite_some h
  refine V_aload_n C0 1 rfl rfl dX10_makeGenerator_0 ?_
  obtain ⟨a1, qa1, h⟩ := bnd_some h
  refine V_getR C0 8 0 fl_X10_42 c_x1.2 c_x1.1 rfl (rf_at qa1) dX10_makeGenerator_1 ?_
  refine V_astore_n C0 [(2, .ref (G.ad a1)), (0, .ref (G.ad x0)), (1, .ref (G.ad x1))] rfl (by rw [eNL]; decide) rfl dX10_makeGenerator_4 ?_
  refine V_aload_n C0 0 rfl rfl dX10_makeGenerator_5 ?_
  refine V_bipush C0 (v := (57 : Int32)) (by decide) dX10_makeGenerator_6 ?_
  refine V_aload_n C0 0 rfl rfl dX10_makeGenerator_8 ?_
  refine V_iconst C0 (v := (3 : Int32)) (by decide) dX10_makeGenerator_9 ?_
  obtain ⟨v2, qv2, h⟩ := bnd_some h
  refine V_ri C0 (rf_lt qa1) (rf_kd qa1) qv2 dX10_makeGenerator_10 ?_
  refine V_iconst C0 (v := (2 : Int32)) (by decide) dX10_makeGenerator_11 ?_
  refine V_imul C0 dX10_makeGenerator_12 ?_
  refine V_aload_n C0 0 rfl rfl dX10_makeGenerator_13 ?_
  refine V_bipush C0 (v := (52 : Int32)) (by decide) dX10_makeGenerator_14 ?_
  obtain ⟨v3, qv3, h⟩ := bnd_some h
  refine V_ri C0 (rf_lt qa1) (rf_kd qa1) qv3 dX10_makeGenerator_16 ?_
  refine V_iadd C0 dX10_makeGenerator_17 ?_
  obtain ⟨I4, qI4, h⟩ := bnd_some h
  refine V_wi C0 (rf_lt qa1) (rf_kd qa1) qI4 dX10_makeGenerator_18 ?_
  refine V_aload_n C0 0 rfl rfl dX10_makeGenerator_19 ?_
  refine V_bipush C0 (v := (27 : Int32)) (by decide) dX10_makeGenerator_20 ?_
  refine V_aload_n C0 2 rfl rfl dX10_makeGenerator_22 ?_
  refine V_getI C0 8 5 fl_X10_206 c_x1.2 c_x1.1 rfl dX10_makeGenerator_23 ?_
  obtain ⟨I5, qI5, h⟩ := bnd_some h
  refine V_wi C0 (rf_lt qa1) (rf_kd qa1) qI5 dX10_makeGenerator_26 ?_
  refine V_aload_n C0 1 rfl rfl dX10_makeGenerator_27 ?_
  refine V_aload_n C0 2 rfl rfl dX10_makeGenerator_28 ?_
  refine V_bipush C0 (v := (25 : Int32)) (by decide) dX10_makeGenerator_29 ?_
  refine V_aload_n C0 0 rfl rfl dX10_makeGenerator_31 ?_
  refine V_bipush C0 (v := (57 : Int32)) (by decide) dX10_makeGenerator_32 ?_
  obtain ⟨v6, qv6, h⟩ := bnd_some h
  refine V_ri C0 (rf_lt qa1) (rf_kd qa1) qv6 dX10_makeGenerator_34 ?_
  obtain ⟨I7, q8, h⟩ := bn1_some h
  refine V_callV C0 (st := []) (As := [.ref (G.ad x1), .int (25 : Int32), .int v6]) 9 (c_X10_jot G.l G.D G.cA G.ad G.bs G.X C0.2.2.2.2.2.2.2.2.2.1 C0.2.2.2.2.2.2.2.2.2.2.2.2 x0 x1 (25 : Int32) v6 I5 L R I7 q8) lc_X10_jot lk_X10_196 c_x0.2 c_x0.1 ⟨_, rfl, rfl⟩ rfl (by rw [erm]; decide) (Nat.le_of_ble_eq_true rfl) dX10_makeGenerator_35 ?_
  show V G _ 38 [(2, .ref (G.ad a1)), (0, .ref (G.ad x0)), (1, .ref (G.ad x1))] [] I7 L R
  cases h
  exact V_vret C0 dX10_makeGenerator_38
theorem dX10_makeLink_0 : decode cX10_makeLink 0 = .ok (.aload_n 1, 1) := by decide +kernel
theorem dX10_makeLink_1 : decode cX10_makeLink 1 = .ok (.getfield 42, 3) := by decide +kernel
theorem dX10_makeLink_4 : decode cX10_makeLink 4 = .ok (.astore_n 2, 1) := by decide +kernel
theorem dX10_makeLink_5 : decode cX10_makeLink 5 = .ok (.aload_n 2, 1) := by decide +kernel
theorem dX10_makeLink_6 : decode cX10_makeLink 6 = .ok (.bipush 58, 2) := by decide +kernel
theorem dX10_makeLink_8 : decode cX10_makeLink 8 = .ok (.aload_n 1, 1) := by decide +kernel
theorem dX10_makeLink_9 : decode cX10_makeLink 9 = .ok (.invokevirtual 190, 3) := by decide +kernel
theorem dX10_makeLink_12 : decode cX10_makeLink 12 = .ok (.aload_n 0, 1) := by decide +kernel
theorem dX10_makeLink_13 : decode cX10_makeLink 13 = .ok (.invokevirtual 184, 3) := by decide +kernel
theorem dX10_makeLink_16 : decode cX10_makeLink 16 = .ok (.iconst 2, 1) := by decide +kernel
theorem dX10_makeLink_17 : decode cX10_makeLink 17 = .ok (.irem, 1) := by decide +kernel
theorem dX10_makeLink_18 : decode cX10_makeLink 18 = .ok (.iadd, 1) := by decide +kernel
theorem dX10_makeLink_19 : decode cX10_makeLink 19 = .ok (.iastore, 1) := by decide +kernel
theorem dX10_makeLink_20 : decode cX10_makeLink 20 = .ok (.aload_n 2, 1) := by decide +kernel
theorem dX10_makeLink_21 : decode cX10_makeLink 21 = .ok (.bipush 59, 2) := by decide +kernel
theorem dX10_makeLink_23 : decode cX10_makeLink 23 = .ok (.aload_n 1, 1) := by decide +kernel
theorem dX10_makeLink_24 : decode cX10_makeLink 24 = .ok (.getfield 200, 3) := by decide +kernel
theorem dX10_makeLink_27 : decode cX10_makeLink 27 = .ok (.iastore, 1) := by decide +kernel
theorem dX10_makeLink_28 : decode cX10_makeLink 28 = .ok (.aload_n 2, 1) := by decide +kernel
theorem dX10_makeLink_29 : decode cX10_makeLink 29 = .ok (.bipush 60, 2) := by decide +kernel
theorem dX10_makeLink_31 : decode cX10_makeLink 31 = .ok (.aload_n 1, 1) := by decide +kernel
theorem dX10_makeLink_32 : decode cX10_makeLink 32 = .ok (.getfield 206, 3) := by decide +kernel
theorem dX10_makeLink_35 : decode cX10_makeLink 35 = .ok (.iastore, 1) := by decide +kernel
theorem dX10_makeLink_36 : decode cX10_makeLink 36 = .ok (.aload_n 0, 1) := by decide +kernel
theorem dX10_makeLink_37 : decode cX10_makeLink 37 = .ok (.aload_n 1, 1) := by decide +kernel
theorem dX10_makeLink_38 : decode cX10_makeLink 38 = .ok (.bipush 26, 2) := by decide +kernel
theorem dX10_makeLink_40 : decode cX10_makeLink 40 = .ok (.aload_n 2, 1) := by decide +kernel
theorem dX10_makeLink_41 : decode cX10_makeLink 41 = .ok (.bipush 58, 2) := by decide +kernel
theorem dX10_makeLink_43 : decode cX10_makeLink 43 = .ok (.iaload, 1) := by decide +kernel
theorem dX10_makeLink_44 : decode cX10_makeLink 44 = .ok (.invokevirtual 196, 3) := by decide +kernel
theorem dX10_makeLink_47 : decode cX10_makeLink 47 = .ok (.return_, 1) := by decide +kernel
def F_X10_makeLink (N : Nat) (x0 : Nat) (x1 : Nat) (I : MI) (L : ML) (R : MR) : Option (MI) :=
  if kd x0 = 9 ∧ x0 < NN then
  if kd x1 = 8 ∧ x1 < NN then
  (rf R x1 0 20).bind fun a1 =>
  bn1 (F_X9_span N x1 I L R) fun v2 =>
  bn2 (F_X10_draw x0 I L R) fun v4 I5 =>
  (wi I5 a1 (58 : Int32) (v2 + (iR v4 (2 : Int32)))).bind fun I7 =>
  (wi I7 a1 (59 : Int32) (I7 x1 4)).bind fun I8 =>
  (wi I8 a1 (60 : Int32) (I8 x1 5)).bind fun I9 =>
  (ri I9 a1 (58 : Int32)).bind fun v10 =>
  bn1 (F_X10_jot x0 x1 (26 : Int32) v10 I9 L R) fun I11 =>
  some (I11)
  else none
  else none
set_option maxRecDepth 100000 in
set_option maxHeartbeats 4000000 in
theorem c_X10_makeLink (l : Launch) (D : va_G) (cA : Nat → ClassId) (ad : Nat → Nat) (bs : Nat) (X : State → Prop) (hAd : Ax ad bs) (hX : Stb bs X) (N : Nat) (x0 : Nat) (x1 : Nat) (I : MI) (L : ML) (R : MR) (I' : MI) (h : F_X10_makeLink N x0 x1 I L R = some (I')) : Cn l D cA ad bs X yX10_makeLink cX10_makeLink 3 none 1 24 [.ref (ad x0), .ref (ad x1)] I L R (none, I', L, R) := by
  refine Cn.ofV hAd hX [(0, .ref (ad x0)), (1, .ref (ad x1))] rfl (Nat.le_of_ble_eq_true rfl) (by decide) ?_
  intro G el eD ecA ead ebs eX erm eNL C0
  subst el eD ecA ead ebs eX
  unfold F_X10_makeLink at h
  obtain ⟨c_x0, h⟩ := ite_some h
  obtain ⟨c_x1, h⟩ := ite_some h
  refine V_aload_n C0 1 rfl rfl dX10_makeLink_0 ?_
  obtain ⟨a1, qa1, h⟩ := bnd_some h
  refine V_getR C0 8 0 fl_X10_42 c_x1.2 c_x1.1 rfl (rf_at qa1) dX10_makeLink_1 ?_
  refine V_astore_n C0 [(2, .ref (G.ad a1)), (0, .ref (G.ad x0)), (1, .ref (G.ad x1))] rfl (by rw [eNL]; decide) rfl dX10_makeLink_4 ?_
  refine V_aload_n C0 0 rfl rfl dX10_makeLink_5 ?_
  refine V_bipush C0 (v := (58 : Int32)) (by decide) dX10_makeLink_6 ?_
  refine V_aload_n C0 2 rfl rfl dX10_makeLink_8 ?_
  obtain ⟨v2, q3, h⟩ := bn1_some h
  refine V_callV C0 (st := [.int (58 : Int32), .ref (G.ad a1)]) (As := []) 8 (c_X9_span G.l G.D G.cA G.ad G.bs G.X C0.2.2.2.2.2.2.2.2.2.1 C0.2.2.2.2.2.2.2.2.2.2.2.2 N x1 I L R v2 q3) lc_X9_span lk_X10_190 c_x1.2 c_x1.1 ⟨_, rfl, rfl⟩ rfl (by rw [erm]; decide) (Nat.le_of_ble_eq_true rfl) dX10_makeLink_9 ?_
  show V G _ 12 [(2, .ref (G.ad a1)), (0, .ref (G.ad x0)), (1, .ref (G.ad x1))] [.int v2, .int (58 : Int32), .ref (G.ad a1)] I L R
  refine V_aload_n C0 1 rfl rfl dX10_makeLink_12 ?_
  obtain ⟨v4, I5, q6, h⟩ := bn2_some h
  refine V_callV C0 (st := [.int v2, .int (58 : Int32), .ref (G.ad a1)]) (As := []) 9 (c_X10_draw G.l G.D G.cA G.ad G.bs G.X C0.2.2.2.2.2.2.2.2.2.1 C0.2.2.2.2.2.2.2.2.2.2.2.2 x0 I L R v4 I5 q6) lc_X10_draw lk_X10_184 c_x0.2 c_x0.1 ⟨_, rfl, rfl⟩ rfl (by rw [erm]; decide) (Nat.le_of_ble_eq_true rfl) dX10_makeLink_13 ?_
  show V G _ 16 [(2, .ref (G.ad a1)), (0, .ref (G.ad x0)), (1, .ref (G.ad x1))] [.int v4, .int v2, .int (58 : Int32), .ref (G.ad a1)] I5 L R
  refine V_iconst C0 (v := (2 : Int32)) (by decide) dX10_makeLink_16 ?_
  refine V_irem C0 (by decide) dX10_makeLink_17 ?_
  refine V_iadd C0 dX10_makeLink_18 ?_
  obtain ⟨I7, qI7, h⟩ := bnd_some h
  refine V_wi C0 (rf_lt qa1) (rf_kd qa1) qI7 dX10_makeLink_19 ?_
  refine V_aload_n C0 0 rfl rfl dX10_makeLink_20 ?_
  refine V_bipush C0 (v := (59 : Int32)) (by decide) dX10_makeLink_21 ?_
  refine V_aload_n C0 2 rfl rfl dX10_makeLink_23 ?_
  refine V_getI C0 8 4 fl_X10_200 c_x1.2 c_x1.1 rfl dX10_makeLink_24 ?_
  obtain ⟨I8, qI8, h⟩ := bnd_some h
  refine V_wi C0 (rf_lt qa1) (rf_kd qa1) qI8 dX10_makeLink_27 ?_
  refine V_aload_n C0 0 rfl rfl dX10_makeLink_28 ?_
  refine V_bipush C0 (v := (60 : Int32)) (by decide) dX10_makeLink_29 ?_
  refine V_aload_n C0 2 rfl rfl dX10_makeLink_31 ?_
  refine V_getI C0 8 5 fl_X10_206 c_x1.2 c_x1.1 rfl dX10_makeLink_32 ?_
  obtain ⟨I9, qI9, h⟩ := bnd_some h
  refine V_wi C0 (rf_lt qa1) (rf_kd qa1) qI9 dX10_makeLink_35 ?_
  refine V_aload_n C0 1 rfl rfl dX10_makeLink_36 ?_
  refine V_aload_n C0 2 rfl rfl dX10_makeLink_37 ?_
  refine V_bipush C0 (v := (26 : Int32)) (by decide) dX10_makeLink_38 ?_
  refine V_aload_n C0 0 rfl rfl dX10_makeLink_40 ?_
  refine V_bipush C0 (v := (58 : Int32)) (by decide) dX10_makeLink_41 ?_
  obtain ⟨v10, qv10, h⟩ := bnd_some h
  refine V_ri C0 (rf_lt qa1) (rf_kd qa1) qv10 dX10_makeLink_43 ?_
  obtain ⟨I11, q12, h⟩ := bn1_some h
  refine V_callV C0 (st := []) (As := [.ref (G.ad x1), .int (26 : Int32), .int v10]) 9 (c_X10_jot G.l G.D G.cA G.ad G.bs G.X C0.2.2.2.2.2.2.2.2.2.1 C0.2.2.2.2.2.2.2.2.2.2.2.2 x0 x1 (26 : Int32) v10 I9 L R I11 q12) lc_X10_jot lk_X10_196 c_x0.2 c_x0.1 ⟨_, rfl, rfl⟩ rfl (by rw [erm]; decide) (Nat.le_of_ble_eq_true rfl) dX10_makeLink_44 ?_
  show V G _ 47 [(2, .ref (G.ad a1)), (0, .ref (G.ad x0)), (1, .ref (G.ad x1))] [] I11 L R
  cases h
  exact V_vret C0 dX10_makeLink_47
theorem dX10_makePipe_0 : decode cX10_makePipe 0 = .ok (.aload_n 1, 1) := by decide +kernel
theorem dX10_makePipe_1 : decode cX10_makePipe 1 = .ok (.getfield 42, 3) := by decide +kernel
theorem dX10_makePipe_4 : decode cX10_makePipe 4 = .ok (.astore_n 2, 1) := by decide +kernel
theorem dX10_makePipe_5 : decode cX10_makePipe 5 = .ok (.aload_n 2, 1) := by decide +kernel
theorem dX10_makePipe_6 : decode cX10_makePipe 6 = .ok (.bipush 61, 2) := by decide +kernel
theorem dX10_makePipe_8 : decode cX10_makePipe 8 = .ok (.aload_n 2, 1) := by decide +kernel
theorem dX10_makePipe_9 : decode cX10_makePipe 9 = .ok (.bipush 58, 2) := by decide +kernel
theorem dX10_makePipe_11 : decode cX10_makePipe 11 = .ok (.iaload, 1) := by decide +kernel
theorem dX10_makePipe_12 : decode cX10_makePipe 12 = .ok (.iconst 2, 1) := by decide +kernel
theorem dX10_makePipe_13 : decode cX10_makePipe 13 = .ok (.iadd, 1) := by decide +kernel
theorem dX10_makePipe_14 : decode cX10_makePipe 14 = .ok (.iastore, 1) := by decide +kernel
theorem dX10_makePipe_15 : decode cX10_makePipe 15 = .ok (.aload_n 0, 1) := by decide +kernel
theorem dX10_makePipe_16 : decode cX10_makePipe 16 = .ok (.aload_n 1, 1) := by decide +kernel
theorem dX10_makePipe_17 : decode cX10_makePipe 17 = .ok (.bipush 27, 2) := by decide +kernel
theorem dX10_makePipe_19 : decode cX10_makePipe 19 = .ok (.aload_n 2, 1) := by decide +kernel
theorem dX10_makePipe_20 : decode cX10_makePipe 20 = .ok (.bipush 61, 2) := by decide +kernel
theorem dX10_makePipe_22 : decode cX10_makePipe 22 = .ok (.iaload, 1) := by decide +kernel
theorem dX10_makePipe_23 : decode cX10_makePipe 23 = .ok (.invokevirtual 196, 3) := by decide +kernel
theorem dX10_makePipe_26 : decode cX10_makePipe 26 = .ok (.return_, 1) := by decide +kernel
def F_X10_makePipe (x0 : Nat) (x1 : Nat) (I : MI) (L : ML) (R : MR) : Option (MI) :=
  if kd x0 = 9 ∧ x0 < NN then
  if kd x1 = 8 ∧ x1 < NN then
  (rf R x1 0 20).bind fun a1 =>
  (ri I a1 (58 : Int32)).bind fun v2 =>
  (wi I a1 (61 : Int32) (v2 + (2 : Int32))).bind fun I3 =>
  (ri I3 a1 (61 : Int32)).bind fun v4 =>
  bn1 (F_X10_jot x0 x1 (27 : Int32) v4 I3 L R) fun I5 =>
  some (I5)
  else none
  else none
set_option maxRecDepth 100000 in
set_option maxHeartbeats 4000000 in
theorem c_X10_makePipe (l : Launch) (D : va_G) (cA : Nat → ClassId) (ad : Nat → Nat) (bs : Nat) (X : State → Prop) (hAd : Ax ad bs) (hX : Stb bs X) (x0 : Nat) (x1 : Nat) (I : MI) (L : ML) (R : MR) (I' : MI) (h : F_X10_makePipe x0 x1 I L R = some (I')) : Cn l D cA ad bs X yX10_makePipe cX10_makePipe 3 none 1 24 [.ref (ad x0), .ref (ad x1)] I L R (none, I', L, R) := by
  refine Cn.ofV hAd hX [(0, .ref (ad x0)), (1, .ref (ad x1))] rfl (Nat.le_of_ble_eq_true rfl) (by decide) ?_
  intro G el eD ecA ead ebs eX erm eNL C0
  subst el eD ecA ead ebs eX
  unfold F_X10_makePipe at h
  obtain ⟨c_x0, h⟩ := ite_some h
  obtain ⟨c_x1, h⟩ := ite_some h
  refine V_aload_n C0 1 rfl rfl dX10_makePipe_0 ?_
  obtain ⟨a1, qa1, h⟩ := bnd_some h
  refine V_getR C0 8 0 fl_X10_42 c_x1.2 c_x1.1 rfl (rf_at qa1) dX10_makePipe_1 ?_
  refine V_astore_n C0 [(2, .ref (G.ad a1)), (0, .ref (G.ad x0)), (1, .ref (G.ad x1))] rfl (by rw [eNL]; decide) rfl dX10_makePipe_4 ?_
  refine V_aload_n C0 0 rfl rfl dX10_makePipe_5 ?_
  refine V_bipush C0 (v := (61 : Int32)) (by decide) dX10_makePipe_6 ?_
  refine V_aload_n C0 0 rfl rfl dX10_makePipe_8 ?_
  refine V_bipush C0 (v := (58 : Int32)) (by decide) dX10_makePipe_9 ?_
  obtain ⟨v2, qv2, h⟩ := bnd_some h
  refine V_ri C0 (rf_lt qa1) (rf_kd qa1) qv2 dX10_makePipe_11 ?_
  refine V_iconst C0 (v := (2 : Int32)) (by decide) dX10_makePipe_12 ?_
  refine V_iadd C0 dX10_makePipe_13 ?_
  obtain ⟨I3, qI3, h⟩ := bnd_some h
  refine V_wi C0 (rf_lt qa1) (rf_kd qa1) qI3 dX10_makePipe_14 ?_
  refine V_aload_n C0 1 rfl rfl dX10_makePipe_15 ?_
  refine V_aload_n C0 2 rfl rfl dX10_makePipe_16 ?_
  refine V_bipush C0 (v := (27 : Int32)) (by decide) dX10_makePipe_17 ?_
  refine V_aload_n C0 0 rfl rfl dX10_makePipe_19 ?_
  refine V_bipush C0 (v := (61 : Int32)) (by decide) dX10_makePipe_20 ?_
  obtain ⟨v4, qv4, h⟩ := bnd_some h
  refine V_ri C0 (rf_lt qa1) (rf_kd qa1) qv4 dX10_makePipe_22 ?_
  obtain ⟨I5, q6, h⟩ := bn1_some h
  refine V_callV C0 (st := []) (As := [.ref (G.ad x1), .int (27 : Int32), .int v4]) 9 (c_X10_jot G.l G.D G.cA G.ad G.bs G.X C0.2.2.2.2.2.2.2.2.2.1 C0.2.2.2.2.2.2.2.2.2.2.2.2 x0 x1 (27 : Int32) v4 I3 L R I5 q6) lc_X10_jot lk_X10_196 c_x0.2 c_x0.1 ⟨_, rfl, rfl⟩ rfl (by rw [erm]; decide) (Nat.le_of_ble_eq_true rfl) dX10_makePipe_23 ?_
  show V G _ 26 [(2, .ref (G.ad a1)), (0, .ref (G.ad x0)), (1, .ref (G.ad x1))] [] I5 L R
  cases h
  exact V_vret C0 dX10_makePipe_26
theorem dX10_makeHose_0 : decode cX10_makeHose 0 = .ok (.aload_n 1, 1) := by decide +kernel
theorem dX10_makeHose_1 : decode cX10_makeHose 1 = .ok (.getfield 42, 3) := by decide +kernel
theorem dX10_makeHose_4 : decode cX10_makeHose 4 = .ok (.astore_n 2, 1) := by decide +kernel
theorem dX10_makeHose_5 : decode cX10_makeHose 5 = .ok (.aload_n 2, 1) := by decide +kernel
theorem dX10_makeHose_6 : decode cX10_makeHose 6 = .ok (.bipush 61, 2) := by decide +kernel
theorem dX10_makeHose_8 : decode cX10_makeHose 8 = .ok (.aload_n 2, 1) := by decide +kernel
theorem dX10_makeHose_9 : decode cX10_makeHose 9 = .ok (.bipush 58, 2) := by decide +kernel
theorem dX10_makeHose_11 : decode cX10_makeHose 11 = .ok (.iaload, 1) := by decide +kernel
theorem dX10_makeHose_12 : decode cX10_makeHose 12 = .ok (.iastore, 1) := by decide +kernel
theorem dX10_makeHose_13 : decode cX10_makeHose 13 = .ok (.aload_n 2, 1) := by decide +kernel
theorem dX10_makeHose_14 : decode cX10_makeHose 14 = .ok (.bipush 61, 2) := by decide +kernel
theorem dX10_makeHose_16 : decode cX10_makeHose 16 = .ok (.dup2, 1) := by decide +kernel
theorem dX10_makeHose_17 : decode cX10_makeHose 17 = .ok (.iaload, 1) := by decide +kernel
theorem dX10_makeHose_18 : decode cX10_makeHose 18 = .ok (.aload_n 1, 1) := by decide +kernel
theorem dX10_makeHose_19 : decode cX10_makeHose 19 = .ok (.getfield 209, 3) := by decide +kernel
theorem dX10_makeHose_22 : decode cX10_makeHose 22 = .ok (.iadd, 1) := by decide +kernel
theorem dX10_makeHose_23 : decode cX10_makeHose 23 = .ok (.iastore, 1) := by decide +kernel
theorem dX10_makeHose_24 : decode cX10_makeHose 24 = .ok (.aload_n 0, 1) := by decide +kernel
theorem dX10_makeHose_25 : decode cX10_makeHose 25 = .ok (.aload_n 1, 1) := by decide +kernel
theorem dX10_makeHose_26 : decode cX10_makeHose 26 = .ok (.bipush 28, 2) := by decide +kernel
theorem dX10_makeHose_28 : decode cX10_makeHose 28 = .ok (.aload_n 2, 1) := by decide +kernel
theorem dX10_makeHose_29 : decode cX10_makeHose 29 = .ok (.bipush 61, 2) := by decide +kernel
theorem dX10_makeHose_31 : decode cX10_makeHose 31 = .ok (.iaload, 1) := by decide +kernel
theorem dX10_makeHose_32 : decode cX10_makeHose 32 = .ok (.aload_n 2, 1) := by decide +kernel
theorem dX10_makeHose_33 : decode cX10_makeHose 33 = .ok (.bipush 59, 2) := by decide +kernel
theorem dX10_makeHose_35 : decode cX10_makeHose 35 = .ok (.iaload, 1) := by decide +kernel
theorem dX10_makeHose_36 : decode cX10_makeHose 36 = .ok (.iadd, 1) := by decide +kernel
theorem dX10_makeHose_37 : decode cX10_makeHose 37 = .ok (.invokevirtual 196, 3) := by decide +kernel
theorem dX10_makeHose_40 : decode cX10_makeHose 40 = .ok (.return_, 1) := by decide +kernel
def F_X10_makeHose (x0 : Nat) (x1 : Nat) (I : MI) (L : ML) (R : MR) : Option (MI) :=
  if kd x0 = 9 ∧ x0 < NN then
  if kd x1 = 8 ∧ x1 < NN then
  (rf R x1 0 20).bind fun a1 =>
  (ri I a1 (58 : Int32)).bind fun v2 =>
  (wi I a1 (61 : Int32) v2).bind fun I3 =>
  (ri I3 a1 (61 : Int32)).bind fun v4 =>
  (wi I3 a1 (61 : Int32) (v4 + (I3 x1 6))).bind fun I5 =>
  (ri I5 a1 (61 : Int32)).bind fun v6 =>
  (ri I5 a1 (59 : Int32)).bind fun v7 =>
  bn1 (F_X10_jot x0 x1 (28 : Int32) (v6 + v7) I5 L R) fun I8 =>
  some (I8)
  else none
  else none
set_option maxRecDepth 100000 in
set_option maxHeartbeats 4000000 in
theorem c_X10_makeHose (l : Launch) (D : va_G) (cA : Nat → ClassId) (ad : Nat → Nat) (bs : Nat) (X : State → Prop) (hAd : Ax ad bs) (hX : Stb bs X) (x0 : Nat) (x1 : Nat) (I : MI) (L : ML) (R : MR) (I' : MI) (h : F_X10_makeHose x0 x1 I L R = some (I')) : Cn l D cA ad bs X yX10_makeHose cX10_makeHose 3 none 1 24 [.ref (ad x0), .ref (ad x1)] I L R (none, I', L, R) := by
  refine Cn.ofV hAd hX [(0, .ref (ad x0)), (1, .ref (ad x1))] rfl (Nat.le_of_ble_eq_true rfl) (by decide) ?_
  intro G el eD ecA ead ebs eX erm eNL C0
  subst el eD ecA ead ebs eX
  unfold F_X10_makeHose at h
  obtain ⟨c_x0, h⟩ := ite_some h
  obtain ⟨c_x1, h⟩ := ite_some h
  refine V_aload_n C0 1 rfl rfl dX10_makeHose_0 ?_
  obtain ⟨a1, qa1, h⟩ := bnd_some h
  refine V_getR C0 8 0 fl_X10_42 c_x1.2 c_x1.1 rfl (rf_at qa1) dX10_makeHose_1 ?_
  refine V_astore_n C0 [(2, .ref (G.ad a1)), (0, .ref (G.ad x0)), (1, .ref (G.ad x1))] rfl (by rw [eNL]; decide) rfl dX10_makeHose_4 ?_
  refine V_aload_n C0 0 rfl rfl dX10_makeHose_5 ?_
  refine V_bipush C0 (v := (61 : Int32)) (by decide) dX10_makeHose_6 ?_
  refine V_aload_n C0 0 rfl rfl dX10_makeHose_8 ?_
  refine V_bipush C0 (v := (58 : Int32)) (by decide) dX10_makeHose_9 ?_
  obtain ⟨v2, qv2, h⟩ := bnd_some h
  refine V_ri C0 (rf_lt qa1) (rf_kd qa1) qv2 dX10_makeHose_11 ?_
  obtain ⟨I3, qI3, h⟩ := bnd_some h
  refine V_wi C0 (rf_lt qa1) (rf_kd qa1) qI3 dX10_makeHose_12 ?_
  refine V_aload_n C0 0 rfl rfl dX10_makeHose_13 ?_
  refine V_bipush C0 (v := (61 : Int32)) (by decide) dX10_makeHose_14 ?_
  refine V_dup2 C0 rfl rfl dX10_makeHose_16 ?_
  obtain ⟨v4, qv4, h⟩ := bnd_some h
  refine V_ri C0 (rf_lt qa1) (rf_kd qa1) qv4 dX10_makeHose_17 ?_
  refine V_aload_n C0 2 rfl rfl dX10_makeHose_18 ?_
  refine V_getI C0 8 6 fl_X10_209 c_x1.2 c_x1.1 rfl dX10_makeHose_19 ?_
  refine V_iadd C0 dX10_makeHose_22 ?_
  obtain ⟨I5, qI5, h⟩ := bnd_some h
  refine V_wi C0 (rf_lt qa1) (rf_kd qa1) qI5 dX10_makeHose_23 ?_
  refine V_aload_n C0 1 rfl rfl dX10_makeHose_24 ?_
  refine V_aload_n C0 2 rfl rfl dX10_makeHose_25 ?_
  refine V_bipush C0 (v := (28 : Int32)) (by decide) dX10_makeHose_26 ?_
  refine V_aload_n C0 0 rfl rfl dX10_makeHose_28 ?_
  refine V_bipush C0 (v := (61 : Int32)) (by decide) dX10_makeHose_29 ?_
  obtain ⟨v6, qv6, h⟩ := bnd_some h
  refine V_ri C0 (rf_lt qa1) (rf_kd qa1) qv6 dX10_makeHose_31 ?_
  refine V_aload_n C0 0 rfl rfl dX10_makeHose_32 ?_
  refine V_bipush C0 (v := (59 : Int32)) (by decide) dX10_makeHose_33 ?_
  obtain ⟨v7, qv7, h⟩ := bnd_some h
  refine V_ri C0 (rf_lt qa1) (rf_kd qa1) qv7 dX10_makeHose_35 ?_
  refine V_iadd C0 dX10_makeHose_36 ?_
  obtain ⟨I8, q9, h⟩ := bn1_some h
  refine V_callV C0 (st := []) (As := [.ref (G.ad x1), .int (28 : Int32), .int (v6 + v7)]) 9 (c_X10_jot G.l G.D G.cA G.ad G.bs G.X C0.2.2.2.2.2.2.2.2.2.1 C0.2.2.2.2.2.2.2.2.2.2.2.2 x0 x1 (28 : Int32) (v6 + v7) I5 L R I8 q9) lc_X10_jot lk_X10_196 c_x0.2 c_x0.1 ⟨_, rfl, rfl⟩ rfl (by rw [erm]; decide) (Nat.le_of_ble_eq_true rfl) dX10_makeHose_37 ?_
  show V G _ 40 [(2, .ref (G.ad a1)), (0, .ref (G.ad x0)), (1, .ref (G.ad x1))] [] I8 L R
  cases h
  exact V_vret C0 dX10_makeHose_40
theorem dX10_make_0 : decode cX10_make 0 = .ok (.aload_n 1, 1) := by decide +kernel
theorem dX10_make_1 : decode cX10_make 1 = .ok (.iload_n 2, 1) := by decide +kernel
theorem dX10_make_2 : decode cX10_make 2 = .ok (.invokevirtual 87, 3) := by decide +kernel
theorem dX10_make_5 : decode cX10_make 5 = .ok (.iconst 0, 1) := by decide +kernel
theorem dX10_make_6 : decode cX10_make 6 = .ok (.istore_n 3, 1) := by decide +kernel
theorem dX10_make_7 : decode cX10_make 7 = .ok (.iload_n 3, 1) := by decide +kernel
theorem dX10_make_8 : decode cX10_make 8 = .ok (.aload_n 1, 1) := by decide +kernel
theorem dX10_make_9 : decode cX10_make 9 = .ok (.getfield 91, 3) := by decide +kernel
theorem dX10_make_12 : decode cX10_make 12 = .ok (.if_icmp .ge 386, 3) := by decide +kernel
theorem dX10_make_15 : decode cX10_make 15 = .ok (.iload_n 3, 1) := by decide +kernel
theorem dX10_make_16 : decode cX10_make 16 = .ok (.aload_n 1, 1) := by decide +kernel
theorem dX10_make_17 : decode cX10_make 17 = .ok (.getfield 94, 3) := by decide +kernel
theorem dX10_make_20 : decode cX10_make 20 = .ok (.arraylength, 1) := by decide +kernel
theorem dX10_make_21 : decode cX10_make 21 = .ok (.if_icmp .ge 377, 3) := by decide +kernel
theorem dX10_make_24 : decode cX10_make 24 = .ok (.aload_n 1, 1) := by decide +kernel
theorem dX10_make_25 : decode cX10_make 25 = .ok (.getfield 94, 3) := by decide +kernel
theorem dX10_make_28 : decode cX10_make 28 = .ok (.iload_n 3, 1) := by decide +kernel
theorem dX10_make_29 : decode cX10_make 29 = .ok (.iaload, 1) := by decide +kernel
theorem dX10_make_30 : decode cX10_make 30 = .ok (.tableswitch 362 0 28 #[130, 138, 146, 154, 162, 170, 178, 186, 194, 202, 210, 218, 226, 234, 242, 250, 258, 266, 274, 282, 290, 298, 306, 314, 322, 330, 338, 346, 354], 130) := by decide +kernel
theorem dX10_make_160 : decode cX10_make 160 = .ok (.aload_n 0, 1) := by decide +kernel
theorem dX10_make_161 : decode cX10_make 161 = .ok (.aload_n 1, 1) := by decide +kernel
theorem dX10_make_162 : decode cX10_make 162 = .ok (.invokevirtual 97, 3) := by decide +kernel
theorem dX10_make_165 : decode cX10_make 165 = .ok (.goto 227, 3) := by decide +kernel
theorem dX10_make_168 : decode cX10_make 168 = .ok (.aload_n 0, 1) := by decide +kernel
theorem dX10_make_169 : decode cX10_make 169 = .ok (.aload_n 1, 1) := by decide +kernel
theorem dX10_make_170 : decode cX10_make 170 = .ok (.invokevirtual 100, 3) := by decide +kernel
theorem dX10_make_173 : decode cX10_make 173 = .ok (.goto 219, 3) := by decide +kernel
theorem dX10_make_176 : decode cX10_make 176 = .ok (.aload_n 0, 1) := by decide +kernel
theorem dX10_make_177 : decode cX10_make 177 = .ok (.aload_n 1, 1) := by decide +kernel
theorem dX10_make_178 : decode cX10_make 178 = .ok (.invokevirtual 103, 3) := by decide +kernel
theorem dX10_make_181 : decode cX10_make 181 = .ok (.goto 211, 3) := by decide +kernel
theorem dX10_make_184 : decode cX10_make 184 = .ok (.aload_n 0, 1) := by decide +kernel
theorem dX10_make_185 : decode cX10_make 185 = .ok (.aload_n 1, 1) := by decide +kernel
theorem dX10_make_186 : decode cX10_make 186 = .ok (.invokevirtual 106, 3) := by decide +kernel
theorem dX10_make_189 : decode cX10_make 189 = .ok (.goto 203, 3) := by decide +kernel
theorem dX10_make_192 : decode cX10_make 192 = .ok (.aload_n 0, 1) := by decide +kernel
theorem dX10_make_193 : decode cX10_make 193 = .ok (.aload_n 1, 1) := by decide +kernel
theorem dX10_make_194 : decode cX10_make 194 = .ok (.invokevirtual 109, 3) := by decide +kernel
theorem dX10_make_197 : decode cX10_make 197 = .ok (.goto 195, 3) := by decide +kernel
theorem dX10_make_200 : decode cX10_make 200 = .ok (.aload_n 0, 1) := by decide +kernel
theorem dX10_make_201 : decode cX10_make 201 = .ok (.aload_n 1, 1) := by decide +kernel
theorem dX10_make_202 : decode cX10_make 202 = .ok (.invokevirtual 112, 3) := by decide +kernel
theorem dX10_make_205 : decode cX10_make 205 = .ok (.goto 187, 3) := by decide +kernel
theorem dX10_make_208 : decode cX10_make 208 = .ok (.aload_n 0, 1) := by decide +kernel
theorem dX10_make_209 : decode cX10_make 209 = .ok (.aload_n 1, 1) := by decide +kernel
theorem dX10_make_210 : decode cX10_make 210 = .ok (.invokevirtual 115, 3) := by decide +kernel
theorem dX10_make_213 : decode cX10_make 213 = .ok (.goto 179, 3) := by decide +kernel
theorem dX10_make_216 : decode cX10_make 216 = .ok (.aload_n 0, 1) := by decide +kernel
theorem dX10_make_217 : decode cX10_make 217 = .ok (.aload_n 1, 1) := by decide +kernel
theorem dX10_make_218 : decode cX10_make 218 = .ok (.invokevirtual 118, 3) := by decide +kernel
theorem dX10_make_221 : decode cX10_make 221 = .ok (.goto 171, 3) := by decide +kernel
theorem dX10_make_224 : decode cX10_make 224 = .ok (.aload_n 0, 1) := by decide +kernel
theorem dX10_make_225 : decode cX10_make 225 = .ok (.aload_n 1, 1) := by decide +kernel
theorem dX10_make_226 : decode cX10_make 226 = .ok (.invokevirtual 121, 3) := by decide +kernel
theorem dX10_make_229 : decode cX10_make 229 = .ok (.goto 163, 3) := by decide +kernel
theorem dX10_make_232 : decode cX10_make 232 = .ok (.aload_n 0, 1) := by decide +kernel
theorem dX10_make_233 : decode cX10_make 233 = .ok (.aload_n 1, 1) := by decide +kernel
theorem dX10_make_234 : decode cX10_make 234 = .ok (.invokevirtual 124, 3) := by decide +kernel
theorem dX10_make_237 : decode cX10_make 237 = .ok (.goto 155, 3) := by decide +kernel
theorem dX10_make_240 : decode cX10_make 240 = .ok (.aload_n 0, 1) := by decide +kernel
theorem dX10_make_241 : decode cX10_make 241 = .ok (.aload_n 1, 1) := by decide +kernel
theorem dX10_make_242 : decode cX10_make 242 = .ok (.invokevirtual 127, 3) := by decide +kernel
theorem dX10_make_245 : decode cX10_make 245 = .ok (.goto 147, 3) := by decide +kernel
theorem dX10_make_248 : decode cX10_make 248 = .ok (.aload_n 0, 1) := by decide +kernel
theorem dX10_make_249 : decode cX10_make 249 = .ok (.aload_n 1, 1) := by decide +kernel
theorem dX10_make_250 : decode cX10_make 250 = .ok (.invokevirtual 130, 3) := by decide +kernel
theorem dX10_make_253 : decode cX10_make 253 = .ok (.goto 139, 3) := by decide +kernel
theorem dX10_make_256 : decode cX10_make 256 = .ok (.aload_n 0, 1) := by decide +kernel
theorem dX10_make_257 : decode cX10_make 257 = .ok (.aload_n 1, 1) := by decide +kernel
theorem dX10_make_258 : decode cX10_make 258 = .ok (.invokevirtual 133, 3) := by decide +kernel
theorem dX10_make_261 : decode cX10_make 261 = .ok (.goto 131, 3) := by decide +kernel
theorem dX10_make_264 : decode cX10_make 264 = .ok (.aload_n 0, 1) := by decide +kernel
theorem dX10_make_265 : decode cX10_make 265 = .ok (.aload_n 1, 1) := by decide +kernel
theorem dX10_make_266 : decode cX10_make 266 = .ok (.invokevirtual 136, 3) := by decide +kernel
theorem dX10_make_269 : decode cX10_make 269 = .ok (.goto 123, 3) := by decide +kernel
theorem dX10_make_272 : decode cX10_make 272 = .ok (.aload_n 0, 1) := by decide +kernel
theorem dX10_make_273 : decode cX10_make 273 = .ok (.aload_n 1, 1) := by decide +kernel
theorem dX10_make_274 : decode cX10_make 274 = .ok (.invokevirtual 139, 3) := by decide +kernel
theorem dX10_make_277 : decode cX10_make 277 = .ok (.goto 115, 3) := by decide +kernel
theorem dX10_make_280 : decode cX10_make 280 = .ok (.aload_n 0, 1) := by decide +kernel
theorem dX10_make_281 : decode cX10_make 281 = .ok (.aload_n 1, 1) := by decide +kernel
theorem dX10_make_282 : decode cX10_make 282 = .ok (.invokevirtual 142, 3) := by decide +kernel
theorem dX10_make_285 : decode cX10_make 285 = .ok (.goto 107, 3) := by decide +kernel
theorem dX10_make_288 : decode cX10_make 288 = .ok (.aload_n 0, 1) := by decide +kernel
theorem dX10_make_289 : decode cX10_make 289 = .ok (.aload_n 1, 1) := by decide +kernel
theorem dX10_make_290 : decode cX10_make 290 = .ok (.invokevirtual 145, 3) := by decide +kernel
theorem dX10_make_293 : decode cX10_make 293 = .ok (.goto 99, 3) := by decide +kernel
theorem dX10_make_296 : decode cX10_make 296 = .ok (.aload_n 0, 1) := by decide +kernel
theorem dX10_make_297 : decode cX10_make 297 = .ok (.aload_n 1, 1) := by decide +kernel
theorem dX10_make_298 : decode cX10_make 298 = .ok (.invokevirtual 148, 3) := by decide +kernel
theorem dX10_make_301 : decode cX10_make 301 = .ok (.goto 91, 3) := by decide +kernel
theorem dX10_make_304 : decode cX10_make 304 = .ok (.aload_n 0, 1) := by decide +kernel
theorem dX10_make_305 : decode cX10_make 305 = .ok (.aload_n 1, 1) := by decide +kernel
theorem dX10_make_306 : decode cX10_make 306 = .ok (.invokevirtual 151, 3) := by decide +kernel
theorem dX10_make_309 : decode cX10_make 309 = .ok (.goto 83, 3) := by decide +kernel
theorem dX10_make_312 : decode cX10_make 312 = .ok (.aload_n 0, 1) := by decide +kernel
theorem dX10_make_313 : decode cX10_make 313 = .ok (.aload_n 1, 1) := by decide +kernel
theorem dX10_make_314 : decode cX10_make 314 = .ok (.invokevirtual 154, 3) := by decide +kernel
theorem dX10_make_317 : decode cX10_make 317 = .ok (.goto 75, 3) := by decide +kernel
theorem dX10_make_320 : decode cX10_make 320 = .ok (.aload_n 0, 1) := by decide +kernel
theorem dX10_make_321 : decode cX10_make 321 = .ok (.aload_n 1, 1) := by decide +kernel
theorem dX10_make_322 : decode cX10_make 322 = .ok (.invokevirtual 157, 3) := by decide +kernel
theorem dX10_make_325 : decode cX10_make 325 = .ok (.goto 67, 3) := by decide +kernel
theorem dX10_make_328 : decode cX10_make 328 = .ok (.aload_n 0, 1) := by decide +kernel
theorem dX10_make_329 : decode cX10_make 329 = .ok (.aload_n 1, 1) := by decide +kernel
theorem dX10_make_330 : decode cX10_make 330 = .ok (.invokevirtual 160, 3) := by decide +kernel
theorem dX10_make_333 : decode cX10_make 333 = .ok (.goto 59, 3) := by decide +kernel
theorem dX10_make_336 : decode cX10_make 336 = .ok (.aload_n 0, 1) := by decide +kernel
theorem dX10_make_337 : decode cX10_make 337 = .ok (.aload_n 1, 1) := by decide +kernel
theorem dX10_make_338 : decode cX10_make 338 = .ok (.invokevirtual 163, 3) := by decide +kernel
theorem dX10_make_341 : decode cX10_make 341 = .ok (.goto 51, 3) := by decide +kernel
theorem dX10_make_344 : decode cX10_make 344 = .ok (.aload_n 0, 1) := by decide +kernel
theorem dX10_make_345 : decode cX10_make 345 = .ok (.aload_n 1, 1) := by decide +kernel
theorem dX10_make_346 : decode cX10_make 346 = .ok (.invokevirtual 166, 3) := by decide +kernel
theorem dX10_make_349 : decode cX10_make 349 = .ok (.goto 43, 3) := by decide +kernel
theorem dX10_make_352 : decode cX10_make 352 = .ok (.aload_n 0, 1) := by decide +kernel
theorem dX10_make_353 : decode cX10_make 353 = .ok (.aload_n 1, 1) := by decide +kernel
theorem dX10_make_354 : decode cX10_make 354 = .ok (.invokevirtual 169, 3) := by decide +kernel
theorem dX10_make_357 : decode cX10_make 357 = .ok (.goto 35, 3) := by decide +kernel
theorem dX10_make_360 : decode cX10_make 360 = .ok (.aload_n 0, 1) := by decide +kernel
theorem dX10_make_361 : decode cX10_make 361 = .ok (.aload_n 1, 1) := by decide +kernel
theorem dX10_make_362 : decode cX10_make 362 = .ok (.invokevirtual 172, 3) := by decide +kernel
theorem dX10_make_365 : decode cX10_make 365 = .ok (.goto 27, 3) := by decide +kernel
theorem dX10_make_368 : decode cX10_make 368 = .ok (.aload_n 0, 1) := by decide +kernel
theorem dX10_make_369 : decode cX10_make 369 = .ok (.aload_n 1, 1) := by decide +kernel
theorem dX10_make_370 : decode cX10_make 370 = .ok (.invokevirtual 175, 3) := by decide +kernel
theorem dX10_make_373 : decode cX10_make 373 = .ok (.goto 19, 3) := by decide +kernel
theorem dX10_make_376 : decode cX10_make 376 = .ok (.aload_n 0, 1) := by decide +kernel
theorem dX10_make_377 : decode cX10_make 377 = .ok (.aload_n 1, 1) := by decide +kernel
theorem dX10_make_378 : decode cX10_make 378 = .ok (.invokevirtual 178, 3) := by decide +kernel
theorem dX10_make_381 : decode cX10_make 381 = .ok (.goto 11, 3) := by decide +kernel
theorem dX10_make_384 : decode cX10_make 384 = .ok (.aload_n 0, 1) := by decide +kernel
theorem dX10_make_385 : decode cX10_make 385 = .ok (.aload_n 1, 1) := by decide +kernel
theorem dX10_make_386 : decode cX10_make 386 = .ok (.invokevirtual 181, 3) := by decide +kernel
theorem dX10_make_389 : decode cX10_make 389 = .ok (.goto 3, 3) := by decide +kernel
theorem dX10_make_392 : decode cX10_make 392 = .ok (.iinc 3 1, 3) := by decide +kernel
theorem dX10_make_395 : decode cX10_make 395 = .ok (.goto (-388), 3) := by decide +kernel
theorem dX10_make_398 : decode cX10_make 398 = .ok (.return_, 1) := by decide +kernel
def LF_X10_make_7 (N : Nat) : Nat → Nat → Nat → Int32 → MI → ML → MR → Option (MI)
  | 0, _, _, _, _, _, _ => none
  | k + 1, y0, y1, y3, I, L, R =>
    if (I y1 7) ≤ y3 then
      some (I)
    else
      (rf R y1 1 20).bind fun a4 =>
      if (Int32.ofNat (ln a4)) ≤ y3 then
        some (I)
      else
        (ri I a4 y3).bind fun v6 =>
        bn1 (
          if v6 = (0 : Int32) then
            bn1 (F_X10_makeUnit N y0 y1 I L R) fun I12 =>
            some (I12)
          else
            if v6 = (1 : Int32) then
              bn1 (F_X10_makeStore N y0 y1 I L R) fun I15 =>
              some (I15)
            else
              if v6 = (2 : Int32) then
                bn1 (F_X10_makeBattery N y0 y1 I L R) fun I18 =>
                some (I18)
              else
                if v6 = (3 : Int32) then
                  bn1 (F_X10_makeCellpack N y0 y1 I L R) fun I21 =>
                  some (I21)
                else
                  if v6 = (4 : Int32) then
                    bn1 (F_X10_makeTank y0 y1 I L R) fun I24 =>
                    some (I24)
                  else
                    if v6 = (5 : Int32) then
                      bn1 (F_X10_makeRecorder N y0 y1 I L R) fun I27 =>
                      some (I27)
                    else
                      if v6 = (6 : Int32) then
                        bn1 (F_X10_makeLoad N y0 y1 I L R) fun I30 =>
                        some (I30)
                      else
                        if v6 = (7 : Int32) then
                          bn1 (F_X10_makeHeater N y0 y1 I L R) fun I33 =>
                          some (I33)
                        else
                          if v6 = (8 : Int32) then
                            bn1 (F_X10_makeThermo N y0 y1 I L R) fun I36 =>
                            some (I36)
                          else
                            if v6 = (9 : Int32) then
                              bn1 (F_X10_makeSensor N y0 y1 I L R) fun I39 =>
                              some (I39)
                            else
                              if v6 = (10 : Int32) then
                                bn1 (F_X10_makeGyro N y0 y1 I L R) fun I42 =>
                                some (I42)
                              else
                                if v6 = (11 : Int32) then
                                  bn1 (F_X10_makeFinegyro N y0 y1 I L R) fun I45 =>
                                  some (I45)
                                else
                                  if v6 = (12 : Int32) then
                                    bn1 (F_X10_makeSuneye y0 y1 I L R) fun I48 =>
                                    some (I48)
                                  else
                                    if v6 = (13 : Int32) then
                                      bn1 (F_X10_makeProbe y0 y1 I L R) fun I51 =>
                                      some (I51)
                                    else
                                      if v6 = (14 : Int32) then
                                        bn1 (F_X10_makeCamera y0 y1 I L R) fun I54 =>
                                        some (I54)
                                      else
                                        if v6 = (15 : Int32) then
                                          bn1 (F_X10_makeActuator N y0 y1 I L R) fun I57 =>
                                          some (I57)
                                        else
                                          if v6 = (16 : Int32) then
                                            bn1 (F_X10_makeWheel y0 y1 I L R) fun I60 =>
                                            some (I60)
                                          else
                                            if v6 = (17 : Int32) then
                                              bn1 (F_X10_makeCoil N y0 y1 I L R) fun I63 =>
                                              some (I63)
                                            else
                                              if v6 = (18 : Int32) then
                                                bn1 (F_X10_makeJet N y0 y1 I L R) fun I66 =>
                                                some (I66)
                                              else
                                                if v6 = (19 : Int32) then
                                                  bn1 (F_X10_makePulser N y0 y1 I L R) fun I69 =>
                                                  some (I69)
                                                else
                                                  if v6 = (20 : Int32) then
                                                    bn1 (F_X10_makeRadio y0 y1 I L R) fun I72 =>
                                                    some (I72)
                                                  else
                                                    if v6 = (21 : Int32) then
                                                      bn1 (F_X10_makeBeacon y0 y1 I L R) fun I75 =>
                                                      some (I75)
                                                    else
                                                      if v6 = (22 : Int32) then
                                                        bn1 (F_X10_makeSource N y0 y1 I L R) fun I78 =>
                                                        some (I78)
                                                      else
                                                        if v6 = (23 : Int32) then
                                                          bn1 (F_X10_makePanel y0 y1 I L R) fun I81 =>
                                                          some (I81)
                                                        else
                                                          if v6 = (24 : Int32) then
                                                            bn1 (F_X10_makeTracker y0 y1 I L R) fun I84 =>
                                                            some (I84)
                                                          else
                                                            if v6 = (25 : Int32) then
                                                              bn1 (F_X10_makeGenerator y0 y1 I L R) fun I87 =>
                                                              some (I87)
                                                            else
                                                              if v6 = (26 : Int32) then
                                                                bn1 (F_X10_makeLink N y0 y1 I L R) fun I90 =>
                                                                some (I90)
                                                              else
                                                                if v6 = (27 : Int32) then
                                                                  bn1 (F_X10_makePipe y0 y1 I L R) fun I93 =>
                                                                  some (I93)
                                                                else
                                                                  if v6 = (28 : Int32) then
                                                                    bn1 (F_X10_makeHose y0 y1 I L R) fun I96 =>
                                                                    some (I96)
                                                                  else
                                                                    some (I)
        ) fun (I7 : MI) =>
        wr (y3 + (1 : Int32)) fun (u98 : Int32) =>
        LF_X10_make_7 N k y0 y1 u98 I7 L R
def F_X10_make (N : Nat) (x0 : Nat) (x1 : Nat) (x2 : Int32) (I : MI) (L : ML) (R : MR) : Option (MI) :=
  if kd x0 = 9 ∧ x0 < NN then
  if kd x1 = 8 ∧ x1 < NN then
  bn1 (F_X9_clear N x1 x2 I L R) fun I1 =>
  bn1 (LF_X10_make_7 N N x0 x1 (0 : Int32) I1 L R) fun z99 =>
  some (z99)
  else none
  else none
set_option maxRecDepth 100000 in
set_option maxHeartbeats 4000000 in
theorem lp_X10_make_7 {G : Gm} (C0 : Cx G (yX10_make.cls) cX10_make none) (eNL : G.nL = 4) (erm : G.rm = ({ frames := 2, cells := 0, slots := 0, locals := 46 } : Room)) (N : Nat) : ∀ (k : Nat) (y0 : Nat) (y1 : Nat) (y3 : Int32) (I : MI) (L : ML) (R : MR) (z : MI) (hk0 : kd y0 = 9) (ho0 : y0 < NN) (hk1 : kd y1 = 8) (ho1 : y1 < NN), LF_X10_make_7 N k y0 y1 y3 I L R = some z → ∀ f : State → Prop, V G f 398 [] [] z L R → V G f 7 [(0, .ref (G.ad y0)), (1, .ref (G.ad y1)), (3, .int y3)] [] I L R := by
  intro k
  induction k with
  | zero =>
    intro y0 y1 y3 I L R q hk0 ho0 hk1 ho1 h
    exact absurd h (by simp [LF_X10_make_7])
  | succ k ih =>
    intro y0 y1 y3 I L R q hk0 ho0 hk1 ho1 h f kx
    rw [LF_X10_make_7] at h
    refine V_iload_n C0 2 rfl rfl dX10_make_7 ?_
    refine V_aload_n C0 1 rfl rfl dX10_make_8 ?_
    refine V_getI C0 8 7 fl_X10_91 ho1 hk1 rfl dX10_make_9 ?_
    refine V_icmp_ge C0 (tgt := 398) (by decide) dX10_make_12 (fun c3 => ?_) (fun c3 => ?_)
    · have h := (if_pos c3).symm.trans h
      cases h
      exact V_sub [] rfl kx
    · have h := (if_neg c3).symm.trans h
      refine V_iload_n C0 2 rfl rfl dX10_make_15 ?_
      refine V_aload_n C0 1 rfl rfl dX10_make_16 ?_
      obtain ⟨a4, qa4, h⟩ := bnd_some h
      refine V_getR C0 8 1 fl_X10_94 ho1 hk1 rfl (rf_at qa4) dX10_make_17 ?_
      refine V_alen C0 (v := Int32.ofNat (ln a4)) (rf_lt qa4) (by rw [(rf_kd qa4)]; decide) rfl dX10_make_20 ?_
      refine V_icmp_ge C0 (tgt := 398) (by decide) dX10_make_21 (fun c5 => ?_) (fun c5 => ?_)
      · have h := (if_pos c5).symm.trans h
        cases h
        exact V_sub [] rfl kx
      · have h := (if_neg c5).symm.trans h
        refine V_aload_n C0 1 rfl rfl dX10_make_24 ?_
        refine V_getR C0 8 1 fl_X10_94 ho1 hk1 rfl (rf_at qa4) dX10_make_25 ?_
        refine V_iload_n C0 2 rfl rfl dX10_make_28 ?_
        obtain ⟨v6, qv6, h⟩ := bnd_some h
        refine V_ri C0 (rf_lt qa4) (rf_kd qa4) qv6 dX10_make_29 ?_
        obtain ⟨I7, q8, h⟩ := bn1_some h
        have k9 : V G f 392 [(0, .ref (G.ad y0)), (1, .ref (G.ad y1)), (3, .int y3)] [] I7 L R := by
          obtain ⟨u98, eu98, h⟩ := wr_some h
          refine V_iinc C0 2 [(3, .int u98), (0, .ref (G.ad y0)), (1, .ref (G.ad y1))] rfl (n := 1) (by rw [eu98]; rfl) (by rw [eNL]; decide) rfl dX10_make_392 ?_
          refine V_goto C0 (tgt := 7) (by decide) dX10_make_395 ?_
          exact V_sub [1, 2, 0] rfl (ih y0 y1 u98 I7 L R _ hk0 ho0 hk1 ho1 h f kx)
        have nd10 := nd_0 v6
        by_cases c11 : v6 = (0 : Int32)
        · have q8 := (if_pos c11).symm.trans q8
          refine V_tableC C0 (tgt := 160) (v := (0 : Int32)) c11 (by decide) (by decide) dX10_make_30 ?_
          refine V_aload_n C0 0 rfl rfl dX10_make_160 ?_
          refine V_aload_n C0 1 rfl rfl dX10_make_161 ?_
          obtain ⟨I12, q13, q8⟩ := bn1_some q8
          refine V_callV C0 (st := []) (As := [.ref (G.ad y1)]) 9 (c_X10_makeUnit G.l G.D G.cA G.ad G.bs G.X C0.2.2.2.2.2.2.2.2.2.1 C0.2.2.2.2.2.2.2.2.2.2.2.2 N y0 y1 I L R I12 q13) lc_X10_makeUnit lk_X10_97 ho0 hk0 ⟨_, rfl, rfl⟩ rfl (by rw [erm]; decide) (Nat.le_of_ble_eq_true rfl) dX10_make_162 ?_
          show V G _ 165 [(0, .ref (G.ad y0)), (1, .ref (G.ad y1)), (3, .int y3)] [] I12 L R
          refine V_goto C0 (tgt := 392) (by decide) dX10_make_165 ?_
          cases q8
          exact V_sub [0, 1, 2] rfl k9
        · have q8 := (if_neg c11).symm.trans q8
          have nd10 := nd_add nd10 c11
          by_cases c14 : v6 = (1 : Int32)
          · have q8 := (if_pos c14).symm.trans q8
            refine V_tableC C0 (tgt := 168) (v := (1 : Int32)) c14 (by decide) (by decide) dX10_make_30 ?_
            refine V_aload_n C0 0 rfl rfl dX10_make_168 ?_
            refine V_aload_n C0 1 rfl rfl dX10_make_169 ?_
            obtain ⟨I15, q16, q8⟩ := bn1_some q8
            refine V_callV C0 (st := []) (As := [.ref (G.ad y1)]) 9 (c_X10_makeStore G.l G.D G.cA G.ad G.bs G.X C0.2.2.2.2.2.2.2.2.2.1 C0.2.2.2.2.2.2.2.2.2.2.2.2 N y0 y1 I L R I15 q16) lc_X10_makeStore lk_X10_100 ho0 hk0 ⟨_, rfl, rfl⟩ rfl (by rw [erm]; decide) (Nat.le_of_ble_eq_true rfl) dX10_make_170 ?_
            show V G _ 173 [(0, .ref (G.ad y0)), (1, .ref (G.ad y1)), (3, .int y3)] [] I15 L R
            refine V_goto C0 (tgt := 392) (by decide) dX10_make_173 ?_
            cases q8
            exact V_sub [0, 1, 2] rfl k9
          · have q8 := (if_neg c14).symm.trans q8
            have nd10 := nd_add nd10 c14
            by_cases c17 : v6 = (2 : Int32)
            · have q8 := (if_pos c17).symm.trans q8
              refine V_tableC C0 (tgt := 176) (v := (2 : Int32)) c17 (by decide) (by decide) dX10_make_30 ?_
              refine V_aload_n C0 0 rfl rfl dX10_make_176 ?_
              refine V_aload_n C0 1 rfl rfl dX10_make_177 ?_
              obtain ⟨I18, q19, q8⟩ := bn1_some q8
              refine V_callV C0 (st := []) (As := [.ref (G.ad y1)]) 9 (c_X10_makeBattery G.l G.D G.cA G.ad G.bs G.X C0.2.2.2.2.2.2.2.2.2.1 C0.2.2.2.2.2.2.2.2.2.2.2.2 N y0 y1 I L R I18 q19) lc_X10_makeBattery lk_X10_103 ho0 hk0 ⟨_, rfl, rfl⟩ rfl (by rw [erm]; decide) (Nat.le_of_ble_eq_true rfl) dX10_make_178 ?_
              show V G _ 181 [(0, .ref (G.ad y0)), (1, .ref (G.ad y1)), (3, .int y3)] [] I18 L R
              refine V_goto C0 (tgt := 392) (by decide) dX10_make_181 ?_
              cases q8
              exact V_sub [0, 1, 2] rfl k9
            · have q8 := (if_neg c17).symm.trans q8
              have nd10 := nd_add nd10 c17
              by_cases c20 : v6 = (3 : Int32)
              · have q8 := (if_pos c20).symm.trans q8
                refine V_tableC C0 (tgt := 184) (v := (3 : Int32)) c20 (by decide) (by decide) dX10_make_30 ?_
                refine V_aload_n C0 0 rfl rfl dX10_make_184 ?_
                refine V_aload_n C0 1 rfl rfl dX10_make_185 ?_
                obtain ⟨I21, q22, q8⟩ := bn1_some q8
                refine V_callV C0 (st := []) (As := [.ref (G.ad y1)]) 9 (c_X10_makeCellpack G.l G.D G.cA G.ad G.bs G.X C0.2.2.2.2.2.2.2.2.2.1 C0.2.2.2.2.2.2.2.2.2.2.2.2 N y0 y1 I L R I21 q22) lc_X10_makeCellpack lk_X10_106 ho0 hk0 ⟨_, rfl, rfl⟩ rfl (by rw [erm]; decide) (Nat.le_of_ble_eq_true rfl) dX10_make_186 ?_
                show V G _ 189 [(0, .ref (G.ad y0)), (1, .ref (G.ad y1)), (3, .int y3)] [] I21 L R
                refine V_goto C0 (tgt := 392) (by decide) dX10_make_189 ?_
                cases q8
                exact V_sub [0, 1, 2] rfl k9
              · have q8 := (if_neg c20).symm.trans q8
                have nd10 := nd_add nd10 c20
                by_cases c23 : v6 = (4 : Int32)
                · have q8 := (if_pos c23).symm.trans q8
                  refine V_tableC C0 (tgt := 192) (v := (4 : Int32)) c23 (by decide) (by decide) dX10_make_30 ?_
                  refine V_aload_n C0 0 rfl rfl dX10_make_192 ?_
                  refine V_aload_n C0 1 rfl rfl dX10_make_193 ?_
                  obtain ⟨I24, q25, q8⟩ := bn1_some q8
                  refine V_callV C0 (st := []) (As := [.ref (G.ad y1)]) 9 (c_X10_makeTank G.l G.D G.cA G.ad G.bs G.X C0.2.2.2.2.2.2.2.2.2.1 C0.2.2.2.2.2.2.2.2.2.2.2.2 y0 y1 I L R I24 q25) lc_X10_makeTank lk_X10_109 ho0 hk0 ⟨_, rfl, rfl⟩ rfl (by rw [erm]; decide) (Nat.le_of_ble_eq_true rfl) dX10_make_194 ?_
                  show V G _ 197 [(0, .ref (G.ad y0)), (1, .ref (G.ad y1)), (3, .int y3)] [] I24 L R
                  refine V_goto C0 (tgt := 392) (by decide) dX10_make_197 ?_
                  cases q8
                  exact V_sub [0, 1, 2] rfl k9
                · have q8 := (if_neg c23).symm.trans q8
                  have nd10 := nd_add nd10 c23
                  by_cases c26 : v6 = (5 : Int32)
                  · have q8 := (if_pos c26).symm.trans q8
                    refine V_tableC C0 (tgt := 200) (v := (5 : Int32)) c26 (by decide) (by decide) dX10_make_30 ?_
                    refine V_aload_n C0 0 rfl rfl dX10_make_200 ?_
                    refine V_aload_n C0 1 rfl rfl dX10_make_201 ?_
                    obtain ⟨I27, q28, q8⟩ := bn1_some q8
                    refine V_callV C0 (st := []) (As := [.ref (G.ad y1)]) 9 (c_X10_makeRecorder G.l G.D G.cA G.ad G.bs G.X C0.2.2.2.2.2.2.2.2.2.1 C0.2.2.2.2.2.2.2.2.2.2.2.2 N y0 y1 I L R I27 q28) lc_X10_makeRecorder lk_X10_112 ho0 hk0 ⟨_, rfl, rfl⟩ rfl (by rw [erm]; decide) (Nat.le_of_ble_eq_true rfl) dX10_make_202 ?_
                    show V G _ 205 [(0, .ref (G.ad y0)), (1, .ref (G.ad y1)), (3, .int y3)] [] I27 L R
                    refine V_goto C0 (tgt := 392) (by decide) dX10_make_205 ?_
                    cases q8
                    exact V_sub [0, 1, 2] rfl k9
                  · have q8 := (if_neg c26).symm.trans q8
                    have nd10 := nd_add nd10 c26
                    by_cases c29 : v6 = (6 : Int32)
                    · have q8 := (if_pos c29).symm.trans q8
                      refine V_tableC C0 (tgt := 208) (v := (6 : Int32)) c29 (by decide) (by decide) dX10_make_30 ?_
                      refine V_aload_n C0 0 rfl rfl dX10_make_208 ?_
                      refine V_aload_n C0 1 rfl rfl dX10_make_209 ?_
                      obtain ⟨I30, q31, q8⟩ := bn1_some q8
                      refine V_callV C0 (st := []) (As := [.ref (G.ad y1)]) 9 (c_X10_makeLoad G.l G.D G.cA G.ad G.bs G.X C0.2.2.2.2.2.2.2.2.2.1 C0.2.2.2.2.2.2.2.2.2.2.2.2 N y0 y1 I L R I30 q31) lc_X10_makeLoad lk_X10_115 ho0 hk0 ⟨_, rfl, rfl⟩ rfl (by rw [erm]; decide) (Nat.le_of_ble_eq_true rfl) dX10_make_210 ?_
                      show V G _ 213 [(0, .ref (G.ad y0)), (1, .ref (G.ad y1)), (3, .int y3)] [] I30 L R
                      refine V_goto C0 (tgt := 392) (by decide) dX10_make_213 ?_
                      cases q8
                      exact V_sub [0, 1, 2] rfl k9
                    · have q8 := (if_neg c29).symm.trans q8
                      have nd10 := nd_add nd10 c29
                      by_cases c32 : v6 = (7 : Int32)
                      · have q8 := (if_pos c32).symm.trans q8
                        refine V_tableC C0 (tgt := 216) (v := (7 : Int32)) c32 (by decide) (by decide) dX10_make_30 ?_
                        refine V_aload_n C0 0 rfl rfl dX10_make_216 ?_
                        refine V_aload_n C0 1 rfl rfl dX10_make_217 ?_
                        obtain ⟨I33, q34, q8⟩ := bn1_some q8
                        refine V_callV C0 (st := []) (As := [.ref (G.ad y1)]) 9 (c_X10_makeHeater G.l G.D G.cA G.ad G.bs G.X C0.2.2.2.2.2.2.2.2.2.1 C0.2.2.2.2.2.2.2.2.2.2.2.2 N y0 y1 I L R I33 q34) lc_X10_makeHeater lk_X10_118 ho0 hk0 ⟨_, rfl, rfl⟩ rfl (by rw [erm]; decide) (Nat.le_of_ble_eq_true rfl) dX10_make_218 ?_
                        show V G _ 221 [(0, .ref (G.ad y0)), (1, .ref (G.ad y1)), (3, .int y3)] [] I33 L R
                        refine V_goto C0 (tgt := 392) (by decide) dX10_make_221 ?_
                        cases q8
                        exact V_sub [0, 1, 2] rfl k9
                      · have q8 := (if_neg c32).symm.trans q8
                        have nd10 := nd_add nd10 c32
                        by_cases c35 : v6 = (8 : Int32)
                        · have q8 := (if_pos c35).symm.trans q8
                          refine V_tableC C0 (tgt := 224) (v := (8 : Int32)) c35 (by decide) (by decide) dX10_make_30 ?_
                          refine V_aload_n C0 0 rfl rfl dX10_make_224 ?_
                          refine V_aload_n C0 1 rfl rfl dX10_make_225 ?_
                          obtain ⟨I36, q37, q8⟩ := bn1_some q8
                          refine V_callV C0 (st := []) (As := [.ref (G.ad y1)]) 9 (c_X10_makeThermo G.l G.D G.cA G.ad G.bs G.X C0.2.2.2.2.2.2.2.2.2.1 C0.2.2.2.2.2.2.2.2.2.2.2.2 N y0 y1 I L R I36 q37) lc_X10_makeThermo lk_X10_121 ho0 hk0 ⟨_, rfl, rfl⟩ rfl (by rw [erm]; decide) (Nat.le_of_ble_eq_true rfl) dX10_make_226 ?_
                          show V G _ 229 [(0, .ref (G.ad y0)), (1, .ref (G.ad y1)), (3, .int y3)] [] I36 L R
                          refine V_goto C0 (tgt := 392) (by decide) dX10_make_229 ?_
                          cases q8
                          exact V_sub [0, 1, 2] rfl k9
                        · have q8 := (if_neg c35).symm.trans q8
                          have nd10 := nd_add nd10 c35
                          by_cases c38 : v6 = (9 : Int32)
                          · have q8 := (if_pos c38).symm.trans q8
                            refine V_tableC C0 (tgt := 232) (v := (9 : Int32)) c38 (by decide) (by decide) dX10_make_30 ?_
                            refine V_aload_n C0 0 rfl rfl dX10_make_232 ?_
                            refine V_aload_n C0 1 rfl rfl dX10_make_233 ?_
                            obtain ⟨I39, q40, q8⟩ := bn1_some q8
                            refine V_callV C0 (st := []) (As := [.ref (G.ad y1)]) 9 (c_X10_makeSensor G.l G.D G.cA G.ad G.bs G.X C0.2.2.2.2.2.2.2.2.2.1 C0.2.2.2.2.2.2.2.2.2.2.2.2 N y0 y1 I L R I39 q40) lc_X10_makeSensor lk_X10_124 ho0 hk0 ⟨_, rfl, rfl⟩ rfl (by rw [erm]; decide) (Nat.le_of_ble_eq_true rfl) dX10_make_234 ?_
                            show V G _ 237 [(0, .ref (G.ad y0)), (1, .ref (G.ad y1)), (3, .int y3)] [] I39 L R
                            refine V_goto C0 (tgt := 392) (by decide) dX10_make_237 ?_
                            cases q8
                            exact V_sub [0, 1, 2] rfl k9
                          · have q8 := (if_neg c38).symm.trans q8
                            have nd10 := nd_add nd10 c38
                            by_cases c41 : v6 = (10 : Int32)
                            · have q8 := (if_pos c41).symm.trans q8
                              refine V_tableC C0 (tgt := 240) (v := (10 : Int32)) c41 (by decide) (by decide) dX10_make_30 ?_
                              refine V_aload_n C0 0 rfl rfl dX10_make_240 ?_
                              refine V_aload_n C0 1 rfl rfl dX10_make_241 ?_
                              obtain ⟨I42, q43, q8⟩ := bn1_some q8
                              refine V_callV C0 (st := []) (As := [.ref (G.ad y1)]) 9 (c_X10_makeGyro G.l G.D G.cA G.ad G.bs G.X C0.2.2.2.2.2.2.2.2.2.1 C0.2.2.2.2.2.2.2.2.2.2.2.2 N y0 y1 I L R I42 q43) lc_X10_makeGyro lk_X10_127 ho0 hk0 ⟨_, rfl, rfl⟩ rfl (by rw [erm]; decide) (Nat.le_of_ble_eq_true rfl) dX10_make_242 ?_
                              show V G _ 245 [(0, .ref (G.ad y0)), (1, .ref (G.ad y1)), (3, .int y3)] [] I42 L R
                              refine V_goto C0 (tgt := 392) (by decide) dX10_make_245 ?_
                              cases q8
                              exact V_sub [0, 1, 2] rfl k9
                            · have q8 := (if_neg c41).symm.trans q8
                              have nd10 := nd_add nd10 c41
                              by_cases c44 : v6 = (11 : Int32)
                              · have q8 := (if_pos c44).symm.trans q8
                                refine V_tableC C0 (tgt := 248) (v := (11 : Int32)) c44 (by decide) (by decide) dX10_make_30 ?_
                                refine V_aload_n C0 0 rfl rfl dX10_make_248 ?_
                                refine V_aload_n C0 1 rfl rfl dX10_make_249 ?_
                                obtain ⟨I45, q46, q8⟩ := bn1_some q8
                                refine V_callV C0 (st := []) (As := [.ref (G.ad y1)]) 9 (c_X10_makeFinegyro G.l G.D G.cA G.ad G.bs G.X C0.2.2.2.2.2.2.2.2.2.1 C0.2.2.2.2.2.2.2.2.2.2.2.2 N y0 y1 I L R I45 q46) lc_X10_makeFinegyro lk_X10_130 ho0 hk0 ⟨_, rfl, rfl⟩ rfl (by rw [erm]; decide) (Nat.le_of_ble_eq_true rfl) dX10_make_250 ?_
                                show V G _ 253 [(0, .ref (G.ad y0)), (1, .ref (G.ad y1)), (3, .int y3)] [] I45 L R
                                refine V_goto C0 (tgt := 392) (by decide) dX10_make_253 ?_
                                cases q8
                                exact V_sub [0, 1, 2] rfl k9
                              · have q8 := (if_neg c44).symm.trans q8
                                have nd10 := nd_add nd10 c44
                                by_cases c47 : v6 = (12 : Int32)
                                · have q8 := (if_pos c47).symm.trans q8
                                  refine V_tableC C0 (tgt := 256) (v := (12 : Int32)) c47 (by decide) (by decide) dX10_make_30 ?_
                                  refine V_aload_n C0 0 rfl rfl dX10_make_256 ?_
                                  refine V_aload_n C0 1 rfl rfl dX10_make_257 ?_
                                  obtain ⟨I48, q49, q8⟩ := bn1_some q8
                                  refine V_callV C0 (st := []) (As := [.ref (G.ad y1)]) 9 (c_X10_makeSuneye G.l G.D G.cA G.ad G.bs G.X C0.2.2.2.2.2.2.2.2.2.1 C0.2.2.2.2.2.2.2.2.2.2.2.2 y0 y1 I L R I48 q49) lc_X10_makeSuneye lk_X10_133 ho0 hk0 ⟨_, rfl, rfl⟩ rfl (by rw [erm]; decide) (Nat.le_of_ble_eq_true rfl) dX10_make_258 ?_
                                  show V G _ 261 [(0, .ref (G.ad y0)), (1, .ref (G.ad y1)), (3, .int y3)] [] I48 L R
                                  refine V_goto C0 (tgt := 392) (by decide) dX10_make_261 ?_
                                  cases q8
                                  exact V_sub [0, 1, 2] rfl k9
                                · have q8 := (if_neg c47).symm.trans q8
                                  have nd10 := nd_add nd10 c47
                                  by_cases c50 : v6 = (13 : Int32)
                                  · have q8 := (if_pos c50).symm.trans q8
                                    refine V_tableC C0 (tgt := 264) (v := (13 : Int32)) c50 (by decide) (by decide) dX10_make_30 ?_
                                    refine V_aload_n C0 0 rfl rfl dX10_make_264 ?_
                                    refine V_aload_n C0 1 rfl rfl dX10_make_265 ?_
                                    obtain ⟨I51, q52, q8⟩ := bn1_some q8
                                    refine V_callV C0 (st := []) (As := [.ref (G.ad y1)]) 9 (c_X10_makeProbe G.l G.D G.cA G.ad G.bs G.X C0.2.2.2.2.2.2.2.2.2.1 C0.2.2.2.2.2.2.2.2.2.2.2.2 y0 y1 I L R I51 q52) lc_X10_makeProbe lk_X10_136 ho0 hk0 ⟨_, rfl, rfl⟩ rfl (by rw [erm]; decide) (Nat.le_of_ble_eq_true rfl) dX10_make_266 ?_
                                    show V G _ 269 [(0, .ref (G.ad y0)), (1, .ref (G.ad y1)), (3, .int y3)] [] I51 L R
                                    refine V_goto C0 (tgt := 392) (by decide) dX10_make_269 ?_
                                    cases q8
                                    exact V_sub [0, 1, 2] rfl k9
                                  · have q8 := (if_neg c50).symm.trans q8
                                    have nd10 := nd_add nd10 c50
                                    by_cases c53 : v6 = (14 : Int32)
                                    · have q8 := (if_pos c53).symm.trans q8
                                      refine V_tableC C0 (tgt := 272) (v := (14 : Int32)) c53 (by decide) (by decide) dX10_make_30 ?_
                                      refine V_aload_n C0 0 rfl rfl dX10_make_272 ?_
                                      refine V_aload_n C0 1 rfl rfl dX10_make_273 ?_
                                      obtain ⟨I54, q55, q8⟩ := bn1_some q8
                                      refine V_callV C0 (st := []) (As := [.ref (G.ad y1)]) 9 (c_X10_makeCamera G.l G.D G.cA G.ad G.bs G.X C0.2.2.2.2.2.2.2.2.2.1 C0.2.2.2.2.2.2.2.2.2.2.2.2 y0 y1 I L R I54 q55) lc_X10_makeCamera lk_X10_139 ho0 hk0 ⟨_, rfl, rfl⟩ rfl (by rw [erm]; decide) (Nat.le_of_ble_eq_true rfl) dX10_make_274 ?_
                                      show V G _ 277 [(0, .ref (G.ad y0)), (1, .ref (G.ad y1)), (3, .int y3)] [] I54 L R
                                      refine V_goto C0 (tgt := 392) (by decide) dX10_make_277 ?_
                                      cases q8
                                      exact V_sub [0, 1, 2] rfl k9
                                    · have q8 := (if_neg c53).symm.trans q8
                                      have nd10 := nd_add nd10 c53
                                      by_cases c56 : v6 = (15 : Int32)
                                      · have q8 := (if_pos c56).symm.trans q8
                                        refine V_tableC C0 (tgt := 280) (v := (15 : Int32)) c56 (by decide) (by decide) dX10_make_30 ?_
                                        refine V_aload_n C0 0 rfl rfl dX10_make_280 ?_
                                        refine V_aload_n C0 1 rfl rfl dX10_make_281 ?_
                                        obtain ⟨I57, q58, q8⟩ := bn1_some q8
                                        refine V_callV C0 (st := []) (As := [.ref (G.ad y1)]) 9 (c_X10_makeActuator G.l G.D G.cA G.ad G.bs G.X C0.2.2.2.2.2.2.2.2.2.1 C0.2.2.2.2.2.2.2.2.2.2.2.2 N y0 y1 I L R I57 q58) lc_X10_makeActuator lk_X10_142 ho0 hk0 ⟨_, rfl, rfl⟩ rfl (by rw [erm]; decide) (Nat.le_of_ble_eq_true rfl) dX10_make_282 ?_
                                        show V G _ 285 [(0, .ref (G.ad y0)), (1, .ref (G.ad y1)), (3, .int y3)] [] I57 L R
                                        refine V_goto C0 (tgt := 392) (by decide) dX10_make_285 ?_
                                        cases q8
                                        exact V_sub [0, 1, 2] rfl k9
                                      · have q8 := (if_neg c56).symm.trans q8
                                        have nd10 := nd_add nd10 c56
                                        by_cases c59 : v6 = (16 : Int32)
                                        · have q8 := (if_pos c59).symm.trans q8
                                          refine V_tableC C0 (tgt := 288) (v := (16 : Int32)) c59 (by decide) (by decide) dX10_make_30 ?_
                                          refine V_aload_n C0 0 rfl rfl dX10_make_288 ?_
                                          refine V_aload_n C0 1 rfl rfl dX10_make_289 ?_
                                          obtain ⟨I60, q61, q8⟩ := bn1_some q8
                                          refine V_callV C0 (st := []) (As := [.ref (G.ad y1)]) 9 (c_X10_makeWheel G.l G.D G.cA G.ad G.bs G.X C0.2.2.2.2.2.2.2.2.2.1 C0.2.2.2.2.2.2.2.2.2.2.2.2 y0 y1 I L R I60 q61) lc_X10_makeWheel lk_X10_145 ho0 hk0 ⟨_, rfl, rfl⟩ rfl (by rw [erm]; decide) (Nat.le_of_ble_eq_true rfl) dX10_make_290 ?_
                                          show V G _ 293 [(0, .ref (G.ad y0)), (1, .ref (G.ad y1)), (3, .int y3)] [] I60 L R
                                          refine V_goto C0 (tgt := 392) (by decide) dX10_make_293 ?_
                                          cases q8
                                          exact V_sub [0, 1, 2] rfl k9
                                        · have q8 := (if_neg c59).symm.trans q8
                                          have nd10 := nd_add nd10 c59
                                          by_cases c62 : v6 = (17 : Int32)
                                          · have q8 := (if_pos c62).symm.trans q8
                                            refine V_tableC C0 (tgt := 296) (v := (17 : Int32)) c62 (by decide) (by decide) dX10_make_30 ?_
                                            refine V_aload_n C0 0 rfl rfl dX10_make_296 ?_
                                            refine V_aload_n C0 1 rfl rfl dX10_make_297 ?_
                                            obtain ⟨I63, q64, q8⟩ := bn1_some q8
                                            refine V_callV C0 (st := []) (As := [.ref (G.ad y1)]) 9 (c_X10_makeCoil G.l G.D G.cA G.ad G.bs G.X C0.2.2.2.2.2.2.2.2.2.1 C0.2.2.2.2.2.2.2.2.2.2.2.2 N y0 y1 I L R I63 q64) lc_X10_makeCoil lk_X10_148 ho0 hk0 ⟨_, rfl, rfl⟩ rfl (by rw [erm]; decide) (Nat.le_of_ble_eq_true rfl) dX10_make_298 ?_
                                            show V G _ 301 [(0, .ref (G.ad y0)), (1, .ref (G.ad y1)), (3, .int y3)] [] I63 L R
                                            refine V_goto C0 (tgt := 392) (by decide) dX10_make_301 ?_
                                            cases q8
                                            exact V_sub [0, 1, 2] rfl k9
                                          · have q8 := (if_neg c62).symm.trans q8
                                            have nd10 := nd_add nd10 c62
                                            by_cases c65 : v6 = (18 : Int32)
                                            · have q8 := (if_pos c65).symm.trans q8
                                              refine V_tableC C0 (tgt := 304) (v := (18 : Int32)) c65 (by decide) (by decide) dX10_make_30 ?_
                                              refine V_aload_n C0 0 rfl rfl dX10_make_304 ?_
                                              refine V_aload_n C0 1 rfl rfl dX10_make_305 ?_
                                              obtain ⟨I66, q67, q8⟩ := bn1_some q8
                                              refine V_callV C0 (st := []) (As := [.ref (G.ad y1)]) 9 (c_X10_makeJet G.l G.D G.cA G.ad G.bs G.X C0.2.2.2.2.2.2.2.2.2.1 C0.2.2.2.2.2.2.2.2.2.2.2.2 N y0 y1 I L R I66 q67) lc_X10_makeJet lk_X10_151 ho0 hk0 ⟨_, rfl, rfl⟩ rfl (by rw [erm]; decide) (Nat.le_of_ble_eq_true rfl) dX10_make_306 ?_
                                              show V G _ 309 [(0, .ref (G.ad y0)), (1, .ref (G.ad y1)), (3, .int y3)] [] I66 L R
                                              refine V_goto C0 (tgt := 392) (by decide) dX10_make_309 ?_
                                              cases q8
                                              exact V_sub [0, 1, 2] rfl k9
                                            · have q8 := (if_neg c65).symm.trans q8
                                              have nd10 := nd_add nd10 c65
                                              by_cases c68 : v6 = (19 : Int32)
                                              · have q8 := (if_pos c68).symm.trans q8
                                                refine V_tableC C0 (tgt := 312) (v := (19 : Int32)) c68 (by decide) (by decide) dX10_make_30 ?_
                                                refine V_aload_n C0 0 rfl rfl dX10_make_312 ?_
                                                refine V_aload_n C0 1 rfl rfl dX10_make_313 ?_
                                                obtain ⟨I69, q70, q8⟩ := bn1_some q8
                                                refine V_callV C0 (st := []) (As := [.ref (G.ad y1)]) 9 (c_X10_makePulser G.l G.D G.cA G.ad G.bs G.X C0.2.2.2.2.2.2.2.2.2.1 C0.2.2.2.2.2.2.2.2.2.2.2.2 N y0 y1 I L R I69 q70) lc_X10_makePulser lk_X10_154 ho0 hk0 ⟨_, rfl, rfl⟩ rfl (by rw [erm]; decide) (Nat.le_of_ble_eq_true rfl) dX10_make_314 ?_
                                                show V G _ 317 [(0, .ref (G.ad y0)), (1, .ref (G.ad y1)), (3, .int y3)] [] I69 L R
                                                refine V_goto C0 (tgt := 392) (by decide) dX10_make_317 ?_
                                                cases q8
                                                exact V_sub [0, 1, 2] rfl k9
                                              · have q8 := (if_neg c68).symm.trans q8
                                                have nd10 := nd_add nd10 c68
                                                by_cases c71 : v6 = (20 : Int32)
                                                · have q8 := (if_pos c71).symm.trans q8
                                                  refine V_tableC C0 (tgt := 320) (v := (20 : Int32)) c71 (by decide) (by decide) dX10_make_30 ?_
                                                  refine V_aload_n C0 0 rfl rfl dX10_make_320 ?_
                                                  refine V_aload_n C0 1 rfl rfl dX10_make_321 ?_
                                                  obtain ⟨I72, q73, q8⟩ := bn1_some q8
                                                  refine V_callV C0 (st := []) (As := [.ref (G.ad y1)]) 9 (c_X10_makeRadio G.l G.D G.cA G.ad G.bs G.X C0.2.2.2.2.2.2.2.2.2.1 C0.2.2.2.2.2.2.2.2.2.2.2.2 y0 y1 I L R I72 q73) lc_X10_makeRadio lk_X10_157 ho0 hk0 ⟨_, rfl, rfl⟩ rfl (by rw [erm]; decide) (Nat.le_of_ble_eq_true rfl) dX10_make_322 ?_
                                                  show V G _ 325 [(0, .ref (G.ad y0)), (1, .ref (G.ad y1)), (3, .int y3)] [] I72 L R
                                                  refine V_goto C0 (tgt := 392) (by decide) dX10_make_325 ?_
                                                  cases q8
                                                  exact V_sub [0, 1, 2] rfl k9
                                                · have q8 := (if_neg c71).symm.trans q8
                                                  have nd10 := nd_add nd10 c71
                                                  by_cases c74 : v6 = (21 : Int32)
                                                  · have q8 := (if_pos c74).symm.trans q8
                                                    refine V_tableC C0 (tgt := 328) (v := (21 : Int32)) c74 (by decide) (by decide) dX10_make_30 ?_
                                                    refine V_aload_n C0 0 rfl rfl dX10_make_328 ?_
                                                    refine V_aload_n C0 1 rfl rfl dX10_make_329 ?_
                                                    obtain ⟨I75, q76, q8⟩ := bn1_some q8
                                                    refine V_callV C0 (st := []) (As := [.ref (G.ad y1)]) 9 (c_X10_makeBeacon G.l G.D G.cA G.ad G.bs G.X C0.2.2.2.2.2.2.2.2.2.1 C0.2.2.2.2.2.2.2.2.2.2.2.2 y0 y1 I L R I75 q76) lc_X10_makeBeacon lk_X10_160 ho0 hk0 ⟨_, rfl, rfl⟩ rfl (by rw [erm]; decide) (Nat.le_of_ble_eq_true rfl) dX10_make_330 ?_
                                                    show V G _ 333 [(0, .ref (G.ad y0)), (1, .ref (G.ad y1)), (3, .int y3)] [] I75 L R
                                                    refine V_goto C0 (tgt := 392) (by decide) dX10_make_333 ?_
                                                    cases q8
                                                    exact V_sub [0, 1, 2] rfl k9
                                                  · have q8 := (if_neg c74).symm.trans q8
                                                    have nd10 := nd_add nd10 c74
                                                    by_cases c77 : v6 = (22 : Int32)
                                                    · have q8 := (if_pos c77).symm.trans q8
                                                      refine V_tableC C0 (tgt := 336) (v := (22 : Int32)) c77 (by decide) (by decide) dX10_make_30 ?_
                                                      refine V_aload_n C0 0 rfl rfl dX10_make_336 ?_
                                                      refine V_aload_n C0 1 rfl rfl dX10_make_337 ?_
                                                      obtain ⟨I78, q79, q8⟩ := bn1_some q8
                                                      refine V_callV C0 (st := []) (As := [.ref (G.ad y1)]) 9 (c_X10_makeSource G.l G.D G.cA G.ad G.bs G.X C0.2.2.2.2.2.2.2.2.2.1 C0.2.2.2.2.2.2.2.2.2.2.2.2 N y0 y1 I L R I78 q79) lc_X10_makeSource lk_X10_163 ho0 hk0 ⟨_, rfl, rfl⟩ rfl (by rw [erm]; decide) (Nat.le_of_ble_eq_true rfl) dX10_make_338 ?_
                                                      show V G _ 341 [(0, .ref (G.ad y0)), (1, .ref (G.ad y1)), (3, .int y3)] [] I78 L R
                                                      refine V_goto C0 (tgt := 392) (by decide) dX10_make_341 ?_
                                                      cases q8
                                                      exact V_sub [0, 1, 2] rfl k9
                                                    · have q8 := (if_neg c77).symm.trans q8
                                                      have nd10 := nd_add nd10 c77
                                                      by_cases c80 : v6 = (23 : Int32)
                                                      · have q8 := (if_pos c80).symm.trans q8
                                                        refine V_tableC C0 (tgt := 344) (v := (23 : Int32)) c80 (by decide) (by decide) dX10_make_30 ?_
                                                        refine V_aload_n C0 0 rfl rfl dX10_make_344 ?_
                                                        refine V_aload_n C0 1 rfl rfl dX10_make_345 ?_
                                                        obtain ⟨I81, q82, q8⟩ := bn1_some q8
                                                        refine V_callV C0 (st := []) (As := [.ref (G.ad y1)]) 9 (c_X10_makePanel G.l G.D G.cA G.ad G.bs G.X C0.2.2.2.2.2.2.2.2.2.1 C0.2.2.2.2.2.2.2.2.2.2.2.2 y0 y1 I L R I81 q82) lc_X10_makePanel lk_X10_166 ho0 hk0 ⟨_, rfl, rfl⟩ rfl (by rw [erm]; decide) (Nat.le_of_ble_eq_true rfl) dX10_make_346 ?_
                                                        show V G _ 349 [(0, .ref (G.ad y0)), (1, .ref (G.ad y1)), (3, .int y3)] [] I81 L R
                                                        refine V_goto C0 (tgt := 392) (by decide) dX10_make_349 ?_
                                                        cases q8
                                                        exact V_sub [0, 1, 2] rfl k9
                                                      · have q8 := (if_neg c80).symm.trans q8
                                                        have nd10 := nd_add nd10 c80
                                                        by_cases c83 : v6 = (24 : Int32)
                                                        · have q8 := (if_pos c83).symm.trans q8
                                                          refine V_tableC C0 (tgt := 352) (v := (24 : Int32)) c83 (by decide) (by decide) dX10_make_30 ?_
                                                          refine V_aload_n C0 0 rfl rfl dX10_make_352 ?_
                                                          refine V_aload_n C0 1 rfl rfl dX10_make_353 ?_
                                                          obtain ⟨I84, q85, q8⟩ := bn1_some q8
                                                          refine V_callV C0 (st := []) (As := [.ref (G.ad y1)]) 9 (c_X10_makeTracker G.l G.D G.cA G.ad G.bs G.X C0.2.2.2.2.2.2.2.2.2.1 C0.2.2.2.2.2.2.2.2.2.2.2.2 y0 y1 I L R I84 q85) lc_X10_makeTracker lk_X10_169 ho0 hk0 ⟨_, rfl, rfl⟩ rfl (by rw [erm]; decide) (Nat.le_of_ble_eq_true rfl) dX10_make_354 ?_
                                                          show V G _ 357 [(0, .ref (G.ad y0)), (1, .ref (G.ad y1)), (3, .int y3)] [] I84 L R
                                                          refine V_goto C0 (tgt := 392) (by decide) dX10_make_357 ?_
                                                          cases q8
                                                          exact V_sub [0, 1, 2] rfl k9
                                                        · have q8 := (if_neg c83).symm.trans q8
                                                          have nd10 := nd_add nd10 c83
                                                          by_cases c86 : v6 = (25 : Int32)
                                                          · have q8 := (if_pos c86).symm.trans q8
                                                            refine V_tableC C0 (tgt := 360) (v := (25 : Int32)) c86 (by decide) (by decide) dX10_make_30 ?_
                                                            refine V_aload_n C0 0 rfl rfl dX10_make_360 ?_
                                                            refine V_aload_n C0 1 rfl rfl dX10_make_361 ?_
                                                            obtain ⟨I87, q88, q8⟩ := bn1_some q8
                                                            refine V_callV C0 (st := []) (As := [.ref (G.ad y1)]) 9 (c_X10_makeGenerator G.l G.D G.cA G.ad G.bs G.X C0.2.2.2.2.2.2.2.2.2.1 C0.2.2.2.2.2.2.2.2.2.2.2.2 y0 y1 I L R I87 q88) lc_X10_makeGenerator lk_X10_172 ho0 hk0 ⟨_, rfl, rfl⟩ rfl (by rw [erm]; decide) (Nat.le_of_ble_eq_true rfl) dX10_make_362 ?_
                                                            show V G _ 365 [(0, .ref (G.ad y0)), (1, .ref (G.ad y1)), (3, .int y3)] [] I87 L R
                                                            refine V_goto C0 (tgt := 392) (by decide) dX10_make_365 ?_
                                                            cases q8
                                                            exact V_sub [0, 1, 2] rfl k9
                                                          · have q8 := (if_neg c86).symm.trans q8
                                                            have nd10 := nd_add nd10 c86
                                                            by_cases c89 : v6 = (26 : Int32)
                                                            · have q8 := (if_pos c89).symm.trans q8
                                                              refine V_tableC C0 (tgt := 368) (v := (26 : Int32)) c89 (by decide) (by decide) dX10_make_30 ?_
                                                              refine V_aload_n C0 0 rfl rfl dX10_make_368 ?_
                                                              refine V_aload_n C0 1 rfl rfl dX10_make_369 ?_
                                                              obtain ⟨I90, q91, q8⟩ := bn1_some q8
                                                              refine V_callV C0 (st := []) (As := [.ref (G.ad y1)]) 9 (c_X10_makeLink G.l G.D G.cA G.ad G.bs G.X C0.2.2.2.2.2.2.2.2.2.1 C0.2.2.2.2.2.2.2.2.2.2.2.2 N y0 y1 I L R I90 q91) lc_X10_makeLink lk_X10_175 ho0 hk0 ⟨_, rfl, rfl⟩ rfl (by rw [erm]; decide) (Nat.le_of_ble_eq_true rfl) dX10_make_370 ?_
                                                              show V G _ 373 [(0, .ref (G.ad y0)), (1, .ref (G.ad y1)), (3, .int y3)] [] I90 L R
                                                              refine V_goto C0 (tgt := 392) (by decide) dX10_make_373 ?_
                                                              cases q8
                                                              exact V_sub [0, 1, 2] rfl k9
                                                            · have q8 := (if_neg c89).symm.trans q8
                                                              have nd10 := nd_add nd10 c89
                                                              by_cases c92 : v6 = (27 : Int32)
                                                              · have q8 := (if_pos c92).symm.trans q8
                                                                refine V_tableC C0 (tgt := 376) (v := (27 : Int32)) c92 (by decide) (by decide) dX10_make_30 ?_
                                                                refine V_aload_n C0 0 rfl rfl dX10_make_376 ?_
                                                                refine V_aload_n C0 1 rfl rfl dX10_make_377 ?_
                                                                obtain ⟨I93, q94, q8⟩ := bn1_some q8
                                                                refine V_callV C0 (st := []) (As := [.ref (G.ad y1)]) 9 (c_X10_makePipe G.l G.D G.cA G.ad G.bs G.X C0.2.2.2.2.2.2.2.2.2.1 C0.2.2.2.2.2.2.2.2.2.2.2.2 y0 y1 I L R I93 q94) lc_X10_makePipe lk_X10_178 ho0 hk0 ⟨_, rfl, rfl⟩ rfl (by rw [erm]; decide) (Nat.le_of_ble_eq_true rfl) dX10_make_378 ?_
                                                                show V G _ 381 [(0, .ref (G.ad y0)), (1, .ref (G.ad y1)), (3, .int y3)] [] I93 L R
                                                                refine V_goto C0 (tgt := 392) (by decide) dX10_make_381 ?_
                                                                cases q8
                                                                exact V_sub [0, 1, 2] rfl k9
                                                              · have q8 := (if_neg c92).symm.trans q8
                                                                have nd10 := nd_add nd10 c92
                                                                by_cases c95 : v6 = (28 : Int32)
                                                                · have q8 := (if_pos c95).symm.trans q8
                                                                  refine V_tableC C0 (tgt := 384) (v := (28 : Int32)) c95 (by decide) (by decide) dX10_make_30 ?_
                                                                  refine V_aload_n C0 0 rfl rfl dX10_make_384 ?_
                                                                  refine V_aload_n C0 1 rfl rfl dX10_make_385 ?_
                                                                  obtain ⟨I96, q97, q8⟩ := bn1_some q8
                                                                  refine V_callV C0 (st := []) (As := [.ref (G.ad y1)]) 9 (c_X10_makeHose G.l G.D G.cA G.ad G.bs G.X C0.2.2.2.2.2.2.2.2.2.1 C0.2.2.2.2.2.2.2.2.2.2.2.2 y0 y1 I L R I96 q97) lc_X10_makeHose lk_X10_181 ho0 hk0 ⟨_, rfl, rfl⟩ rfl (by rw [erm]; decide) (Nat.le_of_ble_eq_true rfl) dX10_make_386 ?_
                                                                  show V G _ 389 [(0, .ref (G.ad y0)), (1, .ref (G.ad y1)), (3, .int y3)] [] I96 L R
                                                                  refine V_goto C0 (tgt := 392) (by decide) dX10_make_389 ?_
                                                                  cases q8
                                                                  exact V_sub [0, 1, 2] rfl k9
                                                                · have q8 := (if_neg c95).symm.trans q8
                                                                  have nd10 := nd_add nd10 c95
                                                                  refine V_tableN C0 (tgt := 392) nd10 (by decide) (by decide) dX10_make_30 ?_
                                                                  cases q8
                                                                  exact V_sub [0, 1, 2] rfl k9
set_option maxRecDepth 100000 in
set_option maxHeartbeats 4000000 in
theorem c_X10_make (l : Launch) (D : va_G) (cA : Nat → ClassId) (ad : Nat → Nat) (bs : Nat) (X : State → Prop) (hAd : Ax ad bs) (hX : Stb bs X) (N : Nat) (x0 : Nat) (x1 : Nat) (x2 : Int32) (I : MI) (L : ML) (R : MR) (I' : MI) (h : F_X10_make N x0 x1 x2 I L R = some (I')) : Cn l D cA ad bs X yX10_make cX10_make 4 none 2 46 [.ref (ad x0), .ref (ad x1), .int x2] I L R (none, I', L, R) := by
  refine Cn.ofV hAd hX [(0, .ref (ad x0)), (1, .ref (ad x1)), (2, .int x2)] rfl (Nat.le_of_ble_eq_true rfl) (by decide) ?_
  intro G el eD ecA ead ebs eX erm eNL C0
  subst el eD ecA ead ebs eX
  unfold F_X10_make at h
  obtain ⟨c_x0, h⟩ := ite_some h
  obtain ⟨c_x1, h⟩ := ite_some h
  refine V_aload_n C0 1 rfl rfl dX10_make_0 ?_
  refine V_iload_n C0 2 rfl rfl dX10_make_1 ?_
  obtain ⟨I1, q2, h⟩ := bn1_some h
  refine V_callV C0 (st := []) (As := [.int x2]) 8 (c_X9_clear G.l G.D G.cA G.ad G.bs G.X C0.2.2.2.2.2.2.2.2.2.1 C0.2.2.2.2.2.2.2.2.2.2.2.2 N x1 x2 I L R I1 q2) lc_X9_clear lk_X10_87 c_x1.2 c_x1.1 ⟨_, rfl, rfl⟩ rfl (by rw [erm]; decide) (Nat.le_of_ble_eq_true rfl) dX10_make_2 ?_
  show V G _ 5 [(0, .ref (G.ad x0)), (1, .ref (G.ad x1)), (2, .int x2)] [] I1 L R
  refine V_iconst C0 (v := (0 : Int32)) (by decide) dX10_make_5 ?_
  refine V_istore_n C0 [(3, .int (0 : Int32)), (0, .ref (G.ad x0)), (1, .ref (G.ad x1)), (2, .int x2)] rfl (by rw [eNL]; decide) rfl dX10_make_6 ?_
  obtain ⟨z99, q100, h⟩ := bn1_some h
  refine V_sub [1, 2, 0] rfl (lp_X10_make_7 C0 eNL erm N N x0 x1 (0 : Int32) I1 L R _ c_x0.1 c_x0.2 c_x1.1 c_x1.2 q100 _ ?_)
  show V G _ 398 [] [] z99 L R
  cases h
  exact V_vret C0 dX10_make_398
theorem dX10_judge_0 : decode cX10_judge 0 = .ok (.aload_n 1, 1) := by decide +kernel
theorem dX10_judge_1 : decode cX10_judge 1 = .ok (.invokevirtual 78, 3) := by decide +kernel
theorem dX10_judge_4 : decode cX10_judge 4 = .ok (.aload_n 1, 1) := by decide +kernel
theorem dX10_judge_5 : decode cX10_judge 5 = .ok (.getfield 42, 3) := by decide +kernel
theorem dX10_judge_8 : decode cX10_judge 8 = .ok (.bipush 6, 2) := by decide +kernel
theorem dX10_judge_10 : decode cX10_judge 10 = .ok (.iaload, 1) := by decide +kernel
theorem dX10_judge_11 : decode cX10_judge 11 = .ok (.isub, 1) := by decide +kernel
theorem dX10_judge_12 : decode cX10_judge 12 = .ok (.iconst 2, 1) := by decide +kernel
theorem dX10_judge_13 : decode cX10_judge 13 = .ok (.invokestatic 81, 3) := by decide +kernel
theorem dX10_judge_16 : decode cX10_judge 16 = .ok (.iconst 1, 1) := by decide +kernel
theorem dX10_judge_17 : decode cX10_judge 17 = .ok (.if_icmp .ne 7, 3) := by decide +kernel
theorem dX10_judge_20 : decode cX10_judge 20 = .ok (.iconst 1, 1) := by decide +kernel
theorem dX10_judge_21 : decode cX10_judge 21 = .ok (.goto 4, 3) := by decide +kernel
theorem dX10_judge_24 : decode cX10_judge 24 = .ok (.iconst 0, 1) := by decide +kernel
theorem dX10_judge_25 : decode cX10_judge 25 = .ok (.istore_n 2, 1) := by decide +kernel
theorem dX10_judge_26 : decode cX10_judge 26 = .ok (.aload_n 1, 1) := by decide +kernel
theorem dX10_judge_27 : decode cX10_judge 27 = .ok (.getfield 42, 3) := by decide +kernel
theorem dX10_judge_30 : decode cX10_judge 30 = .ok (.bipush 64, 2) := by decide +kernel
theorem dX10_judge_32 : decode cX10_judge 32 = .ok (.iload_n 2, 1) := by decide +kernel
theorem dX10_judge_33 : decode cX10_judge 33 = .ok (.ifCond .eq 7, 3) := by decide +kernel
theorem dX10_judge_36 : decode cX10_judge 36 = .ok (.iconst 1, 1) := by decide +kernel
theorem dX10_judge_37 : decode cX10_judge 37 = .ok (.goto 4, 3) := by decide +kernel
theorem dX10_judge_40 : decode cX10_judge 40 = .ok (.iconst 0, 1) := by decide +kernel
theorem dX10_judge_41 : decode cX10_judge 41 = .ok (.iastore, 1) := by decide +kernel
theorem dX10_judge_42 : decode cX10_judge 42 = .ok (.return_, 1) := by decide +kernel
def F_X10_judge (N : Nat) (x0 : Nat) (x1 : Nat) (I : MI) (L : ML) (R : MR) : Option (MI) :=
  if kd x0 = 9 ∧ x0 < NN then
  if kd x1 = 8 ∧ x1 < NN then
  bn1 (F_X9_test N x1 I L R) fun v1 =>
  (rf R x1 0 20).bind fun a3 =>
  (ri I a3 (6 : Int32)).bind fun v4 =>
  bn1 (F_J9_floorMod_7cf53 (v1 - v4) (2 : Int32) I L R) fun v5 =>
  bn1 (
    if v5 = (1 : Int32) then
      some ((1 : Int32))
    else
      some ((0 : Int32))
  ) fun (s7 : Int32) =>
  bn1 (
    if s7 = 0 then
      some ((0 : Int32))
    else
      some ((1 : Int32))
  ) fun (s11 : Int32) =>
  (wi I a3 (64 : Int32) s11).bind fun I15 =>
  some (I15)
  else none
  else none
set_option maxRecDepth 100000 in
set_option maxHeartbeats 4000000 in
theorem c_X10_judge (l : Launch) (D : va_G) (cA : Nat → ClassId) (ad : Nat → Nat) (bs : Nat) (X : State → Prop) (hAd : Ax ad bs) (hX : Stb bs X) (N : Nat) (x0 : Nat) (x1 : Nat) (I : MI) (L : ML) (R : MR) (I' : MI) (h : F_X10_judge N x0 x1 I L R = some (I')) : Cn l D cA ad bs X yX10_judge cX10_judge 3 none 1 22 [.ref (ad x0), .ref (ad x1)] I L R (none, I', L, R) := by
  refine Cn.ofV hAd hX [(0, .ref (ad x0)), (1, .ref (ad x1))] rfl (Nat.le_of_ble_eq_true rfl) (by decide) ?_
  intro G el eD ecA ead ebs eX erm eNL C0
  subst el eD ecA ead ebs eX
  unfold F_X10_judge at h
  obtain ⟨c_x0, h⟩ := ite_some h
  obtain ⟨c_x1, h⟩ := ite_some h
  refine V_aload_n C0 1 rfl rfl dX10_judge_0 ?_
  obtain ⟨v1, q2, h⟩ := bn1_some h
  refine V_callV C0 (st := []) (As := []) 8 (c_X9_test G.l G.D G.cA G.ad G.bs G.X C0.2.2.2.2.2.2.2.2.2.1 C0.2.2.2.2.2.2.2.2.2.2.2.2 N x1 I L R v1 q2) lc_X9_test lk_X10_78 c_x1.2 c_x1.1 ⟨_, rfl, rfl⟩ rfl (by rw [erm]; decide) (Nat.le_of_ble_eq_true rfl) dX10_judge_1 ?_
  show V G _ 4 [(0, .ref (G.ad x0)), (1, .ref (G.ad x1))] [.int v1] I L R
  refine V_aload_n C0 1 rfl rfl dX10_judge_4 ?_
  obtain ⟨a3, qa3, h⟩ := bnd_some h
  refine V_getR C0 8 0 fl_X10_42 c_x1.2 c_x1.1 rfl (rf_at qa3) dX10_judge_5 ?_
  refine V_bipush C0 (v := (6 : Int32)) (by decide) dX10_judge_8 ?_
  obtain ⟨v4, qv4, h⟩ := bnd_some h
  refine V_ri C0 (rf_lt qa3) (rf_kd qa3) qv4 dX10_judge_10 ?_
  refine V_isub C0 dX10_judge_11 ?_
  refine V_iconst C0 (v := (2 : Int32)) (by decide) dX10_judge_12 ?_
  obtain ⟨v5, q6, h⟩ := bn1_some h
  refine V_callS C0 (st := []) (As := [.int (v1 - v4), .int (2 : Int32)]) (c_J9_floorMod_7cf53 G.l G.D G.cA G.ad G.bs G.X C0.2.2.2.2.2.2.2.2.2.1 C0.2.2.2.2.2.2.2.2.2.2.2.2 (v1 - v4) (2 : Int32) I L R v5 q6) lc_J9_floorMod_7cf53 lk_X10_81 rfl (by rw [erm]; decide) (Nat.le_of_ble_eq_true rfl) dX10_judge_13 ?_
  show V G _ 16 [(0, .ref (G.ad x0)), (1, .ref (G.ad x1))] [.int v5] I L R
  refine V_iconst C0 (v := (1 : Int32)) (by decide) dX10_judge_16 ?_
  obtain ⟨s7, q8, h⟩ := bn1_some h
  have k9 : V G (qf G (none, I', L, R)) 25 [(1, .ref (G.ad x1))] [.int s7] I L R := by
    refine V_istore_n C0 [(2, .int s7), (1, .ref (G.ad x1))] rfl (by rw [eNL]; decide) rfl dX10_judge_25 ?_
    refine V_aload_n C0 1 rfl rfl dX10_judge_26 ?_
    refine V_getR C0 8 0 fl_X10_42 c_x1.2 c_x1.1 rfl (rf_at qa3) dX10_judge_27 ?_
    refine V_bipush C0 (v := (64 : Int32)) (by decide) dX10_judge_30 ?_
    refine V_iload_n C0 0 rfl rfl dX10_judge_32 ?_
    obtain ⟨s11, q12, h⟩ := bn1_some h
    have k13 : V G (qf G (none, I', L, R)) 41 [] [.int s11, .int (64 : Int32), .ref (G.ad a3)] I L R := by
      obtain ⟨I15, qI15, h⟩ := bnd_some h
      refine V_wi C0 (rf_lt qa3) (rf_kd qa3) qI15 dX10_judge_41 ?_
      cases h
      exact V_vret C0 dX10_judge_42
    refine V_if_eq C0 (tgt := 40) (by decide) dX10_judge_33 (fun c14 => ?_) (fun c14 => ?_)
    · have q12 := (if_pos c14).symm.trans q12
      refine V_iconst C0 (v := (0 : Int32)) (by decide) dX10_judge_40 ?_
      cases q12
      exact V_sub [] rfl k13
    · have q12 := (if_neg c14).symm.trans q12
      refine V_iconst C0 (v := (1 : Int32)) (by decide) dX10_judge_36 ?_
      refine V_goto C0 (tgt := 41) (by decide) dX10_judge_37 ?_
      cases q12
      exact V_sub [] rfl k13
  refine V_icmp_ne C0 (tgt := 24) (by decide) dX10_judge_17 (fun c10 => ?_) (fun c10 => ?_)
  · have q8 := (if_neg c10).symm.trans q8
    refine V_iconst C0 (v := (0 : Int32)) (by decide) dX10_judge_24 ?_
    cases q8
    exact V_sub [1] rfl k9
  · have q8 := (if_pos c10).symm.trans q8
    refine V_iconst C0 (v := (1 : Int32)) (by decide) dX10_judge_20 ?_
    refine V_goto C0 (tgt := 25) (by decide) dX10_judge_21 ?_
    cases q8
    exact V_sub [1] rfl k9
theorem dX10_restart_0 : decode cX10_restart 0 = .ok (.aload_n 0, 1) := by decide +kernel
theorem dX10_restart_1 : decode cX10_restart 1 = .ok (.getfield 57, 3) := by decide +kernel
theorem dX10_restart_4 : decode cX10_restart 4 = .ok (.bipush 30, 2) := by decide +kernel
theorem dX10_restart_6 : decode cX10_restart 6 = .ok (.if_icmp .lt 5, 3) := by decide +kernel
theorem dX10_restart_9 : decode cX10_restart 9 = .ok (.iconst 0, 1) := by decide +kernel
theorem dX10_restart_10 : decode cX10_restart 10 = .ok (.ireturn, 1) := by decide +kernel
theorem dX10_restart_11 : decode cX10_restart 11 = .ok (.aload_n 0, 1) := by decide +kernel
theorem dX10_restart_12 : decode cX10_restart 12 = .ok (.dup, 1) := by decide +kernel
theorem dX10_restart_13 : decode cX10_restart 13 = .ok (.getfield 57, 3) := by decide +kernel
theorem dX10_restart_16 : decode cX10_restart 16 = .ok (.iconst 1, 1) := by decide +kernel
theorem dX10_restart_17 : decode cX10_restart 17 = .ok (.iadd, 1) := by decide +kernel
theorem dX10_restart_18 : decode cX10_restart 18 = .ok (.putfield 57, 3) := by decide +kernel
theorem dX10_restart_21 : decode cX10_restart 21 = .ok (.aload_n 0, 1) := by decide +kernel
theorem dX10_restart_22 : decode cX10_restart 22 = .ok (.aload_n 0, 1) := by decide +kernel
theorem dX10_restart_23 : decode cX10_restart 23 = .ok (.iload_n 1, 1) := by decide +kernel
theorem dX10_restart_24 : decode cX10_restart 24 = .ok (.invokevirtual 34, 3) := by decide +kernel
theorem dX10_restart_27 : decode cX10_restart 27 = .ok (.iload_n 1, 1) := by decide +kernel
theorem dX10_restart_28 : decode cX10_restart 28 = .ok (.invokevirtual 70, 3) := by decide +kernel
theorem dX10_restart_31 : decode cX10_restart 31 = .ok (.aload_n 0, 1) := by decide +kernel
theorem dX10_restart_32 : decode cX10_restart 32 = .ok (.aload_n 0, 1) := by decide +kernel
theorem dX10_restart_33 : decode cX10_restart 33 = .ok (.iload_n 1, 1) := by decide +kernel
theorem dX10_restart_34 : decode cX10_restart 34 = .ok (.invokevirtual 34, 3) := by decide +kernel
theorem dX10_restart_37 : decode cX10_restart 37 = .ok (.invokevirtual 74, 3) := by decide +kernel
theorem dX10_restart_40 : decode cX10_restart 40 = .ok (.iconst 1, 1) := by decide +kernel
theorem dX10_restart_41 : decode cX10_restart 41 = .ok (.ireturn, 1) := by decide +kernel
def F_X10_restart (N : Nat) (x0 : Nat) (x1 : Int32) (I : MI) (L : ML) (R : MR) : Option (Bool × MI) :=
  if kd x0 = 9 ∧ x0 < NN then
  if (I x0 8) < (30 : Int32) then
    wr (uI I x0 8 ((I x0 8) + (1 : Int32))) fun (I2 : MI) =>
    bn1 (F_X10_unitAt x0 x1 I2 L R) fun a3 =>
    if kd a3 = 8 ∧ a3 < NN then
    bn1 (F_X10_make N x0 a3 x1 I2 L R) fun I6 =>
    bn1 (F_X10_unitAt x0 x1 I6 L R) fun a8 =>
    if kd a8 = 8 ∧ a8 < NN then
    bn1 (F_X10_judge N x0 a8 I6 L R) fun I11 =>
    some (true, I11)
    else none
    else none
  else
    some (false, I)
  else none
set_option maxRecDepth 100000 in
set_option maxHeartbeats 4000000 in
theorem c_X10_restart (l : Launch) (D : va_G) (cA : Nat → ClassId) (ad : Nat → Nat) (bs : Nat) (X : State → Prop) (hAd : Ax ad bs) (hX : Stb bs X) (N : Nat) (x0 : Nat) (x1 : Int32) (I : MI) (L : ML) (R : MR) (r : Bool) (I' : MI) (h : F_X10_restart N x0 x1 I L R = some (r, I')) : Cn l D cA ad bs X yX10_restart cX10_restart 2 (some .boolean) 3 69 [.ref (ad x0), .int x1] I L R (some (.int (b2i r)), I', L, R) := by
  refine Cn.ofV hAd hX [(0, .ref (ad x0)), (1, .int x1)] rfl (Nat.le_of_ble_eq_true rfl) (by decide) ?_
  intro G el eD ecA ead ebs eX erm eNL C0
  subst el eD ecA ead ebs eX
  unfold F_X10_restart at h
  obtain ⟨c_x0, h⟩ := ite_some h
  refine V_aload_n C0 0 rfl rfl dX10_restart_0 ?_
  refine V_getI C0 9 8 fl_X10_57 c_x0.2 c_x0.1 rfl dX10_restart_1 ?_
  refine V_bipush C0 (v := (30 : Int32)) (by decide) dX10_restart_4 ?_
  refine V_icmp_lt C0 (tgt := 11) (by decide) dX10_restart_6 (fun c1 => ?_) (fun c1 => ?_)
  · have h := (if_pos c1).symm.trans h
    refine V_aload_n C0 0 rfl rfl dX10_restart_11 ?_
    refine V_dup C0 rfl dX10_restart_12 ?_
    refine V_getI C0 9 8 fl_X10_57 c_x0.2 c_x0.1 rfl dX10_restart_13 ?_
    refine V_iconst C0 (v := (1 : Int32)) (by decide) dX10_restart_16 ?_
    refine V_iadd C0 dX10_restart_17 ?_
    obtain ⟨I2, eI2, h⟩ := wr_some h
    refine V_putI C0 9 8 fp_X10_57 c_x0.2 c_x0.1 rfl dX10_restart_18 ?_
    rw [← eI2]
    refine V_aload_n C0 0 rfl rfl dX10_restart_21 ?_
    refine V_aload_n C0 0 rfl rfl dX10_restart_22 ?_
    refine V_iload_n C0 1 rfl rfl dX10_restart_23 ?_
    obtain ⟨a3, q4, h⟩ := bn1_some h
    refine V_callV C0 (st := [.ref (G.ad x0)]) (As := [.int x1]) 9 (c_X10_unitAt G.l G.D G.cA G.ad G.bs G.X C0.2.2.2.2.2.2.2.2.2.1 C0.2.2.2.2.2.2.2.2.2.2.2.2 x0 x1 I2 L R a3 q4) lc_X10_unitAt lk_X10_34 c_x0.2 c_x0.1 ⟨_, rfl, rfl⟩ rfl (by rw [erm]; decide) (Nat.le_of_ble_eq_true rfl) dX10_restart_24 ?_
    show V G _ 27 [(0, .ref (G.ad x0)), (1, .int x1)] [.ref (G.ad a3), .ref (G.ad x0)] I2 L R
    obtain ⟨c5, h⟩ := ite_some h
    refine V_iload_n C0 1 rfl rfl dX10_restart_27 ?_
    obtain ⟨I6, q7, h⟩ := bn1_some h
    refine V_callV C0 (st := []) (As := [.ref (G.ad a3), .int x1]) 9 (c_X10_make G.l G.D G.cA G.ad G.bs G.X C0.2.2.2.2.2.2.2.2.2.1 C0.2.2.2.2.2.2.2.2.2.2.2.2 N x0 a3 x1 I2 L R I6 q7) lc_X10_make lk_X10_70 c_x0.2 c_x0.1 ⟨_, rfl, rfl⟩ rfl (by rw [erm]; decide) (Nat.le_of_ble_eq_true rfl) dX10_restart_28 ?_
    show V G _ 31 [(0, .ref (G.ad x0)), (1, .int x1)] [] I6 L R
    refine V_aload_n C0 0 rfl rfl dX10_restart_31 ?_
    refine V_aload_n C0 0 rfl rfl dX10_restart_32 ?_
    refine V_iload_n C0 1 rfl rfl dX10_restart_33 ?_
    obtain ⟨a8, q9, h⟩ := bn1_some h
    refine V_callV C0 (st := [.ref (G.ad x0)]) (As := [.int x1]) 9 (c_X10_unitAt G.l G.D G.cA G.ad G.bs G.X C0.2.2.2.2.2.2.2.2.2.1 C0.2.2.2.2.2.2.2.2.2.2.2.2 x0 x1 I6 L R a8 q9) lc_X10_unitAt lk_X10_34 c_x0.2 c_x0.1 ⟨_, rfl, rfl⟩ rfl (by rw [erm]; decide) (Nat.le_of_ble_eq_true rfl) dX10_restart_34 ?_
    show V G _ 37 [(0, .ref (G.ad x0)), (1, .int x1)] [.ref (G.ad a8), .ref (G.ad x0)] I6 L R
    obtain ⟨c10, h⟩ := ite_some h
    obtain ⟨I11, q12, h⟩ := bn1_some h
    refine V_callV C0 (st := []) (As := [.ref (G.ad a8)]) 9 (c_X10_judge G.l G.D G.cA G.ad G.bs G.X C0.2.2.2.2.2.2.2.2.2.1 C0.2.2.2.2.2.2.2.2.2.2.2.2 N x0 a8 I6 L R I11 q12) lc_X10_judge lk_X10_74 c_x0.2 c_x0.1 ⟨_, rfl, rfl⟩ rfl (by rw [erm]; decide) (Nat.le_of_ble_eq_true rfl) dX10_restart_37 ?_
    show V G _ 40 [(0, .ref (G.ad x0)), (1, .int x1)] [] I11 L R
    refine V_iconst C0 (v := (1 : Int32)) (by decide) dX10_restart_40 ?_
    cases h
    exact V_zret C0 (by decide) dX10_restart_41
  · have h := (if_neg c1).symm.trans h
    refine V_iconst C0 (v := (0 : Int32)) (by decide) dX10_restart_9 ?_
    cases h
    exact V_zret C0 (by decide) dX10_restart_10
theorem dX5_stop_0 : decode cX5_stop 0 = .ok (.iload_n 1, 1) := by decide +kernel
theorem dX5_stop_1 : decode cX5_stop 1 = .ok (.ifCond .lt 20, 3) := by decide +kernel
theorem dX5_stop_4 : decode cX5_stop 4 = .ok (.iload_n 1, 1) := by decide +kernel
theorem dX5_stop_5 : decode cX5_stop 5 = .ok (.aload_n 0, 1) := by decide +kernel
theorem dX5_stop_6 : decode cX5_stop 6 = .ok (.getfield 22, 3) := by decide +kernel
theorem dX5_stop_9 : decode cX5_stop 9 = .ok (.if_icmp .ge 12, 3) := by decide +kernel
theorem dX5_stop_12 : decode cX5_stop 12 = .ok (.aload_n 0, 1) := by decide +kernel
theorem dX5_stop_13 : decode cX5_stop 13 = .ok (.iload_n 1, 1) := by decide +kernel
theorem dX5_stop_14 : decode cX5_stop 14 = .ok (.invokevirtual 26, 3) := by decide +kernel
theorem dX5_stop_17 : decode cX5_stop 17 = .ok (.iconst 1, 1) := by decide +kernel
theorem dX5_stop_18 : decode cX5_stop 18 = .ok (.putfield 30, 3) := by decide +kernel
theorem dX5_stop_21 : decode cX5_stop 21 = .ok (.return_, 1) := by decide +kernel
def F_X5_stop (x0 : Nat) (x1 : Int32) (I : MI) (L : ML) (R : MR) : Option (MI) :=
  if kd x0 = 4 ∧ x0 < NN then
  if x1 < 0 then
    some (I)
  else
    if (I x0 2) ≤ x1 then
      some (I)
    else
      bn1 (F_X5_itemAt x0 x1 I L R) fun a3 =>
      if kd a3 = 3 ∧ a3 < NN then
      wr (uI I a3 9 (1 : Int32)) fun (I6 : MI) =>
      some (I6)
      else none
  else none
set_option maxRecDepth 100000 in
set_option maxHeartbeats 4000000 in
theorem c_X5_stop (l : Launch) (D : va_G) (cA : Nat → ClassId) (ad : Nat → Nat) (bs : Nat) (X : State → Prop) (hAd : Ax ad bs) (hX : Stb bs X) (x0 : Nat) (x1 : Int32) (I : MI) (L : ML) (R : MR) (I' : MI) (h : F_X5_stop x0 x1 I L R = some (I')) : Cn l D cA ad bs X yX5_stop cX5_stop 2 none 1 21 [.ref (ad x0), .int x1] I L R (none, I', L, R) := by
  refine Cn.ofV hAd hX [(0, .ref (ad x0)), (1, .int x1)] rfl (Nat.le_of_ble_eq_true rfl) (by decide) ?_
  intro G el eD ecA ead ebs eX erm eNL C0
  subst el eD ecA ead ebs eX
  unfold F_X5_stop at h
  obtain ⟨c_x0, h⟩ := ite_some h
  refine V_iload_n C0 1 rfl rfl dX5_stop_0 ?_
  refine V_if_lt C0 (tgt := 21) (by decide) dX5_stop_1 (fun c1 => ?_) (fun c1 => ?_)
  · have h := (if_pos c1).symm.trans h
    cases h
    exact V_vret C0 dX5_stop_21
  · have h := (if_neg c1).symm.trans h
    refine V_iload_n C0 1 rfl rfl dX5_stop_4 ?_
    refine V_aload_n C0 0 rfl rfl dX5_stop_5 ?_
    refine V_getI C0 4 2 fl_X5_22 c_x0.2 c_x0.1 rfl dX5_stop_6 ?_
    refine V_icmp_ge C0 (tgt := 21) (by decide) dX5_stop_9 (fun c2 => ?_) (fun c2 => ?_)
    · have h := (if_pos c2).symm.trans h
      cases h
      exact V_vret C0 dX5_stop_21
    · have h := (if_neg c2).symm.trans h
      refine V_aload_n C0 0 rfl rfl dX5_stop_12 ?_
      refine V_iload_n C0 1 rfl rfl dX5_stop_13 ?_
      obtain ⟨a3, q4, h⟩ := bn1_some h
      refine V_callV C0 (st := []) (As := [.int x1]) 4 (c_X5_itemAt G.l G.D G.cA G.ad G.bs G.X C0.2.2.2.2.2.2.2.2.2.1 C0.2.2.2.2.2.2.2.2.2.2.2.2 x0 x1 I L R a3 q4) lc_X5_itemAt lk_X5_26 c_x0.2 c_x0.1 ⟨_, rfl, rfl⟩ rfl (by rw [erm]; decide) (Nat.le_of_ble_eq_true rfl) dX5_stop_14 ?_
      show V G _ 17 [(0, .ref (G.ad x0)), (1, .int x1)] [.ref (G.ad a3)] I L R
      obtain ⟨c5, h⟩ := ite_some h
      refine V_iconst C0 (v := (1 : Int32)) (by decide) dX5_stop_17 ?_
      obtain ⟨I6, eI6, h⟩ := wr_some h
      refine V_putZ C0 3 9 fp_X5_30 c5.2 c5.1 rfl (by decide) dX5_stop_18 ?_
      rw [← eI6]
      cases h
      exact V_vret C0 dX5_stop_21
theorem dX2_perform_0 : decode cX2_perform 0 = .ok (.iconst 1, 1) := by decide +kernel
theorem dX2_perform_1 : decode cX2_perform 1 = .ok (.istore 4, 2) := by decide +kernel
theorem dX2_perform_3 : decode cX2_perform 3 = .ok (.iload_n 1, 1) := by decide +kernel
theorem dX2_perform_4 : decode cX2_perform 4 = .ok (.tableswitch 138 0 6 #[44, 60, 76, 84, 96, 109, 127], 44) := by decide +kernel
theorem dX2_perform_48 : decode cX2_perform 48 = .ok (.aload_n 0, 1) := by decide +kernel
theorem dX2_perform_49 : decode cX2_perform 49 = .ok (.getfield 15, 3) := by decide +kernel
theorem dX2_perform_52 : decode cX2_perform 52 = .ok (.iload_n 2, 1) := by decide +kernel
theorem dX2_perform_53 : decode cX2_perform 53 = .ok (.invokevirtual 199, 3) := by decide +kernel
theorem dX2_perform_56 : decode cX2_perform 56 = .ok (.invokestatic 213, 3) := by decide +kernel
theorem dX2_perform_59 : decode cX2_perform 59 = .ok (.istore 4, 2) := by decide +kernel
theorem dX2_perform_61 : decode cX2_perform 61 = .ok (.goto 84, 3) := by decide +kernel
theorem dX2_perform_64 : decode cX2_perform 64 = .ok (.aload_n 0, 1) := by decide +kernel
theorem dX2_perform_65 : decode cX2_perform 65 = .ok (.getfield 15, 3) := by decide +kernel
theorem dX2_perform_68 : decode cX2_perform 68 = .ok (.iload_n 2, 1) := by decide +kernel
theorem dX2_perform_69 : decode cX2_perform 69 = .ok (.invokevirtual 199, 3) := by decide +kernel
theorem dX2_perform_72 : decode cX2_perform 72 = .ok (.invokestatic 217, 3) := by decide +kernel
theorem dX2_perform_75 : decode cX2_perform 75 = .ok (.istore 4, 2) := by decide +kernel
theorem dX2_perform_77 : decode cX2_perform 77 = .ok (.goto 68, 3) := by decide +kernel
theorem dX2_perform_80 : decode cX2_perform 80 = .ok (.aload_n 0, 1) := by decide +kernel
theorem dX2_perform_81 : decode cX2_perform 81 = .ok (.iload_n 2, 1) := by decide +kernel
theorem dX2_perform_82 : decode cX2_perform 82 = .ok (.putfield 61, 3) := by decide +kernel
theorem dX2_perform_85 : decode cX2_perform 85 = .ok (.goto 60, 3) := by decide +kernel
theorem dX2_perform_88 : decode cX2_perform 88 = .ok (.aload_n 0, 1) := by decide +kernel
theorem dX2_perform_89 : decode cX2_perform 89 = .ok (.getfield 24, 3) := by decide +kernel
theorem dX2_perform_92 : decode cX2_perform 92 = .ok (.iload_n 2, 1) := by decide +kernel
theorem dX2_perform_93 : decode cX2_perform 93 = .ok (.iload_n 3, 1) := by decide +kernel
theorem dX2_perform_94 : decode cX2_perform 94 = .ok (.invokevirtual 220, 3) := by decide +kernel
theorem dX2_perform_97 : decode cX2_perform 97 = .ok (.goto 48, 3) := by decide +kernel
theorem dX2_perform_100 : decode cX2_perform 100 = .ok (.aload_n 0, 1) := by decide +kernel
theorem dX2_perform_101 : decode cX2_perform 101 = .ok (.getfield 15, 3) := by decide +kernel
theorem dX2_perform_104 : decode cX2_perform 104 = .ok (.iload_n 2, 1) := by decide +kernel
theorem dX2_perform_105 : decode cX2_perform 105 = .ok (.invokevirtual 223, 3) := by decide +kernel
theorem dX2_perform_108 : decode cX2_perform 108 = .ok (.istore 4, 2) := by decide +kernel
theorem dX2_perform_110 : decode cX2_perform 110 = .ok (.goto 35, 3) := by decide +kernel
theorem dX2_perform_113 : decode cX2_perform 113 = .ok (.aload_n 0, 1) := by decide +kernel
theorem dX2_perform_114 : decode cX2_perform 114 = .ok (.getfield 15, 3) := by decide +kernel
theorem dX2_perform_117 : decode cX2_perform 117 = .ok (.iload_n 2, 1) := by decide +kernel
theorem dX2_perform_118 : decode cX2_perform 118 = .ok (.invokevirtual 199, 3) := by decide +kernel
theorem dX2_perform_121 : decode cX2_perform 121 = .ok (.getfield 205, 3) := by decide +kernel
theorem dX2_perform_124 : decode cX2_perform 124 = .ok (.bipush 10, 2) := by decide +kernel
theorem dX2_perform_126 : decode cX2_perform 126 = .ok (.iconst 0, 1) := by decide +kernel
theorem dX2_perform_127 : decode cX2_perform 127 = .ok (.iastore, 1) := by decide +kernel
theorem dX2_perform_128 : decode cX2_perform 128 = .ok (.goto 17, 3) := by decide +kernel
theorem dX2_perform_131 : decode cX2_perform 131 = .ok (.aload_n 0, 1) := by decide +kernel
theorem dX2_perform_132 : decode cX2_perform 132 = .ok (.getfield 45, 3) := by decide +kernel
theorem dX2_perform_135 : decode cX2_perform 135 = .ok (.iload_n 2, 1) := by decide +kernel
theorem dX2_perform_136 : decode cX2_perform 136 = .ok (.invokevirtual 226, 3) := by decide +kernel
theorem dX2_perform_139 : decode cX2_perform 139 = .ok (.goto 6, 3) := by decide +kernel
theorem dX2_perform_142 : decode cX2_perform 142 = .ok (.iconst 0, 1) := by decide +kernel
theorem dX2_perform_143 : decode cX2_perform 143 = .ok (.istore 4, 2) := by decide +kernel
theorem dX2_perform_145 : decode cX2_perform 145 = .ok (.iload 4, 2) := by decide +kernel
theorem dX2_perform_147 : decode cX2_perform 147 = .ok (.ifCond .eq 16, 3) := by decide +kernel
theorem dX2_perform_150 : decode cX2_perform 150 = .ok (.aload_n 0, 1) := by decide +kernel
theorem dX2_perform_151 : decode cX2_perform 151 = .ok (.dup, 1) := by decide +kernel
theorem dX2_perform_152 : decode cX2_perform 152 = .ok (.getfield 73, 3) := by decide +kernel
theorem dX2_perform_155 : decode cX2_perform 155 = .ok (.iconst 1, 1) := by decide +kernel
theorem dX2_perform_156 : decode cX2_perform 156 = .ok (.iadd, 1) := by decide +kernel
theorem dX2_perform_157 : decode cX2_perform 157 = .ok (.putfield 73, 3) := by decide +kernel
theorem dX2_perform_160 : decode cX2_perform 160 = .ok (.goto 13, 3) := by decide +kernel
theorem dX2_perform_163 : decode cX2_perform 163 = .ok (.aload_n 0, 1) := by decide +kernel
theorem dX2_perform_164 : decode cX2_perform 164 = .ok (.dup, 1) := by decide +kernel
theorem dX2_perform_165 : decode cX2_perform 165 = .ok (.getfield 76, 3) := by decide +kernel
theorem dX2_perform_168 : decode cX2_perform 168 = .ok (.iconst 1, 1) := by decide +kernel
theorem dX2_perform_169 : decode cX2_perform 169 = .ok (.iadd, 1) := by decide +kernel
theorem dX2_perform_170 : decode cX2_perform 170 = .ok (.putfield 76, 3) := by decide +kernel
theorem dX2_perform_173 : decode cX2_perform 173 = .ok (.iload 4, 2) := by decide +kernel
theorem dX2_perform_175 : decode cX2_perform 175 = .ok (.ireturn, 1) := by decide +kernel
def F_X2_perform (N : Nat) (x0 : Nat) (x1 : Int32) (x2 : Int32) (x3 : Int32) (I : MI) (L : ML) (R : MR) : Option (Bool × MI) :=
  if kd x0 = 2 ∧ x0 < NN then
  bn2 (
    if x1 = (0 : Int32) then
      (rf R x0 0 9).bind fun a7 =>
      bn1 (F_X10_unitAt a7 x2 I L R) fun a8 =>
      if kd a8 = 8 ∧ a8 < NN then
      bn2 (F_X2_switchOn a8 I L R) fun b11 I12 =>
      wr (b2i b11) fun (u14 : Int32) =>
      some (u14, I12)
      else none
    else
      if x1 = (1 : Int32) then
        (rf R x0 0 9).bind fun a16 =>
        bn1 (F_X10_unitAt a16 x2 I L R) fun a17 =>
        if kd a17 = 8 ∧ a17 < NN then
        bn2 (F_X2_switchOff a17 I L R) fun b20 I21 =>
        wr (b2i b20) fun (u23 : Int32) =>
        some (u23, I21)
        else none
      else
        if x1 = (2 : Int32) then
          wr (uI I x0 7 x2) fun (I25 : MI) =>
          some ((1 : Int32), I25)
        else
          if x1 = (3 : Int32) then
            (rf R x0 1 6).bind fun a27 =>
            bn1 (F_X7_setAim a27 x2 x3 I L R) fun I28 =>
            some ((1 : Int32), I28)
          else
            if x1 = (4 : Int32) then
              (rf R x0 0 9).bind fun a31 =>
              bn2 (F_X10_restart N a31 x2 I L R) fun b32 I33 =>
              wr (b2i b32) fun (u35 : Int32) =>
              some (u35, I33)
            else
              if x1 = (5 : Int32) then
                (rf R x0 0 9).bind fun a37 =>
                bn1 (F_X10_unitAt a37 x2 I L R) fun a38 =>
                if kd a38 = 8 ∧ a38 < NN then
                (rf R a38 0 20).bind fun a41 =>
                (wi I a41 (10 : Int32) (0 : Int32)).bind fun I42 =>
                some ((1 : Int32), I42)
                else none
              else
                if x1 = (6 : Int32) then
                  (rf R x0 5 4).bind fun a44 =>
                  bn1 (F_X5_stop a44 x2 I L R) fun I45 =>
                  some ((1 : Int32), I45)
                else
                  some ((0 : Int32), I)
  ) fun (u1 : Int32) (I2 : MI) =>
  bn1 (
    if u1 = 0 then
      wr (uI I2 x0 12 ((I2 x0 12) + (1 : Int32))) fun (I51 : MI) =>
      some (I51)
    else
      wr (uI I2 x0 11 ((I2 x0 11) + (1 : Int32))) fun (I52 : MI) =>
      some (I52)
  ) fun (I47 : MI) =>
  (z01 u1).bind fun q53 =>
  some (q53, I47)
  else none
set_option maxRecDepth 100000 in
set_option maxHeartbeats 4000000 in
theorem c_X2_perform (l : Launch) (D : va_G) (cA : Nat → ClassId) (ad : Nat → Nat) (bs : Nat) (X : State → Prop) (hAd : Ax ad bs) (hX : Stb bs X) (N : Nat) (x0 : Nat) (x1 : Int32) (x2 : Int32) (x3 : Int32) (I : MI) (L : ML) (R : MR) (r : Bool) (I' : MI) (h : F_X2_perform N x0 x1 x2 x3 I L R = some (r, I')) : Cn l D cA ad bs X yX2_perform cX2_perform 5 (some .boolean) 4 90 [.ref (ad x0), .int x1, .int x2, .int x3] I L R (some (.int (b2i r)), I', L, R) := by
  refine Cn.ofV hAd hX [(0, .ref (ad x0)), (1, .int x1), (2, .int x2), (3, .int x3)] rfl (Nat.le_of_ble_eq_true rfl) (by decide) ?_
  intro G el eD ecA ead ebs eX erm eNL C0
  subst el eD ecA ead ebs eX
  unfold F_X2_perform at h
  obtain ⟨c_x0, h⟩ := ite_some h
  refine V_iconst C0 (v := (1 : Int32)) (by decide) dX2_perform_0 ?_
  refine V_istore C0 [(4, .int (1 : Int32)), (0, .ref (G.ad x0)), (1, .int x1), (2, .int x2), (3, .int x3)] (by rw [eNL]; decide) rfl dX2_perform_1 ?_
  refine V_iload_n C0 2 rfl rfl dX2_perform_3 ?_
  obtain ⟨u1, I2, q3, h⟩ := bn2_some h
  have k4 : V G (qf G (some (.int (b2i r)), I', L, R)) 145 [(0, .ref (G.ad x0)), (4, .int u1)] [] I2 L R := by
    refine V_iload C0 1 rfl dX2_perform_145 ?_
    obtain ⟨I47, q48, h⟩ := bn1_some h
    have k49 : V G (qf G (some (.int (b2i r)), I', L, R)) 173 [(4, .int u1)] [] I47 L R := by
      refine V_iload C0 0 rfl dX2_perform_173 ?_
      obtain ⟨q53, qq53, h⟩ := bnd_some h
      rw [z01_b qq53]
      cases h
      exact V_zret C0 (b2i01 _) dX2_perform_175
    refine V_if_eq C0 (tgt := 163) (by decide) dX2_perform_147 (fun c50 => ?_) (fun c50 => ?_)
    · have q48 := (if_pos c50).symm.trans q48
      refine V_aload_n C0 0 rfl rfl dX2_perform_163 ?_
      refine V_dup C0 rfl dX2_perform_164 ?_
      refine V_getI C0 2 12 fl_X2_76 c_x0.2 c_x0.1 rfl dX2_perform_165 ?_
      refine V_iconst C0 (v := (1 : Int32)) (by decide) dX2_perform_168 ?_
      refine V_iadd C0 dX2_perform_169 ?_
      obtain ⟨I51, eI51, q48⟩ := wr_some q48
      refine V_putI C0 2 12 fp_X2_76 c_x0.2 c_x0.1 rfl dX2_perform_170 ?_
      rw [← eI51]
      cases q48
      exact V_sub [1] rfl k49
    · have q48 := (if_neg c50).symm.trans q48
      refine V_aload_n C0 0 rfl rfl dX2_perform_150 ?_
      refine V_dup C0 rfl dX2_perform_151 ?_
      refine V_getI C0 2 11 fl_X2_73 c_x0.2 c_x0.1 rfl dX2_perform_152 ?_
      refine V_iconst C0 (v := (1 : Int32)) (by decide) dX2_perform_155 ?_
      refine V_iadd C0 dX2_perform_156 ?_
      obtain ⟨I52, eI52, q48⟩ := wr_some q48
      refine V_putI C0 2 11 fp_X2_73 c_x0.2 c_x0.1 rfl dX2_perform_157 ?_
      rw [← eI52]
      refine V_goto C0 (tgt := 173) (by decide) dX2_perform_160 ?_
      cases q48
      exact V_sub [1] rfl k49
  have nd5 := nd_0 x1
  by_cases c6 : x1 = (0 : Int32)
  · have q3 := (if_pos c6).symm.trans q3
    refine V_tableC C0 (tgt := 48) (v := (0 : Int32)) c6 (by decide) (by decide) dX2_perform_4 ?_
    refine V_aload_n C0 1 rfl rfl dX2_perform_48 ?_
    obtain ⟨a7, qa7, q3⟩ := bnd_some q3
    refine V_getR C0 2 0 fl_X2_15 c_x0.2 c_x0.1 rfl (rf_at qa7) dX2_perform_49 ?_
    refine V_iload_n C0 3 rfl rfl dX2_perform_52 ?_
    obtain ⟨a8, q9, q3⟩ := bn1_some q3
    refine V_callV C0 (st := []) (As := [.int x2]) 9 (c_X10_unitAt G.l G.D G.cA G.ad G.bs G.X C0.2.2.2.2.2.2.2.2.2.1 C0.2.2.2.2.2.2.2.2.2.2.2.2 a7 x2 I L R a8 q9) lc_X10_unitAt lk_X2_199 (rf_lt qa7) (rf_kd qa7) ⟨_, rfl, rfl⟩ rfl (by rw [erm]; decide) (Nat.le_of_ble_eq_true rfl) dX2_perform_53 ?_
    show V G _ 56 [(4, .int (1 : Int32)), (0, .ref (G.ad x0)), (1, .int x1), (2, .int x2), (3, .int x3)] [.ref (G.ad a8)] I L R
    obtain ⟨c10, q3⟩ := ite_some q3
    obtain ⟨b11, I12, q13, q3⟩ := bn2_some q3
    refine V_callS C0 (st := []) (As := [.ref (G.ad a8)]) (c_X2_switchOn G.l G.D G.cA G.ad G.bs G.X C0.2.2.2.2.2.2.2.2.2.1 C0.2.2.2.2.2.2.2.2.2.2.2.2 a8 I L R b11 I12 q13) lc_X2_switchOn lk_X2_213 rfl (by rw [erm]; decide) (Nat.le_of_ble_eq_true rfl) dX2_perform_56 ?_
    show V G _ 59 [(4, .int (1 : Int32)), (0, .ref (G.ad x0)), (1, .int x1), (2, .int x2), (3, .int x3)] [.int (b2i b11)] I12 L R
    obtain ⟨u14, eu14, q3⟩ := wr_some q3
    rw [← eu14]
    refine V_istore C0 [(4, .int u14), (0, .ref (G.ad x0)), (1, .int x1), (2, .int x2), (3, .int x3)] (by rw [eNL]; decide) rfl dX2_perform_59 ?_
    refine V_goto C0 (tgt := 145) (by decide) dX2_perform_61 ?_
    cases q3
    exact V_sub [1, 0] rfl k4
  · have q3 := (if_neg c6).symm.trans q3
    have nd5 := nd_add nd5 c6
    by_cases c15 : x1 = (1 : Int32)
    · have q3 := (if_pos c15).symm.trans q3
      refine V_tableC C0 (tgt := 64) (v := (1 : Int32)) c15 (by decide) (by decide) dX2_perform_4 ?_
      refine V_aload_n C0 1 rfl rfl dX2_perform_64 ?_
      obtain ⟨a16, qa16, q3⟩ := bnd_some q3
      refine V_getR C0 2 0 fl_X2_15 c_x0.2 c_x0.1 rfl (rf_at qa16) dX2_perform_65 ?_
      refine V_iload_n C0 3 rfl rfl dX2_perform_68 ?_
      obtain ⟨a17, q18, q3⟩ := bn1_some q3
      refine V_callV C0 (st := []) (As := [.int x2]) 9 (c_X10_unitAt G.l G.D G.cA G.ad G.bs G.X C0.2.2.2.2.2.2.2.2.2.1 C0.2.2.2.2.2.2.2.2.2.2.2.2 a16 x2 I L R a17 q18) lc_X10_unitAt lk_X2_199 (rf_lt qa16) (rf_kd qa16) ⟨_, rfl, rfl⟩ rfl (by rw [erm]; decide) (Nat.le_of_ble_eq_true rfl) dX2_perform_69 ?_
      show V G _ 72 [(4, .int (1 : Int32)), (0, .ref (G.ad x0)), (1, .int x1), (2, .int x2), (3, .int x3)] [.ref (G.ad a17)] I L R
      obtain ⟨c19, q3⟩ := ite_some q3
      obtain ⟨b20, I21, q22, q3⟩ := bn2_some q3
      refine V_callS C0 (st := []) (As := [.ref (G.ad a17)]) (c_X2_switchOff G.l G.D G.cA G.ad G.bs G.X C0.2.2.2.2.2.2.2.2.2.1 C0.2.2.2.2.2.2.2.2.2.2.2.2 a17 I L R b20 I21 q22) lc_X2_switchOff lk_X2_217 rfl (by rw [erm]; decide) (Nat.le_of_ble_eq_true rfl) dX2_perform_72 ?_
      show V G _ 75 [(4, .int (1 : Int32)), (0, .ref (G.ad x0)), (1, .int x1), (2, .int x2), (3, .int x3)] [.int (b2i b20)] I21 L R
      obtain ⟨u23, eu23, q3⟩ := wr_some q3
      rw [← eu23]
      refine V_istore C0 [(4, .int u23), (0, .ref (G.ad x0)), (1, .int x1), (2, .int x2), (3, .int x3)] (by rw [eNL]; decide) rfl dX2_perform_75 ?_
      refine V_goto C0 (tgt := 145) (by decide) dX2_perform_77 ?_
      cases q3
      exact V_sub [1, 0] rfl k4
    · have q3 := (if_neg c15).symm.trans q3
      have nd5 := nd_add nd5 c15
      by_cases c24 : x1 = (2 : Int32)
      · have q3 := (if_pos c24).symm.trans q3
        refine V_tableC C0 (tgt := 80) (v := (2 : Int32)) c24 (by decide) (by decide) dX2_perform_4 ?_
        refine V_aload_n C0 1 rfl rfl dX2_perform_80 ?_
        refine V_iload_n C0 3 rfl rfl dX2_perform_81 ?_
        obtain ⟨I25, eI25, q3⟩ := wr_some q3
        refine V_putI C0 2 7 fp_X2_61 c_x0.2 c_x0.1 rfl dX2_perform_82 ?_
        rw [← eI25]
        refine V_goto C0 (tgt := 145) (by decide) dX2_perform_85 ?_
        cases q3
        exact V_sub [1, 0] rfl k4
      · have q3 := (if_neg c24).symm.trans q3
        have nd5 := nd_add nd5 c24
        by_cases c26 : x1 = (3 : Int32)
        · have q3 := (if_pos c26).symm.trans q3
          refine V_tableC C0 (tgt := 88) (v := (3 : Int32)) c26 (by decide) (by decide) dX2_perform_4 ?_
          refine V_aload_n C0 1 rfl rfl dX2_perform_88 ?_
          obtain ⟨a27, qa27, q3⟩ := bnd_some q3
          refine V_getR C0 2 1 fl_X2_24 c_x0.2 c_x0.1 rfl (rf_at qa27) dX2_perform_89 ?_
          refine V_iload_n C0 3 rfl rfl dX2_perform_92 ?_
          refine V_iload_n C0 4 rfl rfl dX2_perform_93 ?_
          obtain ⟨I28, q29, q3⟩ := bn1_some q3
          refine V_callV C0 (st := []) (As := [.int x2, .int x3]) 6 (c_X7_setAim G.l G.D G.cA G.ad G.bs G.X C0.2.2.2.2.2.2.2.2.2.1 C0.2.2.2.2.2.2.2.2.2.2.2.2 a27 x2 x3 I L R I28 q29) lc_X7_setAim lk_X2_220 (rf_lt qa27) (rf_kd qa27) ⟨_, rfl, rfl⟩ rfl (by rw [erm]; decide) (Nat.le_of_ble_eq_true rfl) dX2_perform_94 ?_
          show V G _ 97 [(4, .int (1 : Int32)), (0, .ref (G.ad x0)), (1, .int x1), (2, .int x2), (3, .int x3)] [] I28 L R
          refine V_goto C0 (tgt := 145) (by decide) dX2_perform_97 ?_
          cases q3
          exact V_sub [1, 0] rfl k4
        · have q3 := (if_neg c26).symm.trans q3
          have nd5 := nd_add nd5 c26
          by_cases c30 : x1 = (4 : Int32)
          · have q3 := (if_pos c30).symm.trans q3
            refine V_tableC C0 (tgt := 100) (v := (4 : Int32)) c30 (by decide) (by decide) dX2_perform_4 ?_
            refine V_aload_n C0 1 rfl rfl dX2_perform_100 ?_
            obtain ⟨a31, qa31, q3⟩ := bnd_some q3
            refine V_getR C0 2 0 fl_X2_15 c_x0.2 c_x0.1 rfl (rf_at qa31) dX2_perform_101 ?_
            refine V_iload_n C0 3 rfl rfl dX2_perform_104 ?_
            obtain ⟨b32, I33, q34, q3⟩ := bn2_some q3
            refine V_callV C0 (st := []) (As := [.int x2]) 9 (c_X10_restart G.l G.D G.cA G.ad G.bs G.X C0.2.2.2.2.2.2.2.2.2.1 C0.2.2.2.2.2.2.2.2.2.2.2.2 N a31 x2 I L R b32 I33 q34) lc_X10_restart lk_X2_223 (rf_lt qa31) (rf_kd qa31) ⟨_, rfl, rfl⟩ rfl (by rw [erm]; decide) (Nat.le_of_ble_eq_true rfl) dX2_perform_105 ?_
            show V G _ 108 [(4, .int (1 : Int32)), (0, .ref (G.ad x0)), (1, .int x1), (2, .int x2), (3, .int x3)] [.int (b2i b32)] I33 L R
            obtain ⟨u35, eu35, q3⟩ := wr_some q3
            rw [← eu35]
            refine V_istore C0 [(4, .int u35), (0, .ref (G.ad x0)), (1, .int x1), (2, .int x2), (3, .int x3)] (by rw [eNL]; decide) rfl dX2_perform_108 ?_
            refine V_goto C0 (tgt := 145) (by decide) dX2_perform_110 ?_
            cases q3
            exact V_sub [1, 0] rfl k4
          · have q3 := (if_neg c30).symm.trans q3
            have nd5 := nd_add nd5 c30
            by_cases c36 : x1 = (5 : Int32)
            · have q3 := (if_pos c36).symm.trans q3
              refine V_tableC C0 (tgt := 113) (v := (5 : Int32)) c36 (by decide) (by decide) dX2_perform_4 ?_
              refine V_aload_n C0 1 rfl rfl dX2_perform_113 ?_
              obtain ⟨a37, qa37, q3⟩ := bnd_some q3
              refine V_getR C0 2 0 fl_X2_15 c_x0.2 c_x0.1 rfl (rf_at qa37) dX2_perform_114 ?_
              refine V_iload_n C0 3 rfl rfl dX2_perform_117 ?_
              obtain ⟨a38, q39, q3⟩ := bn1_some q3
              refine V_callV C0 (st := []) (As := [.int x2]) 9 (c_X10_unitAt G.l G.D G.cA G.ad G.bs G.X C0.2.2.2.2.2.2.2.2.2.1 C0.2.2.2.2.2.2.2.2.2.2.2.2 a37 x2 I L R a38 q39) lc_X10_unitAt lk_X2_199 (rf_lt qa37) (rf_kd qa37) ⟨_, rfl, rfl⟩ rfl (by rw [erm]; decide) (Nat.le_of_ble_eq_true rfl) dX2_perform_118 ?_
              show V G _ 121 [(4, .int (1 : Int32)), (0, .ref (G.ad x0)), (1, .int x1), (2, .int x2), (3, .int x3)] [.ref (G.ad a38)] I L R
              obtain ⟨c40, q3⟩ := ite_some q3
              obtain ⟨a41, qa41, q3⟩ := bnd_some q3
              refine V_getR C0 8 0 fl_X2_205 c40.2 c40.1 rfl (rf_at qa41) dX2_perform_121 ?_
              refine V_bipush C0 (v := (10 : Int32)) (by decide) dX2_perform_124 ?_
              refine V_iconst C0 (v := (0 : Int32)) (by decide) dX2_perform_126 ?_
              obtain ⟨I42, qI42, q3⟩ := bnd_some q3
              refine V_wi C0 (rf_lt qa41) (rf_kd qa41) qI42 dX2_perform_127 ?_
              refine V_goto C0 (tgt := 145) (by decide) dX2_perform_128 ?_
              cases q3
              exact V_sub [1, 0] rfl k4
            · have q3 := (if_neg c36).symm.trans q3
              have nd5 := nd_add nd5 c36
              by_cases c43 : x1 = (6 : Int32)
              · have q3 := (if_pos c43).symm.trans q3
                refine V_tableC C0 (tgt := 131) (v := (6 : Int32)) c43 (by decide) (by decide) dX2_perform_4 ?_
                refine V_aload_n C0 1 rfl rfl dX2_perform_131 ?_
                obtain ⟨a44, qa44, q3⟩ := bnd_some q3
                refine V_getR C0 2 5 fl_X2_45 c_x0.2 c_x0.1 rfl (rf_at qa44) dX2_perform_132 ?_
                refine V_iload_n C0 3 rfl rfl dX2_perform_135 ?_
                obtain ⟨I45, q46, q3⟩ := bn1_some q3
                refine V_callV C0 (st := []) (As := [.int x2]) 4 (c_X5_stop G.l G.D G.cA G.ad G.bs G.X C0.2.2.2.2.2.2.2.2.2.1 C0.2.2.2.2.2.2.2.2.2.2.2.2 a44 x2 I L R I45 q46) lc_X5_stop lk_X2_226 (rf_lt qa44) (rf_kd qa44) ⟨_, rfl, rfl⟩ rfl (by rw [erm]; decide) (Nat.le_of_ble_eq_true rfl) dX2_perform_136 ?_
                show V G _ 139 [(4, .int (1 : Int32)), (0, .ref (G.ad x0)), (1, .int x1), (2, .int x2), (3, .int x3)] [] I45 L R
                refine V_goto C0 (tgt := 145) (by decide) dX2_perform_139 ?_
                cases q3
                exact V_sub [1, 0] rfl k4
              · have q3 := (if_neg c43).symm.trans q3
                have nd5 := nd_add nd5 c43
                refine V_tableN C0 (tgt := 142) nd5 (by decide) (by decide) dX2_perform_4 ?_
                refine V_iconst C0 (v := (0 : Int32)) (by decide) dX2_perform_142 ?_
                refine V_istore C0 [(4, .int (0 : Int32)), (0, .ref (G.ad x0)), (1, .int x1), (2, .int x2), (3, .int x3)] (by rw [eNL]; decide) rfl dX2_perform_143 ?_
                cases q3
                exact V_sub [1, 0] rfl k4
theorem dX2_doItems_0 : decode cX2_doItems 0 = .ok (.iconst 0, 1) := by decide +kernel
theorem dX2_doItems_1 : decode cX2_doItems 1 = .ok (.istore_n 2, 1) := by decide +kernel
theorem dX2_doItems_2 : decode cX2_doItems 2 = .ok (.iload_n 2, 1) := by decide +kernel
theorem dX2_doItems_3 : decode cX2_doItems 3 = .ok (.aload_n 0, 1) := by decide +kernel
theorem dX2_doItems_4 : decode cX2_doItems 4 = .ok (.getfield 45, 3) := by decide +kernel
theorem dX2_doItems_7 : decode cX2_doItems 7 = .ok (.invokevirtual 142, 3) := by decide +kernel
theorem dX2_doItems_10 : decode cX2_doItems 10 = .ok (.if_icmp .ge 73, 3) := by decide +kernel
theorem dX2_doItems_13 : decode cX2_doItems 13 = .ok (.aload_n 0, 1) := by decide +kernel
theorem dX2_doItems_14 : decode cX2_doItems 14 = .ok (.getfield 45, 3) := by decide +kernel
theorem dX2_doItems_17 : decode cX2_doItems 17 = .ok (.iload_n 2, 1) := by decide +kernel
theorem dX2_doItems_18 : decode cX2_doItems 18 = .ok (.invokevirtual 145, 3) := by decide +kernel
theorem dX2_doItems_21 : decode cX2_doItems 21 = .ok (.astore_n 3, 1) := by decide +kernel
theorem dX2_doItems_22 : decode cX2_doItems 22 = .ok (.aload_n 3, 1) := by decide +kernel
theorem dX2_doItems_23 : decode cX2_doItems 23 = .ok (.getfield 149, 3) := by decide +kernel
theorem dX2_doItems_26 : decode cX2_doItems 26 = .ok (.ifCond .ne 51, 3) := by decide +kernel
theorem dX2_doItems_29 : decode cX2_doItems 29 = .ok (.aload_n 0, 1) := by decide +kernel
theorem dX2_doItems_30 : decode cX2_doItems 30 = .ok (.aload_n 3, 1) := by decide +kernel
theorem dX2_doItems_31 : decode cX2_doItems 31 = .ok (.iload_n 1, 1) := by decide +kernel
theorem dX2_doItems_32 : decode cX2_doItems 32 = .ok (.invokevirtual 155, 3) := by decide +kernel
theorem dX2_doItems_35 : decode cX2_doItems 35 = .ok (.ifCond .eq 42, 3) := by decide +kernel
theorem dX2_doItems_38 : decode cX2_doItems 38 = .ok (.aload_n 3, 1) := by decide +kernel
theorem dX2_doItems_39 : decode cX2_doItems 39 = .ok (.dup, 1) := by decide +kernel
theorem dX2_doItems_40 : decode cX2_doItems 40 = .ok (.getfield 159, 3) := by decide +kernel
theorem dX2_doItems_43 : decode cX2_doItems 43 = .ok (.iconst 1, 1) := by decide +kernel
theorem dX2_doItems_44 : decode cX2_doItems 44 = .ok (.iadd, 1) := by decide +kernel
theorem dX2_doItems_45 : decode cX2_doItems 45 = .ok (.putfield 159, 3) := by decide +kernel
theorem dX2_doItems_48 : decode cX2_doItems 48 = .ok (.aload_n 0, 1) := by decide +kernel
theorem dX2_doItems_49 : decode cX2_doItems 49 = .ok (.aload_n 3, 1) := by decide +kernel
theorem dX2_doItems_50 : decode cX2_doItems 50 = .ok (.getfield 162, 3) := by decide +kernel
theorem dX2_doItems_53 : decode cX2_doItems 53 = .ok (.aload_n 3, 1) := by decide +kernel
theorem dX2_doItems_54 : decode cX2_doItems 54 = .ok (.getfield 165, 3) := by decide +kernel
theorem dX2_doItems_57 : decode cX2_doItems 57 = .ok (.aload_n 3, 1) := by decide +kernel
theorem dX2_doItems_58 : decode cX2_doItems 58 = .ok (.getfield 168, 3) := by decide +kernel
theorem dX2_doItems_61 : decode cX2_doItems 61 = .ok (.invokevirtual 171, 3) := by decide +kernel
theorem dX2_doItems_64 : decode cX2_doItems 64 = .ok (.ifCond .ne 13, 3) := by decide +kernel
theorem dX2_doItems_67 : decode cX2_doItems 67 = .ok (.aload_n 3, 1) := by decide +kernel
theorem dX2_doItems_68 : decode cX2_doItems 68 = .ok (.dup, 1) := by decide +kernel
theorem dX2_doItems_69 : decode cX2_doItems 69 = .ok (.getfield 175, 3) := by decide +kernel
theorem dX2_doItems_72 : decode cX2_doItems 72 = .ok (.iconst 1, 1) := by decide +kernel
theorem dX2_doItems_73 : decode cX2_doItems 73 = .ok (.iadd, 1) := by decide +kernel
theorem dX2_doItems_74 : decode cX2_doItems 74 = .ok (.putfield 175, 3) := by decide +kernel
theorem dX2_doItems_77 : decode cX2_doItems 77 = .ok (.iinc 2 1, 3) := by decide +kernel
theorem dX2_doItems_80 : decode cX2_doItems 80 = .ok (.goto (-78), 3) := by decide +kernel
theorem dX2_doItems_83 : decode cX2_doItems 83 = .ok (.return_, 1) := by decide +kernel
def LF_X2_doItems_2 (N : Nat) : Nat → Nat → Int32 → Int32 → MI → ML → MR → Option (MI)
  | 0, _, _, _, _, _, _ => none
  | k + 1, y0, y1, y2, I, L, R =>
    (rf R y0 5 4).bind fun a1 =>
    bn1 (F_X5_size a1 I L R) fun v2 =>
    if v2 ≤ y2 then
      some (I)
    else
      bn1 (F_X5_itemAt a1 y2 I L R) fun a5 =>
      if kd a5 = 3 ∧ a5 < NN then
      bn1 (
        if (I a5 9) = 0 then
          bn2 (F_X2_isDue y0 a5 y1 I L R) fun b12 I13 =>
          bn1 (
            if (b2i b12) = 0 then
              some (I13)
            else
              wr (uI I13 a5 7 ((I13 a5 7) + (1 : Int32))) fun (I19 : MI) =>
              bn2 (F_X2_perform N y0 (I19 a5 4) (I19 a5 5) (I19 a5 6) I19 L R) fun b20 I21 =>
              bn1 (
                if (b2i b20) = 0 then
                  wr (uI I21 a5 8 ((I21 a5 8) + (1 : Int32))) fun (I27 : MI) =>
                  some (I27)
                else
                  some (I21)
              ) fun (I23 : MI) =>
              some (I23)
          ) fun (I15 : MI) =>
          some (I15)
        else
          some (I)
      ) fun (I8 : MI) =>
      wr (y2 + (1 : Int32)) fun (u28 : Int32) =>
      LF_X2_doItems_2 N k y0 y1 u28 I8 L R
      else none
def F_X2_doItems (N : Nat) (x0 : Nat) (x1 : Int32) (I : MI) (L : ML) (R : MR) : Option (MI) :=
  if kd x0 = 2 ∧ x0 < NN then
  bn1 (LF_X2_doItems_2 N N x0 x1 (0 : Int32) I L R) fun z29 =>
  some (z29)
  else none
set_option maxRecDepth 100000 in
set_option maxHeartbeats 4000000 in
theorem lp_X2_doItems_2 {G : Gm} (C0 : Cx G (yX2_doItems.cls) cX2_doItems none) (eNL : G.nL = 4) (erm : G.rm = ({ frames := 5, cells := 0, slots := 0, locals := 114 } : Room)) (N : Nat) : ∀ (k : Nat) (y0 : Nat) (y1 : Int32) (y2 : Int32) (I : MI) (L : ML) (R : MR) (z : MI) (hk0 : kd y0 = 2) (ho0 : y0 < NN), LF_X2_doItems_2 N k y0 y1 y2 I L R = some z → ∀ f : State → Prop, V G f 83 [] [] z L R → V G f 2 [(0, .ref (G.ad y0)), (1, .int y1), (2, .int y2)] [] I L R := by
  intro k
  induction k with
  | zero =>
    intro y0 y1 y2 I L R q hk0 ho0 h
    exact absurd h (by simp [LF_X2_doItems_2])
  | succ k ih =>
    intro y0 y1 y2 I L R q hk0 ho0 h f kx
    rw [LF_X2_doItems_2] at h
    refine V_iload_n C0 2 rfl rfl dX2_doItems_2 ?_
    refine V_aload_n C0 0 rfl rfl dX2_doItems_3 ?_
    obtain ⟨a1, qa1, h⟩ := bnd_some h
    refine V_getR C0 2 5 fl_X2_45 ho0 hk0 rfl (rf_at qa1) dX2_doItems_4 ?_
    obtain ⟨v2, q3, h⟩ := bn1_some h
    refine V_callV C0 (st := [.int y2]) (As := []) 4 (c_X5_size G.l G.D G.cA G.ad G.bs G.X C0.2.2.2.2.2.2.2.2.2.1 C0.2.2.2.2.2.2.2.2.2.2.2.2 a1 I L R v2 q3) lc_X5_size lk_X2_142 (rf_lt qa1) (rf_kd qa1) ⟨_, rfl, rfl⟩ rfl (by rw [erm]; decide) (Nat.le_of_ble_eq_true rfl) dX2_doItems_7 ?_
    show V G _ 10 [(0, .ref (G.ad y0)), (1, .int y1), (2, .int y2)] [.int v2, .int y2] I L R
    refine V_icmp_ge C0 (tgt := 83) (by decide) dX2_doItems_10 (fun c4 => ?_) (fun c4 => ?_)
    · have h := (if_pos c4).symm.trans h
      cases h
      exact V_sub [] rfl kx
    · have h := (if_neg c4).symm.trans h
      refine V_aload_n C0 0 rfl rfl dX2_doItems_13 ?_
      refine V_getR C0 2 5 fl_X2_45 ho0 hk0 rfl (rf_at qa1) dX2_doItems_14 ?_
      refine V_iload_n C0 2 rfl rfl dX2_doItems_17 ?_
      obtain ⟨a5, q6, h⟩ := bn1_some h
      refine V_callV C0 (st := []) (As := [.int y2]) 4 (c_X5_itemAt G.l G.D G.cA G.ad G.bs G.X C0.2.2.2.2.2.2.2.2.2.1 C0.2.2.2.2.2.2.2.2.2.2.2.2 a1 y2 I L R a5 q6) lc_X5_itemAt lk_X2_145 (rf_lt qa1) (rf_kd qa1) ⟨_, rfl, rfl⟩ rfl (by rw [erm]; decide) (Nat.le_of_ble_eq_true rfl) dX2_doItems_18 ?_
      show V G _ 21 [(0, .ref (G.ad y0)), (1, .int y1), (2, .int y2)] [.ref (G.ad a5)] I L R
      obtain ⟨c7, h⟩ := ite_some h
      refine V_astore_n C0 [(3, .ref (G.ad a5)), (0, .ref (G.ad y0)), (1, .int y1), (2, .int y2)] rfl (by rw [eNL]; decide) rfl dX2_doItems_21 ?_
      refine V_aload_n C0 0 rfl rfl dX2_doItems_22 ?_
      refine V_getI C0 3 9 fl_X2_149 c7.2 c7.1 rfl dX2_doItems_23 ?_
      obtain ⟨I8, q9, h⟩ := bn1_some h
      have k10 : V G f 77 [(0, .ref (G.ad y0)), (1, .int y1), (2, .int y2)] [] I8 L R := by
        obtain ⟨u28, eu28, h⟩ := wr_some h
        refine V_iinc C0 2 [(2, .int u28), (0, .ref (G.ad y0)), (1, .int y1)] rfl (n := 1) (by rw [eu28]; rfl) (by rw [eNL]; decide) rfl dX2_doItems_77 ?_
        refine V_goto C0 (tgt := 2) (by decide) dX2_doItems_80 ?_
        exact V_sub [1, 2, 0] rfl (ih y0 y1 u28 I8 L R _ hk0 ho0 h f kx)
      refine V_if_ne C0 (tgt := 77) (by decide) dX2_doItems_26 (fun c11 => ?_) (fun c11 => ?_)
      · have q9 := (if_neg c11).symm.trans q9
        cases q9
        exact V_sub [1, 2, 3] rfl k10
      · have q9 := (if_pos c11).symm.trans q9
        refine V_aload_n C0 1 rfl rfl dX2_doItems_29 ?_
        refine V_aload_n C0 0 rfl rfl dX2_doItems_30 ?_
        refine V_iload_n C0 2 rfl rfl dX2_doItems_31 ?_
        obtain ⟨b12, I13, q14, q9⟩ := bn2_some q9
        refine V_callV C0 (st := []) (As := [.ref (G.ad a5), .int y1]) 2 (c_X2_isDue G.l G.D G.cA G.ad G.bs G.X C0.2.2.2.2.2.2.2.2.2.1 C0.2.2.2.2.2.2.2.2.2.2.2.2 y0 a5 y1 I L R b12 I13 q14) lc_X2_isDue lk_X2_155 ho0 hk0 ⟨_, rfl, rfl⟩ rfl (by rw [erm]; decide) (Nat.le_of_ble_eq_true rfl) dX2_doItems_32 ?_
        show V G _ 35 [(3, .ref (G.ad a5)), (0, .ref (G.ad y0)), (1, .int y1), (2, .int y2)] [.int (b2i b12)] I13 L R
        obtain ⟨I15, q16, q9⟩ := bn1_some q9
        have k17 : V G f 77 [(0, .ref (G.ad y0)), (1, .int y1), (2, .int y2)] [] I15 L R := by
          cases q9
          exact V_sub [0, 1, 2] rfl k10
        refine V_if_eq C0 (tgt := 77) (by decide) dX2_doItems_35 (fun c18 => ?_) (fun c18 => ?_)
        · have q16 := (if_pos c18).symm.trans q16
          cases q16
          exact V_sub [1, 2, 3] rfl k17
        · have q16 := (if_neg c18).symm.trans q16
          refine V_aload_n C0 0 rfl rfl dX2_doItems_38 ?_
          refine V_dup C0 rfl dX2_doItems_39 ?_
          refine V_getI C0 3 7 fl_X2_159 c7.2 c7.1 rfl dX2_doItems_40 ?_
          refine V_iconst C0 (v := (1 : Int32)) (by decide) dX2_doItems_43 ?_
          refine V_iadd C0 dX2_doItems_44 ?_
          obtain ⟨I19, eI19, q16⟩ := wr_some q16
          refine V_putI C0 3 7 fp_X2_159 c7.2 c7.1 rfl dX2_doItems_45 ?_
          rw [← eI19]
          refine V_aload_n C0 1 rfl rfl dX2_doItems_48 ?_
          refine V_aload_n C0 0 rfl rfl dX2_doItems_49 ?_
          refine V_getI C0 3 4 fl_X2_162 c7.2 c7.1 rfl dX2_doItems_50 ?_
          refine V_aload_n C0 0 rfl rfl dX2_doItems_53 ?_
          refine V_getI C0 3 5 fl_X2_165 c7.2 c7.1 rfl dX2_doItems_54 ?_
          refine V_aload_n C0 0 rfl rfl dX2_doItems_57 ?_
          refine V_getI C0 3 6 fl_X2_168 c7.2 c7.1 rfl dX2_doItems_58 ?_
          obtain ⟨b20, I21, q22, q16⟩ := bn2_some q16
          refine V_callV C0 (st := []) (As := [.int (I19 a5 4), .int (I19 a5 5), .int (I19 a5 6)]) 2 (c_X2_perform G.l G.D G.cA G.ad G.bs G.X C0.2.2.2.2.2.2.2.2.2.1 C0.2.2.2.2.2.2.2.2.2.2.2.2 N y0 (I19 a5 4) (I19 a5 5) (I19 a5 6) I19 L R b20 I21 q22) lc_X2_perform lk_X2_171 ho0 hk0 ⟨_, rfl, rfl⟩ rfl (by rw [erm]; decide) (Nat.le_of_ble_eq_true rfl) dX2_doItems_61 ?_
          show V G _ 64 [(3, .ref (G.ad a5)), (0, .ref (G.ad y0)), (1, .int y1), (2, .int y2)] [.int (b2i b20)] I21 L R
          obtain ⟨I23, q24, q16⟩ := bn1_some q16
          have k25 : V G f 77 [(0, .ref (G.ad y0)), (1, .int y1), (2, .int y2)] [] I23 L R := by
            cases q16
            exact V_sub [0, 1, 2] rfl k17
          refine V_if_ne C0 (tgt := 77) (by decide) dX2_doItems_64 (fun c26 => ?_) (fun c26 => ?_)
          · have q24 := (if_neg c26).symm.trans q24
            cases q24
            exact V_sub [1, 2, 3] rfl k25
          · have q24 := (if_pos c26).symm.trans q24
            refine V_aload_n C0 0 rfl rfl dX2_doItems_67 ?_
            refine V_dup C0 rfl dX2_doItems_68 ?_
            refine V_getI C0 3 8 fl_X2_175 c7.2 c7.1 rfl dX2_doItems_69 ?_
            refine V_iconst C0 (v := (1 : Int32)) (by decide) dX2_doItems_72 ?_
            refine V_iadd C0 dX2_doItems_73 ?_
            obtain ⟨I27, eI27, q24⟩ := wr_some q24
            refine V_putI C0 3 8 fp_X2_175 c7.2 c7.1 rfl dX2_doItems_74 ?_
            rw [← eI27]
            cases q24
            exact V_sub [1, 2, 3] rfl k25
set_option maxRecDepth 100000 in
set_option maxHeartbeats 4000000 in
theorem c_X2_doItems (l : Launch) (D : va_G) (cA : Nat → ClassId) (ad : Nat → Nat) (bs : Nat) (X : State → Prop) (hAd : Ax ad bs) (hX : Stb bs X) (N : Nat) (x0 : Nat) (x1 : Int32) (I : MI) (L : ML) (R : MR) (I' : MI) (h : F_X2_doItems N x0 x1 I L R = some (I')) : Cn l D cA ad bs X yX2_doItems cX2_doItems 4 none 5 114 [.ref (ad x0), .int x1] I L R (none, I', L, R) := by
  refine Cn.ofV hAd hX [(0, .ref (ad x0)), (1, .int x1)] rfl (Nat.le_of_ble_eq_true rfl) (by decide) ?_
  intro G el eD ecA ead ebs eX erm eNL C0
  subst el eD ecA ead ebs eX
  unfold F_X2_doItems at h
  obtain ⟨c_x0, h⟩ := ite_some h
  refine V_iconst C0 (v := (0 : Int32)) (by decide) dX2_doItems_0 ?_
  refine V_istore_n C0 [(2, .int (0 : Int32)), (0, .ref (G.ad x0)), (1, .int x1)] rfl (by rw [eNL]; decide) rfl dX2_doItems_1 ?_
  obtain ⟨z29, q30, h⟩ := bn1_some h
  refine V_sub [1, 2, 0] rfl (lp_X2_doItems_2 C0 eNL erm N N x0 x1 (0 : Int32) I L R _ c_x0.1 c_x0.2 q30 _ ?_)
  show V G _ 83 [] [] z29 L R
  cases h
  exact V_vret C0 dX2_doItems_83
theorem dX10_size_0 : decode cX10_size 0 = .ok (.aload_n 0, 1) := by decide +kernel
theorem dX10_size_1 : decode cX10_size 1 = .ok (.getfield 26, 3) := by decide +kernel
theorem dX10_size_4 : decode cX10_size 4 = .ok (.ireturn, 1) := by decide +kernel
def F_X10_size (x0 : Nat) (I : MI) (L : ML) (R : MR) : Option (Int32) :=
  if kd x0 = 9 ∧ x0 < NN then
  some ((I x0 3))
  else none
set_option maxRecDepth 100000 in
set_option maxHeartbeats 4000000 in
theorem c_X10_size (l : Launch) (D : va_G) (cA : Nat → ClassId) (ad : Nat → Nat) (bs : Nat) (X : State → Prop) (hAd : Ax ad bs) (hX : Stb bs X) (x0 : Nat) (I : MI) (L : ML) (R : MR) (r : Int32) (h : F_X10_size x0 I L R = some (r)) : Cn l D cA ad bs X yX10_size cX10_size 1 (some .int) 0 0 [.ref (ad x0)] I L R (some (.int r), I, L, R) := by
  refine Cn.ofV hAd hX [(0, .ref (ad x0))] rfl (Nat.le_of_ble_eq_true rfl) (by decide) ?_
  intro G el eD ecA ead ebs eX erm eNL C0
  subst el eD ecA ead ebs eX
  unfold F_X10_size at h
  obtain ⟨c_x0, h⟩ := ite_some h
  refine V_aload_n C0 0 rfl rfl dX10_size_0 ?_
  refine V_getI C0 9 3 fl_X10_26 c_x0.2 c_x0.1 rfl dX10_size_1 ?_
  cases h
  exact V_iret C0 dX10_size_4
theorem dX9_isOn_0 : decode cX9_isOn 0 = .ok (.aload_n 0, 1) := by decide +kernel
theorem dX9_isOn_1 : decode cX9_isOn 1 = .ok (.iload_n 1, 1) := by decide +kernel
theorem dX9_isOn_2 : decode cX9_isOn 2 = .ok (.invokevirtual 62, 3) := by decide +kernel
theorem dX9_isOn_5 : decode cX9_isOn 5 = .ok (.ifCond .eq 18, 3) := by decide +kernel
theorem dX9_isOn_8 : decode cX9_isOn 8 = .ok (.aload_n 0, 1) := by decide +kernel
theorem dX9_isOn_9 : decode cX9_isOn 9 = .ok (.getfield 9, 3) := by decide +kernel
theorem dX9_isOn_12 : decode cX9_isOn 12 = .ok (.bipush 22, 2) := by decide +kernel
theorem dX9_isOn_14 : decode cX9_isOn 14 = .ok (.iaload, 1) := by decide +kernel
theorem dX9_isOn_15 : decode cX9_isOn 15 = .ok (.iconst 1, 1) := by decide +kernel
theorem dX9_isOn_16 : decode cX9_isOn 16 = .ok (.if_icmp .ne 7, 3) := by decide +kernel
theorem dX9_isOn_19 : decode cX9_isOn 19 = .ok (.iconst 1, 1) := by decide +kernel
theorem dX9_isOn_20 : decode cX9_isOn 20 = .ok (.goto 4, 3) := by decide +kernel
theorem dX9_isOn_23 : decode cX9_isOn 23 = .ok (.iconst 0, 1) := by decide +kernel
theorem dX9_isOn_24 : decode cX9_isOn 24 = .ok (.ireturn, 1) := by decide +kernel
def F_X9_isOn (x0 : Nat) (x1 : Int32) (I : MI) (L : ML) (R : MR) : Option (Bool) :=
  if kd x0 = 8 ∧ x0 < NN then
  bn1 (F_X9_is x0 x1 I L R) fun b1 =>
  if (b2i b1) = 0 then
    some (false)
  else
    (rf R x0 0 20).bind fun a4 =>
    (ri I a4 (22 : Int32)).bind fun v5 =>
    if v5 = (1 : Int32) then
      some (true)
    else
      some (false)
  else none
set_option maxRecDepth 100000 in
set_option maxHeartbeats 4000000 in
theorem c_X9_isOn (l : Launch) (D : va_G) (cA : Nat → ClassId) (ad : Nat → Nat) (bs : Nat) (X : State → Prop) (hAd : Ax ad bs) (hX : Stb bs X) (x0 : Nat) (x1 : Int32) (I : MI) (L : ML) (R : MR) (r : Bool) (h : F_X9_isOn x0 x1 I L R = some (r)) : Cn l D cA ad bs X yX9_isOn cX9_isOn 2 (some .boolean) 1 21 [.ref (ad x0), .int x1] I L R (some (.int (b2i r)), I, L, R) := by
  refine Cn.ofV hAd hX [(0, .ref (ad x0)), (1, .int x1)] rfl (Nat.le_of_ble_eq_true rfl) (by decide) ?_
  intro G el eD ecA ead ebs eX erm eNL C0
  subst el eD ecA ead ebs eX
  unfold F_X9_isOn at h
  obtain ⟨c_x0, h⟩ := ite_some h
  refine V_aload_n C0 0 rfl rfl dX9_isOn_0 ?_
  refine V_iload_n C0 1 rfl rfl dX9_isOn_1 ?_
  obtain ⟨b1, q2, h⟩ := bn1_some h
  refine V_callV C0 (st := []) (As := [.int x1]) 8 (c_X9_is G.l G.D G.cA G.ad G.bs G.X C0.2.2.2.2.2.2.2.2.2.1 C0.2.2.2.2.2.2.2.2.2.2.2.2 x0 x1 I L R b1 q2) lc_X9_is lk_X9_62 c_x0.2 c_x0.1 ⟨_, rfl, rfl⟩ rfl (by rw [erm]; decide) (Nat.le_of_ble_eq_true rfl) dX9_isOn_2 ?_
  show V G _ 5 [(0, .ref (G.ad x0)), (1, .int x1)] [.int (b2i b1)] I L R
  refine V_if_eq C0 (tgt := 23) (by decide) dX9_isOn_5 (fun c3 => ?_) (fun c3 => ?_)
  · have h := (if_pos c3).symm.trans h
    refine V_iconst C0 (v := (0 : Int32)) (by decide) dX9_isOn_23 ?_
    cases h
    exact V_zret C0 (by decide) dX9_isOn_24
  · have h := (if_neg c3).symm.trans h
    refine V_aload_n C0 0 rfl rfl dX9_isOn_8 ?_
    obtain ⟨a4, qa4, h⟩ := bnd_some h
    refine V_getR C0 8 0 fl_X9_9 c_x0.2 c_x0.1 rfl (rf_at qa4) dX9_isOn_9 ?_
    refine V_bipush C0 (v := (22 : Int32)) (by decide) dX9_isOn_12 ?_
    obtain ⟨v5, qv5, h⟩ := bnd_some h
    refine V_ri C0 (rf_lt qa4) (rf_kd qa4) qv5 dX9_isOn_14 ?_
    refine V_iconst C0 (v := (1 : Int32)) (by decide) dX9_isOn_15 ?_
    refine V_icmp_ne C0 (tgt := 23) (by decide) dX9_isOn_16 (fun c6 => ?_) (fun c6 => ?_)
    · have h := (if_neg c6).symm.trans h
      refine V_iconst C0 (v := (0 : Int32)) (by decide) dX9_isOn_23 ?_
      cases h
      exact V_zret C0 (by decide) dX9_isOn_24
    · have h := (if_pos c6).symm.trans h
      refine V_iconst C0 (v := (1 : Int32)) (by decide) dX9_isOn_19 ?_
      refine V_goto C0 (tgt := 24) (by decide) dX9_isOn_20 ?_
      cases h
      exact V_zret C0 (by decide) dX9_isOn_24
theorem dX11_off_0 : decode cX11_off 0 = .ok (.iload_n 1, 1) := by decide +kernel
theorem dX11_off_1 : decode cX11_off 1 = .ok (.iload_n 0, 1) := by decide +kernel
theorem dX11_off_2 : decode cX11_off 2 = .ok (.isub, 1) := by decide +kernel
theorem dX11_off_3 : decode cX11_off 3 = .ok (.sipush 1800, 3) := by decide +kernel
theorem dX11_off_6 : decode cX11_off 6 = .ok (.iadd, 1) := by decide +kernel
theorem dX11_off_7 : decode cX11_off 7 = .ok (.sipush 3600, 3) := by decide +kernel
theorem dX11_off_10 : decode cX11_off 10 = .ok (.invokestatic 246, 3) := by decide +kernel
theorem dX11_off_13 : decode cX11_off 13 = .ok (.sipush 1800, 3) := by decide +kernel
theorem dX11_off_16 : decode cX11_off 16 = .ok (.isub, 1) := by decide +kernel
theorem dX11_off_17 : decode cX11_off 17 = .ok (.ireturn, 1) := by decide +kernel
def F_X11_off (x0 : Int32) (x1 : Int32) (I : MI) (L : ML) (R : MR) : Option (Int32) :=
  bn1 (F_J9_floorMod_7cf53 ((x1 - x0) + (1800 : Int32)) (3600 : Int32) I L R) fun v1 =>
  some ((v1 - (1800 : Int32)))
set_option maxRecDepth 100000 in
set_option maxHeartbeats 4000000 in
theorem c_X11_off (l : Launch) (D : va_G) (cA : Nat → ClassId) (ad : Nat → Nat) (bs : Nat) (X : State → Prop) (hAd : Ax ad bs) (hX : Stb bs X) (x0 : Int32) (x1 : Int32) (I : MI) (L : ML) (R : MR) (r : Int32) (h : F_X11_off x0 x1 I L R = some (r)) : Cn l D cA ad bs X yX11_off cX11_off 2 (some .int) 1 22 [.int x0, .int x1] I L R (some (.int r), I, L, R) := by
  refine Cn.ofV hAd hX [(0, .int x0), (1, .int x1)] rfl (Nat.le_of_ble_eq_true rfl) (by decide) ?_
  intro G el eD ecA ead ebs eX erm eNL C0
  subst el eD ecA ead ebs eX
  unfold F_X11_off at h
  refine V_iload_n C0 1 rfl rfl dX11_off_0 ?_
  refine V_iload_n C0 0 rfl rfl dX11_off_1 ?_
  refine V_isub C0 dX11_off_2 ?_
  refine V_sipush C0 (v := (1800 : Int32)) (by decide) dX11_off_3 ?_
  refine V_iadd C0 dX11_off_6 ?_
  refine V_sipush C0 (v := (3600 : Int32)) (by decide) dX11_off_7 ?_
  obtain ⟨v1, q2, h⟩ := bn1_some h
  refine V_callS C0 (st := []) (As := [.int ((x1 - x0) + (1800 : Int32)), .int (3600 : Int32)]) (c_J9_floorMod_7cf53 G.l G.D G.cA G.ad G.bs G.X C0.2.2.2.2.2.2.2.2.2.1 C0.2.2.2.2.2.2.2.2.2.2.2.2 ((x1 - x0) + (1800 : Int32)) (3600 : Int32) I L R v1 q2) lc_J9_floorMod_7cf53 lk_X11_246 rfl (by rw [erm]; decide) (Nat.le_of_ble_eq_true rfl) dX11_off_10 ?_
  show V G _ 13 [(0, .int x0), (1, .int x1)] [.int v1] I L R
  refine V_sipush C0 (v := (1800 : Int32)) (by decide) dX11_off_13 ?_
  refine V_isub C0 dX11_off_16 ?_
  cases h
  exact V_iret C0 dX11_off_17
theorem dJ9_abs_0f7a4_0 : decode cJ9_abs_0f7a4 0 = .ok (.iload_n 0, 1) := by decide +kernel
theorem dJ9_abs_0f7a4_1 : decode cJ9_abs_0f7a4 1 = .ok (.ifCond .ge 8, 3) := by decide +kernel
theorem dJ9_abs_0f7a4_4 : decode cJ9_abs_0f7a4 4 = .ok (.iload_n 0, 1) := by decide +kernel
theorem dJ9_abs_0f7a4_5 : decode cJ9_abs_0f7a4 5 = .ok (.ineg, 1) := by decide +kernel
theorem dJ9_abs_0f7a4_6 : decode cJ9_abs_0f7a4 6 = .ok (.goto 4, 3) := by decide +kernel
theorem dJ9_abs_0f7a4_9 : decode cJ9_abs_0f7a4 9 = .ok (.iload_n 0, 1) := by decide +kernel
theorem dJ9_abs_0f7a4_10 : decode cJ9_abs_0f7a4 10 = .ok (.ireturn, 1) := by decide +kernel
def F_J9_abs_0f7a4 (x0 : Int32) (I : MI) (L : ML) (R : MR) : Option (Int32) :=
  if 0 ≤ x0 then
    some (x0)
  else
    some ((-x0))
set_option maxRecDepth 100000 in
set_option maxHeartbeats 4000000 in
theorem c_J9_abs_0f7a4 (l : Launch) (D : va_G) (cA : Nat → ClassId) (ad : Nat → Nat) (bs : Nat) (X : State → Prop) (hAd : Ax ad bs) (hX : Stb bs X) (x0 : Int32) (I : MI) (L : ML) (R : MR) (r : Int32) (h : F_J9_abs_0f7a4 x0 I L R = some (r)) : Cn l D cA ad bs X yJ9_abs_0f7a4 cJ9_abs_0f7a4 1 (some .int) 0 0 [.int x0] I L R (some (.int r), I, L, R) := by
  refine Cn.ofV hAd hX [(0, .int x0)] rfl (Nat.le_of_ble_eq_true rfl) (by decide +kernel) ?_
  intro G el eD ecA ead ebs eX erm eNL C0
  subst el eD ecA ead ebs eX
  unfold F_J9_abs_0f7a4 at h
  refine V_iload_n C0 0 rfl rfl dJ9_abs_0f7a4_0 ?_
  refine V_if_ge C0 (tgt := 9) (by decide) dJ9_abs_0f7a4_1 (fun c1 => ?_) (fun c1 => ?_)
  · have h := (if_pos c1).symm.trans h
    refine V_iload_n C0 0 rfl rfl dJ9_abs_0f7a4_9 ?_
    cases h
    exact V_iret C0 dJ9_abs_0f7a4_10
  · have h := (if_neg c1).symm.trans h
    refine V_iload_n C0 0 rfl rfl dJ9_abs_0f7a4_4 ?_
    refine V_ineg C0 dJ9_abs_0f7a4_5 ?_
    refine V_goto C0 (tgt := 10) (by decide) dJ9_abs_0f7a4_6 ?_
    cases h
    exact V_iret C0 dJ9_abs_0f7a4_10
theorem dX9_hasRoomFor_0 : decode cX9_hasRoomFor 0 = .ok (.aload_n 0, 1) := by decide +kernel
theorem dX9_hasRoomFor_1 : decode cX9_hasRoomFor 1 = .ok (.getfield 9, 3) := by decide +kernel
theorem dX9_hasRoomFor_4 : decode cX9_hasRoomFor 4 = .ok (.bipush 9, 2) := by decide +kernel
theorem dX9_hasRoomFor_6 : decode cX9_hasRoomFor 6 = .ok (.iaload, 1) := by decide +kernel
theorem dX9_hasRoomFor_7 : decode cX9_hasRoomFor 7 = .ok (.aload_n 0, 1) := by decide +kernel
theorem dX9_hasRoomFor_8 : decode cX9_hasRoomFor 8 = .ok (.getfield 9, 3) := by decide +kernel
theorem dX9_hasRoomFor_11 : decode cX9_hasRoomFor 11 = .ok (.bipush 10, 2) := by decide +kernel
theorem dX9_hasRoomFor_13 : decode cX9_hasRoomFor 13 = .ok (.iaload, 1) := by decide +kernel
theorem dX9_hasRoomFor_14 : decode cX9_hasRoomFor 14 = .ok (.isub, 1) := by decide +kernel
theorem dX9_hasRoomFor_15 : decode cX9_hasRoomFor 15 = .ok (.iload_n 1, 1) := by decide +kernel
theorem dX9_hasRoomFor_16 : decode cX9_hasRoomFor 16 = .ok (.if_icmp .lt 7, 3) := by decide +kernel
theorem dX9_hasRoomFor_19 : decode cX9_hasRoomFor 19 = .ok (.iconst 1, 1) := by decide +kernel
theorem dX9_hasRoomFor_20 : decode cX9_hasRoomFor 20 = .ok (.goto 4, 3) := by decide +kernel
theorem dX9_hasRoomFor_23 : decode cX9_hasRoomFor 23 = .ok (.iconst 0, 1) := by decide +kernel
theorem dX9_hasRoomFor_24 : decode cX9_hasRoomFor 24 = .ok (.ireturn, 1) := by decide +kernel
def F_X9_hasRoomFor (x0 : Nat) (x1 : Int32) (I : MI) (L : ML) (R : MR) : Option (Bool) :=
  if kd x0 = 8 ∧ x0 < NN then
  (rf R x0 0 20).bind fun a1 =>
  (ri I a1 (9 : Int32)).bind fun v2 =>
  (ri I a1 (10 : Int32)).bind fun v3 =>
  if (v2 - v3) < x1 then
    some (false)
  else
    some (true)
  else none
set_option maxRecDepth 100000 in
set_option maxHeartbeats 4000000 in
theorem c_X9_hasRoomFor (l : Launch) (D : va_G) (cA : Nat → ClassId) (ad : Nat → Nat) (bs : Nat) (X : State → Prop) (hAd : Ax ad bs) (hX : Stb bs X) (x0 : Nat) (x1 : Int32) (I : MI) (L : ML) (R : MR) (r : Bool) (h : F_X9_hasRoomFor x0 x1 I L R = some (r)) : Cn l D cA ad bs X yX9_hasRoomFor cX9_hasRoomFor 2 (some .boolean) 0 0 [.ref (ad x0), .int x1] I L R (some (.int (b2i r)), I, L, R) := by
  refine Cn.ofV hAd hX [(0, .ref (ad x0)), (1, .int x1)] rfl (Nat.le_of_ble_eq_true rfl) (by decide) ?_
  intro G el eD ecA ead ebs eX erm eNL C0
  subst el eD ecA ead ebs eX
  unfold F_X9_hasRoomFor at h
  obtain ⟨c_x0, h⟩ := ite_some h
  refine V_aload_n C0 0 rfl rfl dX9_hasRoomFor_0 ?_
  obtain ⟨a1, qa1, h⟩ := bnd_some h
  refine V_getR C0 8 0 fl_X9_9 c_x0.2 c_x0.1 rfl (rf_at qa1) dX9_hasRoomFor_1 ?_
  refine V_bipush C0 (v := (9 : Int32)) (by decide) dX9_hasRoomFor_4 ?_
  obtain ⟨v2, qv2, h⟩ := bnd_some h
  refine V_ri C0 (rf_lt qa1) (rf_kd qa1) qv2 dX9_hasRoomFor_6 ?_
  refine V_aload_n C0 0 rfl rfl dX9_hasRoomFor_7 ?_
  refine V_getR C0 8 0 fl_X9_9 c_x0.2 c_x0.1 rfl (rf_at qa1) dX9_hasRoomFor_8 ?_
  refine V_bipush C0 (v := (10 : Int32)) (by decide) dX9_hasRoomFor_11 ?_
  obtain ⟨v3, qv3, h⟩ := bnd_some h
  refine V_ri C0 (rf_lt qa1) (rf_kd qa1) qv3 dX9_hasRoomFor_13 ?_
  refine V_isub C0 dX9_hasRoomFor_14 ?_
  refine V_iload_n C0 1 rfl rfl dX9_hasRoomFor_15 ?_
  refine V_icmp_lt C0 (tgt := 23) (by decide) dX9_hasRoomFor_16 (fun c4 => ?_) (fun c4 => ?_)
  · have h := (if_pos c4).symm.trans h
    refine V_iconst C0 (v := (0 : Int32)) (by decide) dX9_hasRoomFor_23 ?_
    cases h
    exact V_zret C0 (by decide) dX9_hasRoomFor_24
  · have h := (if_neg c4).symm.trans h
    refine V_iconst C0 (v := (1 : Int32)) (by decide) dX9_hasRoomFor_19 ?_
    refine V_goto C0 (tgt := 24) (by decide) dX9_hasRoomFor_20 ?_
    cases h
    exact V_zret C0 (by decide) dX9_hasRoomFor_24
theorem dX9_keepByte_0 : decode cX9_keepByte 0 = .ok (.aload_n 0, 1) := by decide +kernel
theorem dX9_keepByte_1 : decode cX9_keepByte 1 = .ok (.getfield 18, 3) := by decide +kernel
theorem dX9_keepByte_4 : decode cX9_keepByte 4 = .ok (.aload_n 0, 1) := by decide +kernel
theorem dX9_keepByte_5 : decode cX9_keepByte 5 = .ok (.getfield 66, 3) := by decide +kernel
theorem dX9_keepByte_8 : decode cX9_keepByte 8 = .ok (.aload_n 0, 1) := by decide +kernel
theorem dX9_keepByte_9 : decode cX9_keepByte 9 = .ok (.getfield 9, 3) := by decide +kernel
theorem dX9_keepByte_12 : decode cX9_keepByte 12 = .ok (.bipush 10, 2) := by decide +kernel
theorem dX9_keepByte_14 : decode cX9_keepByte 14 = .ok (.iaload, 1) := by decide +kernel
theorem dX9_keepByte_15 : decode cX9_keepByte 15 = .ok (.iadd, 1) := by decide +kernel
theorem dX9_keepByte_16 : decode cX9_keepByte 16 = .ok (.sipush 2000, 3) := by decide +kernel
theorem dX9_keepByte_19 : decode cX9_keepByte 19 = .ok (.invokestatic 95, 3) := by decide +kernel
theorem dX9_keepByte_22 : decode cX9_keepByte 22 = .ok (.iload_n 1, 1) := by decide +kernel
theorem dX9_keepByte_23 : decode cX9_keepByte 23 = .ok (.iastore, 1) := by decide +kernel
theorem dX9_keepByte_24 : decode cX9_keepByte 24 = .ok (.aload_n 0, 1) := by decide +kernel
theorem dX9_keepByte_25 : decode cX9_keepByte 25 = .ok (.getfield 9, 3) := by decide +kernel
theorem dX9_keepByte_28 : decode cX9_keepByte 28 = .ok (.bipush 10, 2) := by decide +kernel
theorem dX9_keepByte_30 : decode cX9_keepByte 30 = .ok (.dup2, 1) := by decide +kernel
theorem dX9_keepByte_31 : decode cX9_keepByte 31 = .ok (.iaload, 1) := by decide +kernel
theorem dX9_keepByte_32 : decode cX9_keepByte 32 = .ok (.iconst 1, 1) := by decide +kernel
theorem dX9_keepByte_33 : decode cX9_keepByte 33 = .ok (.iadd, 1) := by decide +kernel
theorem dX9_keepByte_34 : decode cX9_keepByte 34 = .ok (.iastore, 1) := by decide +kernel
theorem dX9_keepByte_35 : decode cX9_keepByte 35 = .ok (.return_, 1) := by decide +kernel
def F_X9_keepByte (x0 : Nat) (x1 : Int32) (I : MI) (L : ML) (R : MR) : Option (MI) :=
  if kd x0 = 8 ∧ x0 < NN then
  (rf R x0 2 20).bind fun a1 =>
  (rf R x0 0 20).bind fun a2 =>
  (ri I a2 (10 : Int32)).bind fun v3 =>
  bn1 (F_J9_floorMod_7cf53 ((I x0 9) + v3) (2000 : Int32) I L R) fun v4 =>
  (wi I a1 v4 x1).bind fun I6 =>
  (ri I6 a2 (10 : Int32)).bind fun v7 =>
  (wi I6 a2 (10 : Int32) (v7 + (1 : Int32))).bind fun I8 =>
  some (I8)
  else none
set_option maxRecDepth 100000 in
set_option maxHeartbeats 4000000 in
theorem c_X9_keepByte (l : Launch) (D : va_G) (cA : Nat → ClassId) (ad : Nat → Nat) (bs : Nat) (X : State → Prop) (hAd : Ax ad bs) (hX : Stb bs X) (x0 : Nat) (x1 : Int32) (I : MI) (L : ML) (R : MR) (I' : MI) (h : F_X9_keepByte x0 x1 I L R = some (I')) : Cn l D cA ad bs X yX9_keepByte cX9_keepByte 2 none 1 22 [.ref (ad x0), .int x1] I L R (none, I', L, R) := by
  refine Cn.ofV hAd hX [(0, .ref (ad x0)), (1, .int x1)] rfl (Nat.le_of_ble_eq_true rfl) (by decide) ?_
  intro G el eD ecA ead ebs eX erm eNL C0
  subst el eD ecA ead ebs eX
  unfold F_X9_keepByte at h
  obtain ⟨c_x0, h⟩ := ite_some h
  refine V_aload_n C0 0 rfl rfl dX9_keepByte_0 ?_
  obtain ⟨a1, qa1, h⟩ := bnd_some h
  refine V_getR C0 8 2 fl_X9_18 c_x0.2 c_x0.1 rfl (rf_at qa1) dX9_keepByte_1 ?_
  refine V_aload_n C0 0 rfl rfl dX9_keepByte_4 ?_
  refine V_getI C0 8 9 fl_X9_66 c_x0.2 c_x0.1 rfl dX9_keepByte_5 ?_
  refine V_aload_n C0 0 rfl rfl dX9_keepByte_8 ?_
  obtain ⟨a2, qa2, h⟩ := bnd_some h
  refine V_getR C0 8 0 fl_X9_9 c_x0.2 c_x0.1 rfl (rf_at qa2) dX9_keepByte_9 ?_
  refine V_bipush C0 (v := (10 : Int32)) (by decide) dX9_keepByte_12 ?_
  obtain ⟨v3, qv3, h⟩ := bnd_some h
  refine V_ri C0 (rf_lt qa2) (rf_kd qa2) qv3 dX9_keepByte_14 ?_
  refine V_iadd C0 dX9_keepByte_15 ?_
  refine V_sipush C0 (v := (2000 : Int32)) (by decide) dX9_keepByte_16 ?_
  obtain ⟨v4, q5, h⟩ := bn1_some h
  refine V_callS C0 (st := [.ref (G.ad a1)]) (As := [.int ((I x0 9) + v3), .int (2000 : Int32)]) (c_J9_floorMod_7cf53 G.l G.D G.cA G.ad G.bs G.X C0.2.2.2.2.2.2.2.2.2.1 C0.2.2.2.2.2.2.2.2.2.2.2.2 ((I x0 9) + v3) (2000 : Int32) I L R v4 q5) lc_J9_floorMod_7cf53 lk_X9_95 rfl (by rw [erm]; decide) (Nat.le_of_ble_eq_true rfl) dX9_keepByte_19 ?_
  show V G _ 22 [(0, .ref (G.ad x0)), (1, .int x1)] [.int v4, .ref (G.ad a1)] I L R
  refine V_iload_n C0 1 rfl rfl dX9_keepByte_22 ?_
  obtain ⟨I6, qI6, h⟩ := bnd_some h
  refine V_wi C0 (rf_lt qa1) (rf_kd qa1) qI6 dX9_keepByte_23 ?_
  refine V_aload_n C0 0 rfl rfl dX9_keepByte_24 ?_
  refine V_getR C0 8 0 fl_X9_9 c_x0.2 c_x0.1 rfl (rf_at qa2) dX9_keepByte_25 ?_
  refine V_bipush C0 (v := (10 : Int32)) (by decide) dX9_keepByte_28 ?_
  refine V_dup2 C0 rfl rfl dX9_keepByte_30 ?_
  obtain ⟨v7, qv7, h⟩ := bnd_some h
  refine V_ri C0 (rf_lt qa2) (rf_kd qa2) qv7 dX9_keepByte_31 ?_
  refine V_iconst C0 (v := (1 : Int32)) (by decide) dX9_keepByte_32 ?_
  refine V_iadd C0 dX9_keepByte_33 ?_
  obtain ⟨I8, qI8, h⟩ := bnd_some h
  refine V_wi C0 (rf_lt qa2) (rf_kd qa2) qI8 dX9_keepByte_34 ?_
  cases h
  exact V_vret C0 dX9_keepByte_35
theorem dX2_keepPicture_0 : decode cX2_keepPicture 0 = .ok (.aload_n 0, 1) := by decide +kernel
theorem dX2_keepPicture_1 : decode cX2_keepPicture 1 = .ok (.getfield 205, 3) := by decide +kernel
theorem dX2_keepPicture_4 : decode cX2_keepPicture 4 = .ok (.bipush 39, 2) := by decide +kernel
theorem dX2_keepPicture_6 : decode cX2_keepPicture 6 = .ok (.iaload, 1) := by decide +kernel
theorem dX2_keepPicture_7 : decode cX2_keepPicture 7 = .ok (.istore_n 2, 1) := by decide +kernel
theorem dX2_keepPicture_8 : decode cX2_keepPicture 8 = .ok (.aload_n 1, 1) := by decide +kernel
theorem dX2_keepPicture_9 : decode cX2_keepPicture 9 = .ok (.iconst 5, 1) := by decide +kernel
theorem dX2_keepPicture_10 : decode cX2_keepPicture 10 = .ok (.invokevirtual 229, 3) := by decide +kernel
theorem dX2_keepPicture_13 : decode cX2_keepPicture 13 = .ok (.ifCond .eq 54, 3) := by decide +kernel
theorem dX2_keepPicture_16 : decode cX2_keepPicture 16 = .ok (.aload_n 1, 1) := by decide +kernel
theorem dX2_keepPicture_17 : decode cX2_keepPicture 17 = .ok (.iload_n 2, 1) := by decide +kernel
theorem dX2_keepPicture_18 : decode cX2_keepPicture 18 = .ok (.invokevirtual 253, 3) := by decide +kernel
theorem dX2_keepPicture_21 : decode cX2_keepPicture 21 = .ok (.ifCond .eq 46, 3) := by decide +kernel
theorem dX2_keepPicture_24 : decode cX2_keepPicture 24 = .ok (.iconst 0, 1) := by decide +kernel
theorem dX2_keepPicture_25 : decode cX2_keepPicture 25 = .ok (.istore_n 3, 1) := by decide +kernel
theorem dX2_keepPicture_26 : decode cX2_keepPicture 26 = .ok (.iload_n 3, 1) := by decide +kernel
theorem dX2_keepPicture_27 : decode cX2_keepPicture 27 = .ok (.iload_n 2, 1) := by decide +kernel
theorem dX2_keepPicture_28 : decode cX2_keepPicture 28 = .ok (.if_icmp .ge 28, 3) := by decide +kernel
theorem dX2_keepPicture_31 : decode cX2_keepPicture 31 = .ok (.aload_n 1, 1) := by decide +kernel
theorem dX2_keepPicture_32 : decode cX2_keepPicture 32 = .ok (.aload_n 0, 1) := by decide +kernel
theorem dX2_keepPicture_33 : decode cX2_keepPicture 33 = .ok (.getfield 205, 3) := by decide +kernel
theorem dX2_keepPicture_36 : decode cX2_keepPicture 36 = .ok (.bipush 32, 2) := by decide +kernel
theorem dX2_keepPicture_38 : decode cX2_keepPicture 38 = .ok (.iaload, 1) := by decide +kernel
theorem dX2_keepPicture_39 : decode cX2_keepPicture 39 = .ok (.iload_n 3, 1) := by decide +kernel
theorem dX2_keepPicture_40 : decode cX2_keepPicture 40 = .ok (.iadd, 1) := by decide +kernel
theorem dX2_keepPicture_41 : decode cX2_keepPicture 41 = .ok (.sipush 256, 3) := by decide +kernel
theorem dX2_keepPicture_44 : decode cX2_keepPicture 44 = .ok (.invokestatic 92, 3) := by decide +kernel
theorem dX2_keepPicture_47 : decode cX2_keepPicture 47 = .ok (.invokevirtual 256, 3) := by decide +kernel
theorem dX2_keepPicture_50 : decode cX2_keepPicture 50 = .ok (.iinc 3 1, 3) := by decide +kernel
theorem dX2_keepPicture_53 : decode cX2_keepPicture 53 = .ok (.goto (-27), 3) := by decide +kernel
theorem dX2_keepPicture_56 : decode cX2_keepPicture 56 = .ok (.aload_n 0, 1) := by decide +kernel
theorem dX2_keepPicture_57 : decode cX2_keepPicture 57 = .ok (.getfield 205, 3) := by decide +kernel
theorem dX2_keepPicture_60 : decode cX2_keepPicture 60 = .ok (.bipush 40, 2) := by decide +kernel
theorem dX2_keepPicture_62 : decode cX2_keepPicture 62 = .ok (.dup2, 1) := by decide +kernel
theorem dX2_keepPicture_63 : decode cX2_keepPicture 63 = .ok (.iaload, 1) := by decide +kernel
theorem dX2_keepPicture_64 : decode cX2_keepPicture 64 = .ok (.iconst 1, 1) := by decide +kernel
theorem dX2_keepPicture_65 : decode cX2_keepPicture 65 = .ok (.iadd, 1) := by decide +kernel
theorem dX2_keepPicture_66 : decode cX2_keepPicture 66 = .ok (.iastore, 1) := by decide +kernel
theorem dX2_keepPicture_67 : decode cX2_keepPicture 67 = .ok (.return_, 1) := by decide +kernel
def LF_X2_keepPicture_26 (N : Nat) : Nat → Nat → Nat → Int32 → Int32 → MI → ML → MR → Option (MI)
  | 0, _, _, _, _, _, _, _ => none
  | k + 1, y0, y1, y2, y3, I, L, R =>
    if y2 ≤ y3 then
      some (I)
    else
      (rf R y0 0 20).bind fun a10 =>
      (ri I a10 (32 : Int32)).bind fun v11 =>
      bn1 (F_J9_floorMod_7cf53 (v11 + y3) (256 : Int32) I L R) fun v12 =>
      bn1 (F_X9_keepByte y1 v12 I L R) fun I14 =>
      wr (y3 + (1 : Int32)) fun (u16 : Int32) =>
      LF_X2_keepPicture_26 N k y0 y1 y2 u16 I14 L R
def F_X2_keepPicture (N : Nat) (x0 : Nat) (x1 : Nat) (I : MI) (L : ML) (R : MR) : Option (MI) :=
  if kd x0 = 8 ∧ x0 < NN then
  if kd x1 = 8 ∧ x1 < NN then
  (rf R x0 0 20).bind fun a1 =>
  (ri I a1 (39 : Int32)).bind fun v2 =>
  bn1 (F_X9_isWhole x1 (5 : Int32) I L R) fun b3 =>
  if (b2i b3) = 0 then
    some (I)
  else
    bn1 (F_X9_hasRoomFor x1 v2 I L R) fun b6 =>
    if (b2i b6) = 0 then
      some (I)
    else
      bn1 (LF_X2_keepPicture_26 N N x0 x1 v2 (0 : Int32) I L R) fun z17 =>
      (ri z17 a1 (40 : Int32)).bind fun v19 =>
      (wi z17 a1 (40 : Int32) (v19 + (1 : Int32))).bind fun I20 =>
      some (I20)
  else none
  else none
set_option maxRecDepth 100000 in
set_option maxHeartbeats 4000000 in
theorem lp_X2_keepPicture_26 {G : Gm} (C0 : Cx G (yX2_keepPicture.cls) cX2_keepPicture none) (eNL : G.nL = 4) (erm : G.rm = ({ frames := 2, cells := 0, slots := 0, locals := 43 } : Room)) (N : Nat) : ∀ (k : Nat) (y0 : Nat) (y1 : Nat) (y2 : Int32) (y3 : Int32) (I : MI) (L : ML) (R : MR) (z : MI) (hk0 : kd y0 = 8) (ho0 : y0 < NN) (hk1 : kd y1 = 8) (ho1 : y1 < NN), LF_X2_keepPicture_26 N k y0 y1 y2 y3 I L R = some z → ∀ f : State → Prop, V G f 56 [(0, .ref (G.ad y0))] [] z L R → V G f 26 [(0, .ref (G.ad y0)), (1, .ref (G.ad y1)), (2, .int y2), (3, .int y3)] [] I L R := by
  intro k
  induction k with
  | zero =>
    intro y0 y1 y2 y3 I L R q hk0 ho0 hk1 ho1 h
    exact absurd h (by simp [LF_X2_keepPicture_26])
  | succ k ih =>
    intro y0 y1 y2 y3 I L R q hk0 ho0 hk1 ho1 h f kx
    rw [LF_X2_keepPicture_26] at h
    refine V_iload_n C0 3 rfl rfl dX2_keepPicture_26 ?_
    refine V_iload_n C0 2 rfl rfl dX2_keepPicture_27 ?_
    refine V_icmp_ge C0 (tgt := 56) (by decide) dX2_keepPicture_28 (fun c9 => ?_) (fun c9 => ?_)
    · have h := (if_pos c9).symm.trans h
      cases h
      exact V_sub [0] rfl kx
    · have h := (if_neg c9).symm.trans h
      refine V_aload_n C0 1 rfl rfl dX2_keepPicture_31 ?_
      refine V_aload_n C0 0 rfl rfl dX2_keepPicture_32 ?_
      obtain ⟨a10, qa10, h⟩ := bnd_some h
      refine V_getR C0 8 0 fl_X2_205 ho0 hk0 rfl (rf_at qa10) dX2_keepPicture_33 ?_
      refine V_bipush C0 (v := (32 : Int32)) (by decide) dX2_keepPicture_36 ?_
      obtain ⟨v11, qv11, h⟩ := bnd_some h
      refine V_ri C0 (rf_lt qa10) (rf_kd qa10) qv11 dX2_keepPicture_38 ?_
      refine V_iload_n C0 3 rfl rfl dX2_keepPicture_39 ?_
      refine V_iadd C0 dX2_keepPicture_40 ?_
      refine V_sipush C0 (v := (256 : Int32)) (by decide) dX2_keepPicture_41 ?_
      obtain ⟨v12, q13, h⟩ := bn1_some h
      refine V_callS C0 (st := [.ref (G.ad y1)]) (As := [.int (v11 + y3), .int (256 : Int32)]) (c_J9_floorMod_7cf53 G.l G.D G.cA G.ad G.bs G.X C0.2.2.2.2.2.2.2.2.2.1 C0.2.2.2.2.2.2.2.2.2.2.2.2 (v11 + y3) (256 : Int32) I L R v12 q13) lc_J9_floorMod_7cf53 lk_X2_92 rfl (by rw [erm]; decide) (Nat.le_of_ble_eq_true rfl) dX2_keepPicture_44 ?_
      show V G _ 47 [(0, .ref (G.ad y0)), (1, .ref (G.ad y1)), (2, .int y2), (3, .int y3)] [.int v12, .ref (G.ad y1)] I L R
      obtain ⟨I14, q15, h⟩ := bn1_some h
      refine V_callV C0 (st := []) (As := [.int v12]) 8 (c_X9_keepByte G.l G.D G.cA G.ad G.bs G.X C0.2.2.2.2.2.2.2.2.2.1 C0.2.2.2.2.2.2.2.2.2.2.2.2 y1 v12 I L R I14 q15) lc_X9_keepByte lk_X2_256 ho1 hk1 ⟨_, rfl, rfl⟩ rfl (by rw [erm]; decide) (Nat.le_of_ble_eq_true rfl) dX2_keepPicture_47 ?_
      show V G _ 50 [(0, .ref (G.ad y0)), (1, .ref (G.ad y1)), (2, .int y2), (3, .int y3)] [] I14 L R
      obtain ⟨u16, eu16, h⟩ := wr_some h
      refine V_iinc C0 3 [(3, .int u16), (0, .ref (G.ad y0)), (1, .ref (G.ad y1)), (2, .int y2)] rfl (n := 1) (by rw [eu16]; rfl) (by rw [eNL]; decide) rfl dX2_keepPicture_50 ?_
      refine V_goto C0 (tgt := 26) (by decide) dX2_keepPicture_53 ?_
      exact V_sub [1, 2, 3, 0] rfl (ih y0 y1 y2 u16 I14 L R _ hk0 ho0 hk1 ho1 h f kx)
set_option maxRecDepth 100000 in
set_option maxHeartbeats 4000000 in
theorem c_X2_keepPicture (l : Launch) (D : va_G) (cA : Nat → ClassId) (ad : Nat → Nat) (bs : Nat) (X : State → Prop) (hAd : Ax ad bs) (hX : Stb bs X) (N : Nat) (x0 : Nat) (x1 : Nat) (I : MI) (L : ML) (R : MR) (I' : MI) (h : F_X2_keepPicture N x0 x1 I L R = some (I')) : Cn l D cA ad bs X yX2_keepPicture cX2_keepPicture 4 none 2 43 [.ref (ad x0), .ref (ad x1)] I L R (none, I', L, R) := by
  refine Cn.ofV hAd hX [(0, .ref (ad x0)), (1, .ref (ad x1))] rfl (Nat.le_of_ble_eq_true rfl) (by decide) ?_
  intro G el eD ecA ead ebs eX erm eNL C0
  subst el eD ecA ead ebs eX
  unfold F_X2_keepPicture at h
  obtain ⟨c_x0, h⟩ := ite_some h
  obtain ⟨c_x1, h⟩ := ite_some h
  refine V_aload_n C0 0 rfl rfl dX2_keepPicture_0 ?_
  obtain ⟨a1, qa1, h⟩ := bnd_some h
  refine V_getR C0 8 0 fl_X2_205 c_x0.2 c_x0.1 rfl (rf_at qa1) dX2_keepPicture_1 ?_
  refine V_bipush C0 (v := (39 : Int32)) (by decide) dX2_keepPicture_4 ?_
  obtain ⟨v2, qv2, h⟩ := bnd_some h
  refine V_ri C0 (rf_lt qa1) (rf_kd qa1) qv2 dX2_keepPicture_6 ?_
  refine V_istore_n C0 [(2, .int v2), (0, .ref (G.ad x0)), (1, .ref (G.ad x1))] rfl (by rw [eNL]; decide) rfl dX2_keepPicture_7 ?_
  refine V_aload_n C0 2 rfl rfl dX2_keepPicture_8 ?_
  refine V_iconst C0 (v := (5 : Int32)) (by decide) dX2_keepPicture_9 ?_
  obtain ⟨b3, q4, h⟩ := bn1_some h
  refine V_callV C0 (st := []) (As := [.int (5 : Int32)]) 8 (c_X9_isWhole G.l G.D G.cA G.ad G.bs G.X C0.2.2.2.2.2.2.2.2.2.1 C0.2.2.2.2.2.2.2.2.2.2.2.2 x1 (5 : Int32) I L R b3 q4) lc_X9_isWhole lk_X2_229 c_x1.2 c_x1.1 ⟨_, rfl, rfl⟩ rfl (by rw [erm]; decide) (Nat.le_of_ble_eq_true rfl) dX2_keepPicture_10 ?_
  show V G _ 13 [(2, .int v2), (0, .ref (G.ad x0)), (1, .ref (G.ad x1))] [.int (b2i b3)] I L R
  refine V_if_eq C0 (tgt := 67) (by decide) dX2_keepPicture_13 (fun c5 => ?_) (fun c5 => ?_)
  · have h := (if_pos c5).symm.trans h
    cases h
    exact V_vret C0 dX2_keepPicture_67
  · have h := (if_neg c5).symm.trans h
    refine V_aload_n C0 2 rfl rfl dX2_keepPicture_16 ?_
    refine V_iload_n C0 0 rfl rfl dX2_keepPicture_17 ?_
    obtain ⟨b6, q7, h⟩ := bn1_some h
    refine V_callV C0 (st := []) (As := [.int v2]) 8 (c_X9_hasRoomFor G.l G.D G.cA G.ad G.bs G.X C0.2.2.2.2.2.2.2.2.2.1 C0.2.2.2.2.2.2.2.2.2.2.2.2 x1 v2 I L R b6 q7) lc_X9_hasRoomFor lk_X2_253 c_x1.2 c_x1.1 ⟨_, rfl, rfl⟩ rfl (by rw [erm]; decide) (Nat.le_of_ble_eq_true rfl) dX2_keepPicture_18 ?_
    show V G _ 21 [(2, .int v2), (0, .ref (G.ad x0)), (1, .ref (G.ad x1))] [.int (b2i b6)] I L R
    refine V_if_eq C0 (tgt := 67) (by decide) dX2_keepPicture_21 (fun c8 => ?_) (fun c8 => ?_)
    · have h := (if_pos c8).symm.trans h
      cases h
      exact V_vret C0 dX2_keepPicture_67
    · have h := (if_neg c8).symm.trans h
      refine V_iconst C0 (v := (0 : Int32)) (by decide) dX2_keepPicture_24 ?_
      refine V_istore_n C0 [(3, .int (0 : Int32)), (2, .int v2), (0, .ref (G.ad x0)), (1, .ref (G.ad x1))] rfl (by rw [eNL]; decide) rfl dX2_keepPicture_25 ?_
      obtain ⟨z17, q18, h⟩ := bn1_some h
      refine V_sub [2, 3, 1, 0] rfl (lp_X2_keepPicture_26 C0 eNL erm N N x0 x1 v2 (0 : Int32) I L R _ c_x0.1 c_x0.2 c_x1.1 c_x1.2 q18 _ ?_)
      show V G _ 56 [(0, .ref (G.ad x0))] [] z17 L R
      refine V_aload_n C0 0 rfl rfl dX2_keepPicture_56 ?_
      refine V_getR C0 8 0 fl_X2_205 c_x0.2 c_x0.1 rfl (rf_at qa1) dX2_keepPicture_57 ?_
      refine V_bipush C0 (v := (40 : Int32)) (by decide) dX2_keepPicture_60 ?_
      refine V_dup2 C0 rfl rfl dX2_keepPicture_62 ?_
      obtain ⟨v19, qv19, h⟩ := bnd_some h
      refine V_ri C0 (rf_lt qa1) (rf_kd qa1) qv19 dX2_keepPicture_63 ?_
      refine V_iconst C0 (v := (1 : Int32)) (by decide) dX2_keepPicture_64 ?_
      refine V_iadd C0 dX2_keepPicture_65 ?_
      obtain ⟨I20, qI20, h⟩ := bnd_some h
      refine V_wi C0 (rf_lt qa1) (rf_kd qa1) qI20 dX2_keepPicture_66 ?_
      cases h
      exact V_vret C0 dX2_keepPicture_67
theorem dX2_takeReading_0 : decode cX2_takeReading 0 = .ok (.aload_n 1, 1) := by decide +kernel
theorem dX2_takeReading_1 : decode cX2_takeReading 1 = .ok (.bipush 10, 2) := by decide +kernel
theorem dX2_takeReading_3 : decode cX2_takeReading 3 = .ok (.invokevirtual 232, 3) := by decide +kernel
theorem dX2_takeReading_6 : decode cX2_takeReading 6 = .ok (.ifCond .eq 35, 3) := by decide +kernel
theorem dX2_takeReading_9 : decode cX2_takeReading 9 = .ok (.aload_n 1, 1) := by decide +kernel
theorem dX2_takeReading_10 : decode cX2_takeReading 10 = .ok (.getfield 205, 3) := by decide +kernel
theorem dX2_takeReading_13 : decode cX2_takeReading 13 = .ok (.bipush 32, 2) := by decide +kernel
theorem dX2_takeReading_15 : decode cX2_takeReading 15 = .ok (.aload_n 0, 1) := by decide +kernel
theorem dX2_takeReading_16 : decode cX2_takeReading 16 = .ok (.getfield 24, 3) := by decide +kernel
theorem dX2_takeReading_19 : decode cX2_takeReading 19 = .ok (.aload_n 1, 1) := by decide +kernel
theorem dX2_takeReading_20 : decode cX2_takeReading 20 = .ok (.getfield 205, 3) := by decide +kernel
theorem dX2_takeReading_23 : decode cX2_takeReading 23 = .ok (.bipush 35, 2) := by decide +kernel
theorem dX2_takeReading_25 : decode cX2_takeReading 25 = .ok (.iaload, 1) := by decide +kernel
theorem dX2_takeReading_26 : decode cX2_takeReading 26 = .ok (.invokevirtual 210, 3) := by decide +kernel
theorem dX2_takeReading_29 : decode cX2_takeReading 29 = .ok (.aload_n 1, 1) := by decide +kernel
theorem dX2_takeReading_30 : decode cX2_takeReading 30 = .ok (.getfield 205, 3) := by decide +kernel
theorem dX2_takeReading_33 : decode cX2_takeReading 33 = .ok (.bipush 33, 2) := by decide +kernel
theorem dX2_takeReading_35 : decode cX2_takeReading 35 = .ok (.iaload, 1) := by decide +kernel
theorem dX2_takeReading_36 : decode cX2_takeReading 36 = .ok (.iadd, 1) := by decide +kernel
theorem dX2_takeReading_37 : decode cX2_takeReading 37 = .ok (.iastore, 1) := by decide +kernel
theorem dX2_takeReading_38 : decode cX2_takeReading 38 = .ok (.goto 184, 3) := by decide +kernel
theorem dX2_takeReading_41 : decode cX2_takeReading 41 = .ok (.aload_n 1, 1) := by decide +kernel
theorem dX2_takeReading_42 : decode cX2_takeReading 42 = .ok (.bipush 12, 2) := by decide +kernel
theorem dX2_takeReading_44 : decode cX2_takeReading 44 = .ok (.invokevirtual 232, 3) := by decide +kernel
theorem dX2_takeReading_47 : decode cX2_takeReading 47 = .ok (.ifCond .eq 74, 3) := by decide +kernel
theorem dX2_takeReading_50 : decode cX2_takeReading 50 = .ok (.aload_n 0, 1) := by decide +kernel
theorem dX2_takeReading_51 : decode cX2_takeReading 51 = .ok (.getfield 24, 3) := by decide +kernel
theorem dX2_takeReading_54 : decode cX2_takeReading 54 = .ok (.iconst 0, 1) := by decide +kernel
theorem dX2_takeReading_55 : decode cX2_takeReading 55 = .ok (.invokevirtual 123, 3) := by decide +kernel
theorem dX2_takeReading_58 : decode cX2_takeReading 58 = .ok (.iconst 0, 1) := by decide +kernel
theorem dX2_takeReading_59 : decode cX2_takeReading 59 = .ok (.invokestatic 243, 3) := by decide +kernel
theorem dX2_takeReading_62 : decode cX2_takeReading 62 = .ok (.istore_n 3, 1) := by decide +kernel
theorem dX2_takeReading_63 : decode cX2_takeReading 63 = .ok (.aload_n 0, 1) := by decide +kernel
theorem dX2_takeReading_64 : decode cX2_takeReading 64 = .ok (.getfield 64, 3) := by decide +kernel
theorem dX2_takeReading_67 : decode cX2_takeReading 67 = .ok (.ifCond .le 21, 3) := by decide +kernel
theorem dX2_takeReading_70 : decode cX2_takeReading 70 = .ok (.iload_n 3, 1) := by decide +kernel
theorem dX2_takeReading_71 : decode cX2_takeReading 71 = .ok (.invokestatic 246, 3) := by decide +kernel
theorem dX2_takeReading_74 : decode cX2_takeReading 74 = .ok (.aload_n 1, 1) := by decide +kernel
theorem dX2_takeReading_75 : decode cX2_takeReading 75 = .ok (.getfield 205, 3) := by decide +kernel
theorem dX2_takeReading_78 : decode cX2_takeReading 78 = .ok (.bipush 37, 2) := by decide +kernel
theorem dX2_takeReading_80 : decode cX2_takeReading 80 = .ok (.iaload, 1) := by decide +kernel
theorem dX2_takeReading_81 : decode cX2_takeReading 81 = .ok (.if_icmp .ge 7, 3) := by decide +kernel
theorem dX2_takeReading_84 : decode cX2_takeReading 84 = .ok (.iconst 1, 1) := by decide +kernel
theorem dX2_takeReading_85 : decode cX2_takeReading 85 = .ok (.goto 4, 3) := by decide +kernel
theorem dX2_takeReading_88 : decode cX2_takeReading 88 = .ok (.iconst 0, 1) := by decide +kernel
theorem dX2_takeReading_89 : decode cX2_takeReading 89 = .ok (.istore 4, 2) := by decide +kernel
theorem dX2_takeReading_91 : decode cX2_takeReading 91 = .ok (.aload_n 1, 1) := by decide +kernel
theorem dX2_takeReading_92 : decode cX2_takeReading 92 = .ok (.getfield 205, 3) := by decide +kernel
theorem dX2_takeReading_95 : decode cX2_takeReading 95 = .ok (.bipush 32, 2) := by decide +kernel
theorem dX2_takeReading_97 : decode cX2_takeReading 97 = .ok (.iload 4, 2) := by decide +kernel
theorem dX2_takeReading_99 : decode cX2_takeReading 99 = .ok (.ifCond .eq 15, 3) := by decide +kernel
theorem dX2_takeReading_102 : decode cX2_takeReading 102 = .ok (.iload_n 3, 1) := by decide +kernel
theorem dX2_takeReading_103 : decode cX2_takeReading 103 = .ok (.aload_n 1, 1) := by decide +kernel
theorem dX2_takeReading_104 : decode cX2_takeReading 104 = .ok (.getfield 205, 3) := by decide +kernel
theorem dX2_takeReading_107 : decode cX2_takeReading 107 = .ok (.bipush 29, 2) := by decide +kernel
theorem dX2_takeReading_109 : decode cX2_takeReading 109 = .ok (.iaload, 1) := by decide +kernel
theorem dX2_takeReading_110 : decode cX2_takeReading 110 = .ok (.iadd, 1) := by decide +kernel
theorem dX2_takeReading_111 : decode cX2_takeReading 111 = .ok (.goto 6, 3) := by decide +kernel
theorem dX2_takeReading_114 : decode cX2_takeReading 114 = .ok (.sipush 9999, 3) := by decide +kernel
theorem dX2_takeReading_117 : decode cX2_takeReading 117 = .ok (.iastore, 1) := by decide +kernel
theorem dX2_takeReading_118 : decode cX2_takeReading 118 = .ok (.goto 104, 3) := by decide +kernel
theorem dX2_takeReading_121 : decode cX2_takeReading 121 = .ok (.aload_n 1, 1) := by decide +kernel
theorem dX2_takeReading_122 : decode cX2_takeReading 122 = .ok (.bipush 13, 2) := by decide +kernel
theorem dX2_takeReading_124 : decode cX2_takeReading 124 = .ok (.invokevirtual 232, 3) := by decide +kernel
theorem dX2_takeReading_127 : decode cX2_takeReading 127 = .ok (.ifCond .eq 41, 3) := by decide +kernel
theorem dX2_takeReading_130 : decode cX2_takeReading 130 = .ok (.aload_n 1, 1) := by decide +kernel
theorem dX2_takeReading_131 : decode cX2_takeReading 131 = .ok (.getfield 205, 3) := by decide +kernel
theorem dX2_takeReading_134 : decode cX2_takeReading 134 = .ok (.bipush 32, 2) := by decide +kernel
theorem dX2_takeReading_136 : decode cX2_takeReading 136 = .ok (.aload_n 0, 1) := by decide +kernel
theorem dX2_takeReading_137 : decode cX2_takeReading 137 = .ok (.getfield 15, 3) := by decide +kernel
theorem dX2_takeReading_140 : decode cX2_takeReading 140 = .ok (.aload_n 1, 1) := by decide +kernel
theorem dX2_takeReading_141 : decode cX2_takeReading 141 = .ok (.getfield 205, 3) := by decide +kernel
theorem dX2_takeReading_144 : decode cX2_takeReading 144 = .ok (.bipush 27, 2) := by decide +kernel
theorem dX2_takeReading_146 : decode cX2_takeReading 146 = .ok (.iaload, 1) := by decide +kernel
theorem dX2_takeReading_147 : decode cX2_takeReading 147 = .ok (.invokevirtual 199, 3) := by decide +kernel
theorem dX2_takeReading_150 : decode cX2_takeReading 150 = .ok (.getfield 205, 3) := by decide +kernel
theorem dX2_takeReading_153 : decode cX2_takeReading 153 = .ok (.bipush 62, 2) := by decide +kernel
theorem dX2_takeReading_155 : decode cX2_takeReading 155 = .ok (.iaload, 1) := by decide +kernel
theorem dX2_takeReading_156 : decode cX2_takeReading 156 = .ok (.aload_n 1, 1) := by decide +kernel
theorem dX2_takeReading_157 : decode cX2_takeReading 157 = .ok (.getfield 205, 3) := by decide +kernel
theorem dX2_takeReading_160 : decode cX2_takeReading 160 = .ok (.bipush 38, 2) := by decide +kernel
theorem dX2_takeReading_162 : decode cX2_takeReading 162 = .ok (.iaload, 1) := by decide +kernel
theorem dX2_takeReading_163 : decode cX2_takeReading 163 = .ok (.iadd, 1) := by decide +kernel
theorem dX2_takeReading_164 : decode cX2_takeReading 164 = .ok (.iastore, 1) := by decide +kernel
theorem dX2_takeReading_165 : decode cX2_takeReading 165 = .ok (.goto 57, 3) := by decide +kernel
theorem dX2_takeReading_168 : decode cX2_takeReading 168 = .ok (.aload_n 1, 1) := by decide +kernel
theorem dX2_takeReading_169 : decode cX2_takeReading 169 = .ok (.bipush 14, 2) := by decide +kernel
theorem dX2_takeReading_171 : decode cX2_takeReading 171 = .ok (.invokevirtual 232, 3) := by decide +kernel
theorem dX2_takeReading_174 : decode cX2_takeReading 174 = .ok (.ifCond .eq 48, 3) := by decide +kernel
theorem dX2_takeReading_177 : decode cX2_takeReading 177 = .ok (.aload_n 1, 1) := by decide +kernel
theorem dX2_takeReading_178 : decode cX2_takeReading 178 = .ok (.getfield 205, 3) := by decide +kernel
theorem dX2_takeReading_181 : decode cX2_takeReading 181 = .ok (.bipush 32, 2) := by decide +kernel
theorem dX2_takeReading_183 : decode cX2_takeReading 183 = .ok (.iload_n 2, 1) := by decide +kernel
theorem dX2_takeReading_184 : decode cX2_takeReading 184 = .ok (.aload_n 1, 1) := by decide +kernel
theorem dX2_takeReading_185 : decode cX2_takeReading 185 = .ok (.getfield 205, 3) := by decide +kernel
theorem dX2_takeReading_188 : decode cX2_takeReading 188 = .ok (.bipush 39, 2) := by decide +kernel
theorem dX2_takeReading_190 : decode cX2_takeReading 190 = .ok (.iaload, 1) := by decide +kernel
theorem dX2_takeReading_191 : decode cX2_takeReading 191 = .ok (.aload_n 0, 1) := by decide +kernel
theorem dX2_takeReading_192 : decode cX2_takeReading 192 = .ok (.getfield 64, 3) := by decide +kernel
theorem dX2_takeReading_195 : decode cX2_takeReading 195 = .ok (.imul, 1) := by decide +kernel
theorem dX2_takeReading_196 : decode cX2_takeReading 196 = .ok (.iadd, 1) := by decide +kernel
theorem dX2_takeReading_197 : decode cX2_takeReading 197 = .ok (.sipush 256, 3) := by decide +kernel
theorem dX2_takeReading_200 : decode cX2_takeReading 200 = .ok (.invokestatic 92, 3) := by decide +kernel
theorem dX2_takeReading_203 : decode cX2_takeReading 203 = .ok (.iastore, 1) := by decide +kernel
theorem dX2_takeReading_204 : decode cX2_takeReading 204 = .ok (.aload_n 1, 1) := by decide +kernel
theorem dX2_takeReading_205 : decode cX2_takeReading 205 = .ok (.aload_n 0, 1) := by decide +kernel
theorem dX2_takeReading_206 : decode cX2_takeReading 206 = .ok (.getfield 15, 3) := by decide +kernel
theorem dX2_takeReading_209 : decode cX2_takeReading 209 = .ok (.aload_n 1, 1) := by decide +kernel
theorem dX2_takeReading_210 : decode cX2_takeReading 210 = .ok (.getfield 205, 3) := by decide +kernel
theorem dX2_takeReading_213 : decode cX2_takeReading 213 = .ok (.bipush 27, 2) := by decide +kernel
theorem dX2_takeReading_215 : decode cX2_takeReading 215 = .ok (.iaload, 1) := by decide +kernel
theorem dX2_takeReading_216 : decode cX2_takeReading 216 = .ok (.invokevirtual 199, 3) := by decide +kernel
theorem dX2_takeReading_219 : decode cX2_takeReading 219 = .ok (.invokestatic 249, 3) := by decide +kernel
theorem dX2_takeReading_222 : decode cX2_takeReading 222 = .ok (.return_, 1) := by decide +kernel
def F_X2_takeReading (N : Nat) (x0 : Nat) (x1 : Nat) (x2 : Int32) (I : MI) (L : ML) (R : MR) : Option (MI) :=
  if kd x0 = 2 ∧ x0 < NN then
  if kd x1 = 8 ∧ x1 < NN then
  bn1 (F_X9_is x1 (10 : Int32) I L R) fun b1 =>
  if (b2i b1) = 0 then
    bn1 (F_X9_is x1 (12 : Int32) I L R) fun b4 =>
    if (b2i b4) = 0 then
      bn1 (F_X9_is x1 (13 : Int32) I L R) fun b7 =>
      if (b2i b7) = 0 then
        bn1 (F_X9_is x1 (14 : Int32) I L R) fun b10 =>
        if (b2i b10) = 0 then
          some (I)
        else
          (rf R x1 0 20).bind fun a13 =>
          (ri I a13 (39 : Int32)).bind fun v14 =>
          bn1 (F_J9_floorMod_7cf53 (x2 + (v14 * (I x0 8))) (256 : Int32) I L R) fun v15 =>
          (wi I a13 (32 : Int32) v15).bind fun I17 =>
          (rf R x0 0 9).bind fun a18 =>
          (ri I17 a13 (27 : Int32)).bind fun v19 =>
          bn1 (F_X10_unitAt a18 v19 I17 L R) fun a20 =>
          if kd a20 = 8 ∧ a20 < NN then
          bn1 (F_X2_keepPicture N x1 a20 I17 L R) fun I23 =>
          some (I23)
          else none
      else
        (rf R x1 0 20).bind fun a25 =>
        (rf R x0 0 9).bind fun a26 =>
        (ri I a25 (27 : Int32)).bind fun v27 =>
        bn1 (F_X10_unitAt a26 v27 I L R) fun a28 =>
        if kd a28 = 8 ∧ a28 < NN then
        (rf R a28 0 20).bind fun a31 =>
        (ri I a31 (62 : Int32)).bind fun v32 =>
        (ri I a25 (38 : Int32)).bind fun v33 =>
        (wi I a25 (32 : Int32) (v32 + v33)).bind fun I34 =>
        some (I34)
        else none
    else
      (rf R x0 1 6).bind fun a35 =>
      bn1 (F_X7_angle a35 (0 : Int32) I L R) fun v36 =>
      bn1 (F_X11_off v36 (0 : Int32) I L R) fun v38 =>
      bn1 (
        if (I x0 8) ≤ 0 then
          some ((0 : Int32))
        else
          bn1 (F_J9_abs_0f7a4 v38 I L R) fun v44 =>
          (rf R x1 0 20).bind fun a46 =>
          (ri I a46 (37 : Int32)).bind fun v47 =>
          bn1 (
            if v47 ≤ v44 then
              some ((0 : Int32))
            else
              some ((1 : Int32))
          ) fun (s48 : Int32) =>
          some (s48)
      ) fun (s40 : Int32) =>
      (rf R x1 0 20).bind fun a52 =>
      bn1 (
        if s40 = 0 then
          some ((9999 : Int32))
        else
          (ri I a52 (29 : Int32)).bind fun v57 =>
          some ((v38 + v57))
      ) fun (s53 : Int32) =>
      (wi I a52 (32 : Int32) s53).bind fun I58 =>
      some (I58)
  else
    (rf R x1 0 20).bind fun a59 =>
    (rf R x0 1 6).bind fun a60 =>
    (ri I a59 (35 : Int32)).bind fun v61 =>
    bn1 (F_X7_rate a60 v61 I L R) fun v62 =>
    (ri I a59 (33 : Int32)).bind fun v64 =>
    (wi I a59 (32 : Int32) (v62 + v64)).bind fun I65 =>
    some (I65)
  else none
  else none
set_option maxRecDepth 100000 in
set_option maxHeartbeats 4000000 in
theorem c_X2_takeReading (l : Launch) (D : va_G) (cA : Nat → ClassId) (ad : Nat → Nat) (bs : Nat) (X : State → Prop) (hAd : Ax ad bs) (hX : Stb bs X) (N : Nat) (x0 : Nat) (x1 : Nat) (x2 : Int32) (I : MI) (L : ML) (R : MR) (I' : MI) (h : F_X2_takeReading N x0 x1 x2 I L R = some (I')) : Cn l D cA ad bs X yX2_takeReading cX2_takeReading 5 none 3 66 [.ref (ad x0), .ref (ad x1), .int x2] I L R (none, I', L, R) := by
  refine Cn.ofV hAd hX [(0, .ref (ad x0)), (1, .ref (ad x1)), (2, .int x2)] rfl (Nat.le_of_ble_eq_true rfl) (by decide) ?_
  intro G el eD ecA ead ebs eX erm eNL C0
  subst el eD ecA ead ebs eX
  unfold F_X2_takeReading at h
  obtain ⟨c_x0, h⟩ := ite_some h
  obtain ⟨c_x1, h⟩ := ite_some h
  refine V_aload_n C0 1 rfl rfl dX2_takeReading_0 ?_
  refine V_bipush C0 (v := (10 : Int32)) (by decide) dX2_takeReading_1 ?_
  obtain ⟨b1, q2, h⟩ := bn1_some h
  refine V_callV C0 (st := []) (As := [.int (10 : Int32)]) 8 (c_X9_is G.l G.D G.cA G.ad G.bs G.X C0.2.2.2.2.2.2.2.2.2.1 C0.2.2.2.2.2.2.2.2.2.2.2.2 x1 (10 : Int32) I L R b1 q2) lc_X9_is lk_X2_232 c_x1.2 c_x1.1 ⟨_, rfl, rfl⟩ rfl (by rw [erm]; decide) (Nat.le_of_ble_eq_true rfl) dX2_takeReading_3 ?_
  show V G _ 6 [(0, .ref (G.ad x0)), (1, .ref (G.ad x1)), (2, .int x2)] [.int (b2i b1)] I L R
  refine V_if_eq C0 (tgt := 41) (by decide) dX2_takeReading_6 (fun c3 => ?_) (fun c3 => ?_)
  · have h := (if_pos c3).symm.trans h
    refine V_aload_n C0 1 rfl rfl dX2_takeReading_41 ?_
    refine V_bipush C0 (v := (12 : Int32)) (by decide) dX2_takeReading_42 ?_
    obtain ⟨b4, q5, h⟩ := bn1_some h
    refine V_callV C0 (st := []) (As := [.int (12 : Int32)]) 8 (c_X9_is G.l G.D G.cA G.ad G.bs G.X C0.2.2.2.2.2.2.2.2.2.1 C0.2.2.2.2.2.2.2.2.2.2.2.2 x1 (12 : Int32) I L R b4 q5) lc_X9_is lk_X2_232 c_x1.2 c_x1.1 ⟨_, rfl, rfl⟩ rfl (by rw [erm]; decide) (Nat.le_of_ble_eq_true rfl) dX2_takeReading_44 ?_
    show V G _ 47 [(0, .ref (G.ad x0)), (1, .ref (G.ad x1)), (2, .int x2)] [.int (b2i b4)] I L R
    refine V_if_eq C0 (tgt := 121) (by decide) dX2_takeReading_47 (fun c6 => ?_) (fun c6 => ?_)
    · have h := (if_pos c6).symm.trans h
      refine V_aload_n C0 1 rfl rfl dX2_takeReading_121 ?_
      refine V_bipush C0 (v := (13 : Int32)) (by decide) dX2_takeReading_122 ?_
      obtain ⟨b7, q8, h⟩ := bn1_some h
      refine V_callV C0 (st := []) (As := [.int (13 : Int32)]) 8 (c_X9_is G.l G.D G.cA G.ad G.bs G.X C0.2.2.2.2.2.2.2.2.2.1 C0.2.2.2.2.2.2.2.2.2.2.2.2 x1 (13 : Int32) I L R b7 q8) lc_X9_is lk_X2_232 c_x1.2 c_x1.1 ⟨_, rfl, rfl⟩ rfl (by rw [erm]; decide) (Nat.le_of_ble_eq_true rfl) dX2_takeReading_124 ?_
      show V G _ 127 [(0, .ref (G.ad x0)), (1, .ref (G.ad x1)), (2, .int x2)] [.int (b2i b7)] I L R
      refine V_if_eq C0 (tgt := 168) (by decide) dX2_takeReading_127 (fun c9 => ?_) (fun c9 => ?_)
      · have h := (if_pos c9).symm.trans h
        refine V_aload_n C0 1 rfl rfl dX2_takeReading_168 ?_
        refine V_bipush C0 (v := (14 : Int32)) (by decide) dX2_takeReading_169 ?_
        obtain ⟨b10, q11, h⟩ := bn1_some h
        refine V_callV C0 (st := []) (As := [.int (14 : Int32)]) 8 (c_X9_is G.l G.D G.cA G.ad G.bs G.X C0.2.2.2.2.2.2.2.2.2.1 C0.2.2.2.2.2.2.2.2.2.2.2.2 x1 (14 : Int32) I L R b10 q11) lc_X9_is lk_X2_232 c_x1.2 c_x1.1 ⟨_, rfl, rfl⟩ rfl (by rw [erm]; decide) (Nat.le_of_ble_eq_true rfl) dX2_takeReading_171 ?_
        show V G _ 174 [(0, .ref (G.ad x0)), (1, .ref (G.ad x1)), (2, .int x2)] [.int (b2i b10)] I L R
        refine V_if_eq C0 (tgt := 222) (by decide) dX2_takeReading_174 (fun c12 => ?_) (fun c12 => ?_)
        · have h := (if_pos c12).symm.trans h
          cases h
          exact V_vret C0 dX2_takeReading_222
        · have h := (if_neg c12).symm.trans h
          refine V_aload_n C0 1 rfl rfl dX2_takeReading_177 ?_
          obtain ⟨a13, qa13, h⟩ := bnd_some h
          refine V_getR C0 8 0 fl_X2_205 c_x1.2 c_x1.1 rfl (rf_at qa13) dX2_takeReading_178 ?_
          refine V_bipush C0 (v := (32 : Int32)) (by decide) dX2_takeReading_181 ?_
          refine V_iload_n C0 2 rfl rfl dX2_takeReading_183 ?_
          refine V_aload_n C0 1 rfl rfl dX2_takeReading_184 ?_
          refine V_getR C0 8 0 fl_X2_205 c_x1.2 c_x1.1 rfl (rf_at qa13) dX2_takeReading_185 ?_
          refine V_bipush C0 (v := (39 : Int32)) (by decide) dX2_takeReading_188 ?_
          obtain ⟨v14, qv14, h⟩ := bnd_some h
          refine V_ri C0 (rf_lt qa13) (rf_kd qa13) qv14 dX2_takeReading_190 ?_
          refine V_aload_n C0 0 rfl rfl dX2_takeReading_191 ?_
          refine V_getI C0 2 8 fl_X2_64 c_x0.2 c_x0.1 rfl dX2_takeReading_192 ?_
          refine V_imul C0 dX2_takeReading_195 ?_
          refine V_iadd C0 dX2_takeReading_196 ?_
          refine V_sipush C0 (v := (256 : Int32)) (by decide) dX2_takeReading_197 ?_
          obtain ⟨v15, q16, h⟩ := bn1_some h
          refine V_callS C0 (st := [.int (32 : Int32), .ref (G.ad a13)]) (As := [.int (x2 + (v14 * (I x0 8))), .int (256 : Int32)]) (c_J9_floorMod_7cf53 G.l G.D G.cA G.ad G.bs G.X C0.2.2.2.2.2.2.2.2.2.1 C0.2.2.2.2.2.2.2.2.2.2.2.2 (x2 + (v14 * (I x0 8))) (256 : Int32) I L R v15 q16) lc_J9_floorMod_7cf53 lk_X2_92 rfl (by rw [erm]; decide) (Nat.le_of_ble_eq_true rfl) dX2_takeReading_200 ?_
          show V G _ 203 [(0, .ref (G.ad x0)), (1, .ref (G.ad x1)), (2, .int x2)] [.int v15, .int (32 : Int32), .ref (G.ad a13)] I L R
          obtain ⟨I17, qI17, h⟩ := bnd_some h
          refine V_wi C0 (rf_lt qa13) (rf_kd qa13) qI17 dX2_takeReading_203 ?_
          refine V_aload_n C0 1 rfl rfl dX2_takeReading_204 ?_
          refine V_aload_n C0 0 rfl rfl dX2_takeReading_205 ?_
          obtain ⟨a18, qa18, h⟩ := bnd_some h
          refine V_getR C0 2 0 fl_X2_15 c_x0.2 c_x0.1 rfl (rf_at qa18) dX2_takeReading_206 ?_
          refine V_aload_n C0 1 rfl rfl dX2_takeReading_209 ?_
          refine V_getR C0 8 0 fl_X2_205 c_x1.2 c_x1.1 rfl (rf_at qa13) dX2_takeReading_210 ?_
          refine V_bipush C0 (v := (27 : Int32)) (by decide) dX2_takeReading_213 ?_
          obtain ⟨v19, qv19, h⟩ := bnd_some h
          refine V_ri C0 (rf_lt qa13) (rf_kd qa13) qv19 dX2_takeReading_215 ?_
          obtain ⟨a20, q21, h⟩ := bn1_some h
          refine V_callV C0 (st := [.ref (G.ad x1)]) (As := [.int v19]) 9 (c_X10_unitAt G.l G.D G.cA G.ad G.bs G.X C0.2.2.2.2.2.2.2.2.2.1 C0.2.2.2.2.2.2.2.2.2.2.2.2 a18 v19 I17 L R a20 q21) lc_X10_unitAt lk_X2_199 (rf_lt qa18) (rf_kd qa18) ⟨_, rfl, rfl⟩ rfl (by rw [erm]; decide) (Nat.le_of_ble_eq_true rfl) dX2_takeReading_216 ?_
          show V G _ 219 [(0, .ref (G.ad x0)), (1, .ref (G.ad x1)), (2, .int x2)] [.ref (G.ad a20), .ref (G.ad x1)] I17 L R
          obtain ⟨c22, h⟩ := ite_some h
          obtain ⟨I23, q24, h⟩ := bn1_some h
          refine V_callS C0 (st := []) (As := [.ref (G.ad x1), .ref (G.ad a20)]) (c_X2_keepPicture G.l G.D G.cA G.ad G.bs G.X C0.2.2.2.2.2.2.2.2.2.1 C0.2.2.2.2.2.2.2.2.2.2.2.2 N x1 a20 I17 L R I23 q24) lc_X2_keepPicture lk_X2_249 rfl (by rw [erm]; decide) (Nat.le_of_ble_eq_true rfl) dX2_takeReading_219 ?_
          show V G _ 222 [(0, .ref (G.ad x0)), (1, .ref (G.ad x1)), (2, .int x2)] [] I23 L R
          cases h
          exact V_vret C0 dX2_takeReading_222
      · have h := (if_neg c9).symm.trans h
        refine V_aload_n C0 1 rfl rfl dX2_takeReading_130 ?_
        obtain ⟨a25, qa25, h⟩ := bnd_some h
        refine V_getR C0 8 0 fl_X2_205 c_x1.2 c_x1.1 rfl (rf_at qa25) dX2_takeReading_131 ?_
        refine V_bipush C0 (v := (32 : Int32)) (by decide) dX2_takeReading_134 ?_
        refine V_aload_n C0 0 rfl rfl dX2_takeReading_136 ?_
        obtain ⟨a26, qa26, h⟩ := bnd_some h
        refine V_getR C0 2 0 fl_X2_15 c_x0.2 c_x0.1 rfl (rf_at qa26) dX2_takeReading_137 ?_
        refine V_aload_n C0 1 rfl rfl dX2_takeReading_140 ?_
        refine V_getR C0 8 0 fl_X2_205 c_x1.2 c_x1.1 rfl (rf_at qa25) dX2_takeReading_141 ?_
        refine V_bipush C0 (v := (27 : Int32)) (by decide) dX2_takeReading_144 ?_
        obtain ⟨v27, qv27, h⟩ := bnd_some h
        refine V_ri C0 (rf_lt qa25) (rf_kd qa25) qv27 dX2_takeReading_146 ?_
        obtain ⟨a28, q29, h⟩ := bn1_some h
        refine V_callV C0 (st := [.int (32 : Int32), .ref (G.ad a25)]) (As := [.int v27]) 9 (c_X10_unitAt G.l G.D G.cA G.ad G.bs G.X C0.2.2.2.2.2.2.2.2.2.1 C0.2.2.2.2.2.2.2.2.2.2.2.2 a26 v27 I L R a28 q29) lc_X10_unitAt lk_X2_199 (rf_lt qa26) (rf_kd qa26) ⟨_, rfl, rfl⟩ rfl (by rw [erm]; decide) (Nat.le_of_ble_eq_true rfl) dX2_takeReading_147 ?_
        show V G _ 150 [(0, .ref (G.ad x0)), (1, .ref (G.ad x1)), (2, .int x2)] [.ref (G.ad a28), .int (32 : Int32), .ref (G.ad a25)] I L R
        obtain ⟨c30, h⟩ := ite_some h
        obtain ⟨a31, qa31, h⟩ := bnd_some h
        refine V_getR C0 8 0 fl_X2_205 c30.2 c30.1 rfl (rf_at qa31) dX2_takeReading_150 ?_
        refine V_bipush C0 (v := (62 : Int32)) (by decide) dX2_takeReading_153 ?_
        obtain ⟨v32, qv32, h⟩ := bnd_some h
        refine V_ri C0 (rf_lt qa31) (rf_kd qa31) qv32 dX2_takeReading_155 ?_
        refine V_aload_n C0 1 rfl rfl dX2_takeReading_156 ?_
        refine V_getR C0 8 0 fl_X2_205 c_x1.2 c_x1.1 rfl (rf_at qa25) dX2_takeReading_157 ?_
        refine V_bipush C0 (v := (38 : Int32)) (by decide) dX2_takeReading_160 ?_
        obtain ⟨v33, qv33, h⟩ := bnd_some h
        refine V_ri C0 (rf_lt qa25) (rf_kd qa25) qv33 dX2_takeReading_162 ?_
        refine V_iadd C0 dX2_takeReading_163 ?_
        obtain ⟨I34, qI34, h⟩ := bnd_some h
        refine V_wi C0 (rf_lt qa25) (rf_kd qa25) qI34 dX2_takeReading_164 ?_
        refine V_goto C0 (tgt := 222) (by decide) dX2_takeReading_165 ?_
        cases h
        exact V_vret C0 dX2_takeReading_222
    · have h := (if_neg c6).symm.trans h
      refine V_aload_n C0 0 rfl rfl dX2_takeReading_50 ?_
      obtain ⟨a35, qa35, h⟩ := bnd_some h
      refine V_getR C0 2 1 fl_X2_24 c_x0.2 c_x0.1 rfl (rf_at qa35) dX2_takeReading_51 ?_
      refine V_iconst C0 (v := (0 : Int32)) (by decide) dX2_takeReading_54 ?_
      obtain ⟨v36, q37, h⟩ := bn1_some h
      refine V_callV C0 (st := []) (As := [.int (0 : Int32)]) 6 (c_X7_angle G.l G.D G.cA G.ad G.bs G.X C0.2.2.2.2.2.2.2.2.2.1 C0.2.2.2.2.2.2.2.2.2.2.2.2 a35 (0 : Int32) I L R v36 q37) lc_X7_angle lk_X2_123 (rf_lt qa35) (rf_kd qa35) ⟨_, rfl, rfl⟩ rfl (by rw [erm]; decide) (Nat.le_of_ble_eq_true rfl) dX2_takeReading_55 ?_
      show V G _ 58 [(0, .ref (G.ad x0)), (1, .ref (G.ad x1)), (2, .int x2)] [.int v36] I L R
      refine V_iconst C0 (v := (0 : Int32)) (by decide) dX2_takeReading_58 ?_
      obtain ⟨v38, q39, h⟩ := bn1_some h
      refine V_callS C0 (st := []) (As := [.int v36, .int (0 : Int32)]) (c_X11_off G.l G.D G.cA G.ad G.bs G.X C0.2.2.2.2.2.2.2.2.2.1 C0.2.2.2.2.2.2.2.2.2.2.2.2 v36 (0 : Int32) I L R v38 q39) lc_X11_off lk_X2_243 rfl (by rw [erm]; decide) (Nat.le_of_ble_eq_true rfl) dX2_takeReading_59 ?_
      show V G _ 62 [(0, .ref (G.ad x0)), (1, .ref (G.ad x1)), (2, .int x2)] [.int v38] I L R
      refine V_istore_n C0 [(3, .int v38), (0, .ref (G.ad x0)), (1, .ref (G.ad x1)), (2, .int x2)] rfl (by rw [eNL]; decide) rfl dX2_takeReading_62 ?_
      refine V_aload_n C0 1 rfl rfl dX2_takeReading_63 ?_
      refine V_getI C0 2 8 fl_X2_64 c_x0.2 c_x0.1 rfl dX2_takeReading_64 ?_
      obtain ⟨s40, q41, h⟩ := bn1_some h
      have k42 : V G (qf G (none, I', L, R)) 89 [(1, .ref (G.ad x1)), (3, .int v38)] [.int s40] I L R := by
        refine V_istore C0 [(4, .int s40), (1, .ref (G.ad x1)), (3, .int v38)] (by rw [eNL]; decide) rfl dX2_takeReading_89 ?_
        refine V_aload_n C0 1 rfl rfl dX2_takeReading_91 ?_
        obtain ⟨a52, qa52, h⟩ := bnd_some h
        refine V_getR C0 8 0 fl_X2_205 c_x1.2 c_x1.1 rfl (rf_at qa52) dX2_takeReading_92 ?_
        refine V_bipush C0 (v := (32 : Int32)) (by decide) dX2_takeReading_95 ?_
        refine V_iload C0 0 rfl dX2_takeReading_97 ?_
        obtain ⟨s53, q54, h⟩ := bn1_some h
        have k55 : V G (qf G (none, I', L, R)) 117 [] [.int s53, .int (32 : Int32), .ref (G.ad a52)] I L R := by
          obtain ⟨I58, qI58, h⟩ := bnd_some h
          refine V_wi C0 (rf_lt qa52) (rf_kd qa52) qI58 dX2_takeReading_117 ?_
          refine V_goto C0 (tgt := 222) (by decide) dX2_takeReading_118 ?_
          cases h
          exact V_vret C0 dX2_takeReading_222
        refine V_if_eq C0 (tgt := 114) (by decide) dX2_takeReading_99 (fun c56 => ?_) (fun c56 => ?_)
        · have q54 := (if_pos c56).symm.trans q54
          refine V_sipush C0 (v := (9999 : Int32)) (by decide) dX2_takeReading_114 ?_
          cases q54
          exact V_sub [] rfl k55
        · have q54 := (if_neg c56).symm.trans q54
          refine V_iload_n C0 2 rfl rfl dX2_takeReading_102 ?_
          refine V_aload_n C0 1 rfl rfl dX2_takeReading_103 ?_
          refine V_getR C0 8 0 fl_X2_205 c_x1.2 c_x1.1 rfl (rf_at qa52) dX2_takeReading_104 ?_
          refine V_bipush C0 (v := (29 : Int32)) (by decide) dX2_takeReading_107 ?_
          obtain ⟨v57, qv57, q54⟩ := bnd_some q54
          refine V_ri C0 (rf_lt qa52) (rf_kd qa52) qv57 dX2_takeReading_109 ?_
          refine V_iadd C0 dX2_takeReading_110 ?_
          refine V_goto C0 (tgt := 117) (by decide) dX2_takeReading_111 ?_
          cases q54
          exact V_sub [] rfl k55
      refine V_if_le C0 (tgt := 88) (by decide) dX2_takeReading_67 (fun c43 => ?_) (fun c43 => ?_)
      · have q41 := (if_pos c43).symm.trans q41
        refine V_iconst C0 (v := (0 : Int32)) (by decide) dX2_takeReading_88 ?_
        cases q41
        exact V_sub [2, 0] rfl k42
      · have q41 := (if_neg c43).symm.trans q41
        refine V_iload_n C0 0 rfl rfl dX2_takeReading_70 ?_
        obtain ⟨v44, q45, q41⟩ := bn1_some q41
        refine V_callS C0 (st := []) (As := [.int v38]) (c_J9_abs_0f7a4 G.l G.D G.cA G.ad G.bs G.X C0.2.2.2.2.2.2.2.2.2.1 C0.2.2.2.2.2.2.2.2.2.2.2.2 v38 I L R v44 q45) lc_J9_abs_0f7a4 lk_X2_246 rfl (by rw [erm]; decide) (Nat.le_of_ble_eq_true rfl) dX2_takeReading_71 ?_
        show V G _ 74 [(3, .int v38), (0, .ref (G.ad x0)), (1, .ref (G.ad x1)), (2, .int x2)] [.int v44] I L R
        refine V_aload_n C0 2 rfl rfl dX2_takeReading_74 ?_
        obtain ⟨a46, qa46, q41⟩ := bnd_some q41
        refine V_getR C0 8 0 fl_X2_205 c_x1.2 c_x1.1 rfl (rf_at qa46) dX2_takeReading_75 ?_
        refine V_bipush C0 (v := (37 : Int32)) (by decide) dX2_takeReading_78 ?_
        obtain ⟨v47, qv47, q41⟩ := bnd_some q41
        refine V_ri C0 (rf_lt qa46) (rf_kd qa46) qv47 dX2_takeReading_80 ?_
        obtain ⟨s48, q49, q41⟩ := bn1_some q41
        have k50 : V G (qf G (none, I', L, R)) 89 [(1, .ref (G.ad x1)), (3, .int v38)] [.int s48] I L R := by
          cases q41
          exact V_sub [0, 1] rfl k42
        refine V_icmp_ge C0 (tgt := 88) (by decide) dX2_takeReading_81 (fun c51 => ?_) (fun c51 => ?_)
        · have q49 := (if_pos c51).symm.trans q49
          refine V_iconst C0 (v := (0 : Int32)) (by decide) dX2_takeReading_88 ?_
          cases q49
          exact V_sub [2, 0] rfl k50
        · have q49 := (if_neg c51).symm.trans q49
          refine V_iconst C0 (v := (1 : Int32)) (by decide) dX2_takeReading_84 ?_
          refine V_goto C0 (tgt := 89) (by decide) dX2_takeReading_85 ?_
          cases q49
          exact V_sub [2, 0] rfl k50
  · have h := (if_neg c3).symm.trans h
    refine V_aload_n C0 1 rfl rfl dX2_takeReading_9 ?_
    obtain ⟨a59, qa59, h⟩ := bnd_some h
    refine V_getR C0 8 0 fl_X2_205 c_x1.2 c_x1.1 rfl (rf_at qa59) dX2_takeReading_10 ?_
    refine V_bipush C0 (v := (32 : Int32)) (by decide) dX2_takeReading_13 ?_
    refine V_aload_n C0 0 rfl rfl dX2_takeReading_15 ?_
    obtain ⟨a60, qa60, h⟩ := bnd_some h
    refine V_getR C0 2 1 fl_X2_24 c_x0.2 c_x0.1 rfl (rf_at qa60) dX2_takeReading_16 ?_
    refine V_aload_n C0 1 rfl rfl dX2_takeReading_19 ?_
    refine V_getR C0 8 0 fl_X2_205 c_x1.2 c_x1.1 rfl (rf_at qa59) dX2_takeReading_20 ?_
    refine V_bipush C0 (v := (35 : Int32)) (by decide) dX2_takeReading_23 ?_
    obtain ⟨v61, qv61, h⟩ := bnd_some h
    refine V_ri C0 (rf_lt qa59) (rf_kd qa59) qv61 dX2_takeReading_25 ?_
    obtain ⟨v62, q63, h⟩ := bn1_some h
    refine V_callV C0 (st := [.int (32 : Int32), .ref (G.ad a59)]) (As := [.int v61]) 6 (c_X7_rate G.l G.D G.cA G.ad G.bs G.X C0.2.2.2.2.2.2.2.2.2.1 C0.2.2.2.2.2.2.2.2.2.2.2.2 a60 v61 I L R v62 q63) lc_X7_rate lk_X2_210 (rf_lt qa60) (rf_kd qa60) ⟨_, rfl, rfl⟩ rfl (by rw [erm]; decide) (Nat.le_of_ble_eq_true rfl) dX2_takeReading_26 ?_
    show V G _ 29 [(0, .ref (G.ad x0)), (1, .ref (G.ad x1)), (2, .int x2)] [.int v62, .int (32 : Int32), .ref (G.ad a59)] I L R
    refine V_aload_n C0 1 rfl rfl dX2_takeReading_29 ?_
    refine V_getR C0 8 0 fl_X2_205 c_x1.2 c_x1.1 rfl (rf_at qa59) dX2_takeReading_30 ?_
    refine V_bipush C0 (v := (33 : Int32)) (by decide) dX2_takeReading_33 ?_
    obtain ⟨v64, qv64, h⟩ := bnd_some h
    refine V_ri C0 (rf_lt qa59) (rf_kd qa59) qv64 dX2_takeReading_35 ?_
    refine V_iadd C0 dX2_takeReading_36 ?_
    obtain ⟨I65, qI65, h⟩ := bnd_some h
    refine V_wi C0 (rf_lt qa59) (rf_kd qa59) qI65 dX2_takeReading_37 ?_
    refine V_goto C0 (tgt := 222) (by decide) dX2_takeReading_38 ?_
    cases h
    exact V_vret C0 dX2_takeReading_222
theorem dX2_takeReadings_0 : decode cX2_takeReadings 0 = .ok (.iconst 0, 1) := by decide +kernel
theorem dX2_takeReadings_1 : decode cX2_takeReadings 1 = .ok (.istore_n 2, 1) := by decide +kernel
theorem dX2_takeReadings_2 : decode cX2_takeReadings 2 = .ok (.iload_n 2, 1) := by decide +kernel
theorem dX2_takeReadings_3 : decode cX2_takeReadings 3 = .ok (.aload_n 0, 1) := by decide +kernel
theorem dX2_takeReadings_4 : decode cX2_takeReadings 4 = .ok (.getfield 15, 3) := by decide +kernel
theorem dX2_takeReadings_7 : decode cX2_takeReadings 7 = .ok (.invokevirtual 235, 3) := by decide +kernel
theorem dX2_takeReadings_10 : decode cX2_takeReadings 10 = .ok (.if_icmp .ge 47, 3) := by decide +kernel
theorem dX2_takeReadings_13 : decode cX2_takeReadings 13 = .ok (.aload_n 0, 1) := by decide +kernel
theorem dX2_takeReadings_14 : decode cX2_takeReadings 14 = .ok (.getfield 15, 3) := by decide +kernel
theorem dX2_takeReadings_17 : decode cX2_takeReadings 17 = .ok (.iload_n 2, 1) := by decide +kernel
theorem dX2_takeReadings_18 : decode cX2_takeReadings 18 = .ok (.invokevirtual 199, 3) := by decide +kernel
theorem dX2_takeReadings_21 : decode cX2_takeReadings 21 = .ok (.astore_n 3, 1) := by decide +kernel
theorem dX2_takeReadings_22 : decode cX2_takeReadings 22 = .ok (.aload_n 3, 1) := by decide +kernel
theorem dX2_takeReadings_23 : decode cX2_takeReadings 23 = .ok (.bipush 9, 2) := by decide +kernel
theorem dX2_takeReadings_25 : decode cX2_takeReadings 25 = .ok (.invokevirtual 236, 3) := by decide +kernel
theorem dX2_takeReadings_28 : decode cX2_takeReadings 28 = .ok (.ifCond .eq 23, 3) := by decide +kernel
theorem dX2_takeReadings_31 : decode cX2_takeReadings 31 = .ok (.iload_n 1, 1) := by decide +kernel
theorem dX2_takeReadings_32 : decode cX2_takeReadings 32 = .ok (.aload_n 3, 1) := by decide +kernel
theorem dX2_takeReadings_33 : decode cX2_takeReadings 33 = .ok (.getfield 205, 3) := by decide +kernel
theorem dX2_takeReadings_36 : decode cX2_takeReadings 36 = .ok (.bipush 31, 2) := by decide +kernel
theorem dX2_takeReadings_38 : decode cX2_takeReadings 38 = .ok (.iaload, 1) := by decide +kernel
theorem dX2_takeReadings_39 : decode cX2_takeReadings 39 = .ok (.invokestatic 112, 3) := by decide +kernel
theorem dX2_takeReadings_42 : decode cX2_takeReadings 42 = .ok (.ifCond .eq 9, 3) := by decide +kernel
theorem dX2_takeReadings_45 : decode cX2_takeReadings 45 = .ok (.aload_n 0, 1) := by decide +kernel
theorem dX2_takeReadings_46 : decode cX2_takeReadings 46 = .ok (.aload_n 3, 1) := by decide +kernel
theorem dX2_takeReadings_47 : decode cX2_takeReadings 47 = .ok (.iload_n 1, 1) := by decide +kernel
theorem dX2_takeReadings_48 : decode cX2_takeReadings 48 = .ok (.invokevirtual 239, 3) := by decide +kernel
theorem dX2_takeReadings_51 : decode cX2_takeReadings 51 = .ok (.iinc 2 1, 3) := by decide +kernel
theorem dX2_takeReadings_54 : decode cX2_takeReadings 54 = .ok (.goto (-52), 3) := by decide +kernel
theorem dX2_takeReadings_57 : decode cX2_takeReadings 57 = .ok (.return_, 1) := by decide +kernel
def LF_X2_takeReadings_2 (N : Nat) : Nat → Nat → Int32 → Int32 → MI → ML → MR → Option (MI)
  | 0, _, _, _, _, _, _ => none
  | k + 1, y0, y1, y2, I, L, R =>
    (rf R y0 0 9).bind fun a1 =>
    bn1 (F_X10_size a1 I L R) fun v2 =>
    if v2 ≤ y2 then
      some (I)
    else
      bn1 (F_X10_unitAt a1 y2 I L R) fun a5 =>
      if kd a5 = 8 ∧ a5 < NN then
      bn1 (F_X9_isOn a5 (9 : Int32) I L R) fun b8 =>
      bn1 (
        if (b2i b8) = 0 then
          some (I)
        else
          (rf R a5 0 20).bind fun a14 =>
          (ri I a14 (31 : Int32)).bind fun v15 =>
          bn1 (F_X11_isMultiple y1 v15 I L R) fun b16 =>
          bn1 (
            if (b2i b16) = 0 then
              some (I)
            else
              bn1 (F_X2_takeReading N y0 a5 y1 I L R) fun I22 =>
              some (I22)
          ) fun (I18 : MI) =>
          some (I18)
      ) fun (I10 : MI) =>
      wr (y2 + (1 : Int32)) fun (u24 : Int32) =>
      LF_X2_takeReadings_2 N k y0 y1 u24 I10 L R
      else none
def F_X2_takeReadings (N : Nat) (x0 : Nat) (x1 : Int32) (I : MI) (L : ML) (R : MR) : Option (MI) :=
  if kd x0 = 2 ∧ x0 < NN then
  bn1 (LF_X2_takeReadings_2 N N x0 x1 (0 : Int32) I L R) fun z25 =>
  some (z25)
  else none
set_option maxRecDepth 100000 in
set_option maxHeartbeats 4000000 in
theorem lp_X2_takeReadings_2 {G : Gm} (C0 : Cx G (yX2_takeReadings.cls) cX2_takeReadings none) (eNL : G.nL = 4) (erm : G.rm = ({ frames := 4, cells := 0, slots := 0, locals := 90 } : Room)) (N : Nat) : ∀ (k : Nat) (y0 : Nat) (y1 : Int32) (y2 : Int32) (I : MI) (L : ML) (R : MR) (z : MI) (hk0 : kd y0 = 2) (ho0 : y0 < NN), LF_X2_takeReadings_2 N k y0 y1 y2 I L R = some z → ∀ f : State → Prop, V G f 57 [] [] z L R → V G f 2 [(0, .ref (G.ad y0)), (1, .int y1), (2, .int y2)] [] I L R := by
  intro k
  induction k with
  | zero =>
    intro y0 y1 y2 I L R q hk0 ho0 h
    exact absurd h (by simp [LF_X2_takeReadings_2])
  | succ k ih =>
    intro y0 y1 y2 I L R q hk0 ho0 h f kx
    rw [LF_X2_takeReadings_2] at h
    refine V_iload_n C0 2 rfl rfl dX2_takeReadings_2 ?_
    refine V_aload_n C0 0 rfl rfl dX2_takeReadings_3 ?_
    obtain ⟨a1, qa1, h⟩ := bnd_some h
    refine V_getR C0 2 0 fl_X2_15 ho0 hk0 rfl (rf_at qa1) dX2_takeReadings_4 ?_
    obtain ⟨v2, q3, h⟩ := bn1_some h
    refine V_callV C0 (st := [.int y2]) (As := []) 9 (c_X10_size G.l G.D G.cA G.ad G.bs G.X C0.2.2.2.2.2.2.2.2.2.1 C0.2.2.2.2.2.2.2.2.2.2.2.2 a1 I L R v2 q3) lc_X10_size lk_X2_235 (rf_lt qa1) (rf_kd qa1) ⟨_, rfl, rfl⟩ rfl (by rw [erm]; decide) (Nat.le_of_ble_eq_true rfl) dX2_takeReadings_7 ?_
    show V G _ 10 [(0, .ref (G.ad y0)), (1, .int y1), (2, .int y2)] [.int v2, .int y2] I L R
    refine V_icmp_ge C0 (tgt := 57) (by decide) dX2_takeReadings_10 (fun c4 => ?_) (fun c4 => ?_)
    · have h := (if_pos c4).symm.trans h
      cases h
      exact V_sub [] rfl kx
    · have h := (if_neg c4).symm.trans h
      refine V_aload_n C0 0 rfl rfl dX2_takeReadings_13 ?_
      refine V_getR C0 2 0 fl_X2_15 ho0 hk0 rfl (rf_at qa1) dX2_takeReadings_14 ?_
      refine V_iload_n C0 2 rfl rfl dX2_takeReadings_17 ?_
      obtain ⟨a5, q6, h⟩ := bn1_some h
      refine V_callV C0 (st := []) (As := [.int y2]) 9 (c_X10_unitAt G.l G.D G.cA G.ad G.bs G.X C0.2.2.2.2.2.2.2.2.2.1 C0.2.2.2.2.2.2.2.2.2.2.2.2 a1 y2 I L R a5 q6) lc_X10_unitAt lk_X2_199 (rf_lt qa1) (rf_kd qa1) ⟨_, rfl, rfl⟩ rfl (by rw [erm]; decide) (Nat.le_of_ble_eq_true rfl) dX2_takeReadings_18 ?_
      show V G _ 21 [(0, .ref (G.ad y0)), (1, .int y1), (2, .int y2)] [.ref (G.ad a5)] I L R
      obtain ⟨c7, h⟩ := ite_some h
      refine V_astore_n C0 [(3, .ref (G.ad a5)), (0, .ref (G.ad y0)), (1, .int y1), (2, .int y2)] rfl (by rw [eNL]; decide) rfl dX2_takeReadings_21 ?_
      refine V_aload_n C0 0 rfl rfl dX2_takeReadings_22 ?_
      refine V_bipush C0 (v := (9 : Int32)) (by decide) dX2_takeReadings_23 ?_
      obtain ⟨b8, q9, h⟩ := bn1_some h
      refine V_callV C0 (st := []) (As := [.int (9 : Int32)]) 8 (c_X9_isOn G.l G.D G.cA G.ad G.bs G.X C0.2.2.2.2.2.2.2.2.2.1 C0.2.2.2.2.2.2.2.2.2.2.2.2 a5 (9 : Int32) I L R b8 q9) lc_X9_isOn lk_X2_236 c7.2 c7.1 ⟨_, rfl, rfl⟩ rfl (by rw [erm]; decide) (Nat.le_of_ble_eq_true rfl) dX2_takeReadings_25 ?_
      show V G _ 28 [(3, .ref (G.ad a5)), (0, .ref (G.ad y0)), (1, .int y1), (2, .int y2)] [.int (b2i b8)] I L R
      obtain ⟨I10, q11, h⟩ := bn1_some h
      have k12 : V G f 51 [(0, .ref (G.ad y0)), (1, .int y1), (2, .int y2)] [] I10 L R := by
        obtain ⟨u24, eu24, h⟩ := wr_some h
        refine V_iinc C0 2 [(2, .int u24), (0, .ref (G.ad y0)), (1, .int y1)] rfl (n := 1) (by rw [eu24]; rfl) (by rw [eNL]; decide) rfl dX2_takeReadings_51 ?_
        refine V_goto C0 (tgt := 2) (by decide) dX2_takeReadings_54 ?_
        exact V_sub [1, 2, 0] rfl (ih y0 y1 u24 I10 L R _ hk0 ho0 h f kx)
      refine V_if_eq C0 (tgt := 51) (by decide) dX2_takeReadings_28 (fun c13 => ?_) (fun c13 => ?_)
      · have q11 := (if_pos c13).symm.trans q11
        cases q11
        exact V_sub [1, 2, 3] rfl k12
      · have q11 := (if_neg c13).symm.trans q11
        refine V_iload_n C0 2 rfl rfl dX2_takeReadings_31 ?_
        refine V_aload_n C0 0 rfl rfl dX2_takeReadings_32 ?_
        obtain ⟨a14, qa14, q11⟩ := bnd_some q11
        refine V_getR C0 8 0 fl_X2_205 c7.2 c7.1 rfl (rf_at qa14) dX2_takeReadings_33 ?_
        refine V_bipush C0 (v := (31 : Int32)) (by decide) dX2_takeReadings_36 ?_
        obtain ⟨v15, qv15, q11⟩ := bnd_some q11
        refine V_ri C0 (rf_lt qa14) (rf_kd qa14) qv15 dX2_takeReadings_38 ?_
        obtain ⟨b16, q17, q11⟩ := bn1_some q11
        refine V_callS C0 (st := []) (As := [.int y1, .int v15]) (c_X11_isMultiple G.l G.D G.cA G.ad G.bs G.X C0.2.2.2.2.2.2.2.2.2.1 C0.2.2.2.2.2.2.2.2.2.2.2.2 y1 v15 I L R b16 q17) lc_X11_isMultiple lk_X2_112 rfl (by rw [erm]; decide) (Nat.le_of_ble_eq_true rfl) dX2_takeReadings_39 ?_
        show V G _ 42 [(3, .ref (G.ad a5)), (0, .ref (G.ad y0)), (1, .int y1), (2, .int y2)] [.int (b2i b16)] I L R
        obtain ⟨I18, q19, q11⟩ := bn1_some q11
        have k20 : V G f 51 [(0, .ref (G.ad y0)), (1, .int y1), (2, .int y2)] [] I18 L R := by
          cases q11
          exact V_sub [0, 1, 2] rfl k12
        refine V_if_eq C0 (tgt := 51) (by decide) dX2_takeReadings_42 (fun c21 => ?_) (fun c21 => ?_)
        · have q19 := (if_pos c21).symm.trans q19
          cases q19
          exact V_sub [1, 2, 3] rfl k20
        · have q19 := (if_neg c21).symm.trans q19
          refine V_aload_n C0 1 rfl rfl dX2_takeReadings_45 ?_
          refine V_aload_n C0 0 rfl rfl dX2_takeReadings_46 ?_
          refine V_iload_n C0 2 rfl rfl dX2_takeReadings_47 ?_
          obtain ⟨I22, q23, q19⟩ := bn1_some q19
          refine V_callV C0 (st := []) (As := [.ref (G.ad a5), .int y1]) 2 (c_X2_takeReading G.l G.D G.cA G.ad G.bs G.X C0.2.2.2.2.2.2.2.2.2.1 C0.2.2.2.2.2.2.2.2.2.2.2.2 N y0 a5 y1 I L R I22 q23) lc_X2_takeReading lk_X2_239 ho0 hk0 ⟨_, rfl, rfl⟩ rfl (by rw [erm]; decide) (Nat.le_of_ble_eq_true rfl) dX2_takeReadings_48 ?_
          show V G _ 51 [(3, .ref (G.ad a5)), (0, .ref (G.ad y0)), (1, .int y1), (2, .int y2)] [] I22 L R
          cases q19
          exact V_sub [1, 2, 3] rfl k20
set_option maxRecDepth 100000 in
set_option maxHeartbeats 4000000 in
theorem c_X2_takeReadings (l : Launch) (D : va_G) (cA : Nat → ClassId) (ad : Nat → Nat) (bs : Nat) (X : State → Prop) (hAd : Ax ad bs) (hX : Stb bs X) (N : Nat) (x0 : Nat) (x1 : Int32) (I : MI) (L : ML) (R : MR) (I' : MI) (h : F_X2_takeReadings N x0 x1 I L R = some (I')) : Cn l D cA ad bs X yX2_takeReadings cX2_takeReadings 4 none 4 90 [.ref (ad x0), .int x1] I L R (none, I', L, R) := by
  refine Cn.ofV hAd hX [(0, .ref (ad x0)), (1, .int x1)] rfl (Nat.le_of_ble_eq_true rfl) (by decide) ?_
  intro G el eD ecA ead ebs eX erm eNL C0
  subst el eD ecA ead ebs eX
  unfold F_X2_takeReadings at h
  obtain ⟨c_x0, h⟩ := ite_some h
  refine V_iconst C0 (v := (0 : Int32)) (by decide) dX2_takeReadings_0 ?_
  refine V_istore_n C0 [(2, .int (0 : Int32)), (0, .ref (G.ad x0)), (1, .int x1)] rfl (by rw [eNL]; decide) rfl dX2_takeReadings_1 ?_
  obtain ⟨z25, q26, h⟩ := bn1_some h
  refine V_sub [1, 2, 0] rfl (lp_X2_takeReadings_2 C0 eNL erm N N x0 x1 (0 : Int32) I L R _ c_x0.1 c_x0.2 q26 _ ?_)
  show V G _ 57 [] [] z25 L R
  cases h
  exact V_vret C0 dX2_takeReadings_57
theorem dX2_saveLine_0 : decode cX2_saveLine 0 = .ok (.iconst 0, 1) := by decide +kernel
theorem dX2_saveLine_1 : decode cX2_saveLine 1 = .ok (.istore_n 1, 1) := by decide +kernel
theorem dX2_saveLine_2 : decode cX2_saveLine 2 = .ok (.iload_n 1, 1) := by decide +kernel
theorem dX2_saveLine_3 : decode cX2_saveLine 3 = .ok (.aload_n 0, 1) := by decide +kernel
theorem dX2_saveLine_4 : decode cX2_saveLine 4 = .ok (.getfield 15, 3) := by decide +kernel
theorem dX2_saveLine_7 : decode cX2_saveLine 7 = .ok (.invokevirtual 235, 3) := by decide +kernel
theorem dX2_saveLine_10 : decode cX2_saveLine 10 = .ok (.if_icmp .ge 55, 3) := by decide +kernel
theorem dX2_saveLine_13 : decode cX2_saveLine 13 = .ok (.aload_n 0, 1) := by decide +kernel
theorem dX2_saveLine_14 : decode cX2_saveLine 14 = .ok (.getfield 15, 3) := by decide +kernel
theorem dX2_saveLine_17 : decode cX2_saveLine 17 = .ok (.iload_n 1, 1) := by decide +kernel
theorem dX2_saveLine_18 : decode cX2_saveLine 18 = .ok (.invokevirtual 199, 3) := by decide +kernel
theorem dX2_saveLine_21 : decode cX2_saveLine 21 = .ok (.astore_n 2, 1) := by decide +kernel
theorem dX2_saveLine_22 : decode cX2_saveLine 22 = .ok (.aload_n 2, 1) := by decide +kernel
theorem dX2_saveLine_23 : decode cX2_saveLine 23 = .ok (.bipush 6, 2) := by decide +kernel
theorem dX2_saveLine_25 : decode cX2_saveLine 25 = .ok (.invokevirtual 236, 3) := by decide +kernel
theorem dX2_saveLine_28 : decode cX2_saveLine 28 = .ok (.ifCond .eq 31, 3) := by decide +kernel
theorem dX2_saveLine_31 : decode cX2_saveLine 31 = .ok (.aload_n 2, 1) := by decide +kernel
theorem dX2_saveLine_32 : decode cX2_saveLine 32 = .ok (.getfield 205, 3) := by decide +kernel
theorem dX2_saveLine_35 : decode cX2_saveLine 35 = .ok (.bipush 21, 2) := by decide +kernel
theorem dX2_saveLine_37 : decode cX2_saveLine 37 = .ok (.iaload, 1) := by decide +kernel
theorem dX2_saveLine_38 : decode cX2_saveLine 38 = .ok (.iconst 2, 1) := by decide +kernel
theorem dX2_saveLine_39 : decode cX2_saveLine 39 = .ok (.if_icmp .ne 20, 3) := by decide +kernel
theorem dX2_saveLine_42 : decode cX2_saveLine 42 = .ok (.aload_n 2, 1) := by decide +kernel
theorem dX2_saveLine_43 : decode cX2_saveLine 43 = .ok (.bipush 8, 2) := by decide +kernel
theorem dX2_saveLine_45 : decode cX2_saveLine 45 = .ok (.invokevirtual 232, 3) := by decide +kernel
theorem dX2_saveLine_48 : decode cX2_saveLine 48 = .ok (.ifCond .ne 11, 3) := by decide +kernel
theorem dX2_saveLine_51 : decode cX2_saveLine 51 = .ok (.aload_n 2, 1) := by decide +kernel
theorem dX2_saveLine_52 : decode cX2_saveLine 52 = .ok (.getfield 205, 3) := by decide +kernel
theorem dX2_saveLine_55 : decode cX2_saveLine 55 = .ok (.bipush 22, 2) := by decide +kernel
theorem dX2_saveLine_57 : decode cX2_saveLine 57 = .ok (.iconst 0, 1) := by decide +kernel
theorem dX2_saveLine_58 : decode cX2_saveLine 58 = .ok (.iastore, 1) := by decide +kernel
theorem dX2_saveLine_59 : decode cX2_saveLine 59 = .ok (.iinc 1 1, 3) := by decide +kernel
theorem dX2_saveLine_62 : decode cX2_saveLine 62 = .ok (.goto (-60), 3) := by decide +kernel
theorem dX2_saveLine_65 : decode cX2_saveLine 65 = .ok (.return_, 1) := by decide +kernel
def LF_X2_saveLine_2 (N : Nat) : Nat → Nat → Int32 → MI → ML → MR → Option (MI)
  | 0, _, _, _, _, _ => none
  | k + 1, y0, y1, I, L, R =>
    (rf R y0 0 9).bind fun a1 =>
    bn1 (F_X10_size a1 I L R) fun v2 =>
    if v2 ≤ y1 then
      some (I)
    else
      bn1 (F_X10_unitAt a1 y1 I L R) fun a5 =>
      if kd a5 = 8 ∧ a5 < NN then
      bn1 (F_X9_isOn a5 (6 : Int32) I L R) fun b8 =>
      bn1 (
        if (b2i b8) = 0 then
          some (I)
        else
          (rf R a5 0 20).bind fun a14 =>
          (ri I a14 (21 : Int32)).bind fun v15 =>
          bn1 (
            if v15 = (2 : Int32) then
              bn1 (F_X9_is a5 (8 : Int32) I L R) fun b20 =>
              bn1 (
                if (b2i b20) = 0 then
                  (wi I a14 (22 : Int32) (0 : Int32)).bind fun I26 =>
                  some (I26)
                else
                  some (I)
              ) fun (I22 : MI) =>
              some (I22)
            else
              some (I)
          ) fun (I16 : MI) =>
          some (I16)
      ) fun (I10 : MI) =>
      wr (y1 + (1 : Int32)) fun (u27 : Int32) =>
      LF_X2_saveLine_2 N k y0 u27 I10 L R
      else none
def F_X2_saveLine (N : Nat) (x0 : Nat) (I : MI) (L : ML) (R : MR) : Option (MI) :=
  if kd x0 = 2 ∧ x0 < NN then
  bn1 (LF_X2_saveLine_2 N N x0 (0 : Int32) I L R) fun z28 =>
  some (z28)
  else none
set_option maxRecDepth 100000 in
set_option maxHeartbeats 4000000 in
theorem lp_X2_saveLine_2 {G : Gm} (C0 : Cx G (yX2_saveLine.cls) cX2_saveLine none) (eNL : G.nL = 3) (erm : G.rm = ({ frames := 2, cells := 0, slots := 0, locals := 42 } : Room)) (N : Nat) : ∀ (k : Nat) (y0 : Nat) (y1 : Int32) (I : MI) (L : ML) (R : MR) (z : MI) (hk0 : kd y0 = 2) (ho0 : y0 < NN), LF_X2_saveLine_2 N k y0 y1 I L R = some z → ∀ f : State → Prop, V G f 65 [] [] z L R → V G f 2 [(0, .ref (G.ad y0)), (1, .int y1)] [] I L R := by
  intro k
  induction k with
  | zero =>
    intro y0 y1 I L R q hk0 ho0 h
    exact absurd h (by simp [LF_X2_saveLine_2])
  | succ k ih =>
    intro y0 y1 I L R q hk0 ho0 h f kx
    rw [LF_X2_saveLine_2] at h
    refine V_iload_n C0 1 rfl rfl dX2_saveLine_2 ?_
    refine V_aload_n C0 0 rfl rfl dX2_saveLine_3 ?_
    obtain ⟨a1, qa1, h⟩ := bnd_some h
    refine V_getR C0 2 0 fl_X2_15 ho0 hk0 rfl (rf_at qa1) dX2_saveLine_4 ?_
    obtain ⟨v2, q3, h⟩ := bn1_some h
    refine V_callV C0 (st := [.int y1]) (As := []) 9 (c_X10_size G.l G.D G.cA G.ad G.bs G.X C0.2.2.2.2.2.2.2.2.2.1 C0.2.2.2.2.2.2.2.2.2.2.2.2 a1 I L R v2 q3) lc_X10_size lk_X2_235 (rf_lt qa1) (rf_kd qa1) ⟨_, rfl, rfl⟩ rfl (by rw [erm]; decide) (Nat.le_of_ble_eq_true rfl) dX2_saveLine_7 ?_
    show V G _ 10 [(0, .ref (G.ad y0)), (1, .int y1)] [.int v2, .int y1] I L R
    refine V_icmp_ge C0 (tgt := 65) (by decide) dX2_saveLine_10 (fun c4 => ?_) (fun c4 => ?_)
    · have h := (if_pos c4).symm.trans h
      cases h
      exact V_sub [] rfl kx
    · have h := (if_neg c4).symm.trans h
      refine V_aload_n C0 0 rfl rfl dX2_saveLine_13 ?_
      refine V_getR C0 2 0 fl_X2_15 ho0 hk0 rfl (rf_at qa1) dX2_saveLine_14 ?_
      refine V_iload_n C0 1 rfl rfl dX2_saveLine_17 ?_
      obtain ⟨a5, q6, h⟩ := bn1_some h
      refine V_callV C0 (st := []) (As := [.int y1]) 9 (c_X10_unitAt G.l G.D G.cA G.ad G.bs G.X C0.2.2.2.2.2.2.2.2.2.1 C0.2.2.2.2.2.2.2.2.2.2.2.2 a1 y1 I L R a5 q6) lc_X10_unitAt lk_X2_199 (rf_lt qa1) (rf_kd qa1) ⟨_, rfl, rfl⟩ rfl (by rw [erm]; decide) (Nat.le_of_ble_eq_true rfl) dX2_saveLine_18 ?_
      show V G _ 21 [(0, .ref (G.ad y0)), (1, .int y1)] [.ref (G.ad a5)] I L R
      obtain ⟨c7, h⟩ := ite_some h
      refine V_astore_n C0 [(2, .ref (G.ad a5)), (0, .ref (G.ad y0)), (1, .int y1)] rfl (by rw [eNL]; decide) rfl dX2_saveLine_21 ?_
      refine V_aload_n C0 0 rfl rfl dX2_saveLine_22 ?_
      refine V_bipush C0 (v := (6 : Int32)) (by decide) dX2_saveLine_23 ?_
      obtain ⟨b8, q9, h⟩ := bn1_some h
      refine V_callV C0 (st := []) (As := [.int (6 : Int32)]) 8 (c_X9_isOn G.l G.D G.cA G.ad G.bs G.X C0.2.2.2.2.2.2.2.2.2.1 C0.2.2.2.2.2.2.2.2.2.2.2.2 a5 (6 : Int32) I L R b8 q9) lc_X9_isOn lk_X2_236 c7.2 c7.1 ⟨_, rfl, rfl⟩ rfl (by rw [erm]; decide) (Nat.le_of_ble_eq_true rfl) dX2_saveLine_25 ?_
      show V G _ 28 [(2, .ref (G.ad a5)), (0, .ref (G.ad y0)), (1, .int y1)] [.int (b2i b8)] I L R
      obtain ⟨I10, q11, h⟩ := bn1_some h
      have k12 : V G f 59 [(0, .ref (G.ad y0)), (1, .int y1)] [] I10 L R := by
        obtain ⟨u27, eu27, h⟩ := wr_some h
        refine V_iinc C0 1 [(1, .int u27), (0, .ref (G.ad y0))] rfl (n := 1) (by rw [eu27]; rfl) (by rw [eNL]; decide) rfl dX2_saveLine_59 ?_
        refine V_goto C0 (tgt := 2) (by decide) dX2_saveLine_62 ?_
        exact V_sub [1, 0] rfl (ih y0 u27 I10 L R _ hk0 ho0 h f kx)
      refine V_if_eq C0 (tgt := 59) (by decide) dX2_saveLine_28 (fun c13 => ?_) (fun c13 => ?_)
      · have q11 := (if_pos c13).symm.trans q11
        cases q11
        exact V_sub [1, 2] rfl k12
      · have q11 := (if_neg c13).symm.trans q11
        refine V_aload_n C0 0 rfl rfl dX2_saveLine_31 ?_
        obtain ⟨a14, qa14, q11⟩ := bnd_some q11
        refine V_getR C0 8 0 fl_X2_205 c7.2 c7.1 rfl (rf_at qa14) dX2_saveLine_32 ?_
        refine V_bipush C0 (v := (21 : Int32)) (by decide) dX2_saveLine_35 ?_
        obtain ⟨v15, qv15, q11⟩ := bnd_some q11
        refine V_ri C0 (rf_lt qa14) (rf_kd qa14) qv15 dX2_saveLine_37 ?_
        refine V_iconst C0 (v := (2 : Int32)) (by decide) dX2_saveLine_38 ?_
        obtain ⟨I16, q17, q11⟩ := bn1_some q11
        have k18 : V G f 59 [(0, .ref (G.ad y0)), (1, .int y1)] [] I16 L R := by
          cases q11
          exact V_sub [0, 1] rfl k12
        refine V_icmp_ne C0 (tgt := 59) (by decide) dX2_saveLine_39 (fun c19 => ?_) (fun c19 => ?_)
        · have q17 := (if_neg c19).symm.trans q17
          cases q17
          exact V_sub [1, 2] rfl k18
        · have q17 := (if_pos c19).symm.trans q17
          refine V_aload_n C0 0 rfl rfl dX2_saveLine_42 ?_
          refine V_bipush C0 (v := (8 : Int32)) (by decide) dX2_saveLine_43 ?_
          obtain ⟨b20, q21, q17⟩ := bn1_some q17
          refine V_callV C0 (st := []) (As := [.int (8 : Int32)]) 8 (c_X9_is G.l G.D G.cA G.ad G.bs G.X C0.2.2.2.2.2.2.2.2.2.1 C0.2.2.2.2.2.2.2.2.2.2.2.2 a5 (8 : Int32) I L R b20 q21) lc_X9_is lk_X2_232 c7.2 c7.1 ⟨_, rfl, rfl⟩ rfl (by rw [erm]; decide) (Nat.le_of_ble_eq_true rfl) dX2_saveLine_45 ?_
          show V G _ 48 [(2, .ref (G.ad a5)), (0, .ref (G.ad y0)), (1, .int y1)] [.int (b2i b20)] I L R
          obtain ⟨I22, q23, q17⟩ := bn1_some q17
          have k24 : V G f 59 [(0, .ref (G.ad y0)), (1, .int y1)] [] I22 L R := by
            cases q17
            exact V_sub [0, 1] rfl k18
          refine V_if_ne C0 (tgt := 59) (by decide) dX2_saveLine_48 (fun c25 => ?_) (fun c25 => ?_)
          · have q23 := (if_neg c25).symm.trans q23
            cases q23
            exact V_sub [1, 2] rfl k24
          · have q23 := (if_pos c25).symm.trans q23
            refine V_aload_n C0 0 rfl rfl dX2_saveLine_51 ?_
            refine V_getR C0 8 0 fl_X2_205 c7.2 c7.1 rfl (rf_at qa14) dX2_saveLine_52 ?_
            refine V_bipush C0 (v := (22 : Int32)) (by decide) dX2_saveLine_55 ?_
            refine V_iconst C0 (v := (0 : Int32)) (by decide) dX2_saveLine_57 ?_
            obtain ⟨I26, qI26, q23⟩ := bnd_some q23
            refine V_wi C0 (rf_lt qa14) (rf_kd qa14) qI26 dX2_saveLine_58 ?_
            cases q23
            exact V_sub [1, 2] rfl k24
set_option maxRecDepth 100000 in
set_option maxHeartbeats 4000000 in
theorem c_X2_saveLine (l : Launch) (D : va_G) (cA : Nat → ClassId) (ad : Nat → Nat) (bs : Nat) (X : State → Prop) (hAd : Ax ad bs) (hX : Stb bs X) (N : Nat) (x0 : Nat) (I : MI) (L : ML) (R : MR) (I' : MI) (h : F_X2_saveLine N x0 I L R = some (I')) : Cn l D cA ad bs X yX2_saveLine cX2_saveLine 3 none 2 42 [.ref (ad x0)] I L R (none, I', L, R) := by
  refine Cn.ofV hAd hX [(0, .ref (ad x0))] rfl (Nat.le_of_ble_eq_true rfl) (by decide) ?_
  intro G el eD ecA ead ebs eX erm eNL C0
  subst el eD ecA ead ebs eX
  unfold F_X2_saveLine at h
  obtain ⟨c_x0, h⟩ := ite_some h
  refine V_iconst C0 (v := (0 : Int32)) (by decide) dX2_saveLine_0 ?_
  refine V_istore_n C0 [(1, .int (0 : Int32)), (0, .ref (G.ad x0))] rfl (by rw [eNL]; decide) rfl dX2_saveLine_1 ?_
  obtain ⟨z28, q29, h⟩ := bn1_some h
  refine V_sub [1, 0] rfl (lp_X2_saveLine_2 C0 eNL erm N N x0 (0 : Int32) I L R _ c_x0.1 c_x0.2 q29 _ ?_)
  show V G _ 65 [] [] z28 L R
  cases h
  exact V_vret C0 dX2_saveLine_65
theorem dX7_aim_0 : decode cX7_aim 0 = .ok (.iload_n 1, 1) := by decide +kernel
theorem dX7_aim_1 : decode cX7_aim 1 = .ok (.ifCond .lt 21, 3) := by decide +kernel
theorem dX7_aim_4 : decode cX7_aim 4 = .ok (.iload_n 1, 1) := by decide +kernel
theorem dX7_aim_5 : decode cX7_aim 5 = .ok (.aload_n 0, 1) := by decide +kernel
theorem dX7_aim_6 : decode cX7_aim 6 = .ok (.getfield 18, 3) := by decide +kernel
theorem dX7_aim_9 : decode cX7_aim 9 = .ok (.arraylength, 1) := by decide +kernel
theorem dX7_aim_10 : decode cX7_aim 10 = .ok (.if_icmp .ge 12, 3) := by decide +kernel
theorem dX7_aim_13 : decode cX7_aim 13 = .ok (.aload_n 0, 1) := by decide +kernel
theorem dX7_aim_14 : decode cX7_aim 14 = .ok (.getfield 18, 3) := by decide +kernel
theorem dX7_aim_17 : decode cX7_aim 17 = .ok (.iload_n 1, 1) := by decide +kernel
theorem dX7_aim_18 : decode cX7_aim 18 = .ok (.iaload, 1) := by decide +kernel
theorem dX7_aim_19 : decode cX7_aim 19 = .ok (.goto 4, 3) := by decide +kernel
theorem dX7_aim_22 : decode cX7_aim 22 = .ok (.iconst 0, 1) := by decide +kernel
theorem dX7_aim_23 : decode cX7_aim 23 = .ok (.ireturn, 1) := by decide +kernel
def F_X7_aim (x0 : Nat) (x1 : Int32) (I : MI) (L : ML) (R : MR) : Option (Int32) :=
  if kd x0 = 6 ∧ x0 < NN then
  if x1 < 0 then
    some ((0 : Int32))
  else
    (rf R x0 3 20).bind fun a2 =>
    if (Int32.ofNat (ln a2)) ≤ x1 then
      some ((0 : Int32))
    else
      (ri I a2 x1).bind fun v4 =>
      some (v4)
  else none
set_option maxRecDepth 100000 in
set_option maxHeartbeats 4000000 in
theorem c_X7_aim (l : Launch) (D : va_G) (cA : Nat → ClassId) (ad : Nat → Nat) (bs : Nat) (X : State → Prop) (hAd : Ax ad bs) (hX : Stb bs X) (x0 : Nat) (x1 : Int32) (I : MI) (L : ML) (R : MR) (r : Int32) (h : F_X7_aim x0 x1 I L R = some (r)) : Cn l D cA ad bs X yX7_aim cX7_aim 2 (some .int) 0 0 [.ref (ad x0), .int x1] I L R (some (.int r), I, L, R) := by
  refine Cn.ofV hAd hX [(0, .ref (ad x0)), (1, .int x1)] rfl (Nat.le_of_ble_eq_true rfl) (by decide) ?_
  intro G el eD ecA ead ebs eX erm eNL C0
  subst el eD ecA ead ebs eX
  unfold F_X7_aim at h
  obtain ⟨c_x0, h⟩ := ite_some h
  refine V_iload_n C0 1 rfl rfl dX7_aim_0 ?_
  refine V_if_lt C0 (tgt := 22) (by decide) dX7_aim_1 (fun c1 => ?_) (fun c1 => ?_)
  · have h := (if_pos c1).symm.trans h
    refine V_iconst C0 (v := (0 : Int32)) (by decide) dX7_aim_22 ?_
    cases h
    exact V_iret C0 dX7_aim_23
  · have h := (if_neg c1).symm.trans h
    refine V_iload_n C0 1 rfl rfl dX7_aim_4 ?_
    refine V_aload_n C0 0 rfl rfl dX7_aim_5 ?_
    obtain ⟨a2, qa2, h⟩ := bnd_some h
    refine V_getR C0 6 3 fl_X7_18 c_x0.2 c_x0.1 rfl (rf_at qa2) dX7_aim_6 ?_
    refine V_alen C0 (v := Int32.ofNat (ln a2)) (rf_lt qa2) (by rw [(rf_kd qa2)]; decide) rfl dX7_aim_9 ?_
    refine V_icmp_ge C0 (tgt := 22) (by decide) dX7_aim_10 (fun c3 => ?_) (fun c3 => ?_)
    · have h := (if_pos c3).symm.trans h
      refine V_iconst C0 (v := (0 : Int32)) (by decide) dX7_aim_22 ?_
      cases h
      exact V_iret C0 dX7_aim_23
    · have h := (if_neg c3).symm.trans h
      refine V_aload_n C0 0 rfl rfl dX7_aim_13 ?_
      refine V_getR C0 6 3 fl_X7_18 c_x0.2 c_x0.1 rfl (rf_at qa2) dX7_aim_14 ?_
      refine V_iload_n C0 1 rfl rfl dX7_aim_17 ?_
      obtain ⟨v4, qv4, h⟩ := bnd_some h
      refine V_ri C0 (rf_lt qa2) (rf_kd qa2) qv4 dX7_aim_18 ?_
      refine V_goto C0 (tgt := 23) (by decide) dX7_aim_19 ?_
      cases h
      exact V_iret C0 dX7_aim_23
theorem dX7_sunError_0 : decode cX7_sunError 0 = .ok (.iconst 0, 1) := by decide +kernel
theorem dX7_sunError_1 : decode cX7_sunError 1 = .ok (.istore_n 1, 1) := by decide +kernel
theorem dX7_sunError_2 : decode cX7_sunError 2 = .ok (.iload_n 1, 1) := by decide +kernel
theorem dX7_sunError_3 : decode cX7_sunError 3 = .ok (.aload_n 0, 1) := by decide +kernel
theorem dX7_sunError_4 : decode cX7_sunError 4 = .ok (.getfield 21, 3) := by decide +kernel
theorem dX7_sunError_7 : decode cX7_sunError 7 = .ok (.invokevirtual 67, 3) := by decide +kernel
theorem dX7_sunError_10 : decode cX7_sunError 10 = .ok (.if_icmp .ge 54, 3) := by decide +kernel
theorem dX7_sunError_13 : decode cX7_sunError 13 = .ok (.aload_n 0, 1) := by decide +kernel
theorem dX7_sunError_14 : decode cX7_sunError 14 = .ok (.getfield 21, 3) := by decide +kernel
theorem dX7_sunError_17 : decode cX7_sunError 17 = .ok (.iload_n 1, 1) := by decide +kernel
theorem dX7_sunError_18 : decode cX7_sunError 18 = .ok (.invokevirtual 72, 3) := by decide +kernel
theorem dX7_sunError_21 : decode cX7_sunError 21 = .ok (.astore_n 2, 1) := by decide +kernel
theorem dX7_sunError_22 : decode cX7_sunError 22 = .ok (.aload_n 2, 1) := by decide +kernel
theorem dX7_sunError_23 : decode cX7_sunError 23 = .ok (.bipush 12, 2) := by decide +kernel
theorem dX7_sunError_25 : decode cX7_sunError 25 = .ok (.invokevirtual 76, 3) := by decide +kernel
theorem dX7_sunError_28 : decode cX7_sunError 28 = .ok (.ifCond .eq 30, 3) := by decide +kernel
theorem dX7_sunError_31 : decode cX7_sunError 31 = .ok (.aload_n 2, 1) := by decide +kernel
theorem dX7_sunError_32 : decode cX7_sunError 32 = .ok (.getfield 82, 3) := by decide +kernel
theorem dX7_sunError_35 : decode cX7_sunError 35 = .ok (.bipush 32, 2) := by decide +kernel
theorem dX7_sunError_37 : decode cX7_sunError 37 = .ok (.iaload, 1) := by decide +kernel
theorem dX7_sunError_38 : decode cX7_sunError 38 = .ok (.sipush 9999, 3) := by decide +kernel
theorem dX7_sunError_41 : decode cX7_sunError 41 = .ok (.if_icmp .ne 9, 3) := by decide +kernel
theorem dX7_sunError_44 : decode cX7_sunError 44 = .ok (.sipush 200, 3) := by decide +kernel
theorem dX7_sunError_47 : decode cX7_sunError 47 = .ok (.goto 10, 3) := by decide +kernel
theorem dX7_sunError_50 : decode cX7_sunError 50 = .ok (.aload_n 2, 1) := by decide +kernel
theorem dX7_sunError_51 : decode cX7_sunError 51 = .ok (.getfield 82, 3) := by decide +kernel
theorem dX7_sunError_54 : decode cX7_sunError 54 = .ok (.bipush 32, 2) := by decide +kernel
theorem dX7_sunError_56 : decode cX7_sunError 56 = .ok (.iaload, 1) := by decide +kernel
theorem dX7_sunError_57 : decode cX7_sunError 57 = .ok (.ireturn, 1) := by decide +kernel
theorem dX7_sunError_58 : decode cX7_sunError 58 = .ok (.iinc 1 1, 3) := by decide +kernel
theorem dX7_sunError_61 : decode cX7_sunError 61 = .ok (.goto (-59), 3) := by decide +kernel
theorem dX7_sunError_64 : decode cX7_sunError 64 = .ok (.sipush 200, 3) := by decide +kernel
theorem dX7_sunError_67 : decode cX7_sunError 67 = .ok (.ireturn, 1) := by decide +kernel
def LF_X7_sunError_2 (N : Nat) : Nat → Nat → Int32 → MI → ML → MR → Option (Sum (Int32) (Unit))
  | 0, _, _, _, _, _ => none
  | k + 1, y0, y1, I, L, R =>
    (rf R y0 0 9).bind fun a1 =>
    bn1 (F_X10_size a1 I L R) fun v2 =>
    if v2 ≤ y1 then
      some (.inr ())
    else
      bn1 (F_X10_unitAt a1 y1 I L R) fun a5 =>
      if kd a5 = 8 ∧ a5 < NN then
      bn1 (F_X9_isOn a5 (12 : Int32) I L R) fun b8 =>
      if (b2i b8) = 0 then
        wr (y1 + (1 : Int32)) fun (u11 : Int32) =>
        LF_X7_sunError_2 N k y0 u11 I L R
      else
        (rf R a5 0 20).bind fun a12 =>
        (ri I a12 (32 : Int32)).bind fun v13 =>
        if v13 = (9999 : Int32) then
          some (.inl ((200 : Int32)))
        else
          (ri I a12 (32 : Int32)).bind fun v15 =>
          some (.inl (v15))
      else none
def F_X7_sunError (N : Nat) (x0 : Nat) (I : MI) (L : ML) (R : MR) : Option (Int32) :=
  if kd x0 = 6 ∧ x0 < NN then
  bsm (LF_X7_sunError_2 N N x0 (0 : Int32) I L R) (fun z16 => some z16) fun z16 =>
  some ((200 : Int32))
  else none
set_option maxRecDepth 100000 in
set_option maxHeartbeats 4000000 in
theorem lp_X7_sunError_2 {G : Gm} (C0 : Cx G (yX7_sunError.cls) cX7_sunError (some .int)) (eNL : G.nL = 3) (erm : G.rm = ({ frames := 2, cells := 0, slots := 0, locals := 42 } : Room)) (N : Nat) : ∀ (k : Nat) (y0 : Nat) (y1 : Int32) (I : MI) (L : ML) (R : MR) (q : Sum (Int32) (Unit)) (hk0 : kd y0 = 6) (ho0 : y0 < NN), LF_X7_sunError_2 N k y0 y1 I L R = some q → ∀ f : State → Prop, (∀ w, q = .inl w → f = qf G (some (.int w), I, L, R)) → (∀ z, q = .inr z → V G f 64 [] [] I L R) → V G f 2 [(0, .ref (G.ad y0)), (1, .int y1)] [] I L R := by
  intro k
  induction k with
  | zero =>
    intro y0 y1 I L R q hk0 ho0 h
    exact absurd h (by simp [LF_X7_sunError_2])
  | succ k ih =>
    intro y0 y1 I L R q hk0 ho0 h f kr kx
    rw [LF_X7_sunError_2] at h
    refine V_iload_n C0 1 rfl rfl dX7_sunError_2 ?_
    refine V_aload_n C0 0 rfl rfl dX7_sunError_3 ?_
    obtain ⟨a1, qa1, h⟩ := bnd_some h
    refine V_getR C0 6 0 fl_X7_21 ho0 hk0 rfl (rf_at qa1) dX7_sunError_4 ?_
    obtain ⟨v2, q3, h⟩ := bn1_some h
    refine V_callV C0 (st := [.int y1]) (As := []) 9 (c_X10_size G.l G.D G.cA G.ad G.bs G.X C0.2.2.2.2.2.2.2.2.2.1 C0.2.2.2.2.2.2.2.2.2.2.2.2 a1 I L R v2 q3) lc_X10_size lk_X7_67 (rf_lt qa1) (rf_kd qa1) ⟨_, rfl, rfl⟩ rfl (by rw [erm]; decide) (Nat.le_of_ble_eq_true rfl) dX7_sunError_7 ?_
    show V G _ 10 [(0, .ref (G.ad y0)), (1, .int y1)] [.int v2, .int y1] I L R
    refine V_icmp_ge C0 (tgt := 64) (by decide) dX7_sunError_10 (fun c4 => ?_) (fun c4 => ?_)
    · have h := (if_pos c4).symm.trans h
      cases h
      exact V_sub [] rfl (kx _ rfl)
    · have h := (if_neg c4).symm.trans h
      refine V_aload_n C0 0 rfl rfl dX7_sunError_13 ?_
      refine V_getR C0 6 0 fl_X7_21 ho0 hk0 rfl (rf_at qa1) dX7_sunError_14 ?_
      refine V_iload_n C0 1 rfl rfl dX7_sunError_17 ?_
      obtain ⟨a5, q6, h⟩ := bn1_some h
      refine V_callV C0 (st := []) (As := [.int y1]) 9 (c_X10_unitAt G.l G.D G.cA G.ad G.bs G.X C0.2.2.2.2.2.2.2.2.2.1 C0.2.2.2.2.2.2.2.2.2.2.2.2 a1 y1 I L R a5 q6) lc_X10_unitAt lk_X7_72 (rf_lt qa1) (rf_kd qa1) ⟨_, rfl, rfl⟩ rfl (by rw [erm]; decide) (Nat.le_of_ble_eq_true rfl) dX7_sunError_18 ?_
      show V G _ 21 [(0, .ref (G.ad y0)), (1, .int y1)] [.ref (G.ad a5)] I L R
      obtain ⟨c7, h⟩ := ite_some h
      refine V_astore_n C0 [(2, .ref (G.ad a5)), (0, .ref (G.ad y0)), (1, .int y1)] rfl (by rw [eNL]; decide) rfl dX7_sunError_21 ?_
      refine V_aload_n C0 0 rfl rfl dX7_sunError_22 ?_
      refine V_bipush C0 (v := (12 : Int32)) (by decide) dX7_sunError_23 ?_
      obtain ⟨b8, q9, h⟩ := bn1_some h
      refine V_callV C0 (st := []) (As := [.int (12 : Int32)]) 8 (c_X9_isOn G.l G.D G.cA G.ad G.bs G.X C0.2.2.2.2.2.2.2.2.2.1 C0.2.2.2.2.2.2.2.2.2.2.2.2 a5 (12 : Int32) I L R b8 q9) lc_X9_isOn lk_X7_76 c7.2 c7.1 ⟨_, rfl, rfl⟩ rfl (by rw [erm]; decide) (Nat.le_of_ble_eq_true rfl) dX7_sunError_25 ?_
      show V G _ 28 [(2, .ref (G.ad a5)), (0, .ref (G.ad y0)), (1, .int y1)] [.int (b2i b8)] I L R
      refine V_if_eq C0 (tgt := 58) (by decide) dX7_sunError_28 (fun c10 => ?_) (fun c10 => ?_)
      · have h := (if_pos c10).symm.trans h
        obtain ⟨u11, eu11, h⟩ := wr_some h
        refine V_iinc C0 2 [(1, .int u11), (2, .ref (G.ad a5)), (0, .ref (G.ad y0))] rfl (n := 1) (by rw [eu11]; rfl) (by rw [eNL]; decide) rfl dX7_sunError_58 ?_
        refine V_goto C0 (tgt := 2) (by decide) dX7_sunError_61 ?_
        exact V_sub [2, 0] rfl (ih y0 u11 I L R _ hk0 ho0 h f kr kx)
      · have h := (if_neg c10).symm.trans h
        refine V_aload_n C0 0 rfl rfl dX7_sunError_31 ?_
        obtain ⟨a12, qa12, h⟩ := bnd_some h
        refine V_getR C0 8 0 fl_X7_82 c7.2 c7.1 rfl (rf_at qa12) dX7_sunError_32 ?_
        refine V_bipush C0 (v := (32 : Int32)) (by decide) dX7_sunError_35 ?_
        obtain ⟨v13, qv13, h⟩ := bnd_some h
        refine V_ri C0 (rf_lt qa12) (rf_kd qa12) qv13 dX7_sunError_37 ?_
        refine V_sipush C0 (v := (9999 : Int32)) (by decide) dX7_sunError_38 ?_
        refine V_icmp_ne C0 (tgt := 50) (by decide) dX7_sunError_41 (fun c14 => ?_) (fun c14 => ?_)
        · have h := (if_neg c14).symm.trans h
          refine V_aload_n C0 0 rfl rfl dX7_sunError_50 ?_
          refine V_getR C0 8 0 fl_X7_82 c7.2 c7.1 rfl (rf_at qa12) dX7_sunError_51 ?_
          refine V_bipush C0 (v := (32 : Int32)) (by decide) dX7_sunError_54 ?_
          obtain ⟨v15, qv15, h⟩ := bnd_some h
          refine V_ri C0 (rf_lt qa12) (rf_kd qa12) qv15 dX7_sunError_56 ?_
          cases h
          rw [kr _ rfl]
          exact V_iret C0 dX7_sunError_57
        · have h := (if_pos c14).symm.trans h
          refine V_sipush C0 (v := (200 : Int32)) (by decide) dX7_sunError_44 ?_
          refine V_goto C0 (tgt := 57) (by decide) dX7_sunError_47 ?_
          cases h
          rw [kr _ rfl]
          exact V_iret C0 dX7_sunError_57
set_option maxRecDepth 100000 in
set_option maxHeartbeats 4000000 in
theorem c_X7_sunError (l : Launch) (D : va_G) (cA : Nat → ClassId) (ad : Nat → Nat) (bs : Nat) (X : State → Prop) (hAd : Ax ad bs) (hX : Stb bs X) (N : Nat) (x0 : Nat) (I : MI) (L : ML) (R : MR) (r : Int32) (h : F_X7_sunError N x0 I L R = some (r)) : Cn l D cA ad bs X yX7_sunError cX7_sunError 3 (some .int) 2 42 [.ref (ad x0)] I L R (some (.int r), I, L, R) := by
  refine Cn.ofV hAd hX [(0, .ref (ad x0))] rfl (Nat.le_of_ble_eq_true rfl) (by decide) ?_
  intro G el eD ecA ead ebs eX erm eNL C0
  subst el eD ecA ead ebs eX
  unfold F_X7_sunError at h
  obtain ⟨c_x0, h⟩ := ite_some h
  refine V_iconst C0 (v := (0 : Int32)) (by decide) dX7_sunError_0 ?_
  refine V_istore_n C0 [(1, .int (0 : Int32)), (0, .ref (G.ad x0))] rfl (by rw [eNL]; decide) rfl dX7_sunError_1 ?_
  rcases bsm_some h with ⟨z16, q17, h⟩ | ⟨z16, q17, h⟩
  · refine V_sub [1, 0] rfl (lp_X7_sunError_2 C0 eNL erm N N x0 (0 : Int32) I L R _ c_x0.1 c_x0.2 q17 _ (fun w e => ?_) (fun _ e => by cases e))
    cases e
    cases h
    rfl
  · refine V_sub [1, 0] rfl (lp_X7_sunError_2 C0 eNL erm N N x0 (0 : Int32) I L R _ c_x0.1 c_x0.2 q17 _ (fun _ e => by cases e) (fun w e => ?_))
    cases e
    show V G _ 64 [] [] I L R
    refine V_sipush C0 (v := (200 : Int32)) (by decide) dX7_sunError_64 ?_
    cases h
    exact V_iret C0 dX7_sunError_67
theorem dX7_error_0 : decode cX7_error 0 = .ok (.iload_n 2, 1) := by decide +kernel
theorem dX7_error_1 : decode cX7_error 1 = .ok (.iconst 1, 1) := by decide +kernel
theorem dX7_error_2 : decode cX7_error 2 = .ok (.if_icmp .ne 17, 3) := by decide +kernel
theorem dX7_error_5 : decode cX7_error 5 = .ok (.aload_n 0, 1) := by decide +kernel
theorem dX7_error_6 : decode cX7_error 6 = .ok (.iload_n 1, 1) := by decide +kernel
theorem dX7_error_7 : decode cX7_error 7 = .ok (.invokevirtual 25, 3) := by decide +kernel
theorem dX7_error_10 : decode cX7_error 10 = .ok (.aload_n 0, 1) := by decide +kernel
theorem dX7_error_11 : decode cX7_error 11 = .ok (.iload_n 1, 1) := by decide +kernel
theorem dX7_error_12 : decode cX7_error 12 = .ok (.invokevirtual 32, 3) := by decide +kernel
theorem dX7_error_15 : decode cX7_error 15 = .ok (.invokestatic 60, 3) := by decide +kernel
theorem dX7_error_18 : decode cX7_error 18 = .ok (.ireturn, 1) := by decide +kernel
theorem dX7_error_19 : decode cX7_error 19 = .ok (.iload_n 1, 1) := by decide +kernel
theorem dX7_error_20 : decode cX7_error 20 = .ok (.ifCond .ne 10, 3) := by decide +kernel
theorem dX7_error_23 : decode cX7_error 23 = .ok (.aload_n 0, 1) := by decide +kernel
theorem dX7_error_24 : decode cX7_error 24 = .ok (.invokevirtual 63, 3) := by decide +kernel
theorem dX7_error_27 : decode cX7_error 27 = .ok (.goto 12, 3) := by decide +kernel
theorem dX7_error_30 : decode cX7_error 30 = .ok (.aload_n 0, 1) := by decide +kernel
theorem dX7_error_31 : decode cX7_error 31 = .ok (.iload_n 1, 1) := by decide +kernel
theorem dX7_error_32 : decode cX7_error 32 = .ok (.invokevirtual 25, 3) := by decide +kernel
theorem dX7_error_35 : decode cX7_error 35 = .ok (.iconst 0, 1) := by decide +kernel
theorem dX7_error_36 : decode cX7_error 36 = .ok (.invokestatic 60, 3) := by decide +kernel
theorem dX7_error_39 : decode cX7_error 39 = .ok (.ireturn, 1) := by decide +kernel
def F_X7_error (N : Nat) (x0 : Nat) (x1 : Int32) (x2 : Int32) (I : MI) (L : ML) (R : MR) : Option (Int32) :=
  if kd x0 = 6 ∧ x0 < NN then
  if x2 = (1 : Int32) then
    bn1 (F_X7_angle x0 x1 I L R) fun v9 =>
    bn1 (F_X7_aim x0 x1 I L R) fun v11 =>
    bn1 (F_X11_off v9 v11 I L R) fun v13 =>
    some (v13)
  else
    if x1 = 0 then
      bn1 (F_X7_sunError N x0 I L R) fun v7 =>
      some (v7)
    else
      bn1 (F_X7_angle x0 x1 I L R) fun v3 =>
      bn1 (F_X11_off v3 (0 : Int32) I L R) fun v5 =>
      some (v5)
  else none
set_option maxRecDepth 100000 in
set_option maxHeartbeats 4000000 in
theorem c_X7_error (l : Launch) (D : va_G) (cA : Nat → ClassId) (ad : Nat → Nat) (bs : Nat) (X : State → Prop) (hAd : Ax ad bs) (hX : Stb bs X) (N : Nat) (x0 : Nat) (x1 : Int32) (x2 : Int32) (I : MI) (L : ML) (R : MR) (r : Int32) (h : F_X7_error N x0 x1 x2 I L R = some (r)) : Cn l D cA ad bs X yX7_error cX7_error 3 (some .int) 3 64 [.ref (ad x0), .int x1, .int x2] I L R (some (.int r), I, L, R) := by
  refine Cn.ofV hAd hX [(0, .ref (ad x0)), (1, .int x1), (2, .int x2)] rfl (Nat.le_of_ble_eq_true rfl) (by decide) ?_
  intro G el eD ecA ead ebs eX erm eNL C0
  subst el eD ecA ead ebs eX
  unfold F_X7_error at h
  obtain ⟨c_x0, h⟩ := ite_some h
  refine V_iload_n C0 2 rfl rfl dX7_error_0 ?_
  refine V_iconst C0 (v := (1 : Int32)) (by decide) dX7_error_1 ?_
  refine V_icmp_ne C0 (tgt := 19) (by decide) dX7_error_2 (fun c1 => ?_) (fun c1 => ?_)
  · have h := (if_neg c1).symm.trans h
    refine V_iload_n C0 1 rfl rfl dX7_error_19 ?_
    refine V_if_ne C0 (tgt := 30) (by decide) dX7_error_20 (fun c2 => ?_) (fun c2 => ?_)
    · have h := (if_neg c2).symm.trans h
      refine V_aload_n C0 0 rfl rfl dX7_error_30 ?_
      refine V_iload_n C0 1 rfl rfl dX7_error_31 ?_
      obtain ⟨v3, q4, h⟩ := bn1_some h
      refine V_callV C0 (st := []) (As := [.int x1]) 6 (c_X7_angle G.l G.D G.cA G.ad G.bs G.X C0.2.2.2.2.2.2.2.2.2.1 C0.2.2.2.2.2.2.2.2.2.2.2.2 x0 x1 I L R v3 q4) lc_X7_angle lk_X7_25 c_x0.2 c_x0.1 ⟨_, rfl, rfl⟩ rfl (by rw [erm]; decide) (Nat.le_of_ble_eq_true rfl) dX7_error_32 ?_
      show V G _ 35 [(0, .ref (G.ad x0)), (1, .int x1), (2, .int x2)] [.int v3] I L R
      refine V_iconst C0 (v := (0 : Int32)) (by decide) dX7_error_35 ?_
      obtain ⟨v5, q6, h⟩ := bn1_some h
      refine V_callS C0 (st := []) (As := [.int v3, .int (0 : Int32)]) (c_X11_off G.l G.D G.cA G.ad G.bs G.X C0.2.2.2.2.2.2.2.2.2.1 C0.2.2.2.2.2.2.2.2.2.2.2.2 v3 (0 : Int32) I L R v5 q6) lc_X11_off lk_X7_60 rfl (by rw [erm]; decide) (Nat.le_of_ble_eq_true rfl) dX7_error_36 ?_
      show V G _ 39 [(0, .ref (G.ad x0)), (1, .int x1), (2, .int x2)] [.int v5] I L R
      cases h
      exact V_iret C0 dX7_error_39
    · have h := (if_pos c2).symm.trans h
      refine V_aload_n C0 0 rfl rfl dX7_error_23 ?_
      obtain ⟨v7, q8, h⟩ := bn1_some h
      refine V_callV C0 (st := []) (As := []) 6 (c_X7_sunError G.l G.D G.cA G.ad G.bs G.X C0.2.2.2.2.2.2.2.2.2.1 C0.2.2.2.2.2.2.2.2.2.2.2.2 N x0 I L R v7 q8) lc_X7_sunError lk_X7_63 c_x0.2 c_x0.1 ⟨_, rfl, rfl⟩ rfl (by rw [erm]; decide) (Nat.le_of_ble_eq_true rfl) dX7_error_24 ?_
      show V G _ 27 [(0, .ref (G.ad x0)), (1, .int x1), (2, .int x2)] [.int v7] I L R
      refine V_goto C0 (tgt := 39) (by decide) dX7_error_27 ?_
      cases h
      exact V_iret C0 dX7_error_39
  · have h := (if_pos c1).symm.trans h
    refine V_aload_n C0 0 rfl rfl dX7_error_5 ?_
    refine V_iload_n C0 1 rfl rfl dX7_error_6 ?_
    obtain ⟨v9, q10, h⟩ := bn1_some h
    refine V_callV C0 (st := []) (As := [.int x1]) 6 (c_X7_angle G.l G.D G.cA G.ad G.bs G.X C0.2.2.2.2.2.2.2.2.2.1 C0.2.2.2.2.2.2.2.2.2.2.2.2 x0 x1 I L R v9 q10) lc_X7_angle lk_X7_25 c_x0.2 c_x0.1 ⟨_, rfl, rfl⟩ rfl (by rw [erm]; decide) (Nat.le_of_ble_eq_true rfl) dX7_error_7 ?_
    show V G _ 10 [(0, .ref (G.ad x0)), (1, .int x1), (2, .int x2)] [.int v9] I L R
    refine V_aload_n C0 0 rfl rfl dX7_error_10 ?_
    refine V_iload_n C0 1 rfl rfl dX7_error_11 ?_
    obtain ⟨v11, q12, h⟩ := bn1_some h
    refine V_callV C0 (st := [.int v9]) (As := [.int x1]) 6 (c_X7_aim G.l G.D G.cA G.ad G.bs G.X C0.2.2.2.2.2.2.2.2.2.1 C0.2.2.2.2.2.2.2.2.2.2.2.2 x0 x1 I L R v11 q12) lc_X7_aim lk_X7_32 c_x0.2 c_x0.1 ⟨_, rfl, rfl⟩ rfl (by rw [erm]; decide) (Nat.le_of_ble_eq_true rfl) dX7_error_12 ?_
    show V G _ 15 [(0, .ref (G.ad x0)), (1, .int x1), (2, .int x2)] [.int v11, .int v9] I L R
    obtain ⟨v13, q14, h⟩ := bn1_some h
    refine V_callS C0 (st := []) (As := [.int v9, .int v11]) (c_X11_off G.l G.D G.cA G.ad G.bs G.X C0.2.2.2.2.2.2.2.2.2.1 C0.2.2.2.2.2.2.2.2.2.2.2.2 v9 v11 I L R v13 q14) lc_X11_off lk_X7_60 rfl (by rw [erm]; decide) (Nat.le_of_ble_eq_true rfl) dX7_error_15 ?_
    show V G _ 18 [(0, .ref (G.ad x0)), (1, .int x1), (2, .int x2)] [.int v13] I L R
    cases h
    exact V_iret C0 dX7_error_18
theorem dX7_measuredRate_0 : decode cX7_measuredRate 0 = .ok (.iconst 0, 1) := by decide +kernel
theorem dX7_measuredRate_1 : decode cX7_measuredRate 1 = .ok (.istore_n 2, 1) := by decide +kernel
theorem dX7_measuredRate_2 : decode cX7_measuredRate 2 = .ok (.iload_n 2, 1) := by decide +kernel
theorem dX7_measuredRate_3 : decode cX7_measuredRate 3 = .ok (.aload_n 0, 1) := by decide +kernel
theorem dX7_measuredRate_4 : decode cX7_measuredRate 4 = .ok (.getfield 21, 3) := by decide +kernel
theorem dX7_measuredRate_7 : decode cX7_measuredRate 7 = .ok (.invokevirtual 67, 3) := by decide +kernel
theorem dX7_measuredRate_10 : decode cX7_measuredRate 10 = .ok (.if_icmp .ge 46, 3) := by decide +kernel
theorem dX7_measuredRate_13 : decode cX7_measuredRate 13 = .ok (.aload_n 0, 1) := by decide +kernel
theorem dX7_measuredRate_14 : decode cX7_measuredRate 14 = .ok (.getfield 21, 3) := by decide +kernel
theorem dX7_measuredRate_17 : decode cX7_measuredRate 17 = .ok (.iload_n 2, 1) := by decide +kernel
theorem dX7_measuredRate_18 : decode cX7_measuredRate 18 = .ok (.invokevirtual 72, 3) := by decide +kernel
theorem dX7_measuredRate_21 : decode cX7_measuredRate 21 = .ok (.astore_n 3, 1) := by decide +kernel
theorem dX7_measuredRate_22 : decode cX7_measuredRate 22 = .ok (.aload_n 3, 1) := by decide +kernel
theorem dX7_measuredRate_23 : decode cX7_measuredRate 23 = .ok (.bipush 10, 2) := by decide +kernel
theorem dX7_measuredRate_25 : decode cX7_measuredRate 25 = .ok (.invokevirtual 76, 3) := by decide +kernel
theorem dX7_measuredRate_28 : decode cX7_measuredRate 28 = .ok (.ifCond .eq 22, 3) := by decide +kernel
theorem dX7_measuredRate_31 : decode cX7_measuredRate 31 = .ok (.aload_n 3, 1) := by decide +kernel
theorem dX7_measuredRate_32 : decode cX7_measuredRate 32 = .ok (.getfield 82, 3) := by decide +kernel
theorem dX7_measuredRate_35 : decode cX7_measuredRate 35 = .ok (.bipush 35, 2) := by decide +kernel
theorem dX7_measuredRate_37 : decode cX7_measuredRate 37 = .ok (.iaload, 1) := by decide +kernel
theorem dX7_measuredRate_38 : decode cX7_measuredRate 38 = .ok (.iload_n 1, 1) := by decide +kernel
theorem dX7_measuredRate_39 : decode cX7_measuredRate 39 = .ok (.if_icmp .ne 11, 3) := by decide +kernel
theorem dX7_measuredRate_42 : decode cX7_measuredRate 42 = .ok (.aload_n 3, 1) := by decide +kernel
theorem dX7_measuredRate_43 : decode cX7_measuredRate 43 = .ok (.getfield 82, 3) := by decide +kernel
theorem dX7_measuredRate_46 : decode cX7_measuredRate 46 = .ok (.bipush 32, 2) := by decide +kernel
theorem dX7_measuredRate_48 : decode cX7_measuredRate 48 = .ok (.iaload, 1) := by decide +kernel
theorem dX7_measuredRate_49 : decode cX7_measuredRate 49 = .ok (.ireturn, 1) := by decide +kernel
theorem dX7_measuredRate_50 : decode cX7_measuredRate 50 = .ok (.iinc 2 1, 3) := by decide +kernel
theorem dX7_measuredRate_53 : decode cX7_measuredRate 53 = .ok (.goto (-51), 3) := by decide +kernel
theorem dX7_measuredRate_56 : decode cX7_measuredRate 56 = .ok (.iconst 0, 1) := by decide +kernel
theorem dX7_measuredRate_57 : decode cX7_measuredRate 57 = .ok (.ireturn, 1) := by decide +kernel
def LF_X7_measuredRate_2 (N : Nat) : Nat → Nat → Int32 → Int32 → MI → ML → MR → Option (Sum (Int32) (Unit))
  | 0, _, _, _, _, _, _ => none
  | k + 1, y0, y1, y2, I, L, R =>
    (rf R y0 0 9).bind fun a1 =>
    bn1 (F_X10_size a1 I L R) fun v2 =>
    if v2 ≤ y2 then
      some (.inr ())
    else
      bn1 (F_X10_unitAt a1 y2 I L R) fun a5 =>
      if kd a5 = 8 ∧ a5 < NN then
      bn1 (F_X9_isOn a5 (10 : Int32) I L R) fun b8 =>
      if (b2i b8) = 0 then
        wr (y2 + (1 : Int32)) fun (u11 : Int32) =>
        LF_X7_measuredRate_2 N k y0 y1 u11 I L R
      else
        (rf R a5 0 20).bind fun a12 =>
        (ri I a12 (35 : Int32)).bind fun v13 =>
        if v13 = y1 then
          (ri I a12 (32 : Int32)).bind fun v16 =>
          some (.inl (v16))
        else
          wr (y2 + (1 : Int32)) fun (u15 : Int32) =>
          LF_X7_measuredRate_2 N k y0 y1 u15 I L R
      else none
def F_X7_measuredRate (N : Nat) (x0 : Nat) (x1 : Int32) (I : MI) (L : ML) (R : MR) : Option (Int32) :=
  if kd x0 = 6 ∧ x0 < NN then
  bsm (LF_X7_measuredRate_2 N N x0 x1 (0 : Int32) I L R) (fun z17 => some z17) fun z17 =>
  some ((0 : Int32))
  else none
set_option maxRecDepth 100000 in
set_option maxHeartbeats 4000000 in
theorem lp_X7_measuredRate_2 {G : Gm} (C0 : Cx G (yX7_measuredRate.cls) cX7_measuredRate (some .int)) (eNL : G.nL = 4) (erm : G.rm = ({ frames := 2, cells := 0, slots := 0, locals := 42 } : Room)) (N : Nat) : ∀ (k : Nat) (y0 : Nat) (y1 : Int32) (y2 : Int32) (I : MI) (L : ML) (R : MR) (q : Sum (Int32) (Unit)) (hk0 : kd y0 = 6) (ho0 : y0 < NN), LF_X7_measuredRate_2 N k y0 y1 y2 I L R = some q → ∀ f : State → Prop, (∀ w, q = .inl w → f = qf G (some (.int w), I, L, R)) → (∀ z, q = .inr z → V G f 56 [] [] I L R) → V G f 2 [(0, .ref (G.ad y0)), (1, .int y1), (2, .int y2)] [] I L R := by
  intro k
  induction k with
  | zero =>
    intro y0 y1 y2 I L R q hk0 ho0 h
    exact absurd h (by simp [LF_X7_measuredRate_2])
  | succ k ih =>
    intro y0 y1 y2 I L R q hk0 ho0 h f kr kx
    rw [LF_X7_measuredRate_2] at h
    refine V_iload_n C0 2 rfl rfl dX7_measuredRate_2 ?_
    refine V_aload_n C0 0 rfl rfl dX7_measuredRate_3 ?_
    obtain ⟨a1, qa1, h⟩ := bnd_some h
    refine V_getR C0 6 0 fl_X7_21 ho0 hk0 rfl (rf_at qa1) dX7_measuredRate_4 ?_
    obtain ⟨v2, q3, h⟩ := bn1_some h
    refine V_callV C0 (st := [.int y2]) (As := []) 9 (c_X10_size G.l G.D G.cA G.ad G.bs G.X C0.2.2.2.2.2.2.2.2.2.1 C0.2.2.2.2.2.2.2.2.2.2.2.2 a1 I L R v2 q3) lc_X10_size lk_X7_67 (rf_lt qa1) (rf_kd qa1) ⟨_, rfl, rfl⟩ rfl (by rw [erm]; decide) (Nat.le_of_ble_eq_true rfl) dX7_measuredRate_7 ?_
    show V G _ 10 [(0, .ref (G.ad y0)), (1, .int y1), (2, .int y2)] [.int v2, .int y2] I L R
    refine V_icmp_ge C0 (tgt := 56) (by decide) dX7_measuredRate_10 (fun c4 => ?_) (fun c4 => ?_)
    · have h := (if_pos c4).symm.trans h
      cases h
      exact V_sub [] rfl (kx _ rfl)
    · have h := (if_neg c4).symm.trans h
      refine V_aload_n C0 0 rfl rfl dX7_measuredRate_13 ?_
      refine V_getR C0 6 0 fl_X7_21 ho0 hk0 rfl (rf_at qa1) dX7_measuredRate_14 ?_
      refine V_iload_n C0 2 rfl rfl dX7_measuredRate_17 ?_
      obtain ⟨a5, q6, h⟩ := bn1_some h
      refine V_callV C0 (st := []) (As := [.int y2]) 9 (c_X10_unitAt G.l G.D G.cA G.ad G.bs G.X C0.2.2.2.2.2.2.2.2.2.1 C0.2.2.2.2.2.2.2.2.2.2.2.2 a1 y2 I L R a5 q6) lc_X10_unitAt lk_X7_72 (rf_lt qa1) (rf_kd qa1) ⟨_, rfl, rfl⟩ rfl (by rw [erm]; decide) (Nat.le_of_ble_eq_true rfl) dX7_measuredRate_18 ?_
      show V G _ 21 [(0, .ref (G.ad y0)), (1, .int y1), (2, .int y2)] [.ref (G.ad a5)] I L R
      obtain ⟨c7, h⟩ := ite_some h
      refine V_astore_n C0 [(3, .ref (G.ad a5)), (0, .ref (G.ad y0)), (1, .int y1), (2, .int y2)] rfl (by rw [eNL]; decide) rfl dX7_measuredRate_21 ?_
      refine V_aload_n C0 0 rfl rfl dX7_measuredRate_22 ?_
      refine V_bipush C0 (v := (10 : Int32)) (by decide) dX7_measuredRate_23 ?_
      obtain ⟨b8, q9, h⟩ := bn1_some h
      refine V_callV C0 (st := []) (As := [.int (10 : Int32)]) 8 (c_X9_isOn G.l G.D G.cA G.ad G.bs G.X C0.2.2.2.2.2.2.2.2.2.1 C0.2.2.2.2.2.2.2.2.2.2.2.2 a5 (10 : Int32) I L R b8 q9) lc_X9_isOn lk_X7_76 c7.2 c7.1 ⟨_, rfl, rfl⟩ rfl (by rw [erm]; decide) (Nat.le_of_ble_eq_true rfl) dX7_measuredRate_25 ?_
      show V G _ 28 [(3, .ref (G.ad a5)), (0, .ref (G.ad y0)), (1, .int y1), (2, .int y2)] [.int (b2i b8)] I L R
      refine V_if_eq C0 (tgt := 50) (by decide) dX7_measuredRate_28 (fun c10 => ?_) (fun c10 => ?_)
      · have h := (if_pos c10).symm.trans h
        obtain ⟨u11, eu11, h⟩ := wr_some h
        refine V_iinc C0 3 [(2, .int u11), (3, .ref (G.ad a5)), (0, .ref (G.ad y0)), (1, .int y1)] rfl (n := 1) (by rw [eu11]; rfl) (by rw [eNL]; decide) rfl dX7_measuredRate_50 ?_
        refine V_goto C0 (tgt := 2) (by decide) dX7_measuredRate_53 ?_
        exact V_sub [2, 3, 0] rfl (ih y0 y1 u11 I L R _ hk0 ho0 h f kr kx)
      · have h := (if_neg c10).symm.trans h
        refine V_aload_n C0 0 rfl rfl dX7_measuredRate_31 ?_
        obtain ⟨a12, qa12, h⟩ := bnd_some h
        refine V_getR C0 8 0 fl_X7_82 c7.2 c7.1 rfl (rf_at qa12) dX7_measuredRate_32 ?_
        refine V_bipush C0 (v := (35 : Int32)) (by decide) dX7_measuredRate_35 ?_
        obtain ⟨v13, qv13, h⟩ := bnd_some h
        refine V_ri C0 (rf_lt qa12) (rf_kd qa12) qv13 dX7_measuredRate_37 ?_
        refine V_iload_n C0 2 rfl rfl dX7_measuredRate_38 ?_
        refine V_icmp_ne C0 (tgt := 50) (by decide) dX7_measuredRate_39 (fun c14 => ?_) (fun c14 => ?_)
        · have h := (if_neg c14).symm.trans h
          obtain ⟨u15, eu15, h⟩ := wr_some h
          refine V_iinc C0 3 [(2, .int u15), (3, .ref (G.ad a5)), (0, .ref (G.ad y0)), (1, .int y1)] rfl (n := 1) (by rw [eu15]; rfl) (by rw [eNL]; decide) rfl dX7_measuredRate_50 ?_
          refine V_goto C0 (tgt := 2) (by decide) dX7_measuredRate_53 ?_
          exact V_sub [2, 3, 0] rfl (ih y0 y1 u15 I L R _ hk0 ho0 h f kr kx)
        · have h := (if_pos c14).symm.trans h
          refine V_aload_n C0 0 rfl rfl dX7_measuredRate_42 ?_
          refine V_getR C0 8 0 fl_X7_82 c7.2 c7.1 rfl (rf_at qa12) dX7_measuredRate_43 ?_
          refine V_bipush C0 (v := (32 : Int32)) (by decide) dX7_measuredRate_46 ?_
          obtain ⟨v16, qv16, h⟩ := bnd_some h
          refine V_ri C0 (rf_lt qa12) (rf_kd qa12) qv16 dX7_measuredRate_48 ?_
          cases h
          rw [kr _ rfl]
          exact V_iret C0 dX7_measuredRate_49
set_option maxRecDepth 100000 in
set_option maxHeartbeats 4000000 in
theorem c_X7_measuredRate (l : Launch) (D : va_G) (cA : Nat → ClassId) (ad : Nat → Nat) (bs : Nat) (X : State → Prop) (hAd : Ax ad bs) (hX : Stb bs X) (N : Nat) (x0 : Nat) (x1 : Int32) (I : MI) (L : ML) (R : MR) (r : Int32) (h : F_X7_measuredRate N x0 x1 I L R = some (r)) : Cn l D cA ad bs X yX7_measuredRate cX7_measuredRate 4 (some .int) 2 42 [.ref (ad x0), .int x1] I L R (some (.int r), I, L, R) := by
  refine Cn.ofV hAd hX [(0, .ref (ad x0)), (1, .int x1)] rfl (Nat.le_of_ble_eq_true rfl) (by decide) ?_
  intro G el eD ecA ead ebs eX erm eNL C0
  subst el eD ecA ead ebs eX
  unfold F_X7_measuredRate at h
  obtain ⟨c_x0, h⟩ := ite_some h
  refine V_iconst C0 (v := (0 : Int32)) (by decide) dX7_measuredRate_0 ?_
  refine V_istore_n C0 [(2, .int (0 : Int32)), (0, .ref (G.ad x0)), (1, .int x1)] rfl (by rw [eNL]; decide) rfl dX7_measuredRate_1 ?_
  rcases bsm_some h with ⟨z17, q18, h⟩ | ⟨z17, q18, h⟩
  · refine V_sub [1, 2, 0] rfl (lp_X7_measuredRate_2 C0 eNL erm N N x0 x1 (0 : Int32) I L R _ c_x0.1 c_x0.2 q18 _ (fun w e => ?_) (fun _ e => by cases e))
    cases e
    cases h
    rfl
  · refine V_sub [1, 2, 0] rfl (lp_X7_measuredRate_2 C0 eNL erm N N x0 x1 (0 : Int32) I L R _ c_x0.1 c_x0.2 q18 _ (fun _ e => by cases e) (fun w e => ?_))
    cases e
    show V G _ 56 [] [] I L R
    refine V_iconst C0 (v := (0 : Int32)) (by decide) dX7_measuredRate_56 ?_
    cases h
    exact V_iret C0 dX7_measuredRate_57
theorem dX11_limit_0 : decode cX11_limit 0 = .ok (.iload_n 0, 1) := by decide +kernel
theorem dX11_limit_1 : decode cX11_limit 1 = .ok (.iload_n 1, 1) := by decide +kernel
theorem dX11_limit_2 : decode cX11_limit 2 = .ok (.if_icmp .ge 5, 3) := by decide +kernel
theorem dX11_limit_5 : decode cX11_limit 5 = .ok (.iload_n 1, 1) := by decide +kernel
theorem dX11_limit_6 : decode cX11_limit 6 = .ok (.ireturn, 1) := by decide +kernel
theorem dX11_limit_7 : decode cX11_limit 7 = .ok (.iload_n 0, 1) := by decide +kernel
theorem dX11_limit_8 : decode cX11_limit 8 = .ok (.iload_n 2, 1) := by decide +kernel
theorem dX11_limit_9 : decode cX11_limit 9 = .ok (.if_icmp .le 7, 3) := by decide +kernel
theorem dX11_limit_12 : decode cX11_limit 12 = .ok (.iload_n 2, 1) := by decide +kernel
theorem dX11_limit_13 : decode cX11_limit 13 = .ok (.goto 4, 3) := by decide +kernel
theorem dX11_limit_16 : decode cX11_limit 16 = .ok (.iload_n 0, 1) := by decide +kernel
theorem dX11_limit_17 : decode cX11_limit 17 = .ok (.ireturn, 1) := by decide +kernel
def F_X11_limit (x0 : Int32) (x1 : Int32) (x2 : Int32) (I : MI) (L : ML) (R : MR) : Option (Int32) :=
  if x1 ≤ x0 then
    if x0 ≤ x2 then
      some (x0)
    else
      some (x2)
  else
    some (x1)
set_option maxRecDepth 100000 in
set_option maxHeartbeats 4000000 in
theorem c_X11_limit (l : Launch) (D : va_G) (cA : Nat → ClassId) (ad : Nat → Nat) (bs : Nat) (X : State → Prop) (hAd : Ax ad bs) (hX : Stb bs X) (x0 : Int32) (x1 : Int32) (x2 : Int32) (I : MI) (L : ML) (R : MR) (r : Int32) (h : F_X11_limit x0 x1 x2 I L R = some (r)) : Cn l D cA ad bs X yX11_limit cX11_limit 3 (some .int) 0 0 [.int x0, .int x1, .int x2] I L R (some (.int r), I, L, R) := by
  refine Cn.ofV hAd hX [(0, .int x0), (1, .int x1), (2, .int x2)] rfl (Nat.le_of_ble_eq_true rfl) (by decide) ?_
  intro G el eD ecA ead ebs eX erm eNL C0
  subst el eD ecA ead ebs eX
  unfold F_X11_limit at h
  refine V_iload_n C0 0 rfl rfl dX11_limit_0 ?_
  refine V_iload_n C0 1 rfl rfl dX11_limit_1 ?_
  refine V_icmp_ge C0 (tgt := 7) (by decide) dX11_limit_2 (fun c1 => ?_) (fun c1 => ?_)
  · have h := (if_pos c1).symm.trans h
    refine V_iload_n C0 0 rfl rfl dX11_limit_7 ?_
    refine V_iload_n C0 2 rfl rfl dX11_limit_8 ?_
    refine V_icmp_le C0 (tgt := 16) (by decide) dX11_limit_9 (fun c2 => ?_) (fun c2 => ?_)
    · have h := (if_pos c2).symm.trans h
      refine V_iload_n C0 0 rfl rfl dX11_limit_16 ?_
      cases h
      exact V_iret C0 dX11_limit_17
    · have h := (if_neg c2).symm.trans h
      refine V_iload_n C0 2 rfl rfl dX11_limit_12 ?_
      refine V_goto C0 (tgt := 17) (by decide) dX11_limit_13 ?_
      cases h
      exact V_iret C0 dX11_limit_17
  · have h := (if_neg c1).symm.trans h
    refine V_iload_n C0 1 rfl rfl dX11_limit_5 ?_
    cases h
    exact V_iret C0 dX11_limit_6
theorem dX7_speedUp_0 : decode cX7_speedUp 0 = .ok (.iload_n 1, 1) := by decide +kernel
theorem dX7_speedUp_1 : decode cX7_speedUp 1 = .ok (.ifCond .lt 22, 3) := by decide +kernel
theorem dX7_speedUp_4 : decode cX7_speedUp 4 = .ok (.iload_n 1, 1) := by decide +kernel
theorem dX7_speedUp_5 : decode cX7_speedUp 5 = .ok (.aload_n 0, 1) := by decide +kernel
theorem dX7_speedUp_6 : decode cX7_speedUp 6 = .ok (.getfield 15, 3) := by decide +kernel
theorem dX7_speedUp_9 : decode cX7_speedUp 9 = .ok (.arraylength, 1) := by decide +kernel
theorem dX7_speedUp_10 : decode cX7_speedUp 10 = .ok (.if_icmp .ge 13, 3) := by decide +kernel
theorem dX7_speedUp_13 : decode cX7_speedUp 13 = .ok (.aload_n 0, 1) := by decide +kernel
theorem dX7_speedUp_14 : decode cX7_speedUp 14 = .ok (.getfield 15, 3) := by decide +kernel
theorem dX7_speedUp_17 : decode cX7_speedUp 17 = .ok (.iload_n 1, 1) := by decide +kernel
theorem dX7_speedUp_18 : decode cX7_speedUp 18 = .ok (.dup2, 1) := by decide +kernel
theorem dX7_speedUp_19 : decode cX7_speedUp 19 = .ok (.iaload, 1) := by decide +kernel
theorem dX7_speedUp_20 : decode cX7_speedUp 20 = .ok (.iload_n 2, 1) := by decide +kernel
theorem dX7_speedUp_21 : decode cX7_speedUp 21 = .ok (.iadd, 1) := by decide +kernel
theorem dX7_speedUp_22 : decode cX7_speedUp 22 = .ok (.iastore, 1) := by decide +kernel
theorem dX7_speedUp_23 : decode cX7_speedUp 23 = .ok (.return_, 1) := by decide +kernel
def F_X7_speedUp (x0 : Nat) (x1 : Int32) (x2 : Int32) (I : MI) (L : ML) (R : MR) : Option (MI) :=
  if kd x0 = 6 ∧ x0 < NN then
  if x1 < 0 then
    some (I)
  else
    (rf R x0 2 20).bind fun a2 =>
    if (Int32.ofNat (ln a2)) ≤ x1 then
      some (I)
    else
      (ri I a2 x1).bind fun v4 =>
      (wi I a2 x1 (v4 + x2)).bind fun I5 =>
      some (I5)
  else none
set_option maxRecDepth 100000 in
set_option maxHeartbeats 4000000 in
theorem c_X7_speedUp (l : Launch) (D : va_G) (cA : Nat → ClassId) (ad : Nat → Nat) (bs : Nat) (X : State → Prop) (hAd : Ax ad bs) (hX : Stb bs X) (x0 : Nat) (x1 : Int32) (x2 : Int32) (I : MI) (L : ML) (R : MR) (I' : MI) (h : F_X7_speedUp x0 x1 x2 I L R = some (I')) : Cn l D cA ad bs X yX7_speedUp cX7_speedUp 3 none 0 0 [.ref (ad x0), .int x1, .int x2] I L R (none, I', L, R) := by
  refine Cn.ofV hAd hX [(0, .ref (ad x0)), (1, .int x1), (2, .int x2)] rfl (Nat.le_of_ble_eq_true rfl) (by decide) ?_
  intro G el eD ecA ead ebs eX erm eNL C0
  subst el eD ecA ead ebs eX
  unfold F_X7_speedUp at h
  obtain ⟨c_x0, h⟩ := ite_some h
  refine V_iload_n C0 1 rfl rfl dX7_speedUp_0 ?_
  refine V_if_lt C0 (tgt := 23) (by decide) dX7_speedUp_1 (fun c1 => ?_) (fun c1 => ?_)
  · have h := (if_pos c1).symm.trans h
    cases h
    exact V_vret C0 dX7_speedUp_23
  · have h := (if_neg c1).symm.trans h
    refine V_iload_n C0 1 rfl rfl dX7_speedUp_4 ?_
    refine V_aload_n C0 0 rfl rfl dX7_speedUp_5 ?_
    obtain ⟨a2, qa2, h⟩ := bnd_some h
    refine V_getR C0 6 2 fl_X7_15 c_x0.2 c_x0.1 rfl (rf_at qa2) dX7_speedUp_6 ?_
    refine V_alen C0 (v := Int32.ofNat (ln a2)) (rf_lt qa2) (by rw [(rf_kd qa2)]; decide) rfl dX7_speedUp_9 ?_
    refine V_icmp_ge C0 (tgt := 23) (by decide) dX7_speedUp_10 (fun c3 => ?_) (fun c3 => ?_)
    · have h := (if_pos c3).symm.trans h
      cases h
      exact V_vret C0 dX7_speedUp_23
    · have h := (if_neg c3).symm.trans h
      refine V_aload_n C0 0 rfl rfl dX7_speedUp_13 ?_
      refine V_getR C0 6 2 fl_X7_15 c_x0.2 c_x0.1 rfl (rf_at qa2) dX7_speedUp_14 ?_
      refine V_iload_n C0 1 rfl rfl dX7_speedUp_17 ?_
      refine V_dup2 C0 rfl rfl dX7_speedUp_18 ?_
      obtain ⟨v4, qv4, h⟩ := bnd_some h
      refine V_ri C0 (rf_lt qa2) (rf_kd qa2) qv4 dX7_speedUp_19 ?_
      refine V_iload_n C0 2 rfl rfl dX7_speedUp_20 ?_
      refine V_iadd C0 dX7_speedUp_21 ?_
      obtain ⟨I5, qI5, h⟩ := bnd_some h
      refine V_wi C0 (rf_lt qa2) (rf_kd qa2) qI5 dX7_speedUp_22 ?_
      cases h
      exact V_vret C0 dX7_speedUp_23
theorem dX7_spinWheels_0 : decode cX7_spinWheels 0 = .ok (.iload_n 2, 1) := by decide +kernel
theorem dX7_spinWheels_1 : decode cX7_spinWheels 1 = .ok (.istore_n 3, 1) := by decide +kernel
theorem dX7_spinWheels_2 : decode cX7_spinWheels 2 = .ok (.iconst 0, 1) := by decide +kernel
theorem dX7_spinWheels_3 : decode cX7_spinWheels 3 = .ok (.istore 4, 2) := by decide +kernel
theorem dX7_spinWheels_5 : decode cX7_spinWheels 5 = .ok (.iload 4, 2) := by decide +kernel
theorem dX7_spinWheels_7 : decode cX7_spinWheels 7 = .ok (.aload_n 0, 1) := by decide +kernel
theorem dX7_spinWheels_8 : decode cX7_spinWheels 8 = .ok (.getfield 21, 3) := by decide +kernel
theorem dX7_spinWheels_11 : decode cX7_spinWheels 11 = .ok (.invokevirtual 67, 3) := by decide +kernel
theorem dX7_spinWheels_14 : decode cX7_spinWheels 14 = .ok (.if_icmp .ge 124, 3) := by decide +kernel
theorem dX7_spinWheels_17 : decode cX7_spinWheels 17 = .ok (.aload_n 0, 1) := by decide +kernel
theorem dX7_spinWheels_18 : decode cX7_spinWheels 18 = .ok (.getfield 21, 3) := by decide +kernel
theorem dX7_spinWheels_21 : decode cX7_spinWheels 21 = .ok (.iload 4, 2) := by decide +kernel
theorem dX7_spinWheels_23 : decode cX7_spinWheels 23 = .ok (.invokevirtual 72, 3) := by decide +kernel
theorem dX7_spinWheels_26 : decode cX7_spinWheels 26 = .ok (.astore 5, 2) := by decide +kernel
theorem dX7_spinWheels_28 : decode cX7_spinWheels 28 = .ok (.aload 5, 2) := by decide +kernel
theorem dX7_spinWheels_30 : decode cX7_spinWheels 30 = .ok (.bipush 16, 2) := by decide +kernel
theorem dX7_spinWheels_32 : decode cX7_spinWheels 32 = .ok (.invokevirtual 76, 3) := by decide +kernel
theorem dX7_spinWheels_35 : decode cX7_spinWheels 35 = .ok (.ifCond .eq 97, 3) := by decide +kernel
theorem dX7_spinWheels_38 : decode cX7_spinWheels 38 = .ok (.aload 5, 2) := by decide +kernel
theorem dX7_spinWheels_40 : decode cX7_spinWheels 40 = .ok (.getfield 82, 3) := by decide +kernel
theorem dX7_spinWheels_43 : decode cX7_spinWheels 43 = .ok (.bipush 35, 2) := by decide +kernel
theorem dX7_spinWheels_45 : decode cX7_spinWheels 45 = .ok (.iaload, 1) := by decide +kernel
theorem dX7_spinWheels_46 : decode cX7_spinWheels 46 = .ok (.iload_n 1, 1) := by decide +kernel
theorem dX7_spinWheels_47 : decode cX7_spinWheels 47 = .ok (.if_icmp .ne 85, 3) := by decide +kernel
theorem dX7_spinWheels_50 : decode cX7_spinWheels 50 = .ok (.aload 5, 2) := by decide +kernel
theorem dX7_spinWheels_52 : decode cX7_spinWheels 52 = .ok (.getfield 82, 3) := by decide +kernel
theorem dX7_spinWheels_55 : decode cX7_spinWheels 55 = .ok (.bipush 44, 2) := by decide +kernel
theorem dX7_spinWheels_57 : decode cX7_spinWheels 57 = .ok (.iaload, 1) := by decide +kernel
theorem dX7_spinWheels_58 : decode cX7_spinWheels 58 = .ok (.istore 6, 2) := by decide +kernel
theorem dX7_spinWheels_60 : decode cX7_spinWheels 60 = .ok (.aload 5, 2) := by decide +kernel
theorem dX7_spinWheels_62 : decode cX7_spinWheels 62 = .ok (.getfield 82, 3) := by decide +kernel
theorem dX7_spinWheels_65 : decode cX7_spinWheels 65 = .ok (.bipush 43, 2) := by decide +kernel
theorem dX7_spinWheels_67 : decode cX7_spinWheels 67 = .ok (.iaload, 1) := by decide +kernel
theorem dX7_spinWheels_68 : decode cX7_spinWheels 68 = .ok (.istore 7, 2) := by decide +kernel
theorem dX7_spinWheels_70 : decode cX7_spinWheels 70 = .ok (.aload 5, 2) := by decide +kernel
theorem dX7_spinWheels_72 : decode cX7_spinWheels 72 = .ok (.getfield 82, 3) := by decide +kernel
theorem dX7_spinWheels_75 : decode cX7_spinWheels 75 = .ok (.bipush 42, 2) := by decide +kernel
theorem dX7_spinWheels_77 : decode cX7_spinWheels 77 = .ok (.iaload, 1) := by decide +kernel
theorem dX7_spinWheels_78 : decode cX7_spinWheels 78 = .ok (.istore 8, 2) := by decide +kernel
theorem dX7_spinWheels_80 : decode cX7_spinWheels 80 = .ok (.iload 6, 2) := by decide +kernel
theorem dX7_spinWheels_82 : decode cX7_spinWheels 82 = .ok (.iload_n 3, 1) := by decide +kernel
theorem dX7_spinWheels_83 : decode cX7_spinWheels 83 = .ok (.iconst 0, 1) := by decide +kernel
theorem dX7_spinWheels_84 : decode cX7_spinWheels 84 = .ok (.iload 8, 2) := by decide +kernel
theorem dX7_spinWheels_86 : decode cX7_spinWheels 86 = .ok (.isub, 1) := by decide +kernel
theorem dX7_spinWheels_87 : decode cX7_spinWheels 87 = .ok (.iload 8, 2) := by decide +kernel
theorem dX7_spinWheels_89 : decode cX7_spinWheels 89 = .ok (.invokestatic 42, 3) := by decide +kernel
theorem dX7_spinWheels_92 : decode cX7_spinWheels 92 = .ok (.iadd, 1) := by decide +kernel
theorem dX7_spinWheels_93 : decode cX7_spinWheels 93 = .ok (.iconst 0, 1) := by decide +kernel
theorem dX7_spinWheels_94 : decode cX7_spinWheels 94 = .ok (.iload 7, 2) := by decide +kernel
theorem dX7_spinWheels_96 : decode cX7_spinWheels 96 = .ok (.isub, 1) := by decide +kernel
theorem dX7_spinWheels_97 : decode cX7_spinWheels 97 = .ok (.iload 7, 2) := by decide +kernel
theorem dX7_spinWheels_99 : decode cX7_spinWheels 99 = .ok (.invokestatic 42, 3) := by decide +kernel
theorem dX7_spinWheels_102 : decode cX7_spinWheels 102 = .ok (.iload 6, 2) := by decide +kernel
theorem dX7_spinWheels_104 : decode cX7_spinWheels 104 = .ok (.isub, 1) := by decide +kernel
theorem dX7_spinWheels_105 : decode cX7_spinWheels 105 = .ok (.istore 9, 2) := by decide +kernel
theorem dX7_spinWheels_107 : decode cX7_spinWheels 107 = .ok (.aload 5, 2) := by decide +kernel
theorem dX7_spinWheels_109 : decode cX7_spinWheels 109 = .ok (.getfield 82, 3) := by decide +kernel
theorem dX7_spinWheels_112 : decode cX7_spinWheels 112 = .ok (.bipush 44, 2) := by decide +kernel
theorem dX7_spinWheels_114 : decode cX7_spinWheels 114 = .ok (.dup2, 1) := by decide +kernel
theorem dX7_spinWheels_115 : decode cX7_spinWheels 115 = .ok (.iaload, 1) := by decide +kernel
theorem dX7_spinWheels_116 : decode cX7_spinWheels 116 = .ok (.iload 9, 2) := by decide +kernel
theorem dX7_spinWheels_118 : decode cX7_spinWheels 118 = .ok (.iadd, 1) := by decide +kernel
theorem dX7_spinWheels_119 : decode cX7_spinWheels 119 = .ok (.iastore, 1) := by decide +kernel
theorem dX7_spinWheels_120 : decode cX7_spinWheels 120 = .ok (.aload_n 0, 1) := by decide +kernel
theorem dX7_spinWheels_121 : decode cX7_spinWheels 121 = .ok (.iload_n 1, 1) := by decide +kernel
theorem dX7_spinWheels_122 : decode cX7_spinWheels 122 = .ok (.iload 9, 2) := by decide +kernel
theorem dX7_spinWheels_124 : decode cX7_spinWheels 124 = .ok (.invokevirtual 85, 3) := by decide +kernel
theorem dX7_spinWheels_127 : decode cX7_spinWheels 127 = .ok (.iload_n 3, 1) := by decide +kernel
theorem dX7_spinWheels_128 : decode cX7_spinWheels 128 = .ok (.iload 9, 2) := by decide +kernel
theorem dX7_spinWheels_130 : decode cX7_spinWheels 130 = .ok (.isub, 1) := by decide +kernel
theorem dX7_spinWheels_131 : decode cX7_spinWheels 131 = .ok (.istore_n 3, 1) := by decide +kernel
theorem dX7_spinWheels_132 : decode cX7_spinWheels 132 = .ok (.iinc 4 1, 3) := by decide +kernel
theorem dX7_spinWheels_135 : decode cX7_spinWheels 135 = .ok (.goto (-130), 3) := by decide +kernel
theorem dX7_spinWheels_138 : decode cX7_spinWheels 138 = .ok (.iload_n 2, 1) := by decide +kernel
theorem dX7_spinWheels_139 : decode cX7_spinWheels 139 = .ok (.iload_n 3, 1) := by decide +kernel
theorem dX7_spinWheels_140 : decode cX7_spinWheels 140 = .ok (.isub, 1) := by decide +kernel
theorem dX7_spinWheels_141 : decode cX7_spinWheels 141 = .ok (.ireturn, 1) := by decide +kernel
def LF_X7_spinWheels_5 (N : Nat) : Nat → Nat → Int32 → Int32 → Int32 → Int32 → MI → ML → MR → Option (Int32 × MI)
  | 0, _, _, _, _, _, _, _, _ => none
  | k + 1, y0, y1, y2, y3, y4, I, L, R =>
    (rf R y0 0 9).bind fun a1 =>
    bn1 (F_X10_size a1 I L R) fun v2 =>
    if v2 ≤ y4 then
      some (y3, I)
    else
      bn1 (F_X10_unitAt a1 y4 I L R) fun a5 =>
      if kd a5 = 8 ∧ a5 < NN then
      bn1 (F_X9_isOn a5 (16 : Int32) I L R) fun b8 =>
      bn2 (
        if (b2i b8) = 0 then
          some (y3, I)
        else
          (rf R a5 0 20).bind fun a15 =>
          (ri I a15 (35 : Int32)).bind fun v16 =>
          bn2 (
            if v16 = y1 then
              (ri I a15 (44 : Int32)).bind fun v22 =>
              (ri I a15 (43 : Int32)).bind fun v23 =>
              (ri I a15 (42 : Int32)).bind fun v24 =>
              bn1 (F_X11_limit y3 ((0 : Int32) - v24) v24 I L R) fun v25 =>
              bn1 (F_X11_limit (v22 + v25) ((0 : Int32) - v23) v23 I L R) fun v27 =>
              wr (v27 - v22) fun (u29 : Int32) =>
              (ri I a15 (44 : Int32)).bind fun v30 =>
              (wi I a15 (44 : Int32) (v30 + u29)).bind fun I31 =>
              bn1 (F_X7_speedUp y0 y1 u29 I31 L R) fun I32 =>
              wr (y3 - u29) fun (u34 : Int32) =>
              some (u34, I32)
            else
              some (y3, I)
          ) fun (u17 : Int32) (I18 : MI) =>
          some (u17, I18)
      ) fun (u10 : Int32) (I11 : MI) =>
      wr (y4 + (1 : Int32)) fun (u35 : Int32) =>
      LF_X7_spinWheels_5 N k y0 y1 y2 u10 u35 I11 L R
      else none
def F_X7_spinWheels (N : Nat) (x0 : Nat) (x1 : Int32) (x2 : Int32) (I : MI) (L : ML) (R : MR) : Option (Int32 × MI) :=
  if kd x0 = 6 ∧ x0 < NN then
  bn1 (LF_X7_spinWheels_5 N N x0 x1 x2 x2 (0 : Int32) I L R) fun z36 =>
  some ((x2 - z36.1), z36.2)
  else none
set_option maxRecDepth 100000 in
set_option maxHeartbeats 4000000 in
theorem lp_X7_spinWheels_5 {G : Gm} (C0 : Cx G (yX7_spinWheels.cls) cX7_spinWheels (some .int)) (eNL : G.nL = 10) (erm : G.rm = ({ frames := 2, cells := 0, slots := 0, locals := 42 } : Room)) (N : Nat) : ∀ (k : Nat) (y0 : Nat) (y1 : Int32) (y2 : Int32) (y3 : Int32) (y4 : Int32) (I : MI) (L : ML) (R : MR) (z : Int32 × MI) (hk0 : kd y0 = 6) (ho0 : y0 < NN), LF_X7_spinWheels_5 N k y0 y1 y2 y3 y4 I L R = some z → ∀ f : State → Prop, V G f 138 [(2, .int y2), (3, .int z.1)] [] z.2 L R → V G f 5 [(0, .ref (G.ad y0)), (1, .int y1), (2, .int y2), (3, .int y3), (4, .int y4)] [] I L R := by
  intro k
  induction k with
  | zero =>
    intro y0 y1 y2 y3 y4 I L R q hk0 ho0 h
    exact absurd h (by simp [LF_X7_spinWheels_5])
  | succ k ih =>
    intro y0 y1 y2 y3 y4 I L R q hk0 ho0 h f kx
    rw [LF_X7_spinWheels_5] at h
    refine V_iload C0 4 rfl dX7_spinWheels_5 ?_
    refine V_aload_n C0 0 rfl rfl dX7_spinWheels_7 ?_
    obtain ⟨a1, qa1, h⟩ := bnd_some h
    refine V_getR C0 6 0 fl_X7_21 ho0 hk0 rfl (rf_at qa1) dX7_spinWheels_8 ?_
    obtain ⟨v2, q3, h⟩ := bn1_some h
    refine V_callV C0 (st := [.int y4]) (As := []) 9 (c_X10_size G.l G.D G.cA G.ad G.bs G.X C0.2.2.2.2.2.2.2.2.2.1 C0.2.2.2.2.2.2.2.2.2.2.2.2 a1 I L R v2 q3) lc_X10_size lk_X7_67 (rf_lt qa1) (rf_kd qa1) ⟨_, rfl, rfl⟩ rfl (by rw [erm]; decide) (Nat.le_of_ble_eq_true rfl) dX7_spinWheels_11 ?_
    show V G _ 14 [(0, .ref (G.ad y0)), (1, .int y1), (2, .int y2), (3, .int y3), (4, .int y4)] [.int v2, .int y4] I L R
    refine V_icmp_ge C0 (tgt := 138) (by decide) dX7_spinWheels_14 (fun c4 => ?_) (fun c4 => ?_)
    · have h := (if_pos c4).symm.trans h
      cases h
      exact V_sub [2, 3] rfl kx
    · have h := (if_neg c4).symm.trans h
      refine V_aload_n C0 0 rfl rfl dX7_spinWheels_17 ?_
      refine V_getR C0 6 0 fl_X7_21 ho0 hk0 rfl (rf_at qa1) dX7_spinWheels_18 ?_
      refine V_iload C0 4 rfl dX7_spinWheels_21 ?_
      obtain ⟨a5, q6, h⟩ := bn1_some h
      refine V_callV C0 (st := []) (As := [.int y4]) 9 (c_X10_unitAt G.l G.D G.cA G.ad G.bs G.X C0.2.2.2.2.2.2.2.2.2.1 C0.2.2.2.2.2.2.2.2.2.2.2.2 a1 y4 I L R a5 q6) lc_X10_unitAt lk_X7_72 (rf_lt qa1) (rf_kd qa1) ⟨_, rfl, rfl⟩ rfl (by rw [erm]; decide) (Nat.le_of_ble_eq_true rfl) dX7_spinWheels_23 ?_
      show V G _ 26 [(0, .ref (G.ad y0)), (1, .int y1), (2, .int y2), (3, .int y3), (4, .int y4)] [.ref (G.ad a5)] I L R
      obtain ⟨c7, h⟩ := ite_some h
      refine V_astore C0 [(5, .ref (G.ad a5)), (0, .ref (G.ad y0)), (1, .int y1), (2, .int y2), (3, .int y3), (4, .int y4)] (by rw [eNL]; decide) rfl dX7_spinWheels_26 ?_
      refine V_aload C0 0 rfl dX7_spinWheels_28 ?_
      refine V_bipush C0 (v := (16 : Int32)) (by decide) dX7_spinWheels_30 ?_
      obtain ⟨b8, q9, h⟩ := bn1_some h
      refine V_callV C0 (st := []) (As := [.int (16 : Int32)]) 8 (c_X9_isOn G.l G.D G.cA G.ad G.bs G.X C0.2.2.2.2.2.2.2.2.2.1 C0.2.2.2.2.2.2.2.2.2.2.2.2 a5 (16 : Int32) I L R b8 q9) lc_X9_isOn lk_X7_76 c7.2 c7.1 ⟨_, rfl, rfl⟩ rfl (by rw [erm]; decide) (Nat.le_of_ble_eq_true rfl) dX7_spinWheels_32 ?_
      show V G _ 35 [(5, .ref (G.ad a5)), (0, .ref (G.ad y0)), (1, .int y1), (2, .int y2), (3, .int y3), (4, .int y4)] [.int (b2i b8)] I L R
      obtain ⟨u10, I11, q12, h⟩ := bn2_some h
      have k13 : V G f 132 [(0, .ref (G.ad y0)), (1, .int y1), (2, .int y2), (3, .int u10), (4, .int y4)] [] I11 L R := by
        obtain ⟨u35, eu35, h⟩ := wr_some h
        refine V_iinc C0 4 [(4, .int u35), (0, .ref (G.ad y0)), (1, .int y1), (2, .int y2), (3, .int u10)] rfl (n := 1) (by rw [eu35]; rfl) (by rw [eNL]; decide) rfl dX7_spinWheels_132 ?_
        refine V_goto C0 (tgt := 5) (by decide) dX7_spinWheels_135 ?_
        exact V_sub [1, 2, 3, 4, 0] rfl (ih y0 y1 y2 u10 u35 I11 L R _ hk0 ho0 h f kx)
      refine V_if_eq C0 (tgt := 132) (by decide) dX7_spinWheels_35 (fun c14 => ?_) (fun c14 => ?_)
      · have q12 := (if_pos c14).symm.trans q12
        cases q12
        exact V_sub [1, 2, 3, 4, 5] rfl k13
      · have q12 := (if_neg c14).symm.trans q12
        refine V_aload C0 0 rfl dX7_spinWheels_38 ?_
        obtain ⟨a15, qa15, q12⟩ := bnd_some q12
        refine V_getR C0 8 0 fl_X7_82 c7.2 c7.1 rfl (rf_at qa15) dX7_spinWheels_40 ?_
        refine V_bipush C0 (v := (35 : Int32)) (by decide) dX7_spinWheels_43 ?_
        obtain ⟨v16, qv16, q12⟩ := bnd_some q12
        refine V_ri C0 (rf_lt qa15) (rf_kd qa15) qv16 dX7_spinWheels_45 ?_
        refine V_iload_n C0 2 rfl rfl dX7_spinWheels_46 ?_
        obtain ⟨u17, I18, q19, q12⟩ := bn2_some q12
        have k20 : V G f 132 [(0, .ref (G.ad y0)), (1, .int y1), (2, .int y2), (3, .int u17), (4, .int y4)] [] I18 L R := by
          cases q12
          exact V_sub [0, 1, 2, 3, 4] rfl k13
        refine V_icmp_ne C0 (tgt := 132) (by decide) dX7_spinWheels_47 (fun c21 => ?_) (fun c21 => ?_)
        · have q19 := (if_neg c21).symm.trans q19
          cases q19
          exact V_sub [1, 2, 3, 4, 5] rfl k20
        · have q19 := (if_pos c21).symm.trans q19
          refine V_aload C0 0 rfl dX7_spinWheels_50 ?_
          refine V_getR C0 8 0 fl_X7_82 c7.2 c7.1 rfl (rf_at qa15) dX7_spinWheels_52 ?_
          refine V_bipush C0 (v := (44 : Int32)) (by decide) dX7_spinWheels_55 ?_
          obtain ⟨v22, qv22, q19⟩ := bnd_some q19
          refine V_ri C0 (rf_lt qa15) (rf_kd qa15) qv22 dX7_spinWheels_57 ?_
          refine V_istore C0 [(6, .int v22), (5, .ref (G.ad a5)), (0, .ref (G.ad y0)), (1, .int y1), (2, .int y2), (3, .int y3), (4, .int y4)] (by rw [eNL]; decide) rfl dX7_spinWheels_58 ?_
          refine V_aload C0 1 rfl dX7_spinWheels_60 ?_
          refine V_getR C0 8 0 fl_X7_82 c7.2 c7.1 rfl (rf_at qa15) dX7_spinWheels_62 ?_
          refine V_bipush C0 (v := (43 : Int32)) (by decide) dX7_spinWheels_65 ?_
          obtain ⟨v23, qv23, q19⟩ := bnd_some q19
          refine V_ri C0 (rf_lt qa15) (rf_kd qa15) qv23 dX7_spinWheels_67 ?_
          refine V_istore C0 [(7, .int v23), (6, .int v22), (5, .ref (G.ad a5)), (0, .ref (G.ad y0)), (1, .int y1), (2, .int y2), (3, .int y3), (4, .int y4)] (by rw [eNL]; decide) rfl dX7_spinWheels_68 ?_
          refine V_aload C0 2 rfl dX7_spinWheels_70 ?_
          refine V_getR C0 8 0 fl_X7_82 c7.2 c7.1 rfl (rf_at qa15) dX7_spinWheels_72 ?_
          refine V_bipush C0 (v := (42 : Int32)) (by decide) dX7_spinWheels_75 ?_
          obtain ⟨v24, qv24, q19⟩ := bnd_some q19
          refine V_ri C0 (rf_lt qa15) (rf_kd qa15) qv24 dX7_spinWheels_77 ?_
          refine V_istore C0 [(8, .int v24), (7, .int v23), (6, .int v22), (5, .ref (G.ad a5)), (0, .ref (G.ad y0)), (1, .int y1), (2, .int y2), (3, .int y3), (4, .int y4)] (by rw [eNL]; decide) rfl dX7_spinWheels_78 ?_
          refine V_iload C0 2 rfl dX7_spinWheels_80 ?_
          refine V_iload_n C0 7 rfl rfl dX7_spinWheels_82 ?_
          refine V_iconst C0 (v := (0 : Int32)) (by decide) dX7_spinWheels_83 ?_
          refine V_iload C0 0 rfl dX7_spinWheels_84 ?_
          refine V_isub C0 dX7_spinWheels_86 ?_
          refine V_iload C0 0 rfl dX7_spinWheels_87 ?_
          obtain ⟨v25, q26, q19⟩ := bn1_some q19
          refine V_callS C0 (st := [.int v22]) (As := [.int y3, .int ((0 : Int32) - v24), .int v24]) (c_X11_limit G.l G.D G.cA G.ad G.bs G.X C0.2.2.2.2.2.2.2.2.2.1 C0.2.2.2.2.2.2.2.2.2.2.2.2 y3 ((0 : Int32) - v24) v24 I L R v25 q26) lc_X11_limit lk_X7_42 rfl (by rw [erm]; decide) (Nat.le_of_ble_eq_true rfl) dX7_spinWheels_89 ?_
          show V G _ 92 [(8, .int v24), (7, .int v23), (6, .int v22), (5, .ref (G.ad a5)), (0, .ref (G.ad y0)), (1, .int y1), (2, .int y2), (3, .int y3), (4, .int y4)] [.int v25, .int v22] I L R
          refine V_iadd C0 dX7_spinWheels_92 ?_
          refine V_iconst C0 (v := (0 : Int32)) (by decide) dX7_spinWheels_93 ?_
          refine V_iload C0 1 rfl dX7_spinWheels_94 ?_
          refine V_isub C0 dX7_spinWheels_96 ?_
          refine V_iload C0 1 rfl dX7_spinWheels_97 ?_
          obtain ⟨v27, q28, q19⟩ := bn1_some q19
          refine V_callS C0 (st := []) (As := [.int (v22 + v25), .int ((0 : Int32) - v23), .int v23]) (c_X11_limit G.l G.D G.cA G.ad G.bs G.X C0.2.2.2.2.2.2.2.2.2.1 C0.2.2.2.2.2.2.2.2.2.2.2.2 (v22 + v25) ((0 : Int32) - v23) v23 I L R v27 q28) lc_X11_limit lk_X7_42 rfl (by rw [erm]; decide) (Nat.le_of_ble_eq_true rfl) dX7_spinWheels_99 ?_
          show V G _ 102 [(8, .int v24), (7, .int v23), (6, .int v22), (5, .ref (G.ad a5)), (0, .ref (G.ad y0)), (1, .int y1), (2, .int y2), (3, .int y3), (4, .int y4)] [.int v27] I L R
          refine V_iload C0 2 rfl dX7_spinWheels_102 ?_
          refine V_isub C0 dX7_spinWheels_104 ?_
          obtain ⟨u29, eu29, q19⟩ := wr_some q19
          rw [← eu29]
          refine V_istore C0 [(9, .int u29), (8, .int v24), (7, .int v23), (6, .int v22), (5, .ref (G.ad a5)), (0, .ref (G.ad y0)), (1, .int y1), (2, .int y2), (3, .int y3), (4, .int y4)] (by rw [eNL]; decide) rfl dX7_spinWheels_105 ?_
          refine V_aload C0 4 rfl dX7_spinWheels_107 ?_
          refine V_getR C0 8 0 fl_X7_82 c7.2 c7.1 rfl (rf_at qa15) dX7_spinWheels_109 ?_
          refine V_bipush C0 (v := (44 : Int32)) (by decide) dX7_spinWheels_112 ?_
          refine V_dup2 C0 rfl rfl dX7_spinWheels_114 ?_
          obtain ⟨v30, qv30, q19⟩ := bnd_some q19
          refine V_ri C0 (rf_lt qa15) (rf_kd qa15) qv30 dX7_spinWheels_115 ?_
          refine V_iload C0 0 rfl dX7_spinWheels_116 ?_
          refine V_iadd C0 dX7_spinWheels_118 ?_
          obtain ⟨I31, qI31, q19⟩ := bnd_some q19
          refine V_wi C0 (rf_lt qa15) (rf_kd qa15) qI31 dX7_spinWheels_119 ?_
          refine V_aload_n C0 5 rfl rfl dX7_spinWheels_120 ?_
          refine V_iload_n C0 6 rfl rfl dX7_spinWheels_121 ?_
          refine V_iload C0 0 rfl dX7_spinWheels_122 ?_
          obtain ⟨I32, q33, q19⟩ := bn1_some q19
          refine V_callV C0 (st := []) (As := [.int y1, .int u29]) 6 (c_X7_speedUp G.l G.D G.cA G.ad G.bs G.X C0.2.2.2.2.2.2.2.2.2.1 C0.2.2.2.2.2.2.2.2.2.2.2.2 y0 y1 u29 I31 L R I32 q33) lc_X7_speedUp lk_X7_85 ho0 hk0 ⟨_, rfl, rfl⟩ rfl (by rw [erm]; decide) (Nat.le_of_ble_eq_true rfl) dX7_spinWheels_124 ?_
          show V G _ 127 [(9, .int u29), (8, .int v24), (7, .int v23), (6, .int v22), (5, .ref (G.ad a5)), (0, .ref (G.ad y0)), (1, .int y1), (2, .int y2), (3, .int y3), (4, .int y4)] [] I32 L R
          refine V_iload_n C0 8 rfl rfl dX7_spinWheels_127 ?_
          refine V_iload C0 0 rfl dX7_spinWheels_128 ?_
          refine V_isub C0 dX7_spinWheels_130 ?_
          obtain ⟨u34, eu34, q19⟩ := wr_some q19
          rw [← eu34]
          refine V_istore_n C0 [(3, .int u34), (9, .int u29), (8, .int v24), (7, .int v23), (6, .int v22), (5, .ref (G.ad a5)), (0, .ref (G.ad y0)), (1, .int y1), (2, .int y2), (4, .int y4)] rfl (by rw [eNL]; decide) rfl dX7_spinWheels_131 ?_
          cases q19
          exact V_sub [6, 7, 8, 0, 9] rfl k20
set_option maxRecDepth 100000 in
set_option maxHeartbeats 4000000 in
theorem c_X7_spinWheels (l : Launch) (D : va_G) (cA : Nat → ClassId) (ad : Nat → Nat) (bs : Nat) (X : State → Prop) (hAd : Ax ad bs) (hX : Stb bs X) (N : Nat) (x0 : Nat) (x1 : Int32) (x2 : Int32) (I : MI) (L : ML) (R : MR) (r : Int32) (I' : MI) (h : F_X7_spinWheels N x0 x1 x2 I L R = some (r, I')) : Cn l D cA ad bs X yX7_spinWheels cX7_spinWheels 10 (some .int) 2 42 [.ref (ad x0), .int x1, .int x2] I L R (some (.int r), I', L, R) := by
  refine Cn.ofV hAd hX [(0, .ref (ad x0)), (1, .int x1), (2, .int x2)] rfl (Nat.le_of_ble_eq_true rfl) (by decide) ?_
  intro G el eD ecA ead ebs eX erm eNL C0
  subst el eD ecA ead ebs eX
  unfold F_X7_spinWheels at h
  obtain ⟨c_x0, h⟩ := ite_some h
  refine V_iload_n C0 2 rfl rfl dX7_spinWheels_0 ?_
  refine V_istore_n C0 [(3, .int x2), (0, .ref (G.ad x0)), (1, .int x1), (2, .int x2)] rfl (by rw [eNL]; decide) rfl dX7_spinWheels_1 ?_
  refine V_iconst C0 (v := (0 : Int32)) (by decide) dX7_spinWheels_2 ?_
  refine V_istore C0 [(4, .int (0 : Int32)), (3, .int x2), (0, .ref (G.ad x0)), (1, .int x1), (2, .int x2)] (by rw [eNL]; decide) rfl dX7_spinWheels_3 ?_
  obtain ⟨z36, q37, h⟩ := bn1_some h
  refine V_sub [2, 3, 4, 1, 0] rfl (lp_X7_spinWheels_5 C0 eNL erm N N x0 x1 x2 x2 (0 : Int32) I L R _ c_x0.1 c_x0.2 q37 _ ?_)
  show V G _ 138 [(2, .int x2), (3, .int z36.1)] [] z36.2 L R
  refine V_iload_n C0 0 rfl rfl dX7_spinWheels_138 ?_
  refine V_iload_n C0 1 rfl rfl dX7_spinWheels_139 ?_
  refine V_isub C0 dX7_spinWheels_140 ?_
  cases h
  exact V_iret C0 dX7_spinWheels_141
theorem dX7_driveCoils_0 : decode cX7_driveCoils 0 = .ok (.iload_n 2, 1) := by decide +kernel
theorem dX7_driveCoils_1 : decode cX7_driveCoils 1 = .ok (.istore_n 3, 1) := by decide +kernel
theorem dX7_driveCoils_2 : decode cX7_driveCoils 2 = .ok (.iconst 0, 1) := by decide +kernel
theorem dX7_driveCoils_3 : decode cX7_driveCoils 3 = .ok (.istore 4, 2) := by decide +kernel
theorem dX7_driveCoils_5 : decode cX7_driveCoils 5 = .ok (.iload 4, 2) := by decide +kernel
theorem dX7_driveCoils_7 : decode cX7_driveCoils 7 = .ok (.aload_n 0, 1) := by decide +kernel
theorem dX7_driveCoils_8 : decode cX7_driveCoils 8 = .ok (.getfield 21, 3) := by decide +kernel
theorem dX7_driveCoils_11 : decode cX7_driveCoils 11 = .ok (.invokevirtual 67, 3) := by decide +kernel
theorem dX7_driveCoils_14 : decode cX7_driveCoils 14 = .ok (.if_icmp .ge 73, 3) := by decide +kernel
theorem dX7_driveCoils_17 : decode cX7_driveCoils 17 = .ok (.aload_n 0, 1) := by decide +kernel
theorem dX7_driveCoils_18 : decode cX7_driveCoils 18 = .ok (.getfield 21, 3) := by decide +kernel
theorem dX7_driveCoils_21 : decode cX7_driveCoils 21 = .ok (.iload 4, 2) := by decide +kernel
theorem dX7_driveCoils_23 : decode cX7_driveCoils 23 = .ok (.invokevirtual 72, 3) := by decide +kernel
theorem dX7_driveCoils_26 : decode cX7_driveCoils 26 = .ok (.astore 5, 2) := by decide +kernel
theorem dX7_driveCoils_28 : decode cX7_driveCoils 28 = .ok (.aload 5, 2) := by decide +kernel
theorem dX7_driveCoils_30 : decode cX7_driveCoils 30 = .ok (.bipush 17, 2) := by decide +kernel
theorem dX7_driveCoils_32 : decode cX7_driveCoils 32 = .ok (.invokevirtual 76, 3) := by decide +kernel
theorem dX7_driveCoils_35 : decode cX7_driveCoils 35 = .ok (.ifCond .eq 46, 3) := by decide +kernel
theorem dX7_driveCoils_38 : decode cX7_driveCoils 38 = .ok (.aload 5, 2) := by decide +kernel
theorem dX7_driveCoils_40 : decode cX7_driveCoils 40 = .ok (.getfield 82, 3) := by decide +kernel
theorem dX7_driveCoils_43 : decode cX7_driveCoils 43 = .ok (.bipush 35, 2) := by decide +kernel
theorem dX7_driveCoils_45 : decode cX7_driveCoils 45 = .ok (.iaload, 1) := by decide +kernel
theorem dX7_driveCoils_46 : decode cX7_driveCoils 46 = .ok (.iload_n 1, 1) := by decide +kernel
theorem dX7_driveCoils_47 : decode cX7_driveCoils 47 = .ok (.if_icmp .ne 34, 3) := by decide +kernel
theorem dX7_driveCoils_50 : decode cX7_driveCoils 50 = .ok (.aload 5, 2) := by decide +kernel
theorem dX7_driveCoils_52 : decode cX7_driveCoils 52 = .ok (.getfield 82, 3) := by decide +kernel
theorem dX7_driveCoils_55 : decode cX7_driveCoils 55 = .ok (.bipush 42, 2) := by decide +kernel
theorem dX7_driveCoils_57 : decode cX7_driveCoils 57 = .ok (.iaload, 1) := by decide +kernel
theorem dX7_driveCoils_58 : decode cX7_driveCoils 58 = .ok (.ifCond .le 23, 3) := by decide +kernel
theorem dX7_driveCoils_61 : decode cX7_driveCoils 61 = .ok (.iload_n 3, 1) := by decide +kernel
theorem dX7_driveCoils_62 : decode cX7_driveCoils 62 = .ok (.iconst (-1), 1) := by decide +kernel
theorem dX7_driveCoils_63 : decode cX7_driveCoils 63 = .ok (.iconst 1, 1) := by decide +kernel
theorem dX7_driveCoils_64 : decode cX7_driveCoils 64 = .ok (.invokestatic 42, 3) := by decide +kernel
theorem dX7_driveCoils_67 : decode cX7_driveCoils 67 = .ok (.istore 6, 2) := by decide +kernel
theorem dX7_driveCoils_69 : decode cX7_driveCoils 69 = .ok (.aload_n 0, 1) := by decide +kernel
theorem dX7_driveCoils_70 : decode cX7_driveCoils 70 = .ok (.iload_n 1, 1) := by decide +kernel
theorem dX7_driveCoils_71 : decode cX7_driveCoils 71 = .ok (.iload 6, 2) := by decide +kernel
theorem dX7_driveCoils_73 : decode cX7_driveCoils 73 = .ok (.invokevirtual 85, 3) := by decide +kernel
theorem dX7_driveCoils_76 : decode cX7_driveCoils 76 = .ok (.iload_n 3, 1) := by decide +kernel
theorem dX7_driveCoils_77 : decode cX7_driveCoils 77 = .ok (.iload 6, 2) := by decide +kernel
theorem dX7_driveCoils_79 : decode cX7_driveCoils 79 = .ok (.isub, 1) := by decide +kernel
theorem dX7_driveCoils_80 : decode cX7_driveCoils 80 = .ok (.istore_n 3, 1) := by decide +kernel
theorem dX7_driveCoils_81 : decode cX7_driveCoils 81 = .ok (.iinc 4 1, 3) := by decide +kernel
theorem dX7_driveCoils_84 : decode cX7_driveCoils 84 = .ok (.goto (-79), 3) := by decide +kernel
theorem dX7_driveCoils_87 : decode cX7_driveCoils 87 = .ok (.return_, 1) := by decide +kernel
def LF_X7_driveCoils_5 (N : Nat) : Nat → Nat → Int32 → Int32 → Int32 → MI → ML → MR → Option (MI)
  | 0, _, _, _, _, _, _, _ => none
  | k + 1, y0, y1, y3, y4, I, L, R =>
    (rf R y0 0 9).bind fun a1 =>
    bn1 (F_X10_size a1 I L R) fun v2 =>
    if v2 ≤ y4 then
      some (I)
    else
      bn1 (F_X10_unitAt a1 y4 I L R) fun a5 =>
      if kd a5 = 8 ∧ a5 < NN then
      bn1 (F_X9_isOn a5 (17 : Int32) I L R) fun b8 =>
      bn2 (
        if (b2i b8) = 0 then
          some (y3, I)
        else
          (rf R a5 0 20).bind fun a15 =>
          (ri I a15 (35 : Int32)).bind fun v16 =>
          bn2 (
            if v16 = y1 then
              (ri I a15 (42 : Int32)).bind fun v22 =>
              bn2 (
                if v22 ≤ 0 then
                  some (y3, I)
                else
                  bn1 (F_X11_limit y3 (-1 : Int32) (1 : Int32) I L R) fun v28 =>
                  bn1 (F_X7_speedUp y0 y1 v28 I L R) fun I30 =>
                  wr (y3 - v28) fun (u32 : Int32) =>
                  some (u32, I30)
              ) fun (u23 : Int32) (I24 : MI) =>
              some (u23, I24)
            else
              some (y3, I)
          ) fun (u17 : Int32) (I18 : MI) =>
          some (u17, I18)
      ) fun (u10 : Int32) (I11 : MI) =>
      wr (y4 + (1 : Int32)) fun (u33 : Int32) =>
      LF_X7_driveCoils_5 N k y0 y1 u10 u33 I11 L R
      else none
def F_X7_driveCoils (N : Nat) (x0 : Nat) (x1 : Int32) (x2 : Int32) (I : MI) (L : ML) (R : MR) : Option (MI) :=
  if kd x0 = 6 ∧ x0 < NN then
  bn1 (LF_X7_driveCoils_5 N N x0 x1 x2 (0 : Int32) I L R) fun z34 =>
  some (z34)
  else none
set_option maxRecDepth 100000 in
set_option maxHeartbeats 4000000 in
theorem lp_X7_driveCoils_5 {G : Gm} (C0 : Cx G (yX7_driveCoils.cls) cX7_driveCoils none) (eNL : G.nL = 7) (erm : G.rm = ({ frames := 2, cells := 0, slots := 0, locals := 42 } : Room)) (N : Nat) : ∀ (k : Nat) (y0 : Nat) (y1 : Int32) (y3 : Int32) (y4 : Int32) (I : MI) (L : ML) (R : MR) (z : MI) (hk0 : kd y0 = 6) (ho0 : y0 < NN), LF_X7_driveCoils_5 N k y0 y1 y3 y4 I L R = some z → ∀ f : State → Prop, V G f 87 [] [] z L R → V G f 5 [(0, .ref (G.ad y0)), (1, .int y1), (3, .int y3), (4, .int y4)] [] I L R := by
  intro k
  induction k with
  | zero =>
    intro y0 y1 y3 y4 I L R q hk0 ho0 h
    exact absurd h (by simp [LF_X7_driveCoils_5])
  | succ k ih =>
    intro y0 y1 y3 y4 I L R q hk0 ho0 h f kx
    rw [LF_X7_driveCoils_5] at h
    refine V_iload C0 3 rfl dX7_driveCoils_5 ?_
    refine V_aload_n C0 0 rfl rfl dX7_driveCoils_7 ?_
    obtain ⟨a1, qa1, h⟩ := bnd_some h
    refine V_getR C0 6 0 fl_X7_21 ho0 hk0 rfl (rf_at qa1) dX7_driveCoils_8 ?_
    obtain ⟨v2, q3, h⟩ := bn1_some h
    refine V_callV C0 (st := [.int y4]) (As := []) 9 (c_X10_size G.l G.D G.cA G.ad G.bs G.X C0.2.2.2.2.2.2.2.2.2.1 C0.2.2.2.2.2.2.2.2.2.2.2.2 a1 I L R v2 q3) lc_X10_size lk_X7_67 (rf_lt qa1) (rf_kd qa1) ⟨_, rfl, rfl⟩ rfl (by rw [erm]; decide) (Nat.le_of_ble_eq_true rfl) dX7_driveCoils_11 ?_
    show V G _ 14 [(0, .ref (G.ad y0)), (1, .int y1), (3, .int y3), (4, .int y4)] [.int v2, .int y4] I L R
    refine V_icmp_ge C0 (tgt := 87) (by decide) dX7_driveCoils_14 (fun c4 => ?_) (fun c4 => ?_)
    · have h := (if_pos c4).symm.trans h
      cases h
      exact V_sub [] rfl kx
    · have h := (if_neg c4).symm.trans h
      refine V_aload_n C0 0 rfl rfl dX7_driveCoils_17 ?_
      refine V_getR C0 6 0 fl_X7_21 ho0 hk0 rfl (rf_at qa1) dX7_driveCoils_18 ?_
      refine V_iload C0 3 rfl dX7_driveCoils_21 ?_
      obtain ⟨a5, q6, h⟩ := bn1_some h
      refine V_callV C0 (st := []) (As := [.int y4]) 9 (c_X10_unitAt G.l G.D G.cA G.ad G.bs G.X C0.2.2.2.2.2.2.2.2.2.1 C0.2.2.2.2.2.2.2.2.2.2.2.2 a1 y4 I L R a5 q6) lc_X10_unitAt lk_X7_72 (rf_lt qa1) (rf_kd qa1) ⟨_, rfl, rfl⟩ rfl (by rw [erm]; decide) (Nat.le_of_ble_eq_true rfl) dX7_driveCoils_23 ?_
      show V G _ 26 [(0, .ref (G.ad y0)), (1, .int y1), (3, .int y3), (4, .int y4)] [.ref (G.ad a5)] I L R
      obtain ⟨c7, h⟩ := ite_some h
      refine V_astore C0 [(5, .ref (G.ad a5)), (0, .ref (G.ad y0)), (1, .int y1), (3, .int y3), (4, .int y4)] (by rw [eNL]; decide) rfl dX7_driveCoils_26 ?_
      refine V_aload C0 0 rfl dX7_driveCoils_28 ?_
      refine V_bipush C0 (v := (17 : Int32)) (by decide) dX7_driveCoils_30 ?_
      obtain ⟨b8, q9, h⟩ := bn1_some h
      refine V_callV C0 (st := []) (As := [.int (17 : Int32)]) 8 (c_X9_isOn G.l G.D G.cA G.ad G.bs G.X C0.2.2.2.2.2.2.2.2.2.1 C0.2.2.2.2.2.2.2.2.2.2.2.2 a5 (17 : Int32) I L R b8 q9) lc_X9_isOn lk_X7_76 c7.2 c7.1 ⟨_, rfl, rfl⟩ rfl (by rw [erm]; decide) (Nat.le_of_ble_eq_true rfl) dX7_driveCoils_32 ?_
      show V G _ 35 [(5, .ref (G.ad a5)), (0, .ref (G.ad y0)), (1, .int y1), (3, .int y3), (4, .int y4)] [.int (b2i b8)] I L R
      obtain ⟨u10, I11, q12, h⟩ := bn2_some h
      have k13 : V G f 81 [(0, .ref (G.ad y0)), (1, .int y1), (3, .int u10), (4, .int y4)] [] I11 L R := by
        obtain ⟨u33, eu33, h⟩ := wr_some h
        refine V_iinc C0 3 [(4, .int u33), (0, .ref (G.ad y0)), (1, .int y1), (3, .int u10)] rfl (n := 1) (by rw [eu33]; rfl) (by rw [eNL]; decide) rfl dX7_driveCoils_81 ?_
        refine V_goto C0 (tgt := 5) (by decide) dX7_driveCoils_84 ?_
        exact V_sub [1, 2, 3, 0] rfl (ih y0 y1 u10 u33 I11 L R _ hk0 ho0 h f kx)
      refine V_if_eq C0 (tgt := 81) (by decide) dX7_driveCoils_35 (fun c14 => ?_) (fun c14 => ?_)
      · have q12 := (if_pos c14).symm.trans q12
        cases q12
        exact V_sub [1, 2, 3, 4] rfl k13
      · have q12 := (if_neg c14).symm.trans q12
        refine V_aload C0 0 rfl dX7_driveCoils_38 ?_
        obtain ⟨a15, qa15, q12⟩ := bnd_some q12
        refine V_getR C0 8 0 fl_X7_82 c7.2 c7.1 rfl (rf_at qa15) dX7_driveCoils_40 ?_
        refine V_bipush C0 (v := (35 : Int32)) (by decide) dX7_driveCoils_43 ?_
        obtain ⟨v16, qv16, q12⟩ := bnd_some q12
        refine V_ri C0 (rf_lt qa15) (rf_kd qa15) qv16 dX7_driveCoils_45 ?_
        refine V_iload_n C0 2 rfl rfl dX7_driveCoils_46 ?_
        obtain ⟨u17, I18, q19, q12⟩ := bn2_some q12
        have k20 : V G f 81 [(0, .ref (G.ad y0)), (1, .int y1), (3, .int u17), (4, .int y4)] [] I18 L R := by
          cases q12
          exact V_sub [0, 1, 2, 3] rfl k13
        refine V_icmp_ne C0 (tgt := 81) (by decide) dX7_driveCoils_47 (fun c21 => ?_) (fun c21 => ?_)
        · have q19 := (if_neg c21).symm.trans q19
          cases q19
          exact V_sub [1, 2, 3, 4] rfl k20
        · have q19 := (if_pos c21).symm.trans q19
          refine V_aload C0 0 rfl dX7_driveCoils_50 ?_
          refine V_getR C0 8 0 fl_X7_82 c7.2 c7.1 rfl (rf_at qa15) dX7_driveCoils_52 ?_
          refine V_bipush C0 (v := (42 : Int32)) (by decide) dX7_driveCoils_55 ?_
          obtain ⟨v22, qv22, q19⟩ := bnd_some q19
          refine V_ri C0 (rf_lt qa15) (rf_kd qa15) qv22 dX7_driveCoils_57 ?_
          obtain ⟨u23, I24, q25, q19⟩ := bn2_some q19
          have k26 : V G f 81 [(0, .ref (G.ad y0)), (1, .int y1), (3, .int u23), (4, .int y4)] [] I24 L R := by
            cases q19
            exact V_sub [0, 1, 2, 3] rfl k20
          refine V_if_le C0 (tgt := 81) (by decide) dX7_driveCoils_58 (fun c27 => ?_) (fun c27 => ?_)
          · have q25 := (if_pos c27).symm.trans q25
            cases q25
            exact V_sub [1, 2, 3, 4] rfl k26
          · have q25 := (if_neg c27).symm.trans q25
            refine V_iload_n C0 3 rfl rfl dX7_driveCoils_61 ?_
            refine V_iconst C0 (v := (-1 : Int32)) (by decide) dX7_driveCoils_62 ?_
            refine V_iconst C0 (v := (1 : Int32)) (by decide) dX7_driveCoils_63 ?_
            obtain ⟨v28, q29, q25⟩ := bn1_some q25
            refine V_callS C0 (st := []) (As := [.int y3, .int (-1 : Int32), .int (1 : Int32)]) (c_X11_limit G.l G.D G.cA G.ad G.bs G.X C0.2.2.2.2.2.2.2.2.2.1 C0.2.2.2.2.2.2.2.2.2.2.2.2 y3 (-1 : Int32) (1 : Int32) I L R v28 q29) lc_X11_limit lk_X7_42 rfl (by rw [erm]; decide) (Nat.le_of_ble_eq_true rfl) dX7_driveCoils_64 ?_
            show V G _ 67 [(5, .ref (G.ad a5)), (0, .ref (G.ad y0)), (1, .int y1), (3, .int y3), (4, .int y4)] [.int v28] I L R
            refine V_istore C0 [(6, .int v28), (5, .ref (G.ad a5)), (0, .ref (G.ad y0)), (1, .int y1), (3, .int y3), (4, .int y4)] (by rw [eNL]; decide) rfl dX7_driveCoils_67 ?_
            refine V_aload_n C0 2 rfl rfl dX7_driveCoils_69 ?_
            refine V_iload_n C0 3 rfl rfl dX7_driveCoils_70 ?_
            refine V_iload C0 0 rfl dX7_driveCoils_71 ?_
            obtain ⟨I30, q31, q25⟩ := bn1_some q25
            refine V_callV C0 (st := []) (As := [.int y1, .int v28]) 6 (c_X7_speedUp G.l G.D G.cA G.ad G.bs G.X C0.2.2.2.2.2.2.2.2.2.1 C0.2.2.2.2.2.2.2.2.2.2.2.2 y0 y1 v28 I L R I30 q31) lc_X7_speedUp lk_X7_85 ho0 hk0 ⟨_, rfl, rfl⟩ rfl (by rw [erm]; decide) (Nat.le_of_ble_eq_true rfl) dX7_driveCoils_73 ?_
            show V G _ 76 [(6, .int v28), (5, .ref (G.ad a5)), (0, .ref (G.ad y0)), (1, .int y1), (3, .int y3), (4, .int y4)] [] I30 L R
            refine V_iload_n C0 4 rfl rfl dX7_driveCoils_76 ?_
            refine V_iload C0 0 rfl dX7_driveCoils_77 ?_
            refine V_isub C0 dX7_driveCoils_79 ?_
            obtain ⟨u32, eu32, q25⟩ := wr_some q25
            rw [← eu32]
            refine V_istore_n C0 [(3, .int u32), (6, .int v28), (5, .ref (G.ad a5)), (0, .ref (G.ad y0)), (1, .int y1), (4, .int y4)] rfl (by rw [eNL]; decide) rfl dX7_driveCoils_80 ?_
            cases q25
            exact V_sub [3, 4, 0, 5] rfl k26
set_option maxRecDepth 100000 in
set_option maxHeartbeats 4000000 in
theorem c_X7_driveCoils (l : Launch) (D : va_G) (cA : Nat → ClassId) (ad : Nat → Nat) (bs : Nat) (X : State → Prop) (hAd : Ax ad bs) (hX : Stb bs X) (N : Nat) (x0 : Nat) (x1 : Int32) (x2 : Int32) (I : MI) (L : ML) (R : MR) (I' : MI) (h : F_X7_driveCoils N x0 x1 x2 I L R = some (I')) : Cn l D cA ad bs X yX7_driveCoils cX7_driveCoils 7 none 2 42 [.ref (ad x0), .int x1, .int x2] I L R (none, I', L, R) := by
  refine Cn.ofV hAd hX [(0, .ref (ad x0)), (1, .int x1), (2, .int x2)] rfl (Nat.le_of_ble_eq_true rfl) (by decide) ?_
  intro G el eD ecA ead ebs eX erm eNL C0
  subst el eD ecA ead ebs eX
  unfold F_X7_driveCoils at h
  obtain ⟨c_x0, h⟩ := ite_some h
  refine V_iload_n C0 2 rfl rfl dX7_driveCoils_0 ?_
  refine V_istore_n C0 [(3, .int x2), (0, .ref (G.ad x0)), (1, .int x1), (2, .int x2)] rfl (by rw [eNL]; decide) rfl dX7_driveCoils_1 ?_
  refine V_iconst C0 (v := (0 : Int32)) (by decide) dX7_driveCoils_2 ?_
  refine V_istore C0 [(4, .int (0 : Int32)), (3, .int x2), (0, .ref (G.ad x0)), (1, .int x1), (2, .int x2)] (by rw [eNL]; decide) rfl dX7_driveCoils_3 ?_
  obtain ⟨z34, q35, h⟩ := bn1_some h
  refine V_sub [2, 3, 1, 0] rfl (lp_X7_driveCoils_5 C0 eNL erm N N x0 x1 x2 (0 : Int32) I L R _ c_x0.1 c_x0.2 q35 _ ?_)
  show V G _ 87 [] [] z34 L R
  cases h
  exact V_vret C0 dX7_driveCoils_87
theorem dX7_hasGas_0 : decode cX7_hasGas 0 = .ok (.aload_n 0, 1) := by decide +kernel
theorem dX7_hasGas_1 : decode cX7_hasGas 1 = .ok (.getfield 21, 3) := by decide +kernel
theorem dX7_hasGas_4 : decode cX7_hasGas 4 = .ok (.aload_n 1, 1) := by decide +kernel
theorem dX7_hasGas_5 : decode cX7_hasGas 5 = .ok (.getfield 82, 3) := by decide +kernel
theorem dX7_hasGas_8 : decode cX7_hasGas 8 = .ok (.bipush 27, 2) := by decide +kernel
theorem dX7_hasGas_10 : decode cX7_hasGas 10 = .ok (.iaload, 1) := by decide +kernel
theorem dX7_hasGas_11 : decode cX7_hasGas 11 = .ok (.invokevirtual 72, 3) := by decide +kernel
theorem dX7_hasGas_14 : decode cX7_hasGas 14 = .ok (.astore_n 2, 1) := by decide +kernel
theorem dX7_hasGas_15 : decode cX7_hasGas 15 = .ok (.aload_n 2, 1) := by decide +kernel
theorem dX7_hasGas_16 : decode cX7_hasGas 16 = .ok (.iconst 4, 1) := by decide +kernel
theorem dX7_hasGas_17 : decode cX7_hasGas 17 = .ok (.invokevirtual 107, 3) := by decide +kernel
theorem dX7_hasGas_20 : decode cX7_hasGas 20 = .ok (.ifCond .eq 24, 3) := by decide +kernel
theorem dX7_hasGas_23 : decode cX7_hasGas 23 = .ok (.aload_n 2, 1) := by decide +kernel
theorem dX7_hasGas_24 : decode cX7_hasGas 24 = .ok (.getfield 82, 3) := by decide +kernel
theorem dX7_hasGas_27 : decode cX7_hasGas 27 = .ok (.bipush 10, 2) := by decide +kernel
theorem dX7_hasGas_29 : decode cX7_hasGas 29 = .ok (.iaload, 1) := by decide +kernel
theorem dX7_hasGas_30 : decode cX7_hasGas 30 = .ok (.aload_n 1, 1) := by decide +kernel
theorem dX7_hasGas_31 : decode cX7_hasGas 31 = .ok (.getfield 82, 3) := by decide +kernel
theorem dX7_hasGas_34 : decode cX7_hasGas 34 = .ok (.bipush 47, 2) := by decide +kernel
theorem dX7_hasGas_36 : decode cX7_hasGas 36 = .ok (.iaload, 1) := by decide +kernel
theorem dX7_hasGas_37 : decode cX7_hasGas 37 = .ok (.if_icmp .lt 7, 3) := by decide +kernel
theorem dX7_hasGas_40 : decode cX7_hasGas 40 = .ok (.iconst 1, 1) := by decide +kernel
theorem dX7_hasGas_41 : decode cX7_hasGas 41 = .ok (.goto 4, 3) := by decide +kernel
theorem dX7_hasGas_44 : decode cX7_hasGas 44 = .ok (.iconst 0, 1) := by decide +kernel
theorem dX7_hasGas_45 : decode cX7_hasGas 45 = .ok (.ireturn, 1) := by decide +kernel
def F_X7_hasGas (x0 : Nat) (x1 : Nat) (I : MI) (L : ML) (R : MR) : Option (Bool) :=
  if kd x0 = 6 ∧ x0 < NN then
  if kd x1 = 8 ∧ x1 < NN then
  (rf R x0 0 9).bind fun a1 =>
  (rf R x1 0 20).bind fun a2 =>
  (ri I a2 (27 : Int32)).bind fun v3 =>
  bn1 (F_X10_unitAt a1 v3 I L R) fun a4 =>
  if kd a4 = 8 ∧ a4 < NN then
  bn1 (F_X9_isWhole a4 (4 : Int32) I L R) fun b7 =>
  if (b2i b7) = 0 then
    some (false)
  else
    (rf R a4 0 20).bind fun a10 =>
    (ri I a10 (10 : Int32)).bind fun v11 =>
    (ri I a2 (47 : Int32)).bind fun v12 =>
    if v11 < v12 then
      some (false)
    else
      some (true)
  else none
  else none
  else none
set_option maxRecDepth 100000 in
set_option maxHeartbeats 4000000 in
theorem c_X7_hasGas (l : Launch) (D : va_G) (cA : Nat → ClassId) (ad : Nat → Nat) (bs : Nat) (X : State → Prop) (hAd : Ax ad bs) (hX : Stb bs X) (x0 : Nat) (x1 : Nat) (I : MI) (L : ML) (R : MR) (r : Bool) (h : F_X7_hasGas x0 x1 I L R = some (r)) : Cn l D cA ad bs X yX7_hasGas cX7_hasGas 3 (some .boolean) 2 42 [.ref (ad x0), .ref (ad x1)] I L R (some (.int (b2i r)), I, L, R) := by
  refine Cn.ofV hAd hX [(0, .ref (ad x0)), (1, .ref (ad x1))] rfl (Nat.le_of_ble_eq_true rfl) (by decide) ?_
  intro G el eD ecA ead ebs eX erm eNL C0
  subst el eD ecA ead ebs eX
  unfold F_X7_hasGas at h
  obtain ⟨c_x0, h⟩ := ite_some h
  obtain ⟨c_x1, h⟩ := ite_some h
  refine V_aload_n C0 0 rfl rfl dX7_hasGas_0 ?_
  obtain ⟨a1, qa1, h⟩ := bnd_some h
  refine V_getR C0 6 0 fl_X7_21 c_x0.2 c_x0.1 rfl (rf_at qa1) dX7_hasGas_1 ?_
  refine V_aload_n C0 1 rfl rfl dX7_hasGas_4 ?_
  obtain ⟨a2, qa2, h⟩ := bnd_some h
  refine V_getR C0 8 0 fl_X7_82 c_x1.2 c_x1.1 rfl (rf_at qa2) dX7_hasGas_5 ?_
  refine V_bipush C0 (v := (27 : Int32)) (by decide) dX7_hasGas_8 ?_
  obtain ⟨v3, qv3, h⟩ := bnd_some h
  refine V_ri C0 (rf_lt qa2) (rf_kd qa2) qv3 dX7_hasGas_10 ?_
  obtain ⟨a4, q5, h⟩ := bn1_some h
  refine V_callV C0 (st := []) (As := [.int v3]) 9 (c_X10_unitAt G.l G.D G.cA G.ad G.bs G.X C0.2.2.2.2.2.2.2.2.2.1 C0.2.2.2.2.2.2.2.2.2.2.2.2 a1 v3 I L R a4 q5) lc_X10_unitAt lk_X7_72 (rf_lt qa1) (rf_kd qa1) ⟨_, rfl, rfl⟩ rfl (by rw [erm]; decide) (Nat.le_of_ble_eq_true rfl) dX7_hasGas_11 ?_
  show V G _ 14 [(0, .ref (G.ad x0)), (1, .ref (G.ad x1))] [.ref (G.ad a4)] I L R
  obtain ⟨c6, h⟩ := ite_some h
  refine V_astore_n C0 [(2, .ref (G.ad a4)), (0, .ref (G.ad x0)), (1, .ref (G.ad x1))] rfl (by rw [eNL]; decide) rfl dX7_hasGas_14 ?_
  refine V_aload_n C0 0 rfl rfl dX7_hasGas_15 ?_
  refine V_iconst C0 (v := (4 : Int32)) (by decide) dX7_hasGas_16 ?_
  obtain ⟨b7, q8, h⟩ := bn1_some h
  refine V_callV C0 (st := []) (As := [.int (4 : Int32)]) 8 (c_X9_isWhole G.l G.D G.cA G.ad G.bs G.X C0.2.2.2.2.2.2.2.2.2.1 C0.2.2.2.2.2.2.2.2.2.2.2.2 a4 (4 : Int32) I L R b7 q8) lc_X9_isWhole lk_X7_107 c6.2 c6.1 ⟨_, rfl, rfl⟩ rfl (by rw [erm]; decide) (Nat.le_of_ble_eq_true rfl) dX7_hasGas_17 ?_
  show V G _ 20 [(2, .ref (G.ad a4)), (0, .ref (G.ad x0)), (1, .ref (G.ad x1))] [.int (b2i b7)] I L R
  refine V_if_eq C0 (tgt := 44) (by decide) dX7_hasGas_20 (fun c9 => ?_) (fun c9 => ?_)
  · have h := (if_pos c9).symm.trans h
    refine V_iconst C0 (v := (0 : Int32)) (by decide) dX7_hasGas_44 ?_
    cases h
    exact V_zret C0 (by decide) dX7_hasGas_45
  · have h := (if_neg c9).symm.trans h
    refine V_aload_n C0 0 rfl rfl dX7_hasGas_23 ?_
    obtain ⟨a10, qa10, h⟩ := bnd_some h
    refine V_getR C0 8 0 fl_X7_82 c6.2 c6.1 rfl (rf_at qa10) dX7_hasGas_24 ?_
    refine V_bipush C0 (v := (10 : Int32)) (by decide) dX7_hasGas_27 ?_
    obtain ⟨v11, qv11, h⟩ := bnd_some h
    refine V_ri C0 (rf_lt qa10) (rf_kd qa10) qv11 dX7_hasGas_29 ?_
    refine V_aload_n C0 2 rfl rfl dX7_hasGas_30 ?_
    refine V_getR C0 8 0 fl_X7_82 c_x1.2 c_x1.1 rfl (rf_at qa2) dX7_hasGas_31 ?_
    refine V_bipush C0 (v := (47 : Int32)) (by decide) dX7_hasGas_34 ?_
    obtain ⟨v12, qv12, h⟩ := bnd_some h
    refine V_ri C0 (rf_lt qa2) (rf_kd qa2) qv12 dX7_hasGas_36 ?_
    refine V_icmp_lt C0 (tgt := 44) (by decide) dX7_hasGas_37 (fun c13 => ?_) (fun c13 => ?_)
    · have h := (if_pos c13).symm.trans h
      refine V_iconst C0 (v := (0 : Int32)) (by decide) dX7_hasGas_44 ?_
      cases h
      exact V_zret C0 (by decide) dX7_hasGas_45
    · have h := (if_neg c13).symm.trans h
      refine V_iconst C0 (v := (1 : Int32)) (by decide) dX7_hasGas_40 ?_
      refine V_goto C0 (tgt := 45) (by decide) dX7_hasGas_41 ?_
      cases h
      exact V_zret C0 (by decide) dX7_hasGas_45
