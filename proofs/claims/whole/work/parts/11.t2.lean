theorem dX2_switchOff_0 : decode cX2_switchOff 0 = .ok (.aload_n 0, 1) := by decide +kernel
theorem dX2_switchOff_1 : decode cX2_switchOff 1 = .ok (.bipush 6, 2) := by decide +kernel
theorem dX2_switchOff_3 : decode cX2_switchOff 3 = .ok (.invokevirtual 232, 3) := by decide +kernel
theorem dX2_switchOff_6 : decode cX2_switchOff 6 = .ok (.ifCond .ne 5, 3) := by decide +kernel
theorem dX2_switchOff_9 : decode cX2_switchOff 9 = .ok (.iconst 0, 1) := by decide +kernel
theorem dX2_switchOff_10 : decode cX2_switchOff 10 = .ok (.ireturn, 1) := by decide +kernel
theorem dX2_switchOff_11 : decode cX2_switchOff 11 = .ok (.aload_n 0, 1) := by decide +kernel
theorem dX2_switchOff_12 : decode cX2_switchOff 12 = .ok (.getfield 205, 3) := by decide +kernel
theorem dX2_switchOff_15 : decode cX2_switchOff 15 = .ok (.bipush 22, 2) := by decide +kernel
theorem dX2_switchOff_17 : decode cX2_switchOff 17 = .ok (.iconst 0, 1) := by decide +kernel
theorem dX2_switchOff_18 : decode cX2_switchOff 18 = .ok (.iastore, 1) := by decide +kernel
theorem dX2_switchOff_19 : decode cX2_switchOff 19 = .ok (.iconst 1, 1) := by decide +kernel
theorem dX2_switchOff_20 : decode cX2_switchOff 20 = .ok (.ireturn, 1) := by decide +kernel
def F_X2_switchOff (x0 : Nat) (I : MI) (L : ML) (R : MR) : Option (Bool × MI) :=
  if kd x0 = 8 ∧ x0 < NN then
  bn1 (F_X9_is x0 (6 : Int32) I L R) fun b1 =>
  if (b2i b1) = 0 then
    some (false, I)
  else
    (rf R x0 0 20).bind fun a4 =>
    (wi I a4 (22 : Int32) (0 : Int32)).bind fun I5 =>
    some (true, I5)
  else none
set_option maxRecDepth 100000 in
set_option maxHeartbeats 4000000 in
theorem c_X2_switchOff (l : Launch) (D : va_G) (cA : Nat → ClassId) (ad : Nat → Nat) (bs : Nat) (X : State → Prop) (hAd : Ax ad bs) (hX : Stb bs X) (x0 : Nat) (I : MI) (L : ML) (R : MR) (r : Bool) (I' : MI) (h : F_X2_switchOff x0 I L R = some (r, I')) : Cn l D cA ad bs X yX2_switchOff cX2_switchOff 1 (some .boolean) 1 21 [.ref (ad x0)] I L R (some (.int (b2i r)), I', L, R) := by
  refine Cn.ofV hAd hX [(0, .ref (ad x0))] rfl (Nat.le_of_ble_eq_true rfl) (by decide) ?_
  intro G el eD ecA ead ebs eX erm eNL C0
  subst el eD ecA ead ebs eX
  unfold F_X2_switchOff at h
  obtain ⟨c_x0, h⟩ := ite_some h
  refine V_aload_n C0 0 rfl rfl dX2_switchOff_0 ?_
  refine V_bipush C0 (v := (6 : Int32)) (by decide) dX2_switchOff_1 ?_
  obtain ⟨b1, q2, h⟩ := bn1_some h
  refine V_callV C0 (st := []) (As := [.int (6 : Int32)]) 8 (c_X9_is G.l G.D G.cA G.ad G.bs G.X C0.2.2.2.2.2.2.2.2.2.1 C0.2.2.2.2.2.2.2.2.2.2.2.2 x0 (6 : Int32) I L R b1 q2) lc_X9_is lk_X2_232 c_x0.2 c_x0.1 ⟨_, rfl, rfl⟩ rfl (by rw [erm]; decide) (Nat.le_of_ble_eq_true rfl) dX2_switchOff_3 ?_
  show V G _ 6 [(0, .ref (G.ad x0))] [.int (b2i b1)] I L R
  refine V_if_ne C0 (tgt := 11) (by decide) dX2_switchOff_6 (fun c3 => ?_) (fun c3 => ?_)
  · have h := (if_neg c3).symm.trans h
    refine V_aload_n C0 0 rfl rfl dX2_switchOff_11 ?_
    obtain ⟨a4, qa4, h⟩ := bnd_some h
    refine V_getR C0 8 0 fl_X2_205 c_x0.2 c_x0.1 rfl (rf_at qa4) dX2_switchOff_12 ?_
    refine V_bipush C0 (v := (22 : Int32)) (by decide) dX2_switchOff_15 ?_
    refine V_iconst C0 (v := (0 : Int32)) (by decide) dX2_switchOff_17 ?_
    obtain ⟨I5, qI5, h⟩ := bnd_some h
    refine V_wi C0 (rf_lt qa4) (rf_kd qa4) qI5 dX2_switchOff_18 ?_
    refine V_iconst C0 (v := (1 : Int32)) (by decide) dX2_switchOff_19 ?_
    cases h
    exact V_zret C0 (by decide) dX2_switchOff_20
  · have h := (if_pos c3).symm.trans h
    refine V_iconst C0 (v := (0 : Int32)) (by decide) dX2_switchOff_9 ?_
    cases h
    exact V_zret C0 (by decide) dX2_switchOff_10
theorem dX7_setAim_0 : decode cX7_setAim 0 = .ok (.iload_n 1, 1) := by decide +kernel
theorem dX7_setAim_1 : decode cX7_setAim 1 = .ok (.ifCond .lt 19, 3) := by decide +kernel
theorem dX7_setAim_4 : decode cX7_setAim 4 = .ok (.iload_n 1, 1) := by decide +kernel
theorem dX7_setAim_5 : decode cX7_setAim 5 = .ok (.aload_n 0, 1) := by decide +kernel
theorem dX7_setAim_6 : decode cX7_setAim 6 = .ok (.getfield 18, 3) := by decide +kernel
theorem dX7_setAim_9 : decode cX7_setAim 9 = .ok (.arraylength, 1) := by decide +kernel
theorem dX7_setAim_10 : decode cX7_setAim 10 = .ok (.if_icmp .ge 10, 3) := by decide +kernel
theorem dX7_setAim_13 : decode cX7_setAim 13 = .ok (.aload_n 0, 1) := by decide +kernel
theorem dX7_setAim_14 : decode cX7_setAim 14 = .ok (.getfield 18, 3) := by decide +kernel
theorem dX7_setAim_17 : decode cX7_setAim 17 = .ok (.iload_n 1, 1) := by decide +kernel
theorem dX7_setAim_18 : decode cX7_setAim 18 = .ok (.iload_n 2, 1) := by decide +kernel
theorem dX7_setAim_19 : decode cX7_setAim 19 = .ok (.iastore, 1) := by decide +kernel
theorem dX7_setAim_20 : decode cX7_setAim 20 = .ok (.return_, 1) := by decide +kernel
def F_X7_setAim (x0 : Nat) (x1 : Int32) (x2 : Int32) (I : MI) (L : ML) (R : MR) : Option (MI) :=
  if kd x0 = 6 ∧ x0 < NN then
  if x1 < 0 then
    some (I)
  else
    (rf R x0 3 20).bind fun a2 =>
    if (Int32.ofNat (ln a2)) ≤ x1 then
      some (I)
    else
      (wi I a2 x1 x2).bind fun I4 =>
      some (I4)
  else none
set_option maxRecDepth 100000 in
set_option maxHeartbeats 4000000 in
theorem c_X7_setAim (l : Launch) (D : va_G) (cA : Nat → ClassId) (ad : Nat → Nat) (bs : Nat) (X : State → Prop) (hAd : Ax ad bs) (hX : Stb bs X) (x0 : Nat) (x1 : Int32) (x2 : Int32) (I : MI) (L : ML) (R : MR) (I' : MI) (h : F_X7_setAim x0 x1 x2 I L R = some (I')) : Cn l D cA ad bs X yX7_setAim cX7_setAim 3 none 0 0 [.ref (ad x0), .int x1, .int x2] I L R (none, I', L, R) := by
  refine Cn.ofV hAd hX [(0, .ref (ad x0)), (1, .int x1), (2, .int x2)] rfl (Nat.le_of_ble_eq_true rfl) (by decide) ?_
  intro G el eD ecA ead ebs eX erm eNL C0
  subst el eD ecA ead ebs eX
  unfold F_X7_setAim at h
  obtain ⟨c_x0, h⟩ := ite_some h
  refine V_iload_n C0 1 rfl rfl dX7_setAim_0 ?_
  refine V_if_lt C0 (tgt := 20) (by decide) dX7_setAim_1 (fun c1 => ?_) (fun c1 => ?_)
  · have h := (if_pos c1).symm.trans h
    cases h
    exact V_vret C0 dX7_setAim_20
  · have h := (if_neg c1).symm.trans h
    refine V_iload_n C0 1 rfl rfl dX7_setAim_4 ?_
    refine V_aload_n C0 0 rfl rfl dX7_setAim_5 ?_
    obtain ⟨a2, qa2, h⟩ := bnd_some h
    refine V_getR C0 6 3 fl_X7_18 c_x0.2 c_x0.1 rfl (rf_at qa2) dX7_setAim_6 ?_
    refine V_alen C0 (v := Int32.ofNat (ln a2)) (rf_lt qa2) (by rw [(rf_kd qa2)]; decide) rfl dX7_setAim_9 ?_
    refine V_icmp_ge C0 (tgt := 20) (by decide) dX7_setAim_10 (fun c3 => ?_) (fun c3 => ?_)
    · have h := (if_pos c3).symm.trans h
      cases h
      exact V_vret C0 dX7_setAim_20
    · have h := (if_neg c3).symm.trans h
      refine V_aload_n C0 0 rfl rfl dX7_setAim_13 ?_
      refine V_getR C0 6 3 fl_X7_18 c_x0.2 c_x0.1 rfl (rf_at qa2) dX7_setAim_14 ?_
      refine V_iload_n C0 1 rfl rfl dX7_setAim_17 ?_
      refine V_iload_n C0 2 rfl rfl dX7_setAim_18 ?_
      obtain ⟨I4, qI4, h⟩ := bnd_some h
      refine V_wi C0 (rf_lt qa2) (rf_kd qa2) qI4 dX7_setAim_19 ?_
      cases h
      exact V_vret C0 dX7_setAim_20
theorem dX9_clear_0 : decode cX9_clear 0 = .ok (.iconst 1, 1) := by decide +kernel
theorem dX9_clear_1 : decode cX9_clear 1 = .ok (.istore_n 2, 1) := by decide +kernel
theorem dX9_clear_2 : decode cX9_clear 2 = .ok (.iload_n 2, 1) := by decide +kernel
theorem dX9_clear_3 : decode cX9_clear 3 = .ok (.aload_n 0, 1) := by decide +kernel
theorem dX9_clear_4 : decode cX9_clear 4 = .ok (.getfield 9, 3) := by decide +kernel
theorem dX9_clear_7 : decode cX9_clear 7 = .ok (.arraylength, 1) := by decide +kernel
theorem dX9_clear_8 : decode cX9_clear 8 = .ok (.if_icmp .ge 16, 3) := by decide +kernel
theorem dX9_clear_11 : decode cX9_clear 11 = .ok (.aload_n 0, 1) := by decide +kernel
theorem dX9_clear_12 : decode cX9_clear 12 = .ok (.getfield 9, 3) := by decide +kernel
theorem dX9_clear_15 : decode cX9_clear 15 = .ok (.iload_n 2, 1) := by decide +kernel
theorem dX9_clear_16 : decode cX9_clear 16 = .ok (.iconst 0, 1) := by decide +kernel
theorem dX9_clear_17 : decode cX9_clear 17 = .ok (.iastore, 1) := by decide +kernel
theorem dX9_clear_18 : decode cX9_clear 18 = .ok (.iinc 2 1, 3) := by decide +kernel
theorem dX9_clear_21 : decode cX9_clear 21 = .ok (.goto (-19), 3) := by decide +kernel
theorem dX9_clear_24 : decode cX9_clear 24 = .ok (.aload_n 0, 1) := by decide +kernel
theorem dX9_clear_25 : decode cX9_clear 25 = .ok (.iconst 0, 1) := by decide +kernel
theorem dX9_clear_26 : decode cX9_clear 26 = .ok (.putfield 66, 3) := by decide +kernel
theorem dX9_clear_29 : decode cX9_clear 29 = .ok (.aload_n 0, 1) := by decide +kernel
theorem dX9_clear_30 : decode cX9_clear 30 = .ok (.getfield 9, 3) := by decide +kernel
theorem dX9_clear_33 : decode cX9_clear 33 = .ok (.iconst 1, 1) := by decide +kernel
theorem dX9_clear_34 : decode cX9_clear 34 = .ok (.iload_n 1, 1) := by decide +kernel
theorem dX9_clear_35 : decode cX9_clear 35 = .ok (.iastore, 1) := by decide +kernel
theorem dX9_clear_36 : decode cX9_clear 36 = .ok (.aload_n 0, 1) := by decide +kernel
theorem dX9_clear_37 : decode cX9_clear 37 = .ok (.getfield 9, 3) := by decide +kernel
theorem dX9_clear_40 : decode cX9_clear 40 = .ok (.bipush 12, 2) := by decide +kernel
theorem dX9_clear_42 : decode cX9_clear 42 = .ok (.iconst 3, 1) := by decide +kernel
theorem dX9_clear_43 : decode cX9_clear 43 = .ok (.iastore, 1) := by decide +kernel
theorem dX9_clear_44 : decode cX9_clear 44 = .ok (.aload_n 0, 1) := by decide +kernel
theorem dX9_clear_45 : decode cX9_clear 45 = .ok (.getfield 9, 3) := by decide +kernel
theorem dX9_clear_48 : decode cX9_clear 48 = .ok (.bipush 46, 2) := by decide +kernel
theorem dX9_clear_50 : decode cX9_clear 50 = .ok (.bipush 7, 2) := by decide +kernel
theorem dX9_clear_52 : decode cX9_clear 52 = .ok (.iastore, 1) := by decide +kernel
theorem dX9_clear_53 : decode cX9_clear 53 = .ok (.aload_n 0, 1) := by decide +kernel
theorem dX9_clear_54 : decode cX9_clear 54 = .ok (.getfield 9, 3) := by decide +kernel
theorem dX9_clear_57 : decode cX9_clear 57 = .ok (.bipush 55, 2) := by decide +kernel
theorem dX9_clear_59 : decode cX9_clear 59 = .ok (.iconst 5, 1) := by decide +kernel
theorem dX9_clear_60 : decode cX9_clear 60 = .ok (.iastore, 1) := by decide +kernel
theorem dX9_clear_61 : decode cX9_clear 61 = .ok (.aload_n 0, 1) := by decide +kernel
theorem dX9_clear_62 : decode cX9_clear 62 = .ok (.getfield 9, 3) := by decide +kernel
theorem dX9_clear_65 : decode cX9_clear 65 = .ok (.bipush 62, 2) := by decide +kernel
theorem dX9_clear_67 : decode cX9_clear 67 = .ok (.sipush 200, 3) := by decide +kernel
theorem dX9_clear_70 : decode cX9_clear 70 = .ok (.iastore, 1) := by decide +kernel
theorem dX9_clear_71 : decode cX9_clear 71 = .ok (.return_, 1) := by decide +kernel
def LF_X9_clear_2 (N : Nat) : Nat → Nat → Int32 → Int32 → MI → ML → MR → Option (MI)
  | 0, _, _, _, _, _, _ => none
  | k + 1, y0, y1, y2, I, L, R =>
    (rf R y0 0 20).bind fun a1 =>
    if (Int32.ofNat (ln a1)) ≤ y2 then
      some (I)
    else
      (wi I a1 y2 (0 : Int32)).bind fun I3 =>
      wr (y2 + (1 : Int32)) fun (u4 : Int32) =>
      LF_X9_clear_2 N k y0 y1 u4 I3 L R
def F_X9_clear (N : Nat) (x0 : Nat) (x1 : Int32) (I : MI) (L : ML) (R : MR) : Option (MI) :=
  if kd x0 = 8 ∧ x0 < NN then
  bn1 (LF_X9_clear_2 N N x0 x1 (1 : Int32) I L R) fun z5 =>
  wr (uI z5 x0 9 (0 : Int32)) fun (I7 : MI) =>
  (rf R x0 0 20).bind fun a8 =>
  (wi I7 a8 (1 : Int32) x1).bind fun I9 =>
  (wi I9 a8 (12 : Int32) (3 : Int32)).bind fun I10 =>
  (wi I10 a8 (46 : Int32) (7 : Int32)).bind fun I11 =>
  (wi I11 a8 (55 : Int32) (5 : Int32)).bind fun I12 =>
  (wi I12 a8 (62 : Int32) (200 : Int32)).bind fun I13 =>
  some (I13)
  else none
set_option maxRecDepth 100000 in
set_option maxHeartbeats 4000000 in
theorem lp_X9_clear_2 {G : Gm} (C0 : Cx G (yX9_clear.cls) cX9_clear none) (eNL : G.nL = 3) (erm : G.rm = ({ frames := 0, cells := 0, slots := 0, locals := 0 } : Room)) (N : Nat) : ∀ (k : Nat) (y0 : Nat) (y1 : Int32) (y2 : Int32) (I : MI) (L : ML) (R : MR) (z : MI) (hk0 : kd y0 = 8) (ho0 : y0 < NN), LF_X9_clear_2 N k y0 y1 y2 I L R = some z → ∀ f : State → Prop, V G f 24 [(0, .ref (G.ad y0)), (1, .int y1)] [] z L R → V G f 2 [(0, .ref (G.ad y0)), (1, .int y1), (2, .int y2)] [] I L R := by
  intro k
  induction k with
  | zero =>
    intro y0 y1 y2 I L R q hk0 ho0 h
    exact absurd h (by simp [LF_X9_clear_2])
  | succ k ih =>
    intro y0 y1 y2 I L R q hk0 ho0 h f kx
    rw [LF_X9_clear_2] at h
    refine V_iload_n C0 2 rfl rfl dX9_clear_2 ?_
    refine V_aload_n C0 0 rfl rfl dX9_clear_3 ?_
    obtain ⟨a1, qa1, h⟩ := bnd_some h
    refine V_getR C0 8 0 fl_X9_9 ho0 hk0 rfl (rf_at qa1) dX9_clear_4 ?_
    refine V_alen C0 (v := Int32.ofNat (ln a1)) (rf_lt qa1) (by rw [(rf_kd qa1)]; decide) rfl dX9_clear_7 ?_
    refine V_icmp_ge C0 (tgt := 24) (by decide) dX9_clear_8 (fun c2 => ?_) (fun c2 => ?_)
    · have h := (if_pos c2).symm.trans h
      cases h
      exact V_sub [0, 1] rfl kx
    · have h := (if_neg c2).symm.trans h
      refine V_aload_n C0 0 rfl rfl dX9_clear_11 ?_
      refine V_getR C0 8 0 fl_X9_9 ho0 hk0 rfl (rf_at qa1) dX9_clear_12 ?_
      refine V_iload_n C0 2 rfl rfl dX9_clear_15 ?_
      refine V_iconst C0 (v := (0 : Int32)) (by decide) dX9_clear_16 ?_
      obtain ⟨I3, qI3, h⟩ := bnd_some h
      refine V_wi C0 (rf_lt qa1) (rf_kd qa1) qI3 dX9_clear_17 ?_
      obtain ⟨u4, eu4, h⟩ := wr_some h
      refine V_iinc C0 2 [(2, .int u4), (0, .ref (G.ad y0)), (1, .int y1)] rfl (n := 1) (by rw [eu4]; rfl) (by rw [eNL]; decide) rfl dX9_clear_18 ?_
      refine V_goto C0 (tgt := 2) (by decide) dX9_clear_21 ?_
      exact V_sub [1, 2, 0] rfl (ih y0 y1 u4 I3 L R _ hk0 ho0 h f kx)
set_option maxRecDepth 100000 in
set_option maxHeartbeats 4000000 in
theorem c_X9_clear (l : Launch) (D : va_G) (cA : Nat → ClassId) (ad : Nat → Nat) (bs : Nat) (X : State → Prop) (hAd : Ax ad bs) (hX : Stb bs X) (N : Nat) (x0 : Nat) (x1 : Int32) (I : MI) (L : ML) (R : MR) (I' : MI) (h : F_X9_clear N x0 x1 I L R = some (I')) : Cn l D cA ad bs X yX9_clear cX9_clear 3 none 0 0 [.ref (ad x0), .int x1] I L R (none, I', L, R) := by
  refine Cn.ofV hAd hX [(0, .ref (ad x0)), (1, .int x1)] rfl (Nat.le_of_ble_eq_true rfl) (by decide) ?_
  intro G el eD ecA ead ebs eX erm eNL C0
  subst el eD ecA ead ebs eX
  unfold F_X9_clear at h
  obtain ⟨c_x0, h⟩ := ite_some h
  refine V_iconst C0 (v := (1 : Int32)) (by decide) dX9_clear_0 ?_
  refine V_istore_n C0 [(2, .int (1 : Int32)), (0, .ref (G.ad x0)), (1, .int x1)] rfl (by rw [eNL]; decide) rfl dX9_clear_1 ?_
  obtain ⟨z5, q6, h⟩ := bn1_some h
  refine V_sub [1, 2, 0] rfl (lp_X9_clear_2 C0 eNL erm N N x0 x1 (1 : Int32) I L R _ c_x0.1 c_x0.2 q6 _ ?_)
  show V G _ 24 [(0, .ref (G.ad x0)), (1, .int x1)] [] z5 L R
  refine V_aload_n C0 0 rfl rfl dX9_clear_24 ?_
  refine V_iconst C0 (v := (0 : Int32)) (by decide) dX9_clear_25 ?_
  obtain ⟨I7, eI7, h⟩ := wr_some h
  refine V_putI C0 8 9 fp_X9_66 c_x0.2 c_x0.1 rfl dX9_clear_26 ?_
  rw [← eI7]
  refine V_aload_n C0 0 rfl rfl dX9_clear_29 ?_
  obtain ⟨a8, qa8, h⟩ := bnd_some h
  refine V_getR C0 8 0 fl_X9_9 c_x0.2 c_x0.1 rfl (rf_at qa8) dX9_clear_30 ?_
  refine V_iconst C0 (v := (1 : Int32)) (by decide) dX9_clear_33 ?_
  refine V_iload_n C0 1 rfl rfl dX9_clear_34 ?_
  obtain ⟨I9, qI9, h⟩ := bnd_some h
  refine V_wi C0 (rf_lt qa8) (rf_kd qa8) qI9 dX9_clear_35 ?_
  refine V_aload_n C0 0 rfl rfl dX9_clear_36 ?_
  refine V_getR C0 8 0 fl_X9_9 c_x0.2 c_x0.1 rfl (rf_at qa8) dX9_clear_37 ?_
  refine V_bipush C0 (v := (12 : Int32)) (by decide) dX9_clear_40 ?_
  refine V_iconst C0 (v := (3 : Int32)) (by decide) dX9_clear_42 ?_
  obtain ⟨I10, qI10, h⟩ := bnd_some h
  refine V_wi C0 (rf_lt qa8) (rf_kd qa8) qI10 dX9_clear_43 ?_
  refine V_aload_n C0 0 rfl rfl dX9_clear_44 ?_
  refine V_getR C0 8 0 fl_X9_9 c_x0.2 c_x0.1 rfl (rf_at qa8) dX9_clear_45 ?_
  refine V_bipush C0 (v := (46 : Int32)) (by decide) dX9_clear_48 ?_
  refine V_bipush C0 (v := (7 : Int32)) (by decide) dX9_clear_50 ?_
  obtain ⟨I11, qI11, h⟩ := bnd_some h
  refine V_wi C0 (rf_lt qa8) (rf_kd qa8) qI11 dX9_clear_52 ?_
  refine V_aload_n C0 0 rfl rfl dX9_clear_53 ?_
  refine V_getR C0 8 0 fl_X9_9 c_x0.2 c_x0.1 rfl (rf_at qa8) dX9_clear_54 ?_
  refine V_bipush C0 (v := (55 : Int32)) (by decide) dX9_clear_57 ?_
  refine V_iconst C0 (v := (5 : Int32)) (by decide) dX9_clear_59 ?_
  obtain ⟨I12, qI12, h⟩ := bnd_some h
  refine V_wi C0 (rf_lt qa8) (rf_kd qa8) qI12 dX9_clear_60 ?_
  refine V_aload_n C0 0 rfl rfl dX9_clear_61 ?_
  refine V_getR C0 8 0 fl_X9_9 c_x0.2 c_x0.1 rfl (rf_at qa8) dX9_clear_62 ?_
  refine V_bipush C0 (v := (62 : Int32)) (by decide) dX9_clear_65 ?_
  refine V_sipush C0 (v := (200 : Int32)) (by decide) dX9_clear_67 ?_
  obtain ⟨I13, qI13, h⟩ := bnd_some h
  refine V_wi C0 (rf_lt qa8) (rf_kd qa8) qI13 dX9_clear_70 ?_
  cases h
  exact V_vret C0 dX9_clear_71
theorem dX10_draw_0 : decode cX10_draw 0 = .ok (.aload_n 0, 1) := by decide +kernel
theorem dX10_draw_1 : decode cX10_draw 1 = .ok (.dup, 1) := by decide +kernel
theorem dX10_draw_2 : decode cX10_draw 2 = .ok (.getfield 45, 3) := by decide +kernel
theorem dX10_draw_5 : decode cX10_draw 5 = .ok (.iconst 1, 1) := by decide +kernel
theorem dX10_draw_6 : decode cX10_draw 6 = .ok (.iadd, 1) := by decide +kernel
theorem dX10_draw_7 : decode cX10_draw 7 = .ok (.putfield 45, 3) := by decide +kernel
theorem dX10_draw_10 : decode cX10_draw 10 = .ok (.aload_n 0, 1) := by decide +kernel
theorem dX10_draw_11 : decode cX10_draw 11 = .ok (.getfield 45, 3) := by decide +kernel
theorem dX10_draw_14 : decode cX10_draw 14 = .ok (.ireturn, 1) := by decide +kernel
def F_X10_draw (x0 : Nat) (I : MI) (L : ML) (R : MR) : Option (Int32 × MI) :=
  if kd x0 = 9 ∧ x0 < NN then
  wr (uI I x0 4 ((I x0 4) + (1 : Int32))) fun (I1 : MI) =>
  some ((I1 x0 4), I1)
  else none
set_option maxRecDepth 100000 in
set_option maxHeartbeats 4000000 in
theorem c_X10_draw (l : Launch) (D : va_G) (cA : Nat → ClassId) (ad : Nat → Nat) (bs : Nat) (X : State → Prop) (hAd : Ax ad bs) (hX : Stb bs X) (x0 : Nat) (I : MI) (L : ML) (R : MR) (r : Int32) (I' : MI) (h : F_X10_draw x0 I L R = some (r, I')) : Cn l D cA ad bs X yX10_draw cX10_draw 1 (some .int) 0 0 [.ref (ad x0)] I L R (some (.int r), I', L, R) := by
  refine Cn.ofV hAd hX [(0, .ref (ad x0))] rfl (Nat.le_of_ble_eq_true rfl) (by decide) ?_
  intro G el eD ecA ead ebs eX erm eNL C0
  subst el eD ecA ead ebs eX
  unfold F_X10_draw at h
  obtain ⟨c_x0, h⟩ := ite_some h
  refine V_aload_n C0 0 rfl rfl dX10_draw_0 ?_
  refine V_dup C0 rfl dX10_draw_1 ?_
  refine V_getI C0 9 4 fl_X10_45 c_x0.2 c_x0.1 rfl dX10_draw_2 ?_
  refine V_iconst C0 (v := (1 : Int32)) (by decide) dX10_draw_5 ?_
  refine V_iadd C0 dX10_draw_6 ?_
  obtain ⟨I1, eI1, h⟩ := wr_some h
  refine V_putI C0 9 4 fp_X10_45 c_x0.2 c_x0.1 rfl dX10_draw_7 ?_
  rw [← eI1]
  refine V_aload_n C0 0 rfl rfl dX10_draw_10 ?_
  refine V_getI C0 9 4 fl_X10_45 c_x0.2 c_x0.1 rfl dX10_draw_11 ?_
  cases h
  exact V_iret C0 dX10_draw_14
theorem dX9_mass_0 : decode cX9_mass 0 = .ok (.iconst 0, 1) := by decide +kernel
theorem dX9_mass_1 : decode cX9_mass 1 = .ok (.istore_n 1, 1) := by decide +kernel
theorem dX9_mass_2 : decode cX9_mass 2 = .ok (.iconst 0, 1) := by decide +kernel
theorem dX9_mass_3 : decode cX9_mass 3 = .ok (.istore_n 2, 1) := by decide +kernel
theorem dX9_mass_4 : decode cX9_mass 4 = .ok (.iload_n 2, 1) := by decide +kernel
theorem dX9_mass_5 : decode cX9_mass 5 = .ok (.aload_n 0, 1) := by decide +kernel
theorem dX9_mass_6 : decode cX9_mass 6 = .ok (.getfield 53, 3) := by decide +kernel
theorem dX9_mass_9 : decode cX9_mass 9 = .ok (.if_icmp .ge 139, 3) := by decide +kernel
theorem dX9_mass_12 : decode cX9_mass 12 = .ok (.iload_n 2, 1) := by decide +kernel
theorem dX9_mass_13 : decode cX9_mass 13 = .ok (.aload_n 0, 1) := by decide +kernel
theorem dX9_mass_14 : decode cX9_mass 14 = .ok (.getfield 15, 3) := by decide +kernel
theorem dX9_mass_17 : decode cX9_mass 17 = .ok (.arraylength, 1) := by decide +kernel
theorem dX9_mass_18 : decode cX9_mass 18 = .ok (.if_icmp .ge 130, 3) := by decide +kernel
theorem dX9_mass_21 : decode cX9_mass 21 = .ok (.aload_n 0, 1) := by decide +kernel
theorem dX9_mass_22 : decode cX9_mass 22 = .ok (.getfield 15, 3) := by decide +kernel
theorem dX9_mass_25 : decode cX9_mass 25 = .ok (.iload_n 2, 1) := by decide +kernel
theorem dX9_mass_26 : decode cX9_mass 26 = .ok (.iaload, 1) := by decide +kernel
theorem dX9_mass_27 : decode cX9_mass 27 = .ok (.lookupswitch 115 #[(0, 49), (1, 54), (6, 71), (22, 86), (27, 102)], 49) := by decide +kernel
theorem dX9_mass_76 : decode cX9_mass 76 = .ok (.iconst 5, 1) := by decide +kernel
theorem dX9_mass_77 : decode cX9_mass 77 = .ok (.istore_n 1, 1) := by decide +kernel
theorem dX9_mass_78 : decode cX9_mass 78 = .ok (.goto 64, 3) := by decide +kernel
theorem dX9_mass_81 : decode cX9_mass 81 = .ok (.bipush 8, 2) := by decide +kernel
theorem dX9_mass_83 : decode cX9_mass 83 = .ok (.aload_n 0, 1) := by decide +kernel
theorem dX9_mass_84 : decode cX9_mass 84 = .ok (.getfield 9, 3) := by decide +kernel
theorem dX9_mass_87 : decode cX9_mass 87 = .ok (.bipush 9, 2) := by decide +kernel
theorem dX9_mass_89 : decode cX9_mass 89 = .ok (.iaload, 1) := by decide +kernel
theorem dX9_mass_90 : decode cX9_mass 90 = .ok (.bipush 10, 2) := by decide +kernel
theorem dX9_mass_92 : decode cX9_mass 92 = .ok (.idiv, 1) := by decide +kernel
theorem dX9_mass_93 : decode cX9_mass 93 = .ok (.iadd, 1) := by decide +kernel
theorem dX9_mass_94 : decode cX9_mass 94 = .ok (.istore_n 1, 1) := by decide +kernel
theorem dX9_mass_95 : decode cX9_mass 95 = .ok (.goto 47, 3) := by decide +kernel
theorem dX9_mass_98 : decode cX9_mass 98 = .ok (.iload_n 1, 1) := by decide +kernel
theorem dX9_mass_99 : decode cX9_mass 99 = .ok (.aload_n 0, 1) := by decide +kernel
theorem dX9_mass_100 : decode cX9_mass 100 = .ok (.getfield 9, 3) := by decide +kernel
theorem dX9_mass_103 : decode cX9_mass 103 = .ok (.bipush 23, 2) := by decide +kernel
theorem dX9_mass_105 : decode cX9_mass 105 = .ok (.iaload, 1) := by decide +kernel
theorem dX9_mass_106 : decode cX9_mass 106 = .ok (.iconst 5, 1) := by decide +kernel
theorem dX9_mass_107 : decode cX9_mass 107 = .ok (.idiv, 1) := by decide +kernel
theorem dX9_mass_108 : decode cX9_mass 108 = .ok (.iadd, 1) := by decide +kernel
theorem dX9_mass_109 : decode cX9_mass 109 = .ok (.istore_n 1, 1) := by decide +kernel
theorem dX9_mass_110 : decode cX9_mass 110 = .ok (.goto 32, 3) := by decide +kernel
theorem dX9_mass_113 : decode cX9_mass 113 = .ok (.iload_n 1, 1) := by decide +kernel
theorem dX9_mass_114 : decode cX9_mass 114 = .ok (.aload_n 0, 1) := by decide +kernel
theorem dX9_mass_115 : decode cX9_mass 115 = .ok (.getfield 9, 3) := by decide +kernel
theorem dX9_mass_118 : decode cX9_mass 118 = .ok (.bipush 43, 2) := by decide +kernel
theorem dX9_mass_120 : decode cX9_mass 120 = .ok (.iaload, 1) := by decide +kernel
theorem dX9_mass_121 : decode cX9_mass 121 = .ok (.bipush 20, 2) := by decide +kernel
theorem dX9_mass_123 : decode cX9_mass 123 = .ok (.idiv, 1) := by decide +kernel
theorem dX9_mass_124 : decode cX9_mass 124 = .ok (.iadd, 1) := by decide +kernel
theorem dX9_mass_125 : decode cX9_mass 125 = .ok (.istore_n 1, 1) := by decide +kernel
theorem dX9_mass_126 : decode cX9_mass 126 = .ok (.goto 16, 3) := by decide +kernel
theorem dX9_mass_129 : decode cX9_mass 129 = .ok (.iload_n 1, 1) := by decide +kernel
theorem dX9_mass_130 : decode cX9_mass 130 = .ok (.aload_n 0, 1) := by decide +kernel
theorem dX9_mass_131 : decode cX9_mass 131 = .ok (.getfield 9, 3) := by decide +kernel
theorem dX9_mass_134 : decode cX9_mass 134 = .ok (.bipush 61, 2) := by decide +kernel
theorem dX9_mass_136 : decode cX9_mass 136 = .ok (.iaload, 1) := by decide +kernel
theorem dX9_mass_137 : decode cX9_mass 137 = .ok (.iadd, 1) := by decide +kernel
theorem dX9_mass_138 : decode cX9_mass 138 = .ok (.istore_n 1, 1) := by decide +kernel
theorem dX9_mass_139 : decode cX9_mass 139 = .ok (.goto 3, 3) := by decide +kernel
theorem dX9_mass_142 : decode cX9_mass 142 = .ok (.iinc 2 1, 3) := by decide +kernel
theorem dX9_mass_145 : decode cX9_mass 145 = .ok (.goto (-141), 3) := by decide +kernel
theorem dX9_mass_148 : decode cX9_mass 148 = .ok (.iload_n 1, 1) := by decide +kernel
theorem dX9_mass_149 : decode cX9_mass 149 = .ok (.ireturn, 1) := by decide +kernel
def LF_X9_mass_4 (N : Nat) : Nat → Nat → Int32 → Int32 → MI → ML → MR → Option (Int32)
  | 0, _, _, _, _, _, _ => none
  | k + 1, y0, y1, y2, I, L, R =>
    if (I y0 7) ≤ y2 then
      some (y1)
    else
      (rf R y0 1 20).bind fun a2 =>
      if (Int32.ofNat (ln a2)) ≤ y2 then
        some (y1)
      else
        (ri I a2 y2).bind fun v4 =>
        bn1 (
          if v4 = (0 : Int32) then
            some ((5 : Int32))
          else
            if v4 = (1 : Int32) then
              (rf R y0 0 20).bind fun a11 =>
              (ri I a11 (9 : Int32)).bind fun v12 =>
              wr ((8 : Int32) + (v12 / (10 : Int32))) fun (u13 : Int32) =>
              some (u13)
            else
              if v4 = (6 : Int32) then
                (rf R y0 0 20).bind fun a15 =>
                (ri I a15 (23 : Int32)).bind fun v16 =>
                wr (y1 + (v16 / (5 : Int32))) fun (u17 : Int32) =>
                some (u17)
              else
                if v4 = (22 : Int32) then
                  (rf R y0 0 20).bind fun a19 =>
                  (ri I a19 (43 : Int32)).bind fun v20 =>
                  wr (y1 + (v20 / (20 : Int32))) fun (u21 : Int32) =>
                  some (u21)
                else
                  if v4 = (27 : Int32) then
                    (rf R y0 0 20).bind fun a23 =>
                    (ri I a23 (61 : Int32)).bind fun v24 =>
                    wr (y1 + v24) fun (u25 : Int32) =>
                    some (u25)
                  else
                    some (y1)
        ) fun (u5 : Int32) =>
        wr (y2 + (1 : Int32)) fun (u26 : Int32) =>
        LF_X9_mass_4 N k y0 u5 u26 I L R
def F_X9_mass (N : Nat) (x0 : Nat) (I : MI) (L : ML) (R : MR) : Option (Int32) :=
  if kd x0 = 8 ∧ x0 < NN then
  bn1 (LF_X9_mass_4 N N x0 (0 : Int32) (0 : Int32) I L R) fun z27 =>
  some (z27)
  else none
set_option maxRecDepth 100000 in
set_option maxHeartbeats 4000000 in
theorem lp_X9_mass_4 {G : Gm} (C0 : Cx G (yX9_mass.cls) cX9_mass (some .int)) (eNL : G.nL = 3) (erm : G.rm = ({ frames := 0, cells := 0, slots := 0, locals := 0 } : Room)) (N : Nat) : ∀ (k : Nat) (y0 : Nat) (y1 : Int32) (y2 : Int32) (I : MI) (L : ML) (R : MR) (z : Int32) (hk0 : kd y0 = 8) (ho0 : y0 < NN), LF_X9_mass_4 N k y0 y1 y2 I L R = some z → ∀ f : State → Prop, V G f 148 [(1, .int z)] [] I L R → V G f 4 [(0, .ref (G.ad y0)), (1, .int y1), (2, .int y2)] [] I L R := by
  intro k
  induction k with
  | zero =>
    intro y0 y1 y2 I L R q hk0 ho0 h
    exact absurd h (by simp [LF_X9_mass_4])
  | succ k ih =>
    intro y0 y1 y2 I L R q hk0 ho0 h f kx
    rw [LF_X9_mass_4] at h
    refine V_iload_n C0 2 rfl rfl dX9_mass_4 ?_
    refine V_aload_n C0 0 rfl rfl dX9_mass_5 ?_
    refine V_getI C0 8 7 fl_X9_53 ho0 hk0 rfl dX9_mass_6 ?_
    refine V_icmp_ge C0 (tgt := 148) (by decide) dX9_mass_9 (fun c1 => ?_) (fun c1 => ?_)
    · have h := (if_pos c1).symm.trans h
      cases h
      exact V_sub [1] rfl kx
    · have h := (if_neg c1).symm.trans h
      refine V_iload_n C0 2 rfl rfl dX9_mass_12 ?_
      refine V_aload_n C0 0 rfl rfl dX9_mass_13 ?_
      obtain ⟨a2, qa2, h⟩ := bnd_some h
      refine V_getR C0 8 1 fl_X9_15 ho0 hk0 rfl (rf_at qa2) dX9_mass_14 ?_
      refine V_alen C0 (v := Int32.ofNat (ln a2)) (rf_lt qa2) (by rw [(rf_kd qa2)]; decide) rfl dX9_mass_17 ?_
      refine V_icmp_ge C0 (tgt := 148) (by decide) dX9_mass_18 (fun c3 => ?_) (fun c3 => ?_)
      · have h := (if_pos c3).symm.trans h
        cases h
        exact V_sub [1] rfl kx
      · have h := (if_neg c3).symm.trans h
        refine V_aload_n C0 0 rfl rfl dX9_mass_21 ?_
        refine V_getR C0 8 1 fl_X9_15 ho0 hk0 rfl (rf_at qa2) dX9_mass_22 ?_
        refine V_iload_n C0 2 rfl rfl dX9_mass_25 ?_
        obtain ⟨v4, qv4, h⟩ := bnd_some h
        refine V_ri C0 (rf_lt qa2) (rf_kd qa2) qv4 dX9_mass_26 ?_
        obtain ⟨u5, q6, h⟩ := bn1_some h
        have k7 : V G f 142 [(0, .ref (G.ad y0)), (1, .int u5), (2, .int y2)] [] I L R := by
          obtain ⟨u26, eu26, h⟩ := wr_some h
          refine V_iinc C0 2 [(2, .int u26), (0, .ref (G.ad y0)), (1, .int u5)] rfl (n := 1) (by rw [eu26]; rfl) (by rw [eNL]; decide) rfl dX9_mass_142 ?_
          refine V_goto C0 (tgt := 4) (by decide) dX9_mass_145 ?_
          exact V_sub [1, 2, 0] rfl (ih y0 u5 u26 I L R _ hk0 ho0 h f kx)
        have nd8 := nd_0 v4
        by_cases c9 : v4 = (0 : Int32)
        · have q6 := (if_pos c9).symm.trans q6
          refine V_lookC C0 (tgt := 76) (v := (0 : Int32)) c9 (by decide) (by decide) dX9_mass_27 ?_
          refine V_iconst C0 (v := (5 : Int32)) (by decide) dX9_mass_76 ?_
          refine V_istore_n C0 [(1, .int (5 : Int32)), (0, .ref (G.ad y0)), (2, .int y2)] rfl (by rw [eNL]; decide) rfl dX9_mass_77 ?_
          refine V_goto C0 (tgt := 142) (by decide) dX9_mass_78 ?_
          cases q6
          exact V_sub [1, 0, 2] rfl k7
        · have q6 := (if_neg c9).symm.trans q6
          have nd8 := nd_add nd8 c9
          by_cases c10 : v4 = (1 : Int32)
          · have q6 := (if_pos c10).symm.trans q6
            refine V_lookC C0 (tgt := 81) (v := (1 : Int32)) c10 (by decide) (by decide) dX9_mass_27 ?_
            refine V_bipush C0 (v := (8 : Int32)) (by decide) dX9_mass_81 ?_
            refine V_aload_n C0 0 rfl rfl dX9_mass_83 ?_
            obtain ⟨a11, qa11, q6⟩ := bnd_some q6
            refine V_getR C0 8 0 fl_X9_9 ho0 hk0 rfl (rf_at qa11) dX9_mass_84 ?_
            refine V_bipush C0 (v := (9 : Int32)) (by decide) dX9_mass_87 ?_
            obtain ⟨v12, qv12, q6⟩ := bnd_some q6
            refine V_ri C0 (rf_lt qa11) (rf_kd qa11) qv12 dX9_mass_89 ?_
            refine V_bipush C0 (v := (10 : Int32)) (by decide) dX9_mass_90 ?_
            refine V_idiv C0 (by decide) dX9_mass_92 ?_
            refine V_iadd C0 dX9_mass_93 ?_
            obtain ⟨u13, eu13, q6⟩ := wr_some q6
            rw [← eu13]
            refine V_istore_n C0 [(1, .int u13), (0, .ref (G.ad y0)), (2, .int y2)] rfl (by rw [eNL]; decide) rfl dX9_mass_94 ?_
            refine V_goto C0 (tgt := 142) (by decide) dX9_mass_95 ?_
            cases q6
            exact V_sub [1, 0, 2] rfl k7
          · have q6 := (if_neg c10).symm.trans q6
            have nd8 := nd_add nd8 c10
            by_cases c14 : v4 = (6 : Int32)
            · have q6 := (if_pos c14).symm.trans q6
              refine V_lookC C0 (tgt := 98) (v := (6 : Int32)) c14 (by decide) (by decide) dX9_mass_27 ?_
              refine V_iload_n C0 1 rfl rfl dX9_mass_98 ?_
              refine V_aload_n C0 0 rfl rfl dX9_mass_99 ?_
              obtain ⟨a15, qa15, q6⟩ := bnd_some q6
              refine V_getR C0 8 0 fl_X9_9 ho0 hk0 rfl (rf_at qa15) dX9_mass_100 ?_
              refine V_bipush C0 (v := (23 : Int32)) (by decide) dX9_mass_103 ?_
              obtain ⟨v16, qv16, q6⟩ := bnd_some q6
              refine V_ri C0 (rf_lt qa15) (rf_kd qa15) qv16 dX9_mass_105 ?_
              refine V_iconst C0 (v := (5 : Int32)) (by decide) dX9_mass_106 ?_
              refine V_idiv C0 (by decide) dX9_mass_107 ?_
              refine V_iadd C0 dX9_mass_108 ?_
              obtain ⟨u17, eu17, q6⟩ := wr_some q6
              rw [← eu17]
              refine V_istore_n C0 [(1, .int u17), (0, .ref (G.ad y0)), (2, .int y2)] rfl (by rw [eNL]; decide) rfl dX9_mass_109 ?_
              refine V_goto C0 (tgt := 142) (by decide) dX9_mass_110 ?_
              cases q6
              exact V_sub [1, 0, 2] rfl k7
            · have q6 := (if_neg c14).symm.trans q6
              have nd8 := nd_add nd8 c14
              by_cases c18 : v4 = (22 : Int32)
              · have q6 := (if_pos c18).symm.trans q6
                refine V_lookC C0 (tgt := 113) (v := (22 : Int32)) c18 (by decide) (by decide) dX9_mass_27 ?_
                refine V_iload_n C0 1 rfl rfl dX9_mass_113 ?_
                refine V_aload_n C0 0 rfl rfl dX9_mass_114 ?_
                obtain ⟨a19, qa19, q6⟩ := bnd_some q6
                refine V_getR C0 8 0 fl_X9_9 ho0 hk0 rfl (rf_at qa19) dX9_mass_115 ?_
                refine V_bipush C0 (v := (43 : Int32)) (by decide) dX9_mass_118 ?_
                obtain ⟨v20, qv20, q6⟩ := bnd_some q6
                refine V_ri C0 (rf_lt qa19) (rf_kd qa19) qv20 dX9_mass_120 ?_
                refine V_bipush C0 (v := (20 : Int32)) (by decide) dX9_mass_121 ?_
                refine V_idiv C0 (by decide) dX9_mass_123 ?_
                refine V_iadd C0 dX9_mass_124 ?_
                obtain ⟨u21, eu21, q6⟩ := wr_some q6
                rw [← eu21]
                refine V_istore_n C0 [(1, .int u21), (0, .ref (G.ad y0)), (2, .int y2)] rfl (by rw [eNL]; decide) rfl dX9_mass_125 ?_
                refine V_goto C0 (tgt := 142) (by decide) dX9_mass_126 ?_
                cases q6
                exact V_sub [1, 0, 2] rfl k7
              · have q6 := (if_neg c18).symm.trans q6
                have nd8 := nd_add nd8 c18
                by_cases c22 : v4 = (27 : Int32)
                · have q6 := (if_pos c22).symm.trans q6
                  refine V_lookC C0 (tgt := 129) (v := (27 : Int32)) c22 (by decide) (by decide) dX9_mass_27 ?_
                  refine V_iload_n C0 1 rfl rfl dX9_mass_129 ?_
                  refine V_aload_n C0 0 rfl rfl dX9_mass_130 ?_
                  obtain ⟨a23, qa23, q6⟩ := bnd_some q6
                  refine V_getR C0 8 0 fl_X9_9 ho0 hk0 rfl (rf_at qa23) dX9_mass_131 ?_
                  refine V_bipush C0 (v := (61 : Int32)) (by decide) dX9_mass_134 ?_
                  obtain ⟨v24, qv24, q6⟩ := bnd_some q6
                  refine V_ri C0 (rf_lt qa23) (rf_kd qa23) qv24 dX9_mass_136 ?_
                  refine V_iadd C0 dX9_mass_137 ?_
                  obtain ⟨u25, eu25, q6⟩ := wr_some q6
                  rw [← eu25]
                  refine V_istore_n C0 [(1, .int u25), (0, .ref (G.ad y0)), (2, .int y2)] rfl (by rw [eNL]; decide) rfl dX9_mass_138 ?_
                  refine V_goto C0 (tgt := 142) (by decide) dX9_mass_139 ?_
                  cases q6
                  exact V_sub [1, 0, 2] rfl k7
                · have q6 := (if_neg c22).symm.trans q6
                  have nd8 := nd_add nd8 c22
                  refine V_lookN C0 (tgt := 142) nd8 (by decide) (by decide) dX9_mass_27 ?_
                  cases q6
                  exact V_sub [0, 1, 2] rfl k7
set_option maxRecDepth 100000 in
set_option maxHeartbeats 4000000 in
theorem c_X9_mass (l : Launch) (D : va_G) (cA : Nat → ClassId) (ad : Nat → Nat) (bs : Nat) (X : State → Prop) (hAd : Ax ad bs) (hX : Stb bs X) (N : Nat) (x0 : Nat) (I : MI) (L : ML) (R : MR) (r : Int32) (h : F_X9_mass N x0 I L R = some (r)) : Cn l D cA ad bs X yX9_mass cX9_mass 3 (some .int) 0 0 [.ref (ad x0)] I L R (some (.int r), I, L, R) := by
  refine Cn.ofV hAd hX [(0, .ref (ad x0))] rfl (Nat.le_of_ble_eq_true rfl) (by decide) ?_
  intro G el eD ecA ead ebs eX erm eNL C0
  subst el eD ecA ead ebs eX
  unfold F_X9_mass at h
  obtain ⟨c_x0, h⟩ := ite_some h
  refine V_iconst C0 (v := (0 : Int32)) (by decide) dX9_mass_0 ?_
  refine V_istore_n C0 [(1, .int (0 : Int32)), (0, .ref (G.ad x0))] rfl (by rw [eNL]; decide) rfl dX9_mass_1 ?_
  refine V_iconst C0 (v := (0 : Int32)) (by decide) dX9_mass_2 ?_
  refine V_istore_n C0 [(2, .int (0 : Int32)), (1, .int (0 : Int32)), (0, .ref (G.ad x0))] rfl (by rw [eNL]; decide) rfl dX9_mass_3 ?_
  obtain ⟨z27, q28, h⟩ := bn1_some h
  refine V_sub [2, 1, 0] rfl (lp_X9_mass_4 C0 eNL erm N N x0 (0 : Int32) (0 : Int32) I L R _ c_x0.1 c_x0.2 q28 _ ?_)
  show V G _ 148 [(1, .int z27)] [] I L R
  refine V_iload_n C0 0 rfl rfl dX9_mass_148 ?_
  cases h
  exact V_iret C0 dX9_mass_149
theorem dX9_span_0 : decode cX9_span 0 = .ok (.iconst 0, 1) := by decide +kernel
theorem dX9_span_1 : decode cX9_span 1 = .ok (.istore_n 1, 1) := by decide +kernel
theorem dX9_span_2 : decode cX9_span 2 = .ok (.iconst 0, 1) := by decide +kernel
theorem dX9_span_3 : decode cX9_span 3 = .ok (.istore_n 2, 1) := by decide +kernel
theorem dX9_span_4 : decode cX9_span 4 = .ok (.iload_n 2, 1) := by decide +kernel
theorem dX9_span_5 : decode cX9_span 5 = .ok (.aload_n 0, 1) := by decide +kernel
theorem dX9_span_6 : decode cX9_span 6 = .ok (.getfield 53, 3) := by decide +kernel
theorem dX9_span_9 : decode cX9_span 9 = .ok (.if_icmp .ge 287, 3) := by decide +kernel
theorem dX9_span_12 : decode cX9_span 12 = .ok (.iload_n 2, 1) := by decide +kernel
theorem dX9_span_13 : decode cX9_span 13 = .ok (.aload_n 0, 1) := by decide +kernel
theorem dX9_span_14 : decode cX9_span 14 = .ok (.getfield 15, 3) := by decide +kernel
theorem dX9_span_17 : decode cX9_span 17 = .ok (.arraylength, 1) := by decide +kernel
theorem dX9_span_18 : decode cX9_span 18 = .ok (.if_icmp .ge 278, 3) := by decide +kernel
theorem dX9_span_21 : decode cX9_span 21 = .ok (.aload_n 0, 1) := by decide +kernel
theorem dX9_span_22 : decode cX9_span 22 = .ok (.getfield 15, 3) := by decide +kernel
theorem dX9_span_25 : decode cX9_span 25 = .ok (.iload_n 2, 1) := by decide +kernel
theorem dX9_span_26 : decode cX9_span 26 = .ok (.iaload, 1) := by decide +kernel
theorem dX9_span_27 : decode cX9_span 27 = .ok (.tableswitch 263 0 26 #[121, 126, 263, 142, 263, 163, 263, 263, 263, 176, 263, 263, 263, 263, 189, 263, 263, 263, 263, 202, 207, 263, 263, 222, 235, 263, 248], 121) := by decide +kernel
theorem dX9_span_148 : decode cX9_span 148 = .ok (.iconst 1, 1) := by decide +kernel
theorem dX9_span_149 : decode cX9_span 149 = .ok (.istore_n 1, 1) := by decide +kernel
theorem dX9_span_150 : decode cX9_span 150 = .ok (.goto 140, 3) := by decide +kernel
theorem dX9_span_153 : decode cX9_span 153 = .ok (.iconst 1, 1) := by decide +kernel
theorem dX9_span_154 : decode cX9_span 154 = .ok (.aload_n 0, 1) := by decide +kernel
theorem dX9_span_155 : decode cX9_span 155 = .ok (.getfield 9, 3) := by decide +kernel
theorem dX9_span_158 : decode cX9_span 158 = .ok (.bipush 9, 2) := by decide +kernel
theorem dX9_span_160 : decode cX9_span 160 = .ok (.iaload, 1) := by decide +kernel
theorem dX9_span_161 : decode cX9_span 161 = .ok (.bipush 50, 2) := by decide +kernel
theorem dX9_span_163 : decode cX9_span 163 = .ok (.idiv, 1) := by decide +kernel
theorem dX9_span_164 : decode cX9_span 164 = .ok (.iadd, 1) := by decide +kernel
theorem dX9_span_165 : decode cX9_span 165 = .ok (.istore_n 1, 1) := by decide +kernel
theorem dX9_span_166 : decode cX9_span 166 = .ok (.goto 124, 3) := by decide +kernel
theorem dX9_span_169 : decode cX9_span 169 = .ok (.iconst 2, 1) := by decide +kernel
theorem dX9_span_170 : decode cX9_span 170 = .ok (.aload_n 0, 1) := by decide +kernel
theorem dX9_span_171 : decode cX9_span 171 = .ok (.getfield 9, 3) := by decide +kernel
theorem dX9_span_174 : decode cX9_span 174 = .ok (.bipush 16, 2) := by decide +kernel
theorem dX9_span_176 : decode cX9_span 176 = .ok (.iaload, 1) := by decide +kernel
theorem dX9_span_177 : decode cX9_span 177 = .ok (.iadd, 1) := by decide +kernel
theorem dX9_span_178 : decode cX9_span 178 = .ok (.aload_n 0, 1) := by decide +kernel
theorem dX9_span_179 : decode cX9_span 179 = .ok (.getfield 9, 3) := by decide +kernel
theorem dX9_span_182 : decode cX9_span 182 = .ok (.bipush 12, 2) := by decide +kernel
theorem dX9_span_184 : decode cX9_span 184 = .ok (.iaload, 1) := by decide +kernel
theorem dX9_span_185 : decode cX9_span 185 = .ok (.iadd, 1) := by decide +kernel
theorem dX9_span_186 : decode cX9_span 186 = .ok (.istore_n 1, 1) := by decide +kernel
theorem dX9_span_187 : decode cX9_span 187 = .ok (.goto 103, 3) := by decide +kernel
theorem dX9_span_190 : decode cX9_span 190 = .ok (.iload_n 1, 1) := by decide +kernel
theorem dX9_span_191 : decode cX9_span 191 = .ok (.aload_n 0, 1) := by decide +kernel
theorem dX9_span_192 : decode cX9_span 192 = .ok (.getfield 9, 3) := by decide +kernel
theorem dX9_span_195 : decode cX9_span 195 = .ok (.bipush 18, 2) := by decide +kernel
theorem dX9_span_197 : decode cX9_span 197 = .ok (.iaload, 1) := by decide +kernel
theorem dX9_span_198 : decode cX9_span 198 = .ok (.iadd, 1) := by decide +kernel
theorem dX9_span_199 : decode cX9_span 199 = .ok (.istore_n 1, 1) := by decide +kernel
theorem dX9_span_200 : decode cX9_span 200 = .ok (.goto 90, 3) := by decide +kernel
theorem dX9_span_203 : decode cX9_span 203 = .ok (.iload_n 1, 1) := by decide +kernel
theorem dX9_span_204 : decode cX9_span 204 = .ok (.aload_n 0, 1) := by decide +kernel
theorem dX9_span_205 : decode cX9_span 205 = .ok (.getfield 9, 3) := by decide +kernel
theorem dX9_span_208 : decode cX9_span 208 = .ok (.bipush 30, 2) := by decide +kernel
theorem dX9_span_210 : decode cX9_span 210 = .ok (.iaload, 1) := by decide +kernel
theorem dX9_span_211 : decode cX9_span 211 = .ok (.iadd, 1) := by decide +kernel
theorem dX9_span_212 : decode cX9_span 212 = .ok (.istore_n 1, 1) := by decide +kernel
theorem dX9_span_213 : decode cX9_span 213 = .ok (.goto 77, 3) := by decide +kernel
theorem dX9_span_216 : decode cX9_span 216 = .ok (.iload_n 1, 1) := by decide +kernel
theorem dX9_span_217 : decode cX9_span 217 = .ok (.aload_n 0, 1) := by decide +kernel
theorem dX9_span_218 : decode cX9_span 218 = .ok (.getfield 9, 3) := by decide +kernel
theorem dX9_span_221 : decode cX9_span 221 = .ok (.bipush 39, 2) := by decide +kernel
theorem dX9_span_223 : decode cX9_span 223 = .ok (.iaload, 1) := by decide +kernel
theorem dX9_span_224 : decode cX9_span 224 = .ok (.iadd, 1) := by decide +kernel
theorem dX9_span_225 : decode cX9_span 225 = .ok (.istore_n 1, 1) := by decide +kernel
theorem dX9_span_226 : decode cX9_span 226 = .ok (.goto 64, 3) := by decide +kernel
theorem dX9_span_229 : decode cX9_span 229 = .ok (.iconst 3, 1) := by decide +kernel
theorem dX9_span_230 : decode cX9_span 230 = .ok (.istore_n 1, 1) := by decide +kernel
theorem dX9_span_231 : decode cX9_span 231 = .ok (.goto 59, 3) := by decide +kernel
theorem dX9_span_234 : decode cX9_span 234 = .ok (.iconst 2, 1) := by decide +kernel
theorem dX9_span_235 : decode cX9_span 235 = .ok (.aload_n 0, 1) := by decide +kernel
theorem dX9_span_236 : decode cX9_span 236 = .ok (.getfield 9, 3) := by decide +kernel
theorem dX9_span_239 : decode cX9_span 239 = .ok (.bipush 49, 2) := by decide +kernel
theorem dX9_span_241 : decode cX9_span 241 = .ok (.iaload, 1) := by decide +kernel
theorem dX9_span_242 : decode cX9_span 242 = .ok (.iconst 3, 1) := by decide +kernel
theorem dX9_span_243 : decode cX9_span 243 = .ok (.irem, 1) := by decide +kernel
theorem dX9_span_244 : decode cX9_span 244 = .ok (.iadd, 1) := by decide +kernel
theorem dX9_span_245 : decode cX9_span 245 = .ok (.istore_n 1, 1) := by decide +kernel
theorem dX9_span_246 : decode cX9_span 246 = .ok (.goto 44, 3) := by decide +kernel
theorem dX9_span_249 : decode cX9_span 249 = .ok (.iconst 1, 1) := by decide +kernel
theorem dX9_span_250 : decode cX9_span 250 = .ok (.aload_n 0, 1) := by decide +kernel
theorem dX9_span_251 : decode cX9_span 251 = .ok (.getfield 9, 3) := by decide +kernel
theorem dX9_span_254 : decode cX9_span 254 = .ok (.bipush 54, 2) := by decide +kernel
theorem dX9_span_256 : decode cX9_span 256 = .ok (.iaload, 1) := by decide +kernel
theorem dX9_span_257 : decode cX9_span 257 = .ok (.iadd, 1) := by decide +kernel
theorem dX9_span_258 : decode cX9_span 258 = .ok (.istore_n 1, 1) := by decide +kernel
theorem dX9_span_259 : decode cX9_span 259 = .ok (.goto 31, 3) := by decide +kernel
theorem dX9_span_262 : decode cX9_span 262 = .ok (.iload_n 1, 1) := by decide +kernel
theorem dX9_span_263 : decode cX9_span 263 = .ok (.aload_n 0, 1) := by decide +kernel
theorem dX9_span_264 : decode cX9_span 264 = .ok (.getfield 9, 3) := by decide +kernel
theorem dX9_span_267 : decode cX9_span 267 = .ok (.bipush 55, 2) := by decide +kernel
theorem dX9_span_269 : decode cX9_span 269 = .ok (.iaload, 1) := by decide +kernel
theorem dX9_span_270 : decode cX9_span 270 = .ok (.iadd, 1) := by decide +kernel
theorem dX9_span_271 : decode cX9_span 271 = .ok (.istore_n 1, 1) := by decide +kernel
theorem dX9_span_272 : decode cX9_span 272 = .ok (.goto 18, 3) := by decide +kernel
theorem dX9_span_275 : decode cX9_span 275 = .ok (.iconst 1, 1) := by decide +kernel
theorem dX9_span_276 : decode cX9_span 276 = .ok (.aload_n 0, 1) := by decide +kernel
theorem dX9_span_277 : decode cX9_span 277 = .ok (.getfield 9, 3) := by decide +kernel
theorem dX9_span_280 : decode cX9_span 280 = .ok (.bipush 59, 2) := by decide +kernel
theorem dX9_span_282 : decode cX9_span 282 = .ok (.iaload, 1) := by decide +kernel
theorem dX9_span_283 : decode cX9_span 283 = .ok (.iconst 2, 1) := by decide +kernel
theorem dX9_span_284 : decode cX9_span 284 = .ok (.irem, 1) := by decide +kernel
theorem dX9_span_285 : decode cX9_span 285 = .ok (.iadd, 1) := by decide +kernel
theorem dX9_span_286 : decode cX9_span 286 = .ok (.istore_n 1, 1) := by decide +kernel
theorem dX9_span_287 : decode cX9_span 287 = .ok (.goto 3, 3) := by decide +kernel
theorem dX9_span_290 : decode cX9_span 290 = .ok (.iinc 2 1, 3) := by decide +kernel
theorem dX9_span_293 : decode cX9_span 293 = .ok (.goto (-289), 3) := by decide +kernel
theorem dX9_span_296 : decode cX9_span 296 = .ok (.iload_n 1, 1) := by decide +kernel
theorem dX9_span_297 : decode cX9_span 297 = .ok (.ireturn, 1) := by decide +kernel
def LF_X9_span_4 (N : Nat) : Nat → Nat → Int32 → Int32 → MI → ML → MR → Option (Int32)
  | 0, _, _, _, _, _, _ => none
  | k + 1, y0, y1, y2, I, L, R =>
    if (I y0 7) ≤ y2 then
      some (y1)
    else
      (rf R y0 1 20).bind fun a2 =>
      if (Int32.ofNat (ln a2)) ≤ y2 then
        some (y1)
      else
        (ri I a2 y2).bind fun v4 =>
        bn1 (
          if v4 = (0 : Int32) then
            some ((1 : Int32))
          else
            if v4 = (1 : Int32) then
              (rf R y0 0 20).bind fun a11 =>
              (ri I a11 (9 : Int32)).bind fun v12 =>
              wr ((1 : Int32) + (v12 / (50 : Int32))) fun (u13 : Int32) =>
              some (u13)
            else
              if v4 = (3 : Int32) then
                (rf R y0 0 20).bind fun a15 =>
                (ri I a15 (16 : Int32)).bind fun v16 =>
                (ri I a15 (12 : Int32)).bind fun v17 =>
                wr (((2 : Int32) + v16) + v17) fun (u18 : Int32) =>
                some (u18)
              else
                if v4 = (5 : Int32) then
                  (rf R y0 0 20).bind fun a20 =>
                  (ri I a20 (18 : Int32)).bind fun v21 =>
                  wr (y1 + v21) fun (u22 : Int32) =>
                  some (u22)
                else
                  if v4 = (9 : Int32) then
                    (rf R y0 0 20).bind fun a24 =>
                    (ri I a24 (30 : Int32)).bind fun v25 =>
                    wr (y1 + v25) fun (u26 : Int32) =>
                    some (u26)
                  else
                    if v4 = (14 : Int32) then
                      (rf R y0 0 20).bind fun a28 =>
                      (ri I a28 (39 : Int32)).bind fun v29 =>
                      wr (y1 + v29) fun (u30 : Int32) =>
                      some (u30)
                    else
                      if v4 = (19 : Int32) then
                        some ((3 : Int32))
                      else
                        if v4 = (20 : Int32) then
                          (rf R y0 0 20).bind fun a33 =>
                          (ri I a33 (49 : Int32)).bind fun v34 =>
                          wr ((2 : Int32) + (iR v34 (3 : Int32))) fun (u35 : Int32) =>
                          some (u35)
                        else
                          if v4 = (23 : Int32) then
                            (rf R y0 0 20).bind fun a37 =>
                            (ri I a37 (54 : Int32)).bind fun v38 =>
                            wr ((1 : Int32) + v38) fun (u39 : Int32) =>
                            some (u39)
                          else
                            if v4 = (24 : Int32) then
                              (rf R y0 0 20).bind fun a41 =>
                              (ri I a41 (55 : Int32)).bind fun v42 =>
                              wr (y1 + v42) fun (u43 : Int32) =>
                              some (u43)
                            else
                              if v4 = (26 : Int32) then
                                (rf R y0 0 20).bind fun a45 =>
                                (ri I a45 (59 : Int32)).bind fun v46 =>
                                wr ((1 : Int32) + (iR v46 (2 : Int32))) fun (u47 : Int32) =>
                                some (u47)
                              else
                                some (y1)
        ) fun (u5 : Int32) =>
        wr (y2 + (1 : Int32)) fun (u48 : Int32) =>
        LF_X9_span_4 N k y0 u5 u48 I L R
def F_X9_span (N : Nat) (x0 : Nat) (I : MI) (L : ML) (R : MR) : Option (Int32) :=
  if kd x0 = 8 ∧ x0 < NN then
  bn1 (LF_X9_span_4 N N x0 (0 : Int32) (0 : Int32) I L R) fun z49 =>
  some (z49)
  else none
set_option maxRecDepth 100000 in
set_option maxHeartbeats 4000000 in
theorem lp_X9_span_4 {G : Gm} (C0 : Cx G (yX9_span.cls) cX9_span (some .int)) (eNL : G.nL = 3) (erm : G.rm = ({ frames := 0, cells := 0, slots := 0, locals := 0 } : Room)) (N : Nat) : ∀ (k : Nat) (y0 : Nat) (y1 : Int32) (y2 : Int32) (I : MI) (L : ML) (R : MR) (z : Int32) (hk0 : kd y0 = 8) (ho0 : y0 < NN), LF_X9_span_4 N k y0 y1 y2 I L R = some z → ∀ f : State → Prop, V G f 296 [(1, .int z)] [] I L R → V G f 4 [(0, .ref (G.ad y0)), (1, .int y1), (2, .int y2)] [] I L R := by
  intro k
  induction k with
  | zero =>
    intro y0 y1 y2 I L R q hk0 ho0 h
    exact absurd h (by simp [LF_X9_span_4])
  | succ k ih =>
    intro y0 y1 y2 I L R q hk0 ho0 h f kx
    rw [LF_X9_span_4] at h
    refine V_iload_n C0 2 rfl rfl dX9_span_4 ?_
    refine V_aload_n C0 0 rfl rfl dX9_span_5 ?_
    refine V_getI C0 8 7 fl_X9_53 ho0 hk0 rfl dX9_span_6 ?_
    refine V_icmp_ge C0 (tgt := 296) (by decide) dX9_span_9 (fun c1 => ?_) (fun c1 => ?_)
    · have h := (if_pos c1).symm.trans h
      cases h
      exact V_sub [1] rfl kx
    · have h := (if_neg c1).symm.trans h
      refine V_iload_n C0 2 rfl rfl dX9_span_12 ?_
      refine V_aload_n C0 0 rfl rfl dX9_span_13 ?_
      obtain ⟨a2, qa2, h⟩ := bnd_some h
      refine V_getR C0 8 1 fl_X9_15 ho0 hk0 rfl (rf_at qa2) dX9_span_14 ?_
      refine V_alen C0 (v := Int32.ofNat (ln a2)) (rf_lt qa2) (by rw [(rf_kd qa2)]; decide) rfl dX9_span_17 ?_
      refine V_icmp_ge C0 (tgt := 296) (by decide) dX9_span_18 (fun c3 => ?_) (fun c3 => ?_)
      · have h := (if_pos c3).symm.trans h
        cases h
        exact V_sub [1] rfl kx
      · have h := (if_neg c3).symm.trans h
        refine V_aload_n C0 0 rfl rfl dX9_span_21 ?_
        refine V_getR C0 8 1 fl_X9_15 ho0 hk0 rfl (rf_at qa2) dX9_span_22 ?_
        refine V_iload_n C0 2 rfl rfl dX9_span_25 ?_
        obtain ⟨v4, qv4, h⟩ := bnd_some h
        refine V_ri C0 (rf_lt qa2) (rf_kd qa2) qv4 dX9_span_26 ?_
        obtain ⟨u5, q6, h⟩ := bn1_some h
        have k7 : V G f 290 [(0, .ref (G.ad y0)), (1, .int u5), (2, .int y2)] [] I L R := by
          obtain ⟨u48, eu48, h⟩ := wr_some h
          refine V_iinc C0 2 [(2, .int u48), (0, .ref (G.ad y0)), (1, .int u5)] rfl (n := 1) (by rw [eu48]; rfl) (by rw [eNL]; decide) rfl dX9_span_290 ?_
          refine V_goto C0 (tgt := 4) (by decide) dX9_span_293 ?_
          exact V_sub [1, 2, 0] rfl (ih y0 u5 u48 I L R _ hk0 ho0 h f kx)
        have nd8 := nd_0 v4
        by_cases c9 : v4 = (0 : Int32)
        · have q6 := (if_pos c9).symm.trans q6
          refine V_tableC C0 (tgt := 148) (v := (0 : Int32)) c9 (by decide) (by decide) dX9_span_27 ?_
          refine V_iconst C0 (v := (1 : Int32)) (by decide) dX9_span_148 ?_
          refine V_istore_n C0 [(1, .int (1 : Int32)), (0, .ref (G.ad y0)), (2, .int y2)] rfl (by rw [eNL]; decide) rfl dX9_span_149 ?_
          refine V_goto C0 (tgt := 290) (by decide) dX9_span_150 ?_
          cases q6
          exact V_sub [1, 0, 2] rfl k7
        · have q6 := (if_neg c9).symm.trans q6
          have nd8 := nd_add nd8 c9
          by_cases c10 : v4 = (1 : Int32)
          · have q6 := (if_pos c10).symm.trans q6
            refine V_tableC C0 (tgt := 153) (v := (1 : Int32)) c10 (by decide) (by decide) dX9_span_27 ?_
            refine V_iconst C0 (v := (1 : Int32)) (by decide) dX9_span_153 ?_
            refine V_aload_n C0 0 rfl rfl dX9_span_154 ?_
            obtain ⟨a11, qa11, q6⟩ := bnd_some q6
            refine V_getR C0 8 0 fl_X9_9 ho0 hk0 rfl (rf_at qa11) dX9_span_155 ?_
            refine V_bipush C0 (v := (9 : Int32)) (by decide) dX9_span_158 ?_
            obtain ⟨v12, qv12, q6⟩ := bnd_some q6
            refine V_ri C0 (rf_lt qa11) (rf_kd qa11) qv12 dX9_span_160 ?_
            refine V_bipush C0 (v := (50 : Int32)) (by decide) dX9_span_161 ?_
            refine V_idiv C0 (by decide) dX9_span_163 ?_
            refine V_iadd C0 dX9_span_164 ?_
            obtain ⟨u13, eu13, q6⟩ := wr_some q6
            rw [← eu13]
            refine V_istore_n C0 [(1, .int u13), (0, .ref (G.ad y0)), (2, .int y2)] rfl (by rw [eNL]; decide) rfl dX9_span_165 ?_
            refine V_goto C0 (tgt := 290) (by decide) dX9_span_166 ?_
            cases q6
            exact V_sub [1, 0, 2] rfl k7
          · have q6 := (if_neg c10).symm.trans q6
            have nd8 := nd_add nd8 c10
            by_cases c14 : v4 = (3 : Int32)
            · have q6 := (if_pos c14).symm.trans q6
              refine V_tableC C0 (tgt := 169) (v := (3 : Int32)) c14 (by decide) (by decide) dX9_span_27 ?_
              refine V_iconst C0 (v := (2 : Int32)) (by decide) dX9_span_169 ?_
              refine V_aload_n C0 0 rfl rfl dX9_span_170 ?_
              obtain ⟨a15, qa15, q6⟩ := bnd_some q6
              refine V_getR C0 8 0 fl_X9_9 ho0 hk0 rfl (rf_at qa15) dX9_span_171 ?_
              refine V_bipush C0 (v := (16 : Int32)) (by decide) dX9_span_174 ?_
              obtain ⟨v16, qv16, q6⟩ := bnd_some q6
              refine V_ri C0 (rf_lt qa15) (rf_kd qa15) qv16 dX9_span_176 ?_
              refine V_iadd C0 dX9_span_177 ?_
              refine V_aload_n C0 0 rfl rfl dX9_span_178 ?_
              refine V_getR C0 8 0 fl_X9_9 ho0 hk0 rfl (rf_at qa15) dX9_span_179 ?_
              refine V_bipush C0 (v := (12 : Int32)) (by decide) dX9_span_182 ?_
              obtain ⟨v17, qv17, q6⟩ := bnd_some q6
              refine V_ri C0 (rf_lt qa15) (rf_kd qa15) qv17 dX9_span_184 ?_
              refine V_iadd C0 dX9_span_185 ?_
              obtain ⟨u18, eu18, q6⟩ := wr_some q6
              rw [← eu18]
              refine V_istore_n C0 [(1, .int u18), (0, .ref (G.ad y0)), (2, .int y2)] rfl (by rw [eNL]; decide) rfl dX9_span_186 ?_
              refine V_goto C0 (tgt := 290) (by decide) dX9_span_187 ?_
              cases q6
              exact V_sub [1, 0, 2] rfl k7
            · have q6 := (if_neg c14).symm.trans q6
              have nd8 := nd_add nd8 c14
              by_cases c19 : v4 = (5 : Int32)
              · have q6 := (if_pos c19).symm.trans q6
                refine V_tableC C0 (tgt := 190) (v := (5 : Int32)) c19 (by decide) (by decide) dX9_span_27 ?_
                refine V_iload_n C0 1 rfl rfl dX9_span_190 ?_
                refine V_aload_n C0 0 rfl rfl dX9_span_191 ?_
                obtain ⟨a20, qa20, q6⟩ := bnd_some q6
                refine V_getR C0 8 0 fl_X9_9 ho0 hk0 rfl (rf_at qa20) dX9_span_192 ?_
                refine V_bipush C0 (v := (18 : Int32)) (by decide) dX9_span_195 ?_
                obtain ⟨v21, qv21, q6⟩ := bnd_some q6
                refine V_ri C0 (rf_lt qa20) (rf_kd qa20) qv21 dX9_span_197 ?_
                refine V_iadd C0 dX9_span_198 ?_
                obtain ⟨u22, eu22, q6⟩ := wr_some q6
                rw [← eu22]
                refine V_istore_n C0 [(1, .int u22), (0, .ref (G.ad y0)), (2, .int y2)] rfl (by rw [eNL]; decide) rfl dX9_span_199 ?_
                refine V_goto C0 (tgt := 290) (by decide) dX9_span_200 ?_
                cases q6
                exact V_sub [1, 0, 2] rfl k7
              · have q6 := (if_neg c19).symm.trans q6
                have nd8 := nd_add nd8 c19
                by_cases c23 : v4 = (9 : Int32)
                · have q6 := (if_pos c23).symm.trans q6
                  refine V_tableC C0 (tgt := 203) (v := (9 : Int32)) c23 (by decide) (by decide) dX9_span_27 ?_
                  refine V_iload_n C0 1 rfl rfl dX9_span_203 ?_
                  refine V_aload_n C0 0 rfl rfl dX9_span_204 ?_
                  obtain ⟨a24, qa24, q6⟩ := bnd_some q6
                  refine V_getR C0 8 0 fl_X9_9 ho0 hk0 rfl (rf_at qa24) dX9_span_205 ?_
                  refine V_bipush C0 (v := (30 : Int32)) (by decide) dX9_span_208 ?_
                  obtain ⟨v25, qv25, q6⟩ := bnd_some q6
                  refine V_ri C0 (rf_lt qa24) (rf_kd qa24) qv25 dX9_span_210 ?_
                  refine V_iadd C0 dX9_span_211 ?_
                  obtain ⟨u26, eu26, q6⟩ := wr_some q6
                  rw [← eu26]
                  refine V_istore_n C0 [(1, .int u26), (0, .ref (G.ad y0)), (2, .int y2)] rfl (by rw [eNL]; decide) rfl dX9_span_212 ?_
                  refine V_goto C0 (tgt := 290) (by decide) dX9_span_213 ?_
                  cases q6
                  exact V_sub [1, 0, 2] rfl k7
                · have q6 := (if_neg c23).symm.trans q6
                  have nd8 := nd_add nd8 c23
                  by_cases c27 : v4 = (14 : Int32)
                  · have q6 := (if_pos c27).symm.trans q6
                    refine V_tableC C0 (tgt := 216) (v := (14 : Int32)) c27 (by decide) (by decide) dX9_span_27 ?_
                    refine V_iload_n C0 1 rfl rfl dX9_span_216 ?_
                    refine V_aload_n C0 0 rfl rfl dX9_span_217 ?_
                    obtain ⟨a28, qa28, q6⟩ := bnd_some q6
                    refine V_getR C0 8 0 fl_X9_9 ho0 hk0 rfl (rf_at qa28) dX9_span_218 ?_
                    refine V_bipush C0 (v := (39 : Int32)) (by decide) dX9_span_221 ?_
                    obtain ⟨v29, qv29, q6⟩ := bnd_some q6
                    refine V_ri C0 (rf_lt qa28) (rf_kd qa28) qv29 dX9_span_223 ?_
                    refine V_iadd C0 dX9_span_224 ?_
                    obtain ⟨u30, eu30, q6⟩ := wr_some q6
                    rw [← eu30]
                    refine V_istore_n C0 [(1, .int u30), (0, .ref (G.ad y0)), (2, .int y2)] rfl (by rw [eNL]; decide) rfl dX9_span_225 ?_
                    refine V_goto C0 (tgt := 290) (by decide) dX9_span_226 ?_
                    cases q6
                    exact V_sub [1, 0, 2] rfl k7
                  · have q6 := (if_neg c27).symm.trans q6
                    have nd8 := nd_add nd8 c27
                    by_cases c31 : v4 = (19 : Int32)
                    · have q6 := (if_pos c31).symm.trans q6
                      refine V_tableC C0 (tgt := 229) (v := (19 : Int32)) c31 (by decide) (by decide) dX9_span_27 ?_
                      refine V_iconst C0 (v := (3 : Int32)) (by decide) dX9_span_229 ?_
                      refine V_istore_n C0 [(1, .int (3 : Int32)), (0, .ref (G.ad y0)), (2, .int y2)] rfl (by rw [eNL]; decide) rfl dX9_span_230 ?_
                      refine V_goto C0 (tgt := 290) (by decide) dX9_span_231 ?_
                      cases q6
                      exact V_sub [1, 0, 2] rfl k7
                    · have q6 := (if_neg c31).symm.trans q6
                      have nd8 := nd_add nd8 c31
                      by_cases c32 : v4 = (20 : Int32)
                      · have q6 := (if_pos c32).symm.trans q6
                        refine V_tableC C0 (tgt := 234) (v := (20 : Int32)) c32 (by decide) (by decide) dX9_span_27 ?_
                        refine V_iconst C0 (v := (2 : Int32)) (by decide) dX9_span_234 ?_
                        refine V_aload_n C0 0 rfl rfl dX9_span_235 ?_
                        obtain ⟨a33, qa33, q6⟩ := bnd_some q6
                        refine V_getR C0 8 0 fl_X9_9 ho0 hk0 rfl (rf_at qa33) dX9_span_236 ?_
                        refine V_bipush C0 (v := (49 : Int32)) (by decide) dX9_span_239 ?_
                        obtain ⟨v34, qv34, q6⟩ := bnd_some q6
                        refine V_ri C0 (rf_lt qa33) (rf_kd qa33) qv34 dX9_span_241 ?_
                        refine V_iconst C0 (v := (3 : Int32)) (by decide) dX9_span_242 ?_
                        refine V_irem C0 (by decide) dX9_span_243 ?_
                        refine V_iadd C0 dX9_span_244 ?_
                        obtain ⟨u35, eu35, q6⟩ := wr_some q6
                        rw [← eu35]
                        refine V_istore_n C0 [(1, .int u35), (0, .ref (G.ad y0)), (2, .int y2)] rfl (by rw [eNL]; decide) rfl dX9_span_245 ?_
                        refine V_goto C0 (tgt := 290) (by decide) dX9_span_246 ?_
                        cases q6
                        exact V_sub [1, 0, 2] rfl k7
                      · have q6 := (if_neg c32).symm.trans q6
                        have nd8 := nd_add nd8 c32
                        by_cases c36 : v4 = (23 : Int32)
                        · have q6 := (if_pos c36).symm.trans q6
                          refine V_tableC C0 (tgt := 249) (v := (23 : Int32)) c36 (by decide) (by decide) dX9_span_27 ?_
                          refine V_iconst C0 (v := (1 : Int32)) (by decide) dX9_span_249 ?_
                          refine V_aload_n C0 0 rfl rfl dX9_span_250 ?_
                          obtain ⟨a37, qa37, q6⟩ := bnd_some q6
                          refine V_getR C0 8 0 fl_X9_9 ho0 hk0 rfl (rf_at qa37) dX9_span_251 ?_
                          refine V_bipush C0 (v := (54 : Int32)) (by decide) dX9_span_254 ?_
                          obtain ⟨v38, qv38, q6⟩ := bnd_some q6
                          refine V_ri C0 (rf_lt qa37) (rf_kd qa37) qv38 dX9_span_256 ?_
                          refine V_iadd C0 dX9_span_257 ?_
                          obtain ⟨u39, eu39, q6⟩ := wr_some q6
                          rw [← eu39]
                          refine V_istore_n C0 [(1, .int u39), (0, .ref (G.ad y0)), (2, .int y2)] rfl (by rw [eNL]; decide) rfl dX9_span_258 ?_
                          refine V_goto C0 (tgt := 290) (by decide) dX9_span_259 ?_
                          cases q6
                          exact V_sub [1, 0, 2] rfl k7
                        · have q6 := (if_neg c36).symm.trans q6
                          have nd8 := nd_add nd8 c36
                          by_cases c40 : v4 = (24 : Int32)
                          · have q6 := (if_pos c40).symm.trans q6
                            refine V_tableC C0 (tgt := 262) (v := (24 : Int32)) c40 (by decide) (by decide) dX9_span_27 ?_
                            refine V_iload_n C0 1 rfl rfl dX9_span_262 ?_
                            refine V_aload_n C0 0 rfl rfl dX9_span_263 ?_
                            obtain ⟨a41, qa41, q6⟩ := bnd_some q6
                            refine V_getR C0 8 0 fl_X9_9 ho0 hk0 rfl (rf_at qa41) dX9_span_264 ?_
                            refine V_bipush C0 (v := (55 : Int32)) (by decide) dX9_span_267 ?_
                            obtain ⟨v42, qv42, q6⟩ := bnd_some q6
                            refine V_ri C0 (rf_lt qa41) (rf_kd qa41) qv42 dX9_span_269 ?_
                            refine V_iadd C0 dX9_span_270 ?_
                            obtain ⟨u43, eu43, q6⟩ := wr_some q6
                            rw [← eu43]
                            refine V_istore_n C0 [(1, .int u43), (0, .ref (G.ad y0)), (2, .int y2)] rfl (by rw [eNL]; decide) rfl dX9_span_271 ?_
                            refine V_goto C0 (tgt := 290) (by decide) dX9_span_272 ?_
                            cases q6
                            exact V_sub [1, 0, 2] rfl k7
                          · have q6 := (if_neg c40).symm.trans q6
                            have nd8 := nd_add nd8 c40
                            by_cases c44 : v4 = (26 : Int32)
                            · have q6 := (if_pos c44).symm.trans q6
                              refine V_tableC C0 (tgt := 275) (v := (26 : Int32)) c44 (by decide) (by decide) dX9_span_27 ?_
                              refine V_iconst C0 (v := (1 : Int32)) (by decide) dX9_span_275 ?_
                              refine V_aload_n C0 0 rfl rfl dX9_span_276 ?_
                              obtain ⟨a45, qa45, q6⟩ := bnd_some q6
                              refine V_getR C0 8 0 fl_X9_9 ho0 hk0 rfl (rf_at qa45) dX9_span_277 ?_
                              refine V_bipush C0 (v := (59 : Int32)) (by decide) dX9_span_280 ?_
                              obtain ⟨v46, qv46, q6⟩ := bnd_some q6
                              refine V_ri C0 (rf_lt qa45) (rf_kd qa45) qv46 dX9_span_282 ?_
                              refine V_iconst C0 (v := (2 : Int32)) (by decide) dX9_span_283 ?_
                              refine V_irem C0 (by decide) dX9_span_284 ?_
                              refine V_iadd C0 dX9_span_285 ?_
                              obtain ⟨u47, eu47, q6⟩ := wr_some q6
                              rw [← eu47]
                              refine V_istore_n C0 [(1, .int u47), (0, .ref (G.ad y0)), (2, .int y2)] rfl (by rw [eNL]; decide) rfl dX9_span_286 ?_
                              refine V_goto C0 (tgt := 290) (by decide) dX9_span_287 ?_
                              cases q6
                              exact V_sub [1, 0, 2] rfl k7
                            · have q6 := (if_neg c44).symm.trans q6
                              have nd8 := nd_add nd8 c44
                              refine V_tableN C0 (tgt := 290) nd8 (by decide) (by decide) dX9_span_27 ?_
                              cases q6
                              exact V_sub [0, 1, 2] rfl k7
set_option maxRecDepth 100000 in
set_option maxHeartbeats 4000000 in
theorem c_X9_span (l : Launch) (D : va_G) (cA : Nat → ClassId) (ad : Nat → Nat) (bs : Nat) (X : State → Prop) (hAd : Ax ad bs) (hX : Stb bs X) (N : Nat) (x0 : Nat) (I : MI) (L : ML) (R : MR) (r : Int32) (h : F_X9_span N x0 I L R = some (r)) : Cn l D cA ad bs X yX9_span cX9_span 3 (some .int) 0 0 [.ref (ad x0)] I L R (some (.int r), I, L, R) := by
  refine Cn.ofV hAd hX [(0, .ref (ad x0))] rfl (Nat.le_of_ble_eq_true rfl) (by decide) ?_
  intro G el eD ecA ead ebs eX erm eNL C0
  subst el eD ecA ead ebs eX
  unfold F_X9_span at h
  obtain ⟨c_x0, h⟩ := ite_some h
  refine V_iconst C0 (v := (0 : Int32)) (by decide) dX9_span_0 ?_
  refine V_istore_n C0 [(1, .int (0 : Int32)), (0, .ref (G.ad x0))] rfl (by rw [eNL]; decide) rfl dX9_span_1 ?_
  refine V_iconst C0 (v := (0 : Int32)) (by decide) dX9_span_2 ?_
  refine V_istore_n C0 [(2, .int (0 : Int32)), (1, .int (0 : Int32)), (0, .ref (G.ad x0))] rfl (by rw [eNL]; decide) rfl dX9_span_3 ?_
  obtain ⟨z49, q50, h⟩ := bn1_some h
  refine V_sub [2, 1, 0] rfl (lp_X9_span_4 C0 eNL erm N N x0 (0 : Int32) (0 : Int32) I L R _ c_x0.1 c_x0.2 q50 _ ?_)
  show V G _ 296 [(1, .int z49)] [] I L R
  refine V_iload_n C0 0 rfl rfl dX9_span_296 ?_
  cases h
  exact V_iret C0 dX9_span_297
theorem dJ9_max_7cf53_0 : decode cJ9_max_7cf53 0 = .ok (.iload_n 0, 1) := by decide +kernel
theorem dJ9_max_7cf53_1 : decode cJ9_max_7cf53 1 = .ok (.iload_n 1, 1) := by decide +kernel
theorem dJ9_max_7cf53_2 : decode cJ9_max_7cf53 2 = .ok (.if_icmp .lt 7, 3) := by decide +kernel
theorem dJ9_max_7cf53_5 : decode cJ9_max_7cf53 5 = .ok (.iload_n 0, 1) := by decide +kernel
theorem dJ9_max_7cf53_6 : decode cJ9_max_7cf53 6 = .ok (.goto 4, 3) := by decide +kernel
theorem dJ9_max_7cf53_9 : decode cJ9_max_7cf53 9 = .ok (.iload_n 1, 1) := by decide +kernel
theorem dJ9_max_7cf53_10 : decode cJ9_max_7cf53 10 = .ok (.ireturn, 1) := by decide +kernel
def F_J9_max_7cf53 (x0 : Int32) (x1 : Int32) (I : MI) (L : ML) (R : MR) : Option (Int32) :=
  if x0 < x1 then
    some (x1)
  else
    some (x0)
set_option maxRecDepth 100000 in
set_option maxHeartbeats 4000000 in
theorem c_J9_max_7cf53 (l : Launch) (D : va_G) (cA : Nat → ClassId) (ad : Nat → Nat) (bs : Nat) (X : State → Prop) (hAd : Ax ad bs) (hX : Stb bs X) (x0 : Int32) (x1 : Int32) (I : MI) (L : ML) (R : MR) (r : Int32) (h : F_J9_max_7cf53 x0 x1 I L R = some (r)) : Cn l D cA ad bs X yJ9_max_7cf53 cJ9_max_7cf53 2 (some .int) 0 0 [.int x0, .int x1] I L R (some (.int r), I, L, R) := by
  refine Cn.ofV hAd hX [(0, .int x0), (1, .int x1)] rfl (Nat.le_of_ble_eq_true rfl) (by decide +kernel) ?_
  intro G el eD ecA ead ebs eX erm eNL C0
  subst el eD ecA ead ebs eX
  unfold F_J9_max_7cf53 at h
  refine V_iload_n C0 0 rfl rfl dJ9_max_7cf53_0 ?_
  refine V_iload_n C0 1 rfl rfl dJ9_max_7cf53_1 ?_
  refine V_icmp_lt C0 (tgt := 9) (by decide) dJ9_max_7cf53_2 (fun c1 => ?_) (fun c1 => ?_)
  · have h := (if_pos c1).symm.trans h
    refine V_iload_n C0 1 rfl rfl dJ9_max_7cf53_9 ?_
    cases h
    exact V_iret C0 dJ9_max_7cf53_10
  · have h := (if_neg c1).symm.trans h
    refine V_iload_n C0 0 rfl rfl dJ9_max_7cf53_5 ?_
    refine V_goto C0 (tgt := 10) (by decide) dJ9_max_7cf53_6 ?_
    cases h
    exact V_iret C0 dJ9_max_7cf53_10
theorem dX9_test_0 : decode cX9_test 0 = .ok (.iconst 0, 1) := by decide +kernel
theorem dX9_test_1 : decode cX9_test 1 = .ok (.istore_n 1, 1) := by decide +kernel
theorem dX9_test_2 : decode cX9_test 2 = .ok (.iconst 0, 1) := by decide +kernel
theorem dX9_test_3 : decode cX9_test 3 = .ok (.istore_n 2, 1) := by decide +kernel
theorem dX9_test_4 : decode cX9_test 4 = .ok (.iload_n 2, 1) := by decide +kernel
theorem dX9_test_5 : decode cX9_test 5 = .ok (.aload_n 0, 1) := by decide +kernel
theorem dX9_test_6 : decode cX9_test 6 = .ok (.getfield 53, 3) := by decide +kernel
theorem dX9_test_9 : decode cX9_test 9 = .ok (.if_icmp .ge 315, 3) := by decide +kernel
theorem dX9_test_12 : decode cX9_test 12 = .ok (.iload_n 2, 1) := by decide +kernel
theorem dX9_test_13 : decode cX9_test 13 = .ok (.aload_n 0, 1) := by decide +kernel
theorem dX9_test_14 : decode cX9_test 14 = .ok (.getfield 15, 3) := by decide +kernel
theorem dX9_test_17 : decode cX9_test 17 = .ok (.arraylength, 1) := by decide +kernel
theorem dX9_test_18 : decode cX9_test 18 = .ok (.if_icmp .ge 306, 3) := by decide +kernel
theorem dX9_test_21 : decode cX9_test 21 = .ok (.aload_n 0, 1) := by decide +kernel
theorem dX9_test_22 : decode cX9_test 22 = .ok (.getfield 15, 3) := by decide +kernel
theorem dX9_test_25 : decode cX9_test 25 = .ok (.iload_n 2, 1) := by decide +kernel
theorem dX9_test_26 : decode cX9_test 26 = .ok (.iaload, 1) := by decide +kernel
theorem dX9_test_27 : decode cX9_test 27 = .ok (.tableswitch 291 0 28 #[129, 146, 167, 291, 188, 291, 291, 291, 203, 291, 291, 224, 291, 291, 291, 239, 291, 291, 291, 291, 291, 252, 291, 291, 291, 265, 291, 291, 278], 129) := by decide +kernel
theorem dX9_test_156 : decode cX9_test 156 = .ok (.aload_n 0, 1) := by decide +kernel
theorem dX9_test_157 : decode cX9_test 157 = .ok (.getfield 9, 3) := by decide +kernel
theorem dX9_test_160 : decode cX9_test 160 = .ok (.iconst 2, 1) := by decide +kernel
theorem dX9_test_161 : decode cX9_test 161 = .ok (.iaload, 1) := by decide +kernel
theorem dX9_test_162 : decode cX9_test 162 = .ok (.aload_n 0, 1) := by decide +kernel
theorem dX9_test_163 : decode cX9_test 163 = .ok (.getfield 9, 3) := by decide +kernel
theorem dX9_test_166 : decode cX9_test 166 = .ok (.iconst 3, 1) := by decide +kernel
theorem dX9_test_167 : decode cX9_test 167 = .ok (.iaload, 1) := by decide +kernel
theorem dX9_test_168 : decode cX9_test 168 = .ok (.iadd, 1) := by decide +kernel
theorem dX9_test_169 : decode cX9_test 169 = .ok (.istore_n 1, 1) := by decide +kernel
theorem dX9_test_170 : decode cX9_test 170 = .ok (.goto 148, 3) := by decide +kernel
theorem dX9_test_173 : decode cX9_test 173 = .ok (.iload_n 1, 1) := by decide +kernel
theorem dX9_test_174 : decode cX9_test 174 = .ok (.aload_n 0, 1) := by decide +kernel
theorem dX9_test_175 : decode cX9_test 175 = .ok (.getfield 9, 3) := by decide +kernel
theorem dX9_test_178 : decode cX9_test 178 = .ok (.bipush 7, 2) := by decide +kernel
theorem dX9_test_180 : decode cX9_test 180 = .ok (.iaload, 1) := by decide +kernel
theorem dX9_test_181 : decode cX9_test 181 = .ok (.iadd, 1) := by decide +kernel
theorem dX9_test_182 : decode cX9_test 182 = .ok (.aload_n 0, 1) := by decide +kernel
theorem dX9_test_183 : decode cX9_test 183 = .ok (.getfield 9, 3) := by decide +kernel
theorem dX9_test_186 : decode cX9_test 186 = .ok (.bipush 9, 2) := by decide +kernel
theorem dX9_test_188 : decode cX9_test 188 = .ok (.iaload, 1) := by decide +kernel
theorem dX9_test_189 : decode cX9_test 189 = .ok (.isub, 1) := by decide +kernel
theorem dX9_test_190 : decode cX9_test 190 = .ok (.istore_n 1, 1) := by decide +kernel
theorem dX9_test_191 : decode cX9_test 191 = .ok (.goto 127, 3) := by decide +kernel
theorem dX9_test_194 : decode cX9_test 194 = .ok (.iload_n 1, 1) := by decide +kernel
theorem dX9_test_195 : decode cX9_test 195 = .ok (.aload_n 0, 1) := by decide +kernel
theorem dX9_test_196 : decode cX9_test 196 = .ok (.getfield 9, 3) := by decide +kernel
theorem dX9_test_199 : decode cX9_test 199 = .ok (.bipush 11, 2) := by decide +kernel
theorem dX9_test_201 : decode cX9_test 201 = .ok (.iaload, 1) := by decide +kernel
theorem dX9_test_202 : decode cX9_test 202 = .ok (.aload_n 0, 1) := by decide +kernel
theorem dX9_test_203 : decode cX9_test 203 = .ok (.getfield 9, 3) := by decide +kernel
theorem dX9_test_206 : decode cX9_test 206 = .ok (.bipush 12, 2) := by decide +kernel
theorem dX9_test_208 : decode cX9_test 208 = .ok (.iaload, 1) := by decide +kernel
theorem dX9_test_209 : decode cX9_test 209 = .ok (.imul, 1) := by decide +kernel
theorem dX9_test_210 : decode cX9_test 210 = .ok (.iadd, 1) := by decide +kernel
theorem dX9_test_211 : decode cX9_test 211 = .ok (.istore_n 1, 1) := by decide +kernel
theorem dX9_test_212 : decode cX9_test 212 = .ok (.goto 106, 3) := by decide +kernel
theorem dX9_test_215 : decode cX9_test 215 = .ok (.iload_n 1, 1) := by decide +kernel
theorem dX9_test_216 : decode cX9_test 216 = .ok (.iconst 2, 1) := by decide +kernel
theorem dX9_test_217 : decode cX9_test 217 = .ok (.imul, 1) := by decide +kernel
theorem dX9_test_218 : decode cX9_test 218 = .ok (.aload_n 0, 1) := by decide +kernel
theorem dX9_test_219 : decode cX9_test 219 = .ok (.getfield 9, 3) := by decide +kernel
theorem dX9_test_222 : decode cX9_test 222 = .ok (.bipush 17, 2) := by decide +kernel
theorem dX9_test_224 : decode cX9_test 224 = .ok (.iaload, 1) := by decide +kernel
theorem dX9_test_225 : decode cX9_test 225 = .ok (.isub, 1) := by decide +kernel
theorem dX9_test_226 : decode cX9_test 226 = .ok (.istore_n 1, 1) := by decide +kernel
theorem dX9_test_227 : decode cX9_test 227 = .ok (.goto 91, 3) := by decide +kernel
theorem dX9_test_230 : decode cX9_test 230 = .ok (.iload_n 1, 1) := by decide +kernel
theorem dX9_test_231 : decode cX9_test 231 = .ok (.aload_n 0, 1) := by decide +kernel
theorem dX9_test_232 : decode cX9_test 232 = .ok (.getfield 9, 3) := by decide +kernel
theorem dX9_test_235 : decode cX9_test 235 = .ok (.bipush 26, 2) := by decide +kernel
theorem dX9_test_237 : decode cX9_test 237 = .ok (.iaload, 1) := by decide +kernel
theorem dX9_test_238 : decode cX9_test 238 = .ok (.iadd, 1) := by decide +kernel
theorem dX9_test_239 : decode cX9_test 239 = .ok (.aload_n 0, 1) := by decide +kernel
theorem dX9_test_240 : decode cX9_test 240 = .ok (.getfield 9, 3) := by decide +kernel
theorem dX9_test_243 : decode cX9_test 243 = .ok (.bipush 28, 2) := by decide +kernel
theorem dX9_test_245 : decode cX9_test 245 = .ok (.iaload, 1) := by decide +kernel
theorem dX9_test_246 : decode cX9_test 246 = .ok (.isub, 1) := by decide +kernel
theorem dX9_test_247 : decode cX9_test 247 = .ok (.istore_n 1, 1) := by decide +kernel
theorem dX9_test_248 : decode cX9_test 248 = .ok (.goto 70, 3) := by decide +kernel
theorem dX9_test_251 : decode cX9_test 251 = .ok (.iload_n 1, 1) := by decide +kernel
theorem dX9_test_252 : decode cX9_test 252 = .ok (.iconst 3, 1) := by decide +kernel
theorem dX9_test_253 : decode cX9_test 253 = .ok (.imul, 1) := by decide +kernel
theorem dX9_test_254 : decode cX9_test 254 = .ok (.aload_n 0, 1) := by decide +kernel
theorem dX9_test_255 : decode cX9_test 255 = .ok (.getfield 9, 3) := by decide +kernel
theorem dX9_test_258 : decode cX9_test 258 = .ok (.bipush 36, 2) := by decide +kernel
theorem dX9_test_260 : decode cX9_test 260 = .ok (.iaload, 1) := by decide +kernel
theorem dX9_test_261 : decode cX9_test 261 = .ok (.iadd, 1) := by decide +kernel
theorem dX9_test_262 : decode cX9_test 262 = .ok (.istore_n 1, 1) := by decide +kernel
theorem dX9_test_263 : decode cX9_test 263 = .ok (.goto 55, 3) := by decide +kernel
theorem dX9_test_266 : decode cX9_test 266 = .ok (.iload_n 1, 1) := by decide +kernel
theorem dX9_test_267 : decode cX9_test 267 = .ok (.aload_n 0, 1) := by decide +kernel
theorem dX9_test_268 : decode cX9_test 268 = .ok (.getfield 9, 3) := by decide +kernel
theorem dX9_test_271 : decode cX9_test 271 = .ok (.bipush 42, 2) := by decide +kernel
theorem dX9_test_273 : decode cX9_test 273 = .ok (.iaload, 1) := by decide +kernel
theorem dX9_test_274 : decode cX9_test 274 = .ok (.iadd, 1) := by decide +kernel
theorem dX9_test_275 : decode cX9_test 275 = .ok (.istore_n 1, 1) := by decide +kernel
theorem dX9_test_276 : decode cX9_test 276 = .ok (.goto 42, 3) := by decide +kernel
theorem dX9_test_279 : decode cX9_test 279 = .ok (.iload_n 1, 1) := by decide +kernel
theorem dX9_test_280 : decode cX9_test 280 = .ok (.aload_n 0, 1) := by decide +kernel
theorem dX9_test_281 : decode cX9_test 281 = .ok (.getfield 9, 3) := by decide +kernel
theorem dX9_test_284 : decode cX9_test 284 = .ok (.bipush 31, 2) := by decide +kernel
theorem dX9_test_286 : decode cX9_test 286 = .ok (.iaload, 1) := by decide +kernel
theorem dX9_test_287 : decode cX9_test 287 = .ok (.isub, 1) := by decide +kernel
theorem dX9_test_288 : decode cX9_test 288 = .ok (.istore_n 1, 1) := by decide +kernel
theorem dX9_test_289 : decode cX9_test 289 = .ok (.goto 29, 3) := by decide +kernel
theorem dX9_test_292 : decode cX9_test 292 = .ok (.iload_n 1, 1) := by decide +kernel
theorem dX9_test_293 : decode cX9_test 293 = .ok (.aload_n 0, 1) := by decide +kernel
theorem dX9_test_294 : decode cX9_test 294 = .ok (.getfield 9, 3) := by decide +kernel
theorem dX9_test_297 : decode cX9_test 297 = .ok (.bipush 57, 2) := by decide +kernel
theorem dX9_test_299 : decode cX9_test 299 = .ok (.iaload, 1) := by decide +kernel
theorem dX9_test_300 : decode cX9_test 300 = .ok (.iadd, 1) := by decide +kernel
theorem dX9_test_301 : decode cX9_test 301 = .ok (.istore_n 1, 1) := by decide +kernel
theorem dX9_test_302 : decode cX9_test 302 = .ok (.goto 16, 3) := by decide +kernel
theorem dX9_test_305 : decode cX9_test 305 = .ok (.iload_n 1, 1) := by decide +kernel
theorem dX9_test_306 : decode cX9_test 306 = .ok (.aload_n 0, 1) := by decide +kernel
theorem dX9_test_307 : decode cX9_test 307 = .ok (.getfield 9, 3) := by decide +kernel
theorem dX9_test_310 : decode cX9_test 310 = .ok (.bipush 61, 2) := by decide +kernel
theorem dX9_test_312 : decode cX9_test 312 = .ok (.iaload, 1) := by decide +kernel
theorem dX9_test_313 : decode cX9_test 313 = .ok (.isub, 1) := by decide +kernel
theorem dX9_test_314 : decode cX9_test 314 = .ok (.istore_n 1, 1) := by decide +kernel
theorem dX9_test_315 : decode cX9_test 315 = .ok (.goto 3, 3) := by decide +kernel
theorem dX9_test_318 : decode cX9_test 318 = .ok (.iinc 2 1, 3) := by decide +kernel
theorem dX9_test_321 : decode cX9_test 321 = .ok (.goto (-317), 3) := by decide +kernel
theorem dX9_test_324 : decode cX9_test 324 = .ok (.iload_n 1, 1) := by decide +kernel
theorem dX9_test_325 : decode cX9_test 325 = .ok (.ireturn, 1) := by decide +kernel
def LF_X9_test_4 (N : Nat) : Nat → Nat → Int32 → Int32 → MI → ML → MR → Option (Int32)
  | 0, _, _, _, _, _, _ => none
  | k + 1, y0, y1, y2, I, L, R =>
    if (I y0 7) ≤ y2 then
      some (y1)
    else
      (rf R y0 1 20).bind fun a2 =>
      if (Int32.ofNat (ln a2)) ≤ y2 then
        some (y1)
      else
        (ri I a2 y2).bind fun v4 =>
        bn1 (
          if v4 = (0 : Int32) then
            (rf R y0 0 20).bind fun a10 =>
            (ri I a10 (2 : Int32)).bind fun v11 =>
            (ri I a10 (3 : Int32)).bind fun v12 =>
            wr (v11 + v12) fun (u13 : Int32) =>
            some (u13)
          else
            if v4 = (1 : Int32) then
              (rf R y0 0 20).bind fun a15 =>
              (ri I a15 (7 : Int32)).bind fun v16 =>
              (ri I a15 (9 : Int32)).bind fun v17 =>
              wr ((y1 + v16) - v17) fun (u18 : Int32) =>
              some (u18)
            else
              if v4 = (2 : Int32) then
                (rf R y0 0 20).bind fun a20 =>
                (ri I a20 (11 : Int32)).bind fun v21 =>
                (ri I a20 (12 : Int32)).bind fun v22 =>
                wr (y1 + (v21 * v22)) fun (u23 : Int32) =>
                some (u23)
              else
                if v4 = (4 : Int32) then
                  (rf R y0 0 20).bind fun a25 =>
                  (ri I a25 (17 : Int32)).bind fun v26 =>
                  wr ((y1 * (2 : Int32)) - v26) fun (u27 : Int32) =>
                  some (u27)
                else
                  if v4 = (8 : Int32) then
                    (rf R y0 0 20).bind fun a29 =>
                    (ri I a29 (26 : Int32)).bind fun v30 =>
                    (ri I a29 (28 : Int32)).bind fun v31 =>
                    wr ((y1 + v30) - v31) fun (u32 : Int32) =>
                    some (u32)
                  else
                    if v4 = (11 : Int32) then
                      (rf R y0 0 20).bind fun a34 =>
                      (ri I a34 (36 : Int32)).bind fun v35 =>
                      wr ((y1 * (3 : Int32)) + v35) fun (u36 : Int32) =>
                      some (u36)
                    else
                      if v4 = (15 : Int32) then
                        (rf R y0 0 20).bind fun a38 =>
                        (ri I a38 (42 : Int32)).bind fun v39 =>
                        wr (y1 + v39) fun (u40 : Int32) =>
                        some (u40)
                      else
                        if v4 = (21 : Int32) then
                          (rf R y0 0 20).bind fun a42 =>
                          (ri I a42 (31 : Int32)).bind fun v43 =>
                          wr (y1 - v43) fun (u44 : Int32) =>
                          some (u44)
                        else
                          if v4 = (25 : Int32) then
                            (rf R y0 0 20).bind fun a46 =>
                            (ri I a46 (57 : Int32)).bind fun v47 =>
                            wr (y1 + v47) fun (u48 : Int32) =>
                            some (u48)
                          else
                            if v4 = (28 : Int32) then
                              (rf R y0 0 20).bind fun a50 =>
                              (ri I a50 (61 : Int32)).bind fun v51 =>
                              wr (y1 - v51) fun (u52 : Int32) =>
                              some (u52)
                            else
                              some (y1)
        ) fun (u5 : Int32) =>
        wr (y2 + (1 : Int32)) fun (u53 : Int32) =>
        LF_X9_test_4 N k y0 u5 u53 I L R
def F_X9_test (N : Nat) (x0 : Nat) (I : MI) (L : ML) (R : MR) : Option (Int32) :=
  if kd x0 = 8 ∧ x0 < NN then
  bn1 (LF_X9_test_4 N N x0 (0 : Int32) (0 : Int32) I L R) fun z54 =>
  some (z54)
  else none
set_option maxRecDepth 100000 in
set_option maxHeartbeats 4000000 in
theorem lp_X9_test_4 {G : Gm} (C0 : Cx G (yX9_test.cls) cX9_test (some .int)) (eNL : G.nL = 3) (erm : G.rm = ({ frames := 0, cells := 0, slots := 0, locals := 0 } : Room)) (N : Nat) : ∀ (k : Nat) (y0 : Nat) (y1 : Int32) (y2 : Int32) (I : MI) (L : ML) (R : MR) (z : Int32) (hk0 : kd y0 = 8) (ho0 : y0 < NN), LF_X9_test_4 N k y0 y1 y2 I L R = some z → ∀ f : State → Prop, V G f 324 [(1, .int z)] [] I L R → V G f 4 [(0, .ref (G.ad y0)), (1, .int y1), (2, .int y2)] [] I L R := by
  intro k
  induction k with
  | zero =>
    intro y0 y1 y2 I L R q hk0 ho0 h
    exact absurd h (by simp [LF_X9_test_4])
  | succ k ih =>
    intro y0 y1 y2 I L R q hk0 ho0 h f kx
    rw [LF_X9_test_4] at h
    refine V_iload_n C0 2 rfl rfl dX9_test_4 ?_
    refine V_aload_n C0 0 rfl rfl dX9_test_5 ?_
    refine V_getI C0 8 7 fl_X9_53 ho0 hk0 rfl dX9_test_6 ?_
    refine V_icmp_ge C0 (tgt := 324) (by decide) dX9_test_9 (fun c1 => ?_) (fun c1 => ?_)
    · have h := (if_pos c1).symm.trans h
      cases h
      exact V_sub [1] rfl kx
    · have h := (if_neg c1).symm.trans h
      refine V_iload_n C0 2 rfl rfl dX9_test_12 ?_
      refine V_aload_n C0 0 rfl rfl dX9_test_13 ?_
      obtain ⟨a2, qa2, h⟩ := bnd_some h
      refine V_getR C0 8 1 fl_X9_15 ho0 hk0 rfl (rf_at qa2) dX9_test_14 ?_
      refine V_alen C0 (v := Int32.ofNat (ln a2)) (rf_lt qa2) (by rw [(rf_kd qa2)]; decide) rfl dX9_test_17 ?_
      refine V_icmp_ge C0 (tgt := 324) (by decide) dX9_test_18 (fun c3 => ?_) (fun c3 => ?_)
      · have h := (if_pos c3).symm.trans h
        cases h
        exact V_sub [1] rfl kx
      · have h := (if_neg c3).symm.trans h
        refine V_aload_n C0 0 rfl rfl dX9_test_21 ?_
        refine V_getR C0 8 1 fl_X9_15 ho0 hk0 rfl (rf_at qa2) dX9_test_22 ?_
        refine V_iload_n C0 2 rfl rfl dX9_test_25 ?_
        obtain ⟨v4, qv4, h⟩ := bnd_some h
        refine V_ri C0 (rf_lt qa2) (rf_kd qa2) qv4 dX9_test_26 ?_
        obtain ⟨u5, q6, h⟩ := bn1_some h
        have k7 : V G f 318 [(0, .ref (G.ad y0)), (1, .int u5), (2, .int y2)] [] I L R := by
          obtain ⟨u53, eu53, h⟩ := wr_some h
          refine V_iinc C0 2 [(2, .int u53), (0, .ref (G.ad y0)), (1, .int u5)] rfl (n := 1) (by rw [eu53]; rfl) (by rw [eNL]; decide) rfl dX9_test_318 ?_
          refine V_goto C0 (tgt := 4) (by decide) dX9_test_321 ?_
          exact V_sub [1, 2, 0] rfl (ih y0 u5 u53 I L R _ hk0 ho0 h f kx)
        have nd8 := nd_0 v4
        by_cases c9 : v4 = (0 : Int32)
        · have q6 := (if_pos c9).symm.trans q6
          refine V_tableC C0 (tgt := 156) (v := (0 : Int32)) c9 (by decide) (by decide) dX9_test_27 ?_
          refine V_aload_n C0 0 rfl rfl dX9_test_156 ?_
          obtain ⟨a10, qa10, q6⟩ := bnd_some q6
          refine V_getR C0 8 0 fl_X9_9 ho0 hk0 rfl (rf_at qa10) dX9_test_157 ?_
          refine V_iconst C0 (v := (2 : Int32)) (by decide) dX9_test_160 ?_
          obtain ⟨v11, qv11, q6⟩ := bnd_some q6
          refine V_ri C0 (rf_lt qa10) (rf_kd qa10) qv11 dX9_test_161 ?_
          refine V_aload_n C0 0 rfl rfl dX9_test_162 ?_
          refine V_getR C0 8 0 fl_X9_9 ho0 hk0 rfl (rf_at qa10) dX9_test_163 ?_
          refine V_iconst C0 (v := (3 : Int32)) (by decide) dX9_test_166 ?_
          obtain ⟨v12, qv12, q6⟩ := bnd_some q6
          refine V_ri C0 (rf_lt qa10) (rf_kd qa10) qv12 dX9_test_167 ?_
          refine V_iadd C0 dX9_test_168 ?_
          obtain ⟨u13, eu13, q6⟩ := wr_some q6
          rw [← eu13]
          refine V_istore_n C0 [(1, .int u13), (0, .ref (G.ad y0)), (2, .int y2)] rfl (by rw [eNL]; decide) rfl dX9_test_169 ?_
          refine V_goto C0 (tgt := 318) (by decide) dX9_test_170 ?_
          cases q6
          exact V_sub [1, 0, 2] rfl k7
        · have q6 := (if_neg c9).symm.trans q6
          have nd8 := nd_add nd8 c9
          by_cases c14 : v4 = (1 : Int32)
          · have q6 := (if_pos c14).symm.trans q6
            refine V_tableC C0 (tgt := 173) (v := (1 : Int32)) c14 (by decide) (by decide) dX9_test_27 ?_
            refine V_iload_n C0 1 rfl rfl dX9_test_173 ?_
            refine V_aload_n C0 0 rfl rfl dX9_test_174 ?_
            obtain ⟨a15, qa15, q6⟩ := bnd_some q6
            refine V_getR C0 8 0 fl_X9_9 ho0 hk0 rfl (rf_at qa15) dX9_test_175 ?_
            refine V_bipush C0 (v := (7 : Int32)) (by decide) dX9_test_178 ?_
            obtain ⟨v16, qv16, q6⟩ := bnd_some q6
            refine V_ri C0 (rf_lt qa15) (rf_kd qa15) qv16 dX9_test_180 ?_
            refine V_iadd C0 dX9_test_181 ?_
            refine V_aload_n C0 0 rfl rfl dX9_test_182 ?_
            refine V_getR C0 8 0 fl_X9_9 ho0 hk0 rfl (rf_at qa15) dX9_test_183 ?_
            refine V_bipush C0 (v := (9 : Int32)) (by decide) dX9_test_186 ?_
            obtain ⟨v17, qv17, q6⟩ := bnd_some q6
            refine V_ri C0 (rf_lt qa15) (rf_kd qa15) qv17 dX9_test_188 ?_
            refine V_isub C0 dX9_test_189 ?_
            obtain ⟨u18, eu18, q6⟩ := wr_some q6
            rw [← eu18]
            refine V_istore_n C0 [(1, .int u18), (0, .ref (G.ad y0)), (2, .int y2)] rfl (by rw [eNL]; decide) rfl dX9_test_190 ?_
            refine V_goto C0 (tgt := 318) (by decide) dX9_test_191 ?_
            cases q6
            exact V_sub [1, 0, 2] rfl k7
          · have q6 := (if_neg c14).symm.trans q6
            have nd8 := nd_add nd8 c14
            by_cases c19 : v4 = (2 : Int32)
            · have q6 := (if_pos c19).symm.trans q6
              refine V_tableC C0 (tgt := 194) (v := (2 : Int32)) c19 (by decide) (by decide) dX9_test_27 ?_
              refine V_iload_n C0 1 rfl rfl dX9_test_194 ?_
              refine V_aload_n C0 0 rfl rfl dX9_test_195 ?_
              obtain ⟨a20, qa20, q6⟩ := bnd_some q6
              refine V_getR C0 8 0 fl_X9_9 ho0 hk0 rfl (rf_at qa20) dX9_test_196 ?_
              refine V_bipush C0 (v := (11 : Int32)) (by decide) dX9_test_199 ?_
              obtain ⟨v21, qv21, q6⟩ := bnd_some q6
              refine V_ri C0 (rf_lt qa20) (rf_kd qa20) qv21 dX9_test_201 ?_
              refine V_aload_n C0 0 rfl rfl dX9_test_202 ?_
              refine V_getR C0 8 0 fl_X9_9 ho0 hk0 rfl (rf_at qa20) dX9_test_203 ?_
              refine V_bipush C0 (v := (12 : Int32)) (by decide) dX9_test_206 ?_
              obtain ⟨v22, qv22, q6⟩ := bnd_some q6
              refine V_ri C0 (rf_lt qa20) (rf_kd qa20) qv22 dX9_test_208 ?_
              refine V_imul C0 dX9_test_209 ?_
              refine V_iadd C0 dX9_test_210 ?_
              obtain ⟨u23, eu23, q6⟩ := wr_some q6
              rw [← eu23]
              refine V_istore_n C0 [(1, .int u23), (0, .ref (G.ad y0)), (2, .int y2)] rfl (by rw [eNL]; decide) rfl dX9_test_211 ?_
              refine V_goto C0 (tgt := 318) (by decide) dX9_test_212 ?_
              cases q6
              exact V_sub [1, 0, 2] rfl k7
            · have q6 := (if_neg c19).symm.trans q6
              have nd8 := nd_add nd8 c19
              by_cases c24 : v4 = (4 : Int32)
              · have q6 := (if_pos c24).symm.trans q6
                refine V_tableC C0 (tgt := 215) (v := (4 : Int32)) c24 (by decide) (by decide) dX9_test_27 ?_
                refine V_iload_n C0 1 rfl rfl dX9_test_215 ?_
                refine V_iconst C0 (v := (2 : Int32)) (by decide) dX9_test_216 ?_
                refine V_imul C0 dX9_test_217 ?_
                refine V_aload_n C0 0 rfl rfl dX9_test_218 ?_
                obtain ⟨a25, qa25, q6⟩ := bnd_some q6
                refine V_getR C0 8 0 fl_X9_9 ho0 hk0 rfl (rf_at qa25) dX9_test_219 ?_
                refine V_bipush C0 (v := (17 : Int32)) (by decide) dX9_test_222 ?_
                obtain ⟨v26, qv26, q6⟩ := bnd_some q6
                refine V_ri C0 (rf_lt qa25) (rf_kd qa25) qv26 dX9_test_224 ?_
                refine V_isub C0 dX9_test_225 ?_
                obtain ⟨u27, eu27, q6⟩ := wr_some q6
                rw [← eu27]
                refine V_istore_n C0 [(1, .int u27), (0, .ref (G.ad y0)), (2, .int y2)] rfl (by rw [eNL]; decide) rfl dX9_test_226 ?_
                refine V_goto C0 (tgt := 318) (by decide) dX9_test_227 ?_
                cases q6
                exact V_sub [1, 0, 2] rfl k7
              · have q6 := (if_neg c24).symm.trans q6
                have nd8 := nd_add nd8 c24
                by_cases c28 : v4 = (8 : Int32)
                · have q6 := (if_pos c28).symm.trans q6
                  refine V_tableC C0 (tgt := 230) (v := (8 : Int32)) c28 (by decide) (by decide) dX9_test_27 ?_
                  refine V_iload_n C0 1 rfl rfl dX9_test_230 ?_
                  refine V_aload_n C0 0 rfl rfl dX9_test_231 ?_
                  obtain ⟨a29, qa29, q6⟩ := bnd_some q6
                  refine V_getR C0 8 0 fl_X9_9 ho0 hk0 rfl (rf_at qa29) dX9_test_232 ?_
                  refine V_bipush C0 (v := (26 : Int32)) (by decide) dX9_test_235 ?_
                  obtain ⟨v30, qv30, q6⟩ := bnd_some q6
                  refine V_ri C0 (rf_lt qa29) (rf_kd qa29) qv30 dX9_test_237 ?_
                  refine V_iadd C0 dX9_test_238 ?_
                  refine V_aload_n C0 0 rfl rfl dX9_test_239 ?_
                  refine V_getR C0 8 0 fl_X9_9 ho0 hk0 rfl (rf_at qa29) dX9_test_240 ?_
                  refine V_bipush C0 (v := (28 : Int32)) (by decide) dX9_test_243 ?_
                  obtain ⟨v31, qv31, q6⟩ := bnd_some q6
                  refine V_ri C0 (rf_lt qa29) (rf_kd qa29) qv31 dX9_test_245 ?_
                  refine V_isub C0 dX9_test_246 ?_
                  obtain ⟨u32, eu32, q6⟩ := wr_some q6
                  rw [← eu32]
                  refine V_istore_n C0 [(1, .int u32), (0, .ref (G.ad y0)), (2, .int y2)] rfl (by rw [eNL]; decide) rfl dX9_test_247 ?_
                  refine V_goto C0 (tgt := 318) (by decide) dX9_test_248 ?_
                  cases q6
                  exact V_sub [1, 0, 2] rfl k7
                · have q6 := (if_neg c28).symm.trans q6
                  have nd8 := nd_add nd8 c28
                  by_cases c33 : v4 = (11 : Int32)
                  · have q6 := (if_pos c33).symm.trans q6
                    refine V_tableC C0 (tgt := 251) (v := (11 : Int32)) c33 (by decide) (by decide) dX9_test_27 ?_
                    refine V_iload_n C0 1 rfl rfl dX9_test_251 ?_
                    refine V_iconst C0 (v := (3 : Int32)) (by decide) dX9_test_252 ?_
                    refine V_imul C0 dX9_test_253 ?_
                    refine V_aload_n C0 0 rfl rfl dX9_test_254 ?_
                    obtain ⟨a34, qa34, q6⟩ := bnd_some q6
                    refine V_getR C0 8 0 fl_X9_9 ho0 hk0 rfl (rf_at qa34) dX9_test_255 ?_
                    refine V_bipush C0 (v := (36 : Int32)) (by decide) dX9_test_258 ?_
                    obtain ⟨v35, qv35, q6⟩ := bnd_some q6
                    refine V_ri C0 (rf_lt qa34) (rf_kd qa34) qv35 dX9_test_260 ?_
                    refine V_iadd C0 dX9_test_261 ?_
                    obtain ⟨u36, eu36, q6⟩ := wr_some q6
                    rw [← eu36]
                    refine V_istore_n C0 [(1, .int u36), (0, .ref (G.ad y0)), (2, .int y2)] rfl (by rw [eNL]; decide) rfl dX9_test_262 ?_
                    refine V_goto C0 (tgt := 318) (by decide) dX9_test_263 ?_
                    cases q6
                    exact V_sub [1, 0, 2] rfl k7
                  · have q6 := (if_neg c33).symm.trans q6
                    have nd8 := nd_add nd8 c33
                    by_cases c37 : v4 = (15 : Int32)
                    · have q6 := (if_pos c37).symm.trans q6
                      refine V_tableC C0 (tgt := 266) (v := (15 : Int32)) c37 (by decide) (by decide) dX9_test_27 ?_
                      refine V_iload_n C0 1 rfl rfl dX9_test_266 ?_
                      refine V_aload_n C0 0 rfl rfl dX9_test_267 ?_
                      obtain ⟨a38, qa38, q6⟩ := bnd_some q6
                      refine V_getR C0 8 0 fl_X9_9 ho0 hk0 rfl (rf_at qa38) dX9_test_268 ?_
                      refine V_bipush C0 (v := (42 : Int32)) (by decide) dX9_test_271 ?_
                      obtain ⟨v39, qv39, q6⟩ := bnd_some q6
                      refine V_ri C0 (rf_lt qa38) (rf_kd qa38) qv39 dX9_test_273 ?_
                      refine V_iadd C0 dX9_test_274 ?_
                      obtain ⟨u40, eu40, q6⟩ := wr_some q6
                      rw [← eu40]
                      refine V_istore_n C0 [(1, .int u40), (0, .ref (G.ad y0)), (2, .int y2)] rfl (by rw [eNL]; decide) rfl dX9_test_275 ?_
                      refine V_goto C0 (tgt := 318) (by decide) dX9_test_276 ?_
                      cases q6
                      exact V_sub [1, 0, 2] rfl k7
                    · have q6 := (if_neg c37).symm.trans q6
                      have nd8 := nd_add nd8 c37
                      by_cases c41 : v4 = (21 : Int32)
                      · have q6 := (if_pos c41).symm.trans q6
                        refine V_tableC C0 (tgt := 279) (v := (21 : Int32)) c41 (by decide) (by decide) dX9_test_27 ?_
                        refine V_iload_n C0 1 rfl rfl dX9_test_279 ?_
                        refine V_aload_n C0 0 rfl rfl dX9_test_280 ?_
                        obtain ⟨a42, qa42, q6⟩ := bnd_some q6
                        refine V_getR C0 8 0 fl_X9_9 ho0 hk0 rfl (rf_at qa42) dX9_test_281 ?_
                        refine V_bipush C0 (v := (31 : Int32)) (by decide) dX9_test_284 ?_
                        obtain ⟨v43, qv43, q6⟩ := bnd_some q6
                        refine V_ri C0 (rf_lt qa42) (rf_kd qa42) qv43 dX9_test_286 ?_
                        refine V_isub C0 dX9_test_287 ?_
                        obtain ⟨u44, eu44, q6⟩ := wr_some q6
                        rw [← eu44]
                        refine V_istore_n C0 [(1, .int u44), (0, .ref (G.ad y0)), (2, .int y2)] rfl (by rw [eNL]; decide) rfl dX9_test_288 ?_
                        refine V_goto C0 (tgt := 318) (by decide) dX9_test_289 ?_
                        cases q6
                        exact V_sub [1, 0, 2] rfl k7
                      · have q6 := (if_neg c41).symm.trans q6
                        have nd8 := nd_add nd8 c41
                        by_cases c45 : v4 = (25 : Int32)
                        · have q6 := (if_pos c45).symm.trans q6
                          refine V_tableC C0 (tgt := 292) (v := (25 : Int32)) c45 (by decide) (by decide) dX9_test_27 ?_
                          refine V_iload_n C0 1 rfl rfl dX9_test_292 ?_
                          refine V_aload_n C0 0 rfl rfl dX9_test_293 ?_
                          obtain ⟨a46, qa46, q6⟩ := bnd_some q6
                          refine V_getR C0 8 0 fl_X9_9 ho0 hk0 rfl (rf_at qa46) dX9_test_294 ?_
                          refine V_bipush C0 (v := (57 : Int32)) (by decide) dX9_test_297 ?_
                          obtain ⟨v47, qv47, q6⟩ := bnd_some q6
                          refine V_ri C0 (rf_lt qa46) (rf_kd qa46) qv47 dX9_test_299 ?_
                          refine V_iadd C0 dX9_test_300 ?_
                          obtain ⟨u48, eu48, q6⟩ := wr_some q6
                          rw [← eu48]
                          refine V_istore_n C0 [(1, .int u48), (0, .ref (G.ad y0)), (2, .int y2)] rfl (by rw [eNL]; decide) rfl dX9_test_301 ?_
                          refine V_goto C0 (tgt := 318) (by decide) dX9_test_302 ?_
                          cases q6
                          exact V_sub [1, 0, 2] rfl k7
                        · have q6 := (if_neg c45).symm.trans q6
                          have nd8 := nd_add nd8 c45
                          by_cases c49 : v4 = (28 : Int32)
                          · have q6 := (if_pos c49).symm.trans q6
                            refine V_tableC C0 (tgt := 305) (v := (28 : Int32)) c49 (by decide) (by decide) dX9_test_27 ?_
                            refine V_iload_n C0 1 rfl rfl dX9_test_305 ?_
                            refine V_aload_n C0 0 rfl rfl dX9_test_306 ?_
                            obtain ⟨a50, qa50, q6⟩ := bnd_some q6
                            refine V_getR C0 8 0 fl_X9_9 ho0 hk0 rfl (rf_at qa50) dX9_test_307 ?_
                            refine V_bipush C0 (v := (61 : Int32)) (by decide) dX9_test_310 ?_
                            obtain ⟨v51, qv51, q6⟩ := bnd_some q6
                            refine V_ri C0 (rf_lt qa50) (rf_kd qa50) qv51 dX9_test_312 ?_
                            refine V_isub C0 dX9_test_313 ?_
                            obtain ⟨u52, eu52, q6⟩ := wr_some q6
                            rw [← eu52]
                            refine V_istore_n C0 [(1, .int u52), (0, .ref (G.ad y0)), (2, .int y2)] rfl (by rw [eNL]; decide) rfl dX9_test_314 ?_
                            refine V_goto C0 (tgt := 318) (by decide) dX9_test_315 ?_
                            cases q6
                            exact V_sub [1, 0, 2] rfl k7
                          · have q6 := (if_neg c49).symm.trans q6
                            have nd8 := nd_add nd8 c49
                            refine V_tableN C0 (tgt := 318) nd8 (by decide) (by decide) dX9_test_27 ?_
                            cases q6
                            exact V_sub [0, 1, 2] rfl k7
set_option maxRecDepth 100000 in
set_option maxHeartbeats 4000000 in
theorem c_X9_test (l : Launch) (D : va_G) (cA : Nat → ClassId) (ad : Nat → Nat) (bs : Nat) (X : State → Prop) (hAd : Ax ad bs) (hX : Stb bs X) (N : Nat) (x0 : Nat) (I : MI) (L : ML) (R : MR) (r : Int32) (h : F_X9_test N x0 I L R = some (r)) : Cn l D cA ad bs X yX9_test cX9_test 3 (some .int) 0 0 [.ref (ad x0)] I L R (some (.int r), I, L, R) := by
  refine Cn.ofV hAd hX [(0, .ref (ad x0))] rfl (Nat.le_of_ble_eq_true rfl) (by decide) ?_
  intro G el eD ecA ead ebs eX erm eNL C0
  subst el eD ecA ead ebs eX
  unfold F_X9_test at h
  obtain ⟨c_x0, h⟩ := ite_some h
  refine V_iconst C0 (v := (0 : Int32)) (by decide) dX9_test_0 ?_
  refine V_istore_n C0 [(1, .int (0 : Int32)), (0, .ref (G.ad x0))] rfl (by rw [eNL]; decide) rfl dX9_test_1 ?_
  refine V_iconst C0 (v := (0 : Int32)) (by decide) dX9_test_2 ?_
  refine V_istore_n C0 [(2, .int (0 : Int32)), (1, .int (0 : Int32)), (0, .ref (G.ad x0))] rfl (by rw [eNL]; decide) rfl dX9_test_3 ?_
  obtain ⟨z54, q55, h⟩ := bn1_some h
  refine V_sub [2, 1, 0] rfl (lp_X9_test_4 C0 eNL erm N N x0 (0 : Int32) (0 : Int32) I L R _ c_x0.1 c_x0.2 q55 _ ?_)
  show V G _ 324 [(1, .int z54)] [] I L R
  refine V_iload_n C0 0 rfl rfl dX9_test_324 ?_
  cases h
  exact V_iret C0 dX9_test_325
theorem dX10_jot_0 : decode cX10_jot 0 = .ok (.iconst 3, 1) := by decide +kernel
theorem dX10_jot_1 : decode cX10_jot 1 = .ok (.aload_n 0, 1) := by decide +kernel
theorem dX10_jot_2 : decode cX10_jot 2 = .ok (.getfield 54, 3) := by decide +kernel
theorem dX10_jot_5 : decode cX10_jot 5 = .ok (.imul, 1) := by decide +kernel
theorem dX10_jot_6 : decode cX10_jot 6 = .ok (.istore 4, 2) := by decide +kernel
theorem dX10_jot_8 : decode cX10_jot 8 = .ok (.iload 4, 2) := by decide +kernel
theorem dX10_jot_10 : decode cX10_jot 10 = .ok (.ifCond .lt 48, 3) := by decide +kernel
theorem dX10_jot_13 : decode cX10_jot 13 = .ok (.iload 4, 2) := by decide +kernel
theorem dX10_jot_15 : decode cX10_jot 15 = .ok (.iconst 2, 1) := by decide +kernel
theorem dX10_jot_16 : decode cX10_jot 16 = .ok (.iadd, 1) := by decide +kernel
theorem dX10_jot_17 : decode cX10_jot 17 = .ok (.aload_n 0, 1) := by decide +kernel
theorem dX10_jot_18 : decode cX10_jot 18 = .ok (.getfield 22, 3) := by decide +kernel
theorem dX10_jot_21 : decode cX10_jot 21 = .ok (.arraylength, 1) := by decide +kernel
theorem dX10_jot_22 : decode cX10_jot 22 = .ok (.if_icmp .ge 36, 3) := by decide +kernel
theorem dX10_jot_25 : decode cX10_jot 25 = .ok (.aload_n 0, 1) := by decide +kernel
theorem dX10_jot_26 : decode cX10_jot 26 = .ok (.getfield 22, 3) := by decide +kernel
theorem dX10_jot_29 : decode cX10_jot 29 = .ok (.iload 4, 2) := by decide +kernel
theorem dX10_jot_31 : decode cX10_jot 31 = .ok (.aload_n 1, 1) := by decide +kernel
theorem dX10_jot_32 : decode cX10_jot 32 = .ok (.getfield 42, 3) := by decide +kernel
theorem dX10_jot_35 : decode cX10_jot 35 = .ok (.iconst 1, 1) := by decide +kernel
theorem dX10_jot_36 : decode cX10_jot 36 = .ok (.iaload, 1) := by decide +kernel
theorem dX10_jot_37 : decode cX10_jot 37 = .ok (.iastore, 1) := by decide +kernel
theorem dX10_jot_38 : decode cX10_jot 38 = .ok (.aload_n 0, 1) := by decide +kernel
theorem dX10_jot_39 : decode cX10_jot 39 = .ok (.getfield 22, 3) := by decide +kernel
theorem dX10_jot_42 : decode cX10_jot 42 = .ok (.iload 4, 2) := by decide +kernel
theorem dX10_jot_44 : decode cX10_jot 44 = .ok (.iconst 1, 1) := by decide +kernel
theorem dX10_jot_45 : decode cX10_jot 45 = .ok (.iadd, 1) := by decide +kernel
theorem dX10_jot_46 : decode cX10_jot 46 = .ok (.iload_n 2, 1) := by decide +kernel
theorem dX10_jot_47 : decode cX10_jot 47 = .ok (.iastore, 1) := by decide +kernel
theorem dX10_jot_48 : decode cX10_jot 48 = .ok (.aload_n 0, 1) := by decide +kernel
theorem dX10_jot_49 : decode cX10_jot 49 = .ok (.getfield 22, 3) := by decide +kernel
theorem dX10_jot_52 : decode cX10_jot 52 = .ok (.iload 4, 2) := by decide +kernel
theorem dX10_jot_54 : decode cX10_jot 54 = .ok (.iconst 2, 1) := by decide +kernel
theorem dX10_jot_55 : decode cX10_jot 55 = .ok (.iadd, 1) := by decide +kernel
theorem dX10_jot_56 : decode cX10_jot 56 = .ok (.iload_n 3, 1) := by decide +kernel
theorem dX10_jot_57 : decode cX10_jot 57 = .ok (.iastore, 1) := by decide +kernel
theorem dX10_jot_58 : decode cX10_jot 58 = .ok (.aload_n 0, 1) := by decide +kernel
theorem dX10_jot_59 : decode cX10_jot 59 = .ok (.dup, 1) := by decide +kernel
theorem dX10_jot_60 : decode cX10_jot 60 = .ok (.getfield 54, 3) := by decide +kernel
theorem dX10_jot_63 : decode cX10_jot 63 = .ok (.iconst 1, 1) := by decide +kernel
theorem dX10_jot_64 : decode cX10_jot 64 = .ok (.iadd, 1) := by decide +kernel
theorem dX10_jot_65 : decode cX10_jot 65 = .ok (.putfield 54, 3) := by decide +kernel
theorem dX10_jot_68 : decode cX10_jot 68 = .ok (.return_, 1) := by decide +kernel
def F_X10_jot (x0 : Nat) (x1 : Nat) (x2 : Int32) (x3 : Int32) (I : MI) (L : ML) (R : MR) : Option (MI) :=
  if kd x0 = 9 ∧ x0 < NN then
  if kd x1 = 8 ∧ x1 < NN then
  wr ((3 : Int32) * (I x0 7)) fun (u1 : Int32) =>
  bn1 (
    if u1 < 0 then
      some (I)
    else
      (rf R x0 2 20).bind fun a6 =>
      bn1 (
        if (Int32.ofNat (ln a6)) ≤ (u1 + (2 : Int32)) then
          some (I)
        else
          (rf R x1 0 20).bind fun a11 =>
          (ri I a11 (1 : Int32)).bind fun v12 =>
          (wi I a6 u1 v12).bind fun I13 =>
          (wi I13 a6 (u1 + (1 : Int32)) x2).bind fun I14 =>
          (wi I14 a6 (u1 + (2 : Int32)) x3).bind fun I15 =>
          some (I15)
      ) fun (I7 : MI) =>
      some (I7)
  ) fun (I2 : MI) =>
  wr (uI I2 x0 7 ((I2 x0 7) + (1 : Int32))) fun (I16 : MI) =>
  some (I16)
  else none
  else none
set_option maxRecDepth 100000 in
set_option maxHeartbeats 4000000 in
theorem c_X10_jot (l : Launch) (D : va_G) (cA : Nat → ClassId) (ad : Nat → Nat) (bs : Nat) (X : State → Prop) (hAd : Ax ad bs) (hX : Stb bs X) (x0 : Nat) (x1 : Nat) (x2 : Int32) (x3 : Int32) (I : MI) (L : ML) (R : MR) (I' : MI) (h : F_X10_jot x0 x1 x2 x3 I L R = some (I')) : Cn l D cA ad bs X yX10_jot cX10_jot 5 none 0 0 [.ref (ad x0), .ref (ad x1), .int x2, .int x3] I L R (none, I', L, R) := by
  refine Cn.ofV hAd hX [(0, .ref (ad x0)), (1, .ref (ad x1)), (2, .int x2), (3, .int x3)] rfl (Nat.le_of_ble_eq_true rfl) (by decide) ?_
  intro G el eD ecA ead ebs eX erm eNL C0
  subst el eD ecA ead ebs eX
  unfold F_X10_jot at h
  obtain ⟨c_x0, h⟩ := ite_some h
  obtain ⟨c_x1, h⟩ := ite_some h
  refine V_iconst C0 (v := (3 : Int32)) (by decide) dX10_jot_0 ?_
  refine V_aload_n C0 0 rfl rfl dX10_jot_1 ?_
  refine V_getI C0 9 7 fl_X10_54 c_x0.2 c_x0.1 rfl dX10_jot_2 ?_
  refine V_imul C0 dX10_jot_5 ?_
  obtain ⟨u1, eu1, h⟩ := wr_some h
  rw [← eu1]
  refine V_istore C0 [(4, .int u1), (0, .ref (G.ad x0)), (1, .ref (G.ad x1)), (2, .int x2), (3, .int x3)] (by rw [eNL]; decide) rfl dX10_jot_6 ?_
  refine V_iload C0 0 rfl dX10_jot_8 ?_
  obtain ⟨I2, q3, h⟩ := bn1_some h
  have k4 : V G (qf G (none, I', L, R)) 58 [(0, .ref (G.ad x0))] [] I2 L R := by
    refine V_aload_n C0 0 rfl rfl dX10_jot_58 ?_
    refine V_dup C0 rfl dX10_jot_59 ?_
    refine V_getI C0 9 7 fl_X10_54 c_x0.2 c_x0.1 rfl dX10_jot_60 ?_
    refine V_iconst C0 (v := (1 : Int32)) (by decide) dX10_jot_63 ?_
    refine V_iadd C0 dX10_jot_64 ?_
    obtain ⟨I16, eI16, h⟩ := wr_some h
    refine V_putI C0 9 7 fp_X10_54 c_x0.2 c_x0.1 rfl dX10_jot_65 ?_
    rw [← eI16]
    cases h
    exact V_vret C0 dX10_jot_68
  refine V_if_lt C0 (tgt := 58) (by decide) dX10_jot_10 (fun c5 => ?_) (fun c5 => ?_)
  · have q3 := (if_pos c5).symm.trans q3
    cases q3
    exact V_sub [1] rfl k4
  · have q3 := (if_neg c5).symm.trans q3
    refine V_iload C0 0 rfl dX10_jot_13 ?_
    refine V_iconst C0 (v := (2 : Int32)) (by decide) dX10_jot_15 ?_
    refine V_iadd C0 dX10_jot_16 ?_
    refine V_aload_n C0 1 rfl rfl dX10_jot_17 ?_
    obtain ⟨a6, qa6, q3⟩ := bnd_some q3
    refine V_getR C0 9 2 fl_X10_22 c_x0.2 c_x0.1 rfl (rf_at qa6) dX10_jot_18 ?_
    refine V_alen C0 (v := Int32.ofNat (ln a6)) (rf_lt qa6) (by rw [(rf_kd qa6)]; decide) rfl dX10_jot_21 ?_
    obtain ⟨I7, q8, q3⟩ := bn1_some q3
    have k9 : V G (qf G (none, I', L, R)) 58 [(0, .ref (G.ad x0))] [] I7 L R := by
      cases q3
      exact V_sub [0] rfl k4
    refine V_icmp_ge C0 (tgt := 58) (by decide) dX10_jot_22 (fun c10 => ?_) (fun c10 => ?_)
    · have q8 := (if_pos c10).symm.trans q8
      cases q8
      exact V_sub [1] rfl k9
    · have q8 := (if_neg c10).symm.trans q8
      refine V_aload_n C0 1 rfl rfl dX10_jot_25 ?_
      refine V_getR C0 9 2 fl_X10_22 c_x0.2 c_x0.1 rfl (rf_at qa6) dX10_jot_26 ?_
      refine V_iload C0 0 rfl dX10_jot_29 ?_
      refine V_aload_n C0 2 rfl rfl dX10_jot_31 ?_
      obtain ⟨a11, qa11, q8⟩ := bnd_some q8
      refine V_getR C0 8 0 fl_X10_42 c_x1.2 c_x1.1 rfl (rf_at qa11) dX10_jot_32 ?_
      refine V_iconst C0 (v := (1 : Int32)) (by decide) dX10_jot_35 ?_
      obtain ⟨v12, qv12, q8⟩ := bnd_some q8
      refine V_ri C0 (rf_lt qa11) (rf_kd qa11) qv12 dX10_jot_36 ?_
      obtain ⟨I13, qI13, q8⟩ := bnd_some q8
      refine V_wi C0 (rf_lt qa6) (rf_kd qa6) qI13 dX10_jot_37 ?_
      refine V_aload_n C0 1 rfl rfl dX10_jot_38 ?_
      refine V_getR C0 9 2 fl_X10_22 c_x0.2 c_x0.1 rfl (rf_at qa6) dX10_jot_39 ?_
      refine V_iload C0 0 rfl dX10_jot_42 ?_
      refine V_iconst C0 (v := (1 : Int32)) (by decide) dX10_jot_44 ?_
      refine V_iadd C0 dX10_jot_45 ?_
      refine V_iload_n C0 3 rfl rfl dX10_jot_46 ?_
      obtain ⟨I14, qI14, q8⟩ := bnd_some q8
      refine V_wi C0 (rf_lt qa6) (rf_kd qa6) qI14 dX10_jot_47 ?_
      refine V_aload_n C0 1 rfl rfl dX10_jot_48 ?_
      refine V_getR C0 9 2 fl_X10_22 c_x0.2 c_x0.1 rfl (rf_at qa6) dX10_jot_49 ?_
      refine V_iload C0 0 rfl dX10_jot_52 ?_
      refine V_iconst C0 (v := (2 : Int32)) (by decide) dX10_jot_54 ?_
      refine V_iadd C0 dX10_jot_55 ?_
      refine V_iload_n C0 4 rfl rfl dX10_jot_56 ?_
      obtain ⟨I15, qI15, q8⟩ := bnd_some q8
      refine V_wi C0 (rf_lt qa6) (rf_kd qa6) qI15 dX10_jot_57 ?_
      cases q8
      exact V_sub [1] rfl k9
theorem dX10_makeUnit_0 : decode cX10_makeUnit 0 = .ok (.aload_n 1, 1) := by decide +kernel
theorem dX10_makeUnit_1 : decode cX10_makeUnit 1 = .ok (.getfield 42, 3) := by decide +kernel
theorem dX10_makeUnit_4 : decode cX10_makeUnit 4 = .ok (.astore_n 2, 1) := by decide +kernel
theorem dX10_makeUnit_5 : decode cX10_makeUnit 5 = .ok (.aload_n 2, 1) := by decide +kernel
theorem dX10_makeUnit_6 : decode cX10_makeUnit 6 = .ok (.iconst 2, 1) := by decide +kernel
theorem dX10_makeUnit_7 : decode cX10_makeUnit 7 = .ok (.aload_n 0, 1) := by decide +kernel
theorem dX10_makeUnit_8 : decode cX10_makeUnit 8 = .ok (.invokevirtual 184, 3) := by decide +kernel
theorem dX10_makeUnit_11 : decode cX10_makeUnit 11 = .ok (.iastore, 1) := by decide +kernel
theorem dX10_makeUnit_12 : decode cX10_makeUnit 12 = .ok (.aload_n 2, 1) := by decide +kernel
theorem dX10_makeUnit_13 : decode cX10_makeUnit 13 = .ok (.iconst 3, 1) := by decide +kernel
theorem dX10_makeUnit_14 : decode cX10_makeUnit 14 = .ok (.aload_n 1, 1) := by decide +kernel
theorem dX10_makeUnit_15 : decode cX10_makeUnit 15 = .ok (.invokevirtual 187, 3) := by decide +kernel
theorem dX10_makeUnit_18 : decode cX10_makeUnit 18 = .ok (.iastore, 1) := by decide +kernel
theorem dX10_makeUnit_19 : decode cX10_makeUnit 19 = .ok (.aload_n 2, 1) := by decide +kernel
theorem dX10_makeUnit_20 : decode cX10_makeUnit 20 = .ok (.iconst 4, 1) := by decide +kernel
theorem dX10_makeUnit_21 : decode cX10_makeUnit 21 = .ok (.aload_n 0, 1) := by decide +kernel
theorem dX10_makeUnit_22 : decode cX10_makeUnit 22 = .ok (.getfield 48, 3) := by decide +kernel
theorem dX10_makeUnit_25 : decode cX10_makeUnit 25 = .ok (.iastore, 1) := by decide +kernel
theorem dX10_makeUnit_26 : decode cX10_makeUnit 26 = .ok (.aload_n 2, 1) := by decide +kernel
theorem dX10_makeUnit_27 : decode cX10_makeUnit 27 = .ok (.iconst 5, 1) := by decide +kernel
theorem dX10_makeUnit_28 : decode cX10_makeUnit 28 = .ok (.iconst 1, 1) := by decide +kernel
theorem dX10_makeUnit_29 : decode cX10_makeUnit 29 = .ok (.aload_n 1, 1) := by decide +kernel
theorem dX10_makeUnit_30 : decode cX10_makeUnit 30 = .ok (.invokevirtual 190, 3) := by decide +kernel
theorem dX10_makeUnit_33 : decode cX10_makeUnit 33 = .ok (.invokestatic 193, 3) := by decide +kernel
theorem dX10_makeUnit_36 : decode cX10_makeUnit 36 = .ok (.iastore, 1) := by decide +kernel
theorem dX10_makeUnit_37 : decode cX10_makeUnit 37 = .ok (.aload_n 0, 1) := by decide +kernel
theorem dX10_makeUnit_38 : decode cX10_makeUnit 38 = .ok (.dup, 1) := by decide +kernel
theorem dX10_makeUnit_39 : decode cX10_makeUnit 39 = .ok (.getfield 48, 3) := by decide +kernel
theorem dX10_makeUnit_42 : decode cX10_makeUnit 42 = .ok (.aload_n 2, 1) := by decide +kernel
theorem dX10_makeUnit_43 : decode cX10_makeUnit 43 = .ok (.iconst 5, 1) := by decide +kernel
theorem dX10_makeUnit_44 : decode cX10_makeUnit 44 = .ok (.iaload, 1) := by decide +kernel
theorem dX10_makeUnit_45 : decode cX10_makeUnit 45 = .ok (.iadd, 1) := by decide +kernel
theorem dX10_makeUnit_46 : decode cX10_makeUnit 46 = .ok (.putfield 48, 3) := by decide +kernel
theorem dX10_makeUnit_49 : decode cX10_makeUnit 49 = .ok (.aload_n 2, 1) := by decide +kernel
theorem dX10_makeUnit_50 : decode cX10_makeUnit 50 = .ok (.bipush 6, 2) := by decide +kernel
theorem dX10_makeUnit_52 : decode cX10_makeUnit 52 = .ok (.aload_n 1, 1) := by decide +kernel
theorem dX10_makeUnit_53 : decode cX10_makeUnit 53 = .ok (.invokevirtual 78, 3) := by decide +kernel
theorem dX10_makeUnit_56 : decode cX10_makeUnit 56 = .ok (.iastore, 1) := by decide +kernel
theorem dX10_makeUnit_57 : decode cX10_makeUnit 57 = .ok (.aload_n 0, 1) := by decide +kernel
theorem dX10_makeUnit_58 : decode cX10_makeUnit 58 = .ok (.aload_n 1, 1) := by decide +kernel
theorem dX10_makeUnit_59 : decode cX10_makeUnit 59 = .ok (.iconst 0, 1) := by decide +kernel
theorem dX10_makeUnit_60 : decode cX10_makeUnit 60 = .ok (.aload_n 2, 1) := by decide +kernel
theorem dX10_makeUnit_61 : decode cX10_makeUnit 61 = .ok (.bipush 6, 2) := by decide +kernel
theorem dX10_makeUnit_63 : decode cX10_makeUnit 63 = .ok (.iaload, 1) := by decide +kernel
theorem dX10_makeUnit_64 : decode cX10_makeUnit 64 = .ok (.invokevirtual 196, 3) := by decide +kernel
theorem dX10_makeUnit_67 : decode cX10_makeUnit 67 = .ok (.return_, 1) := by decide +kernel
def F_X10_makeUnit (N : Nat) (x0 : Nat) (x1 : Nat) (I : MI) (L : ML) (R : MR) : Option (MI) :=
  if kd x0 = 9 ∧ x0 < NN then
  if kd x1 = 8 ∧ x1 < NN then
  (rf R x1 0 20).bind fun a1 =>
  bn2 (F_X10_draw x0 I L R) fun v2 I3 =>
  (wi I3 a1 (2 : Int32) v2).bind fun I5 =>
  bn1 (F_X9_mass N x1 I5 L R) fun v6 =>
  (wi I5 a1 (3 : Int32) v6).bind fun I8 =>
  (wi I8 a1 (4 : Int32) (I8 x0 5)).bind fun I9 =>
  bn1 (F_X9_span N x1 I9 L R) fun v10 =>
  bn1 (F_J9_max_7cf53 (1 : Int32) v10 I9 L R) fun v12 =>
  (wi I9 a1 (5 : Int32) v12).bind fun I14 =>
  (ri I14 a1 (5 : Int32)).bind fun v15 =>
  wr (uI I14 x0 5 ((I14 x0 5) + v15)) fun (I16 : MI) =>
  bn1 (F_X9_test N x1 I16 L R) fun v17 =>
  (wi I16 a1 (6 : Int32) v17).bind fun I19 =>
  (ri I19 a1 (6 : Int32)).bind fun v20 =>
  bn1 (F_X10_jot x0 x1 (0 : Int32) v20 I19 L R) fun I21 =>
  some (I21)
  else none
  else none
set_option maxRecDepth 100000 in
set_option maxHeartbeats 4000000 in
theorem c_X10_makeUnit (l : Launch) (D : va_G) (cA : Nat → ClassId) (ad : Nat → Nat) (bs : Nat) (X : State → Prop) (hAd : Ax ad bs) (hX : Stb bs X) (N : Nat) (x0 : Nat) (x1 : Nat) (I : MI) (L : ML) (R : MR) (I' : MI) (h : F_X10_makeUnit N x0 x1 I L R = some (I')) : Cn l D cA ad bs X yX10_makeUnit cX10_makeUnit 3 none 1 24 [.ref (ad x0), .ref (ad x1)] I L R (none, I', L, R) := by
  refine Cn.ofV hAd hX [(0, .ref (ad x0)), (1, .ref (ad x1))] rfl (Nat.le_of_ble_eq_true rfl) (by decide) ?_
  intro G el eD ecA ead ebs eX erm eNL C0
  subst el eD ecA ead ebs eX
  unfold F_X10_makeUnit at h
  obtain ⟨c_x0, h⟩ := ite_some h
  obtain ⟨c_x1, h⟩ := ite_some h
  refine V_aload_n C0 1 rfl rfl dX10_makeUnit_0 ?_
  obtain ⟨a1, qa1, h⟩ := bnd_some h
  refine V_getR C0 8 0 fl_X10_42 c_x1.2 c_x1.1 rfl (rf_at qa1) dX10_makeUnit_1 ?_
  refine V_astore_n C0 [(2, .ref (G.ad a1)), (0, .ref (G.ad x0)), (1, .ref (G.ad x1))] rfl (by rw [eNL]; decide) rfl dX10_makeUnit_4 ?_
  refine V_aload_n C0 0 rfl rfl dX10_makeUnit_5 ?_
  refine V_iconst C0 (v := (2 : Int32)) (by decide) dX10_makeUnit_6 ?_
  refine V_aload_n C0 1 rfl rfl dX10_makeUnit_7 ?_
  obtain ⟨v2, I3, q4, h⟩ := bn2_some h
  refine V_callV C0 (st := [.int (2 : Int32), .ref (G.ad a1)]) (As := []) 9 (c_X10_draw G.l G.D G.cA G.ad G.bs G.X C0.2.2.2.2.2.2.2.2.2.1 C0.2.2.2.2.2.2.2.2.2.2.2.2 x0 I L R v2 I3 q4) lc_X10_draw lk_X10_184 c_x0.2 c_x0.1 ⟨_, rfl, rfl⟩ rfl (by rw [erm]; decide) (Nat.le_of_ble_eq_true rfl) dX10_makeUnit_8 ?_
  show V G _ 11 [(2, .ref (G.ad a1)), (0, .ref (G.ad x0)), (1, .ref (G.ad x1))] [.int v2, .int (2 : Int32), .ref (G.ad a1)] I3 L R
  obtain ⟨I5, qI5, h⟩ := bnd_some h
  refine V_wi C0 (rf_lt qa1) (rf_kd qa1) qI5 dX10_makeUnit_11 ?_
  refine V_aload_n C0 0 rfl rfl dX10_makeUnit_12 ?_
  refine V_iconst C0 (v := (3 : Int32)) (by decide) dX10_makeUnit_13 ?_
  refine V_aload_n C0 2 rfl rfl dX10_makeUnit_14 ?_
  obtain ⟨v6, q7, h⟩ := bn1_some h
  refine V_callV C0 (st := [.int (3 : Int32), .ref (G.ad a1)]) (As := []) 8 (c_X9_mass G.l G.D G.cA G.ad G.bs G.X C0.2.2.2.2.2.2.2.2.2.1 C0.2.2.2.2.2.2.2.2.2.2.2.2 N x1 I5 L R v6 q7) lc_X9_mass lk_X10_187 c_x1.2 c_x1.1 ⟨_, rfl, rfl⟩ rfl (by rw [erm]; decide) (Nat.le_of_ble_eq_true rfl) dX10_makeUnit_15 ?_
  show V G _ 18 [(2, .ref (G.ad a1)), (0, .ref (G.ad x0)), (1, .ref (G.ad x1))] [.int v6, .int (3 : Int32), .ref (G.ad a1)] I5 L R
  obtain ⟨I8, qI8, h⟩ := bnd_some h
  refine V_wi C0 (rf_lt qa1) (rf_kd qa1) qI8 dX10_makeUnit_18 ?_
  refine V_aload_n C0 0 rfl rfl dX10_makeUnit_19 ?_
  refine V_iconst C0 (v := (4 : Int32)) (by decide) dX10_makeUnit_20 ?_
  refine V_aload_n C0 1 rfl rfl dX10_makeUnit_21 ?_
  refine V_getI C0 9 5 fl_X10_48 c_x0.2 c_x0.1 rfl dX10_makeUnit_22 ?_
  obtain ⟨I9, qI9, h⟩ := bnd_some h
  refine V_wi C0 (rf_lt qa1) (rf_kd qa1) qI9 dX10_makeUnit_25 ?_
  refine V_aload_n C0 0 rfl rfl dX10_makeUnit_26 ?_
  refine V_iconst C0 (v := (5 : Int32)) (by decide) dX10_makeUnit_27 ?_
  refine V_iconst C0 (v := (1 : Int32)) (by decide) dX10_makeUnit_28 ?_
  refine V_aload_n C0 2 rfl rfl dX10_makeUnit_29 ?_
  obtain ⟨v10, q11, h⟩ := bn1_some h
  refine V_callV C0 (st := [.int (1 : Int32), .int (5 : Int32), .ref (G.ad a1)]) (As := []) 8 (c_X9_span G.l G.D G.cA G.ad G.bs G.X C0.2.2.2.2.2.2.2.2.2.1 C0.2.2.2.2.2.2.2.2.2.2.2.2 N x1 I9 L R v10 q11) lc_X9_span lk_X10_190 c_x1.2 c_x1.1 ⟨_, rfl, rfl⟩ rfl (by rw [erm]; decide) (Nat.le_of_ble_eq_true rfl) dX10_makeUnit_30 ?_
  show V G _ 33 [(2, .ref (G.ad a1)), (0, .ref (G.ad x0)), (1, .ref (G.ad x1))] [.int v10, .int (1 : Int32), .int (5 : Int32), .ref (G.ad a1)] I9 L R
  obtain ⟨v12, q13, h⟩ := bn1_some h
  refine V_callS C0 (st := [.int (5 : Int32), .ref (G.ad a1)]) (As := [.int (1 : Int32), .int v10]) (c_J9_max_7cf53 G.l G.D G.cA G.ad G.bs G.X C0.2.2.2.2.2.2.2.2.2.1 C0.2.2.2.2.2.2.2.2.2.2.2.2 (1 : Int32) v10 I9 L R v12 q13) lc_J9_max_7cf53 lk_X10_193 rfl (by rw [erm]; decide) (Nat.le_of_ble_eq_true rfl) dX10_makeUnit_33 ?_
  show V G _ 36 [(2, .ref (G.ad a1)), (0, .ref (G.ad x0)), (1, .ref (G.ad x1))] [.int v12, .int (5 : Int32), .ref (G.ad a1)] I9 L R
  obtain ⟨I14, qI14, h⟩ := bnd_some h
  refine V_wi C0 (rf_lt qa1) (rf_kd qa1) qI14 dX10_makeUnit_36 ?_
  refine V_aload_n C0 1 rfl rfl dX10_makeUnit_37 ?_
  refine V_dup C0 rfl dX10_makeUnit_38 ?_
  refine V_getI C0 9 5 fl_X10_48 c_x0.2 c_x0.1 rfl dX10_makeUnit_39 ?_
  refine V_aload_n C0 0 rfl rfl dX10_makeUnit_42 ?_
  refine V_iconst C0 (v := (5 : Int32)) (by decide) dX10_makeUnit_43 ?_
  obtain ⟨v15, qv15, h⟩ := bnd_some h
  refine V_ri C0 (rf_lt qa1) (rf_kd qa1) qv15 dX10_makeUnit_44 ?_
  refine V_iadd C0 dX10_makeUnit_45 ?_
  obtain ⟨I16, eI16, h⟩ := wr_some h
  refine V_putI C0 9 5 fp_X10_48 c_x0.2 c_x0.1 rfl dX10_makeUnit_46 ?_
  rw [← eI16]
  refine V_aload_n C0 0 rfl rfl dX10_makeUnit_49 ?_
  refine V_bipush C0 (v := (6 : Int32)) (by decide) dX10_makeUnit_50 ?_
  refine V_aload_n C0 2 rfl rfl dX10_makeUnit_52 ?_
  obtain ⟨v17, q18, h⟩ := bn1_some h
  refine V_callV C0 (st := [.int (6 : Int32), .ref (G.ad a1)]) (As := []) 8 (c_X9_test G.l G.D G.cA G.ad G.bs G.X C0.2.2.2.2.2.2.2.2.2.1 C0.2.2.2.2.2.2.2.2.2.2.2.2 N x1 I16 L R v17 q18) lc_X9_test lk_X10_78 c_x1.2 c_x1.1 ⟨_, rfl, rfl⟩ rfl (by rw [erm]; decide) (Nat.le_of_ble_eq_true rfl) dX10_makeUnit_53 ?_
  show V G _ 56 [(2, .ref (G.ad a1)), (0, .ref (G.ad x0)), (1, .ref (G.ad x1))] [.int v17, .int (6 : Int32), .ref (G.ad a1)] I16 L R
  obtain ⟨I19, qI19, h⟩ := bnd_some h
  refine V_wi C0 (rf_lt qa1) (rf_kd qa1) qI19 dX10_makeUnit_56 ?_
  refine V_aload_n C0 1 rfl rfl dX10_makeUnit_57 ?_
  refine V_aload_n C0 2 rfl rfl dX10_makeUnit_58 ?_
  refine V_iconst C0 (v := (0 : Int32)) (by decide) dX10_makeUnit_59 ?_
  refine V_aload_n C0 0 rfl rfl dX10_makeUnit_60 ?_
  refine V_bipush C0 (v := (6 : Int32)) (by decide) dX10_makeUnit_61 ?_
  obtain ⟨v20, qv20, h⟩ := bnd_some h
  refine V_ri C0 (rf_lt qa1) (rf_kd qa1) qv20 dX10_makeUnit_63 ?_
  obtain ⟨I21, q22, h⟩ := bn1_some h
  refine V_callV C0 (st := []) (As := [.ref (G.ad x1), .int (0 : Int32), .int v20]) 9 (c_X10_jot G.l G.D G.cA G.ad G.bs G.X C0.2.2.2.2.2.2.2.2.2.1 C0.2.2.2.2.2.2.2.2.2.2.2.2 x0 x1 (0 : Int32) v20 I19 L R I21 q22) lc_X10_jot lk_X10_196 c_x0.2 c_x0.1 ⟨_, rfl, rfl⟩ rfl (by rw [erm]; decide) (Nat.le_of_ble_eq_true rfl) dX10_makeUnit_64 ?_
  show V G _ 67 [(2, .ref (G.ad a1)), (0, .ref (G.ad x0)), (1, .ref (G.ad x1))] [] I21 L R
  cases h
  exact V_vret C0 dX10_makeUnit_67
theorem dX10_makeStore_0 : decode cX10_makeStore 0 = .ok (.aload_n 1, 1) := by decide +kernel
theorem dX10_makeStore_1 : decode cX10_makeStore 1 = .ok (.getfield 42, 3) := by decide +kernel
theorem dX10_makeStore_4 : decode cX10_makeStore 4 = .ok (.astore_n 2, 1) := by decide +kernel
theorem dX10_makeStore_5 : decode cX10_makeStore 5 = .ok (.aload_n 2, 1) := by decide +kernel
theorem dX10_makeStore_6 : decode cX10_makeStore 6 = .ok (.bipush 7, 2) := by decide +kernel
theorem dX10_makeStore_8 : decode cX10_makeStore 8 = .ok (.aload_n 0, 1) := by decide +kernel
theorem dX10_makeStore_9 : decode cX10_makeStore 9 = .ok (.invokevirtual 184, 3) := by decide +kernel
theorem dX10_makeStore_12 : decode cX10_makeStore 12 = .ok (.aload_n 2, 1) := by decide +kernel
theorem dX10_makeStore_13 : decode cX10_makeStore 13 = .ok (.iconst 3, 1) := by decide +kernel
theorem dX10_makeStore_14 : decode cX10_makeStore 14 = .ok (.iaload, 1) := by decide +kernel
theorem dX10_makeStore_15 : decode cX10_makeStore 15 = .ok (.iadd, 1) := by decide +kernel
theorem dX10_makeStore_16 : decode cX10_makeStore 16 = .ok (.iastore, 1) := by decide +kernel
theorem dX10_makeStore_17 : decode cX10_makeStore 17 = .ok (.aload_n 2, 1) := by decide +kernel
theorem dX10_makeStore_18 : decode cX10_makeStore 18 = .ok (.bipush 8, 2) := by decide +kernel
theorem dX10_makeStore_20 : decode cX10_makeStore 20 = .ok (.aload_n 1, 1) := by decide +kernel
theorem dX10_makeStore_21 : decode cX10_makeStore 21 = .ok (.invokevirtual 190, 3) := by decide +kernel
theorem dX10_makeStore_24 : decode cX10_makeStore 24 = .ok (.iastore, 1) := by decide +kernel
theorem dX10_makeStore_25 : decode cX10_makeStore 25 = .ok (.aload_n 2, 1) := by decide +kernel
theorem dX10_makeStore_26 : decode cX10_makeStore 26 = .ok (.bipush 9, 2) := by decide +kernel
theorem dX10_makeStore_28 : decode cX10_makeStore 28 = .ok (.aload_n 1, 1) := by decide +kernel
theorem dX10_makeStore_29 : decode cX10_makeStore 29 = .ok (.getfield 200, 3) := by decide +kernel
theorem dX10_makeStore_32 : decode cX10_makeStore 32 = .ok (.iastore, 1) := by decide +kernel
theorem dX10_makeStore_33 : decode cX10_makeStore 33 = .ok (.aload_n 2, 1) := by decide +kernel
theorem dX10_makeStore_34 : decode cX10_makeStore 34 = .ok (.bipush 10, 2) := by decide +kernel
theorem dX10_makeStore_36 : decode cX10_makeStore 36 = .ok (.aload_n 2, 1) := by decide +kernel
theorem dX10_makeStore_37 : decode cX10_makeStore 37 = .ok (.bipush 9, 2) := by decide +kernel
theorem dX10_makeStore_39 : decode cX10_makeStore 39 = .ok (.iaload, 1) := by decide +kernel
theorem dX10_makeStore_40 : decode cX10_makeStore 40 = .ok (.iconst 2, 1) := by decide +kernel
theorem dX10_makeStore_41 : decode cX10_makeStore 41 = .ok (.idiv, 1) := by decide +kernel
theorem dX10_makeStore_42 : decode cX10_makeStore 42 = .ok (.iastore, 1) := by decide +kernel
theorem dX10_makeStore_43 : decode cX10_makeStore 43 = .ok (.aload_n 0, 1) := by decide +kernel
theorem dX10_makeStore_44 : decode cX10_makeStore 44 = .ok (.aload_n 1, 1) := by decide +kernel
theorem dX10_makeStore_45 : decode cX10_makeStore 45 = .ok (.iconst 1, 1) := by decide +kernel
theorem dX10_makeStore_46 : decode cX10_makeStore 46 = .ok (.aload_n 2, 1) := by decide +kernel
theorem dX10_makeStore_47 : decode cX10_makeStore 47 = .ok (.bipush 8, 2) := by decide +kernel
theorem dX10_makeStore_49 : decode cX10_makeStore 49 = .ok (.iaload, 1) := by decide +kernel
theorem dX10_makeStore_50 : decode cX10_makeStore 50 = .ok (.invokevirtual 196, 3) := by decide +kernel
theorem dX10_makeStore_53 : decode cX10_makeStore 53 = .ok (.return_, 1) := by decide +kernel
def F_X10_makeStore (N : Nat) (x0 : Nat) (x1 : Nat) (I : MI) (L : ML) (R : MR) : Option (MI) :=
  if kd x0 = 9 ∧ x0 < NN then
  if kd x1 = 8 ∧ x1 < NN then
  (rf R x1 0 20).bind fun a1 =>
  bn2 (F_X10_draw x0 I L R) fun v2 I3 =>
  (ri I3 a1 (3 : Int32)).bind fun v5 =>
  (wi I3 a1 (7 : Int32) (v2 + v5)).bind fun I6 =>
  bn1 (F_X9_span N x1 I6 L R) fun v7 =>
  (wi I6 a1 (8 : Int32) v7).bind fun I9 =>
  (wi I9 a1 (9 : Int32) (I9 x1 4)).bind fun I10 =>
  (ri I10 a1 (9 : Int32)).bind fun v11 =>
  (wi I10 a1 (10 : Int32) (v11 / (2 : Int32))).bind fun I12 =>
  (ri I12 a1 (8 : Int32)).bind fun v13 =>
  bn1 (F_X10_jot x0 x1 (1 : Int32) v13 I12 L R) fun I14 =>
  some (I14)
  else none
  else none
set_option maxRecDepth 100000 in
set_option maxHeartbeats 4000000 in
theorem c_X10_makeStore (l : Launch) (D : va_G) (cA : Nat → ClassId) (ad : Nat → Nat) (bs : Nat) (X : State → Prop) (hAd : Ax ad bs) (hX : Stb bs X) (N : Nat) (x0 : Nat) (x1 : Nat) (I : MI) (L : ML) (R : MR) (I' : MI) (h : F_X10_makeStore N x0 x1 I L R = some (I')) : Cn l D cA ad bs X yX10_makeStore cX10_makeStore 3 none 1 24 [.ref (ad x0), .ref (ad x1)] I L R (none, I', L, R) := by
  refine Cn.ofV hAd hX [(0, .ref (ad x0)), (1, .ref (ad x1))] rfl (Nat.le_of_ble_eq_true rfl) (by decide) ?_
  intro G el eD ecA ead ebs eX erm eNL C0
  subst el eD ecA ead ebs eX
  unfold F_X10_makeStore at h
  obtain ⟨c_x0, h⟩ := ite_some h
  obtain ⟨c_x1, h⟩ := ite_some h
  refine V_aload_n C0 1 rfl rfl dX10_makeStore_0 ?_
  obtain ⟨a1, qa1, h⟩ := bnd_some h
  refine V_getR C0 8 0 fl_X10_42 c_x1.2 c_x1.1 rfl (rf_at qa1) dX10_makeStore_1 ?_
  refine V_astore_n C0 [(2, .ref (G.ad a1)), (0, .ref (G.ad x0)), (1, .ref (G.ad x1))] rfl (by rw [eNL]; decide) rfl dX10_makeStore_4 ?_
  refine V_aload_n C0 0 rfl rfl dX10_makeStore_5 ?_
  refine V_bipush C0 (v := (7 : Int32)) (by decide) dX10_makeStore_6 ?_
  refine V_aload_n C0 1 rfl rfl dX10_makeStore_8 ?_
  obtain ⟨v2, I3, q4, h⟩ := bn2_some h
  refine V_callV C0 (st := [.int (7 : Int32), .ref (G.ad a1)]) (As := []) 9 (c_X10_draw G.l G.D G.cA G.ad G.bs G.X C0.2.2.2.2.2.2.2.2.2.1 C0.2.2.2.2.2.2.2.2.2.2.2.2 x0 I L R v2 I3 q4) lc_X10_draw lk_X10_184 c_x0.2 c_x0.1 ⟨_, rfl, rfl⟩ rfl (by rw [erm]; decide) (Nat.le_of_ble_eq_true rfl) dX10_makeStore_9 ?_
  show V G _ 12 [(2, .ref (G.ad a1)), (0, .ref (G.ad x0)), (1, .ref (G.ad x1))] [.int v2, .int (7 : Int32), .ref (G.ad a1)] I3 L R
  refine V_aload_n C0 0 rfl rfl dX10_makeStore_12 ?_
  refine V_iconst C0 (v := (3 : Int32)) (by decide) dX10_makeStore_13 ?_
  obtain ⟨v5, qv5, h⟩ := bnd_some h
  refine V_ri C0 (rf_lt qa1) (rf_kd qa1) qv5 dX10_makeStore_14 ?_
  refine V_iadd C0 dX10_makeStore_15 ?_
  obtain ⟨I6, qI6, h⟩ := bnd_some h
  refine V_wi C0 (rf_lt qa1) (rf_kd qa1) qI6 dX10_makeStore_16 ?_
  refine V_aload_n C0 0 rfl rfl dX10_makeStore_17 ?_
  refine V_bipush C0 (v := (8 : Int32)) (by decide) dX10_makeStore_18 ?_
  refine V_aload_n C0 2 rfl rfl dX10_makeStore_20 ?_
  obtain ⟨v7, q8, h⟩ := bn1_some h
  refine V_callV C0 (st := [.int (8 : Int32), .ref (G.ad a1)]) (As := []) 8 (c_X9_span G.l G.D G.cA G.ad G.bs G.X C0.2.2.2.2.2.2.2.2.2.1 C0.2.2.2.2.2.2.2.2.2.2.2.2 N x1 I6 L R v7 q8) lc_X9_span lk_X10_190 c_x1.2 c_x1.1 ⟨_, rfl, rfl⟩ rfl (by rw [erm]; decide) (Nat.le_of_ble_eq_true rfl) dX10_makeStore_21 ?_
  show V G _ 24 [(2, .ref (G.ad a1)), (0, .ref (G.ad x0)), (1, .ref (G.ad x1))] [.int v7, .int (8 : Int32), .ref (G.ad a1)] I6 L R
  obtain ⟨I9, qI9, h⟩ := bnd_some h
  refine V_wi C0 (rf_lt qa1) (rf_kd qa1) qI9 dX10_makeStore_24 ?_
  refine V_aload_n C0 0 rfl rfl dX10_makeStore_25 ?_
  refine V_bipush C0 (v := (9 : Int32)) (by decide) dX10_makeStore_26 ?_
  refine V_aload_n C0 2 rfl rfl dX10_makeStore_28 ?_
  refine V_getI C0 8 4 fl_X10_200 c_x1.2 c_x1.1 rfl dX10_makeStore_29 ?_
  obtain ⟨I10, qI10, h⟩ := bnd_some h
  refine V_wi C0 (rf_lt qa1) (rf_kd qa1) qI10 dX10_makeStore_32 ?_
  refine V_aload_n C0 0 rfl rfl dX10_makeStore_33 ?_
  refine V_bipush C0 (v := (10 : Int32)) (by decide) dX10_makeStore_34 ?_
  refine V_aload_n C0 0 rfl rfl dX10_makeStore_36 ?_
  refine V_bipush C0 (v := (9 : Int32)) (by decide) dX10_makeStore_37 ?_
  obtain ⟨v11, qv11, h⟩ := bnd_some h
  refine V_ri C0 (rf_lt qa1) (rf_kd qa1) qv11 dX10_makeStore_39 ?_
  refine V_iconst C0 (v := (2 : Int32)) (by decide) dX10_makeStore_40 ?_
  refine V_idiv C0 (by decide) dX10_makeStore_41 ?_
  obtain ⟨I12, qI12, h⟩ := bnd_some h
  refine V_wi C0 (rf_lt qa1) (rf_kd qa1) qI12 dX10_makeStore_42 ?_
  refine V_aload_n C0 1 rfl rfl dX10_makeStore_43 ?_
  refine V_aload_n C0 2 rfl rfl dX10_makeStore_44 ?_
  refine V_iconst C0 (v := (1 : Int32)) (by decide) dX10_makeStore_45 ?_
  refine V_aload_n C0 0 rfl rfl dX10_makeStore_46 ?_
  refine V_bipush C0 (v := (8 : Int32)) (by decide) dX10_makeStore_47 ?_
  obtain ⟨v13, qv13, h⟩ := bnd_some h
  refine V_ri C0 (rf_lt qa1) (rf_kd qa1) qv13 dX10_makeStore_49 ?_
  obtain ⟨I14, q15, h⟩ := bn1_some h
  refine V_callV C0 (st := []) (As := [.ref (G.ad x1), .int (1 : Int32), .int v13]) 9 (c_X10_jot G.l G.D G.cA G.ad G.bs G.X C0.2.2.2.2.2.2.2.2.2.1 C0.2.2.2.2.2.2.2.2.2.2.2.2 x0 x1 (1 : Int32) v13 I12 L R I14 q15) lc_X10_jot lk_X10_196 c_x0.2 c_x0.1 ⟨_, rfl, rfl⟩ rfl (by rw [erm]; decide) (Nat.le_of_ble_eq_true rfl) dX10_makeStore_50 ?_
  show V G _ 53 [(2, .ref (G.ad a1)), (0, .ref (G.ad x0)), (1, .ref (G.ad x1))] [] I14 L R
  cases h
  exact V_vret C0 dX10_makeStore_53
theorem dX9_need_0 : decode cX9_need 0 = .ok (.iconst 0, 1) := by decide +kernel
theorem dX9_need_1 : decode cX9_need 1 = .ok (.istore_n 1, 1) := by decide +kernel
theorem dX9_need_2 : decode cX9_need 2 = .ok (.iconst 0, 1) := by decide +kernel
theorem dX9_need_3 : decode cX9_need 3 = .ok (.istore_n 2, 1) := by decide +kernel
theorem dX9_need_4 : decode cX9_need 4 = .ok (.iload_n 2, 1) := by decide +kernel
theorem dX9_need_5 : decode cX9_need 5 = .ok (.aload_n 0, 1) := by decide +kernel
theorem dX9_need_6 : decode cX9_need 6 = .ok (.getfield 53, 3) := by decide +kernel
theorem dX9_need_9 : decode cX9_need 9 = .ok (.if_icmp .ge 228, 3) := by decide +kernel
theorem dX9_need_12 : decode cX9_need 12 = .ok (.iload_n 2, 1) := by decide +kernel
theorem dX9_need_13 : decode cX9_need 13 = .ok (.aload_n 0, 1) := by decide +kernel
theorem dX9_need_14 : decode cX9_need 14 = .ok (.getfield 15, 3) := by decide +kernel
theorem dX9_need_17 : decode cX9_need 17 = .ok (.arraylength, 1) := by decide +kernel
theorem dX9_need_18 : decode cX9_need 18 = .ok (.if_icmp .ge 219, 3) := by decide +kernel
theorem dX9_need_21 : decode cX9_need 21 = .ok (.aload_n 0, 1) := by decide +kernel
theorem dX9_need_22 : decode cX9_need 22 = .ok (.getfield 15, 3) := by decide +kernel
theorem dX9_need_25 : decode cX9_need 25 = .ok (.iload_n 2, 1) := by decide +kernel
theorem dX9_need_26 : decode cX9_need 26 = .ok (.iaload, 1) := by decide +kernel
theorem dX9_need_27 : decode cX9_need 27 = .ok (.tableswitch 204 0 24 #[113, 204, 118, 139, 204, 204, 160, 171, 204, 186, 204, 204, 204, 204, 204, 204, 204, 204, 204, 204, 204, 204, 204, 204, 199], 113) := by decide +kernel
theorem dX9_need_140 : decode cX9_need 140 = .ok (.iconst 0, 1) := by decide +kernel
theorem dX9_need_141 : decode cX9_need 141 = .ok (.istore_n 1, 1) := by decide +kernel
theorem dX9_need_142 : decode cX9_need 142 = .ok (.goto 89, 3) := by decide +kernel
theorem dX9_need_145 : decode cX9_need 145 = .ok (.iconst 2, 1) := by decide +kernel
theorem dX9_need_146 : decode cX9_need 146 = .ok (.aload_n 0, 1) := by decide +kernel
theorem dX9_need_147 : decode cX9_need 147 = .ok (.getfield 9, 3) := by decide +kernel
theorem dX9_need_150 : decode cX9_need 150 = .ok (.bipush 11, 2) := by decide +kernel
theorem dX9_need_152 : decode cX9_need 152 = .ok (.iaload, 1) := by decide +kernel
theorem dX9_need_153 : decode cX9_need 153 = .ok (.iadd, 1) := by decide +kernel
theorem dX9_need_154 : decode cX9_need 154 = .ok (.aload_n 0, 1) := by decide +kernel
theorem dX9_need_155 : decode cX9_need 155 = .ok (.getfield 9, 3) := by decide +kernel
theorem dX9_need_158 : decode cX9_need 158 = .ok (.bipush 12, 2) := by decide +kernel
theorem dX9_need_160 : decode cX9_need 160 = .ok (.iaload, 1) := by decide +kernel
theorem dX9_need_161 : decode cX9_need 161 = .ok (.iadd, 1) := by decide +kernel
theorem dX9_need_162 : decode cX9_need 162 = .ok (.istore_n 1, 1) := by decide +kernel
theorem dX9_need_163 : decode cX9_need 163 = .ok (.goto 68, 3) := by decide +kernel
theorem dX9_need_166 : decode cX9_need 166 = .ok (.aload_n 0, 1) := by decide +kernel
theorem dX9_need_167 : decode cX9_need 167 = .ok (.getfield 9, 3) := by decide +kernel
theorem dX9_need_170 : decode cX9_need 170 = .ok (.bipush 16, 2) := by decide +kernel
theorem dX9_need_172 : decode cX9_need 172 = .ok (.iaload, 1) := by decide +kernel
theorem dX9_need_173 : decode cX9_need 173 = .ok (.iconst 2, 1) := by decide +kernel
theorem dX9_need_174 : decode cX9_need 174 = .ok (.imul, 1) := by decide +kernel
theorem dX9_need_175 : decode cX9_need 175 = .ok (.aload_n 0, 1) := by decide +kernel
theorem dX9_need_176 : decode cX9_need 176 = .ok (.getfield 9, 3) := by decide +kernel
theorem dX9_need_179 : decode cX9_need 179 = .ok (.bipush 14, 2) := by decide +kernel
theorem dX9_need_181 : decode cX9_need 181 = .ok (.iaload, 1) := by decide +kernel
theorem dX9_need_182 : decode cX9_need 182 = .ok (.iadd, 1) := by decide +kernel
theorem dX9_need_183 : decode cX9_need 183 = .ok (.istore_n 1, 1) := by decide +kernel
theorem dX9_need_184 : decode cX9_need 184 = .ok (.goto 47, 3) := by decide +kernel
theorem dX9_need_187 : decode cX9_need 187 = .ok (.aload_n 0, 1) := by decide +kernel
theorem dX9_need_188 : decode cX9_need 188 = .ok (.getfield 9, 3) := by decide +kernel
theorem dX9_need_191 : decode cX9_need 191 = .ok (.bipush 23, 2) := by decide +kernel
theorem dX9_need_193 : decode cX9_need 193 = .ok (.iaload, 1) := by decide +kernel
theorem dX9_need_194 : decode cX9_need 194 = .ok (.istore_n 1, 1) := by decide +kernel
theorem dX9_need_195 : decode cX9_need 195 = .ok (.goto 36, 3) := by decide +kernel
theorem dX9_need_198 : decode cX9_need 198 = .ok (.iload_n 1, 1) := by decide +kernel
theorem dX9_need_199 : decode cX9_need 199 = .ok (.aload_n 0, 1) := by decide +kernel
theorem dX9_need_200 : decode cX9_need 200 = .ok (.getfield 9, 3) := by decide +kernel
theorem dX9_need_203 : decode cX9_need 203 = .ok (.bipush 25, 2) := by decide +kernel
theorem dX9_need_205 : decode cX9_need 205 = .ok (.iaload, 1) := by decide +kernel
theorem dX9_need_206 : decode cX9_need 206 = .ok (.iconst 4, 1) := by decide +kernel
theorem dX9_need_207 : decode cX9_need 207 = .ok (.idiv, 1) := by decide +kernel
theorem dX9_need_208 : decode cX9_need 208 = .ok (.iadd, 1) := by decide +kernel
theorem dX9_need_209 : decode cX9_need 209 = .ok (.istore_n 1, 1) := by decide +kernel
theorem dX9_need_210 : decode cX9_need 210 = .ok (.goto 21, 3) := by decide +kernel
theorem dX9_need_213 : decode cX9_need 213 = .ok (.iload_n 1, 1) := by decide +kernel
theorem dX9_need_214 : decode cX9_need 214 = .ok (.aload_n 0, 1) := by decide +kernel
theorem dX9_need_215 : decode cX9_need 215 = .ok (.getfield 9, 3) := by decide +kernel
theorem dX9_need_218 : decode cX9_need 218 = .ok (.bipush 30, 2) := by decide +kernel
theorem dX9_need_220 : decode cX9_need 220 = .ok (.iaload, 1) := by decide +kernel
theorem dX9_need_221 : decode cX9_need 221 = .ok (.iadd, 1) := by decide +kernel
theorem dX9_need_222 : decode cX9_need 222 = .ok (.istore_n 1, 1) := by decide +kernel
theorem dX9_need_223 : decode cX9_need 223 = .ok (.goto 8, 3) := by decide +kernel
theorem dX9_need_226 : decode cX9_need 226 = .ok (.iconst 3, 1) := by decide +kernel
theorem dX9_need_227 : decode cX9_need 227 = .ok (.istore_n 1, 1) := by decide +kernel
theorem dX9_need_228 : decode cX9_need 228 = .ok (.goto 3, 3) := by decide +kernel
theorem dX9_need_231 : decode cX9_need 231 = .ok (.iinc 2 1, 3) := by decide +kernel
theorem dX9_need_234 : decode cX9_need 234 = .ok (.goto (-230), 3) := by decide +kernel
theorem dX9_need_237 : decode cX9_need 237 = .ok (.iload_n 1, 1) := by decide +kernel
theorem dX9_need_238 : decode cX9_need 238 = .ok (.ireturn, 1) := by decide +kernel
def LF_X9_need_4 (N : Nat) : Nat → Nat → Int32 → Int32 → MI → ML → MR → Option (Int32)
  | 0, _, _, _, _, _, _ => none
  | k + 1, y0, y1, y2, I, L, R =>
    if (I y0 7) ≤ y2 then
      some (y1)
    else
      (rf R y0 1 20).bind fun a2 =>
      if (Int32.ofNat (ln a2)) ≤ y2 then
        some (y1)
      else
        (ri I a2 y2).bind fun v4 =>
        bn1 (
          if v4 = (0 : Int32) then
            some ((0 : Int32))
          else
            if v4 = (2 : Int32) then
              (rf R y0 0 20).bind fun a11 =>
              (ri I a11 (11 : Int32)).bind fun v12 =>
              (ri I a11 (12 : Int32)).bind fun v13 =>
              wr (((2 : Int32) + v12) + v13) fun (u14 : Int32) =>
              some (u14)
            else
              if v4 = (3 : Int32) then
                (rf R y0 0 20).bind fun a16 =>
                (ri I a16 (16 : Int32)).bind fun v17 =>
                (ri I a16 (14 : Int32)).bind fun v18 =>
                wr ((v17 * (2 : Int32)) + v18) fun (u19 : Int32) =>
                some (u19)
              else
                if v4 = (6 : Int32) then
                  (rf R y0 0 20).bind fun a21 =>
                  (ri I a21 (23 : Int32)).bind fun v22 =>
                  some (v22)
                else
                  if v4 = (7 : Int32) then
                    (rf R y0 0 20).bind fun a24 =>
                    (ri I a24 (25 : Int32)).bind fun v25 =>
                    wr (y1 + (v25 / (4 : Int32))) fun (u26 : Int32) =>
                    some (u26)
                  else
                    if v4 = (9 : Int32) then
                      (rf R y0 0 20).bind fun a28 =>
                      (ri I a28 (30 : Int32)).bind fun v29 =>
                      wr (y1 + v29) fun (u30 : Int32) =>
                      some (u30)
                    else
                      if v4 = (24 : Int32) then
                        some ((3 : Int32))
                      else
                        some (y1)
        ) fun (u5 : Int32) =>
        wr (y2 + (1 : Int32)) fun (u32 : Int32) =>
        LF_X9_need_4 N k y0 u5 u32 I L R
def F_X9_need (N : Nat) (x0 : Nat) (I : MI) (L : ML) (R : MR) : Option (Int32) :=
  if kd x0 = 8 ∧ x0 < NN then
  bn1 (LF_X9_need_4 N N x0 (0 : Int32) (0 : Int32) I L R) fun z33 =>
  some (z33)
  else none
set_option maxRecDepth 100000 in
set_option maxHeartbeats 4000000 in
theorem lp_X9_need_4 {G : Gm} (C0 : Cx G (yX9_need.cls) cX9_need (some .int)) (eNL : G.nL = 3) (erm : G.rm = ({ frames := 0, cells := 0, slots := 0, locals := 0 } : Room)) (N : Nat) : ∀ (k : Nat) (y0 : Nat) (y1 : Int32) (y2 : Int32) (I : MI) (L : ML) (R : MR) (z : Int32) (hk0 : kd y0 = 8) (ho0 : y0 < NN), LF_X9_need_4 N k y0 y1 y2 I L R = some z → ∀ f : State → Prop, V G f 237 [(1, .int z)] [] I L R → V G f 4 [(0, .ref (G.ad y0)), (1, .int y1), (2, .int y2)] [] I L R := by
  intro k
  induction k with
  | zero =>
    intro y0 y1 y2 I L R q hk0 ho0 h
    exact absurd h (by simp [LF_X9_need_4])
  | succ k ih =>
    intro y0 y1 y2 I L R q hk0 ho0 h f kx
    rw [LF_X9_need_4] at h
    refine V_iload_n C0 2 rfl rfl dX9_need_4 ?_
    refine V_aload_n C0 0 rfl rfl dX9_need_5 ?_
    refine V_getI C0 8 7 fl_X9_53 ho0 hk0 rfl dX9_need_6 ?_
    refine V_icmp_ge C0 (tgt := 237) (by decide) dX9_need_9 (fun c1 => ?_) (fun c1 => ?_)
    · have h := (if_pos c1).symm.trans h
      cases h
      exact V_sub [1] rfl kx
    · have h := (if_neg c1).symm.trans h
      refine V_iload_n C0 2 rfl rfl dX9_need_12 ?_
      refine V_aload_n C0 0 rfl rfl dX9_need_13 ?_
      obtain ⟨a2, qa2, h⟩ := bnd_some h
      refine V_getR C0 8 1 fl_X9_15 ho0 hk0 rfl (rf_at qa2) dX9_need_14 ?_
      refine V_alen C0 (v := Int32.ofNat (ln a2)) (rf_lt qa2) (by rw [(rf_kd qa2)]; decide) rfl dX9_need_17 ?_
      refine V_icmp_ge C0 (tgt := 237) (by decide) dX9_need_18 (fun c3 => ?_) (fun c3 => ?_)
      · have h := (if_pos c3).symm.trans h
        cases h
        exact V_sub [1] rfl kx
      · have h := (if_neg c3).symm.trans h
        refine V_aload_n C0 0 rfl rfl dX9_need_21 ?_
        refine V_getR C0 8 1 fl_X9_15 ho0 hk0 rfl (rf_at qa2) dX9_need_22 ?_
        refine V_iload_n C0 2 rfl rfl dX9_need_25 ?_
        obtain ⟨v4, qv4, h⟩ := bnd_some h
        refine V_ri C0 (rf_lt qa2) (rf_kd qa2) qv4 dX9_need_26 ?_
        obtain ⟨u5, q6, h⟩ := bn1_some h
        have k7 : V G f 231 [(0, .ref (G.ad y0)), (1, .int u5), (2, .int y2)] [] I L R := by
          obtain ⟨u32, eu32, h⟩ := wr_some h
          refine V_iinc C0 2 [(2, .int u32), (0, .ref (G.ad y0)), (1, .int u5)] rfl (n := 1) (by rw [eu32]; rfl) (by rw [eNL]; decide) rfl dX9_need_231 ?_
          refine V_goto C0 (tgt := 4) (by decide) dX9_need_234 ?_
          exact V_sub [1, 2, 0] rfl (ih y0 u5 u32 I L R _ hk0 ho0 h f kx)
        have nd8 := nd_0 v4
        by_cases c9 : v4 = (0 : Int32)
        · have q6 := (if_pos c9).symm.trans q6
          refine V_tableC C0 (tgt := 140) (v := (0 : Int32)) c9 (by decide) (by decide) dX9_need_27 ?_
          refine V_iconst C0 (v := (0 : Int32)) (by decide) dX9_need_140 ?_
          refine V_istore_n C0 [(1, .int (0 : Int32)), (0, .ref (G.ad y0)), (2, .int y2)] rfl (by rw [eNL]; decide) rfl dX9_need_141 ?_
          refine V_goto C0 (tgt := 231) (by decide) dX9_need_142 ?_
          cases q6
          exact V_sub [1, 0, 2] rfl k7
        · have q6 := (if_neg c9).symm.trans q6
          have nd8 := nd_add nd8 c9
          by_cases c10 : v4 = (2 : Int32)
          · have q6 := (if_pos c10).symm.trans q6
            refine V_tableC C0 (tgt := 145) (v := (2 : Int32)) c10 (by decide) (by decide) dX9_need_27 ?_
            refine V_iconst C0 (v := (2 : Int32)) (by decide) dX9_need_145 ?_
            refine V_aload_n C0 0 rfl rfl dX9_need_146 ?_
            obtain ⟨a11, qa11, q6⟩ := bnd_some q6
            refine V_getR C0 8 0 fl_X9_9 ho0 hk0 rfl (rf_at qa11) dX9_need_147 ?_
            refine V_bipush C0 (v := (11 : Int32)) (by decide) dX9_need_150 ?_
            obtain ⟨v12, qv12, q6⟩ := bnd_some q6
            refine V_ri C0 (rf_lt qa11) (rf_kd qa11) qv12 dX9_need_152 ?_
            refine V_iadd C0 dX9_need_153 ?_
            refine V_aload_n C0 0 rfl rfl dX9_need_154 ?_
            refine V_getR C0 8 0 fl_X9_9 ho0 hk0 rfl (rf_at qa11) dX9_need_155 ?_
            refine V_bipush C0 (v := (12 : Int32)) (by decide) dX9_need_158 ?_
            obtain ⟨v13, qv13, q6⟩ := bnd_some q6
            refine V_ri C0 (rf_lt qa11) (rf_kd qa11) qv13 dX9_need_160 ?_
            refine V_iadd C0 dX9_need_161 ?_
            obtain ⟨u14, eu14, q6⟩ := wr_some q6
            rw [← eu14]
            refine V_istore_n C0 [(1, .int u14), (0, .ref (G.ad y0)), (2, .int y2)] rfl (by rw [eNL]; decide) rfl dX9_need_162 ?_
            refine V_goto C0 (tgt := 231) (by decide) dX9_need_163 ?_
            cases q6
            exact V_sub [1, 0, 2] rfl k7
          · have q6 := (if_neg c10).symm.trans q6
            have nd8 := nd_add nd8 c10
            by_cases c15 : v4 = (3 : Int32)
            · have q6 := (if_pos c15).symm.trans q6
              refine V_tableC C0 (tgt := 166) (v := (3 : Int32)) c15 (by decide) (by decide) dX9_need_27 ?_
              refine V_aload_n C0 0 rfl rfl dX9_need_166 ?_
              obtain ⟨a16, qa16, q6⟩ := bnd_some q6
              refine V_getR C0 8 0 fl_X9_9 ho0 hk0 rfl (rf_at qa16) dX9_need_167 ?_
              refine V_bipush C0 (v := (16 : Int32)) (by decide) dX9_need_170 ?_
              obtain ⟨v17, qv17, q6⟩ := bnd_some q6
              refine V_ri C0 (rf_lt qa16) (rf_kd qa16) qv17 dX9_need_172 ?_
              refine V_iconst C0 (v := (2 : Int32)) (by decide) dX9_need_173 ?_
              refine V_imul C0 dX9_need_174 ?_
              refine V_aload_n C0 0 rfl rfl dX9_need_175 ?_
              refine V_getR C0 8 0 fl_X9_9 ho0 hk0 rfl (rf_at qa16) dX9_need_176 ?_
              refine V_bipush C0 (v := (14 : Int32)) (by decide) dX9_need_179 ?_
              obtain ⟨v18, qv18, q6⟩ := bnd_some q6
              refine V_ri C0 (rf_lt qa16) (rf_kd qa16) qv18 dX9_need_181 ?_
              refine V_iadd C0 dX9_need_182 ?_
              obtain ⟨u19, eu19, q6⟩ := wr_some q6
              rw [← eu19]
              refine V_istore_n C0 [(1, .int u19), (0, .ref (G.ad y0)), (2, .int y2)] rfl (by rw [eNL]; decide) rfl dX9_need_183 ?_
              refine V_goto C0 (tgt := 231) (by decide) dX9_need_184 ?_
              cases q6
              exact V_sub [1, 0, 2] rfl k7
            · have q6 := (if_neg c15).symm.trans q6
              have nd8 := nd_add nd8 c15
              by_cases c20 : v4 = (6 : Int32)
              · have q6 := (if_pos c20).symm.trans q6
                refine V_tableC C0 (tgt := 187) (v := (6 : Int32)) c20 (by decide) (by decide) dX9_need_27 ?_
                refine V_aload_n C0 0 rfl rfl dX9_need_187 ?_
                obtain ⟨a21, qa21, q6⟩ := bnd_some q6
                refine V_getR C0 8 0 fl_X9_9 ho0 hk0 rfl (rf_at qa21) dX9_need_188 ?_
                refine V_bipush C0 (v := (23 : Int32)) (by decide) dX9_need_191 ?_
                obtain ⟨v22, qv22, q6⟩ := bnd_some q6
                refine V_ri C0 (rf_lt qa21) (rf_kd qa21) qv22 dX9_need_193 ?_
                refine V_istore_n C0 [(1, .int v22), (0, .ref (G.ad y0)), (2, .int y2)] rfl (by rw [eNL]; decide) rfl dX9_need_194 ?_
                refine V_goto C0 (tgt := 231) (by decide) dX9_need_195 ?_
                cases q6
                exact V_sub [1, 0, 2] rfl k7
              · have q6 := (if_neg c20).symm.trans q6
                have nd8 := nd_add nd8 c20
                by_cases c23 : v4 = (7 : Int32)
                · have q6 := (if_pos c23).symm.trans q6
                  refine V_tableC C0 (tgt := 198) (v := (7 : Int32)) c23 (by decide) (by decide) dX9_need_27 ?_
                  refine V_iload_n C0 1 rfl rfl dX9_need_198 ?_
                  refine V_aload_n C0 0 rfl rfl dX9_need_199 ?_
                  obtain ⟨a24, qa24, q6⟩ := bnd_some q6
                  refine V_getR C0 8 0 fl_X9_9 ho0 hk0 rfl (rf_at qa24) dX9_need_200 ?_
                  refine V_bipush C0 (v := (25 : Int32)) (by decide) dX9_need_203 ?_
                  obtain ⟨v25, qv25, q6⟩ := bnd_some q6
                  refine V_ri C0 (rf_lt qa24) (rf_kd qa24) qv25 dX9_need_205 ?_
                  refine V_iconst C0 (v := (4 : Int32)) (by decide) dX9_need_206 ?_
                  refine V_idiv C0 (by decide) dX9_need_207 ?_
                  refine V_iadd C0 dX9_need_208 ?_
                  obtain ⟨u26, eu26, q6⟩ := wr_some q6
                  rw [← eu26]
                  refine V_istore_n C0 [(1, .int u26), (0, .ref (G.ad y0)), (2, .int y2)] rfl (by rw [eNL]; decide) rfl dX9_need_209 ?_
                  refine V_goto C0 (tgt := 231) (by decide) dX9_need_210 ?_
                  cases q6
                  exact V_sub [1, 0, 2] rfl k7
                · have q6 := (if_neg c23).symm.trans q6
                  have nd8 := nd_add nd8 c23
                  by_cases c27 : v4 = (9 : Int32)
                  · have q6 := (if_pos c27).symm.trans q6
                    refine V_tableC C0 (tgt := 213) (v := (9 : Int32)) c27 (by decide) (by decide) dX9_need_27 ?_
                    refine V_iload_n C0 1 rfl rfl dX9_need_213 ?_
                    refine V_aload_n C0 0 rfl rfl dX9_need_214 ?_
                    obtain ⟨a28, qa28, q6⟩ := bnd_some q6
                    refine V_getR C0 8 0 fl_X9_9 ho0 hk0 rfl (rf_at qa28) dX9_need_215 ?_
                    refine V_bipush C0 (v := (30 : Int32)) (by decide) dX9_need_218 ?_
                    obtain ⟨v29, qv29, q6⟩ := bnd_some q6
                    refine V_ri C0 (rf_lt qa28) (rf_kd qa28) qv29 dX9_need_220 ?_
                    refine V_iadd C0 dX9_need_221 ?_
                    obtain ⟨u30, eu30, q6⟩ := wr_some q6
                    rw [← eu30]
                    refine V_istore_n C0 [(1, .int u30), (0, .ref (G.ad y0)), (2, .int y2)] rfl (by rw [eNL]; decide) rfl dX9_need_222 ?_
                    refine V_goto C0 (tgt := 231) (by decide) dX9_need_223 ?_
                    cases q6
                    exact V_sub [1, 0, 2] rfl k7
                  · have q6 := (if_neg c27).symm.trans q6
                    have nd8 := nd_add nd8 c27
                    by_cases c31 : v4 = (24 : Int32)
                    · have q6 := (if_pos c31).symm.trans q6
                      refine V_tableC C0 (tgt := 226) (v := (24 : Int32)) c31 (by decide) (by decide) dX9_need_27 ?_
                      refine V_iconst C0 (v := (3 : Int32)) (by decide) dX9_need_226 ?_
                      refine V_istore_n C0 [(1, .int (3 : Int32)), (0, .ref (G.ad y0)), (2, .int y2)] rfl (by rw [eNL]; decide) rfl dX9_need_227 ?_
                      refine V_goto C0 (tgt := 231) (by decide) dX9_need_228 ?_
                      cases q6
                      exact V_sub [1, 0, 2] rfl k7
                    · have q6 := (if_neg c31).symm.trans q6
                      have nd8 := nd_add nd8 c31
                      refine V_tableN C0 (tgt := 231) nd8 (by decide) (by decide) dX9_need_27 ?_
                      cases q6
                      exact V_sub [0, 1, 2] rfl k7
set_option maxRecDepth 100000 in
set_option maxHeartbeats 4000000 in
theorem c_X9_need (l : Launch) (D : va_G) (cA : Nat → ClassId) (ad : Nat → Nat) (bs : Nat) (X : State → Prop) (hAd : Ax ad bs) (hX : Stb bs X) (N : Nat) (x0 : Nat) (I : MI) (L : ML) (R : MR) (r : Int32) (h : F_X9_need N x0 I L R = some (r)) : Cn l D cA ad bs X yX9_need cX9_need 3 (some .int) 0 0 [.ref (ad x0)] I L R (some (.int r), I, L, R) := by
  refine Cn.ofV hAd hX [(0, .ref (ad x0))] rfl (Nat.le_of_ble_eq_true rfl) (by decide) ?_
  intro G el eD ecA ead ebs eX erm eNL C0
  subst el eD ecA ead ebs eX
  unfold F_X9_need at h
  obtain ⟨c_x0, h⟩ := ite_some h
  refine V_iconst C0 (v := (0 : Int32)) (by decide) dX9_need_0 ?_
  refine V_istore_n C0 [(1, .int (0 : Int32)), (0, .ref (G.ad x0))] rfl (by rw [eNL]; decide) rfl dX9_need_1 ?_
  refine V_iconst C0 (v := (0 : Int32)) (by decide) dX9_need_2 ?_
  refine V_istore_n C0 [(2, .int (0 : Int32)), (1, .int (0 : Int32)), (0, .ref (G.ad x0))] rfl (by rw [eNL]; decide) rfl dX9_need_3 ?_
  obtain ⟨z33, q34, h⟩ := bn1_some h
  refine V_sub [2, 1, 0] rfl (lp_X9_need_4 C0 eNL erm N N x0 (0 : Int32) (0 : Int32) I L R _ c_x0.1 c_x0.2 q34 _ ?_)
  show V G _ 237 [(1, .int z33)] [] I L R
  refine V_iload_n C0 0 rfl rfl dX9_need_237 ?_
  cases h
  exact V_iret C0 dX9_need_238
theorem dX10_makeBattery_0 : decode cX10_makeBattery 0 = .ok (.aload_n 1, 1) := by decide +kernel
theorem dX10_makeBattery_1 : decode cX10_makeBattery 1 = .ok (.getfield 42, 3) := by decide +kernel
theorem dX10_makeBattery_4 : decode cX10_makeBattery 4 = .ok (.astore_n 2, 1) := by decide +kernel
theorem dX10_makeBattery_5 : decode cX10_makeBattery 5 = .ok (.aload_n 2, 1) := by decide +kernel
theorem dX10_makeBattery_6 : decode cX10_makeBattery 6 = .ok (.bipush 11, 2) := by decide +kernel
theorem dX10_makeBattery_8 : decode cX10_makeBattery 8 = .ok (.aload_n 0, 1) := by decide +kernel
theorem dX10_makeBattery_9 : decode cX10_makeBattery 9 = .ok (.invokevirtual 184, 3) := by decide +kernel
theorem dX10_makeBattery_12 : decode cX10_makeBattery 12 = .ok (.iconst 5, 1) := by decide +kernel
theorem dX10_makeBattery_13 : decode cX10_makeBattery 13 = .ok (.irem, 1) := by decide +kernel
theorem dX10_makeBattery_14 : decode cX10_makeBattery 14 = .ok (.iastore, 1) := by decide +kernel
theorem dX10_makeBattery_15 : decode cX10_makeBattery 15 = .ok (.aload_n 2, 1) := by decide +kernel
theorem dX10_makeBattery_16 : decode cX10_makeBattery 16 = .ok (.bipush 10, 2) := by decide +kernel
theorem dX10_makeBattery_18 : decode cX10_makeBattery 18 = .ok (.aload_n 2, 1) := by decide +kernel
theorem dX10_makeBattery_19 : decode cX10_makeBattery 19 = .ok (.bipush 9, 2) := by decide +kernel
theorem dX10_makeBattery_21 : decode cX10_makeBattery 21 = .ok (.iaload, 1) := by decide +kernel
theorem dX10_makeBattery_22 : decode cX10_makeBattery 22 = .ok (.iconst 3, 1) := by decide +kernel
theorem dX10_makeBattery_23 : decode cX10_makeBattery 23 = .ok (.imul, 1) := by decide +kernel
theorem dX10_makeBattery_24 : decode cX10_makeBattery 24 = .ok (.iconst 4, 1) := by decide +kernel
theorem dX10_makeBattery_25 : decode cX10_makeBattery 25 = .ok (.idiv, 1) := by decide +kernel
theorem dX10_makeBattery_26 : decode cX10_makeBattery 26 = .ok (.iastore, 1) := by decide +kernel
theorem dX10_makeBattery_27 : decode cX10_makeBattery 27 = .ok (.aload_n 2, 1) := by decide +kernel
theorem dX10_makeBattery_28 : decode cX10_makeBattery 28 = .ok (.bipush 13, 2) := by decide +kernel
theorem dX10_makeBattery_30 : decode cX10_makeBattery 30 = .ok (.aload_n 1, 1) := by decide +kernel
theorem dX10_makeBattery_31 : decode cX10_makeBattery 31 = .ok (.invokevirtual 203, 3) := by decide +kernel
theorem dX10_makeBattery_34 : decode cX10_makeBattery 34 = .ok (.iastore, 1) := by decide +kernel
theorem dX10_makeBattery_35 : decode cX10_makeBattery 35 = .ok (.aload_n 0, 1) := by decide +kernel
theorem dX10_makeBattery_36 : decode cX10_makeBattery 36 = .ok (.aload_n 1, 1) := by decide +kernel
theorem dX10_makeBattery_37 : decode cX10_makeBattery 37 = .ok (.iconst 2, 1) := by decide +kernel
theorem dX10_makeBattery_38 : decode cX10_makeBattery 38 = .ok (.aload_n 2, 1) := by decide +kernel
theorem dX10_makeBattery_39 : decode cX10_makeBattery 39 = .ok (.bipush 13, 2) := by decide +kernel
theorem dX10_makeBattery_41 : decode cX10_makeBattery 41 = .ok (.iaload, 1) := by decide +kernel
theorem dX10_makeBattery_42 : decode cX10_makeBattery 42 = .ok (.invokevirtual 196, 3) := by decide +kernel
theorem dX10_makeBattery_45 : decode cX10_makeBattery 45 = .ok (.return_, 1) := by decide +kernel
def F_X10_makeBattery (N : Nat) (x0 : Nat) (x1 : Nat) (I : MI) (L : ML) (R : MR) : Option (MI) :=
  if kd x0 = 9 ∧ x0 < NN then
  if kd x1 = 8 ∧ x1 < NN then
  (rf R x1 0 20).bind fun a1 =>
  bn2 (F_X10_draw x0 I L R) fun v2 I3 =>
  (wi I3 a1 (11 : Int32) (iR v2 (5 : Int32))).bind fun I5 =>
  (ri I5 a1 (9 : Int32)).bind fun v6 =>
  (wi I5 a1 (10 : Int32) ((v6 * (3 : Int32)) / (4 : Int32))).bind fun I7 =>
  bn1 (F_X9_need N x1 I7 L R) fun v8 =>
  (wi I7 a1 (13 : Int32) v8).bind fun I10 =>
  (ri I10 a1 (13 : Int32)).bind fun v11 =>
  bn1 (F_X10_jot x0 x1 (2 : Int32) v11 I10 L R) fun I12 =>
  some (I12)
  else none
  else none
set_option maxRecDepth 100000 in
set_option maxHeartbeats 4000000 in
theorem c_X10_makeBattery (l : Launch) (D : va_G) (cA : Nat → ClassId) (ad : Nat → Nat) (bs : Nat) (X : State → Prop) (hAd : Ax ad bs) (hX : Stb bs X) (N : Nat) (x0 : Nat) (x1 : Nat) (I : MI) (L : ML) (R : MR) (I' : MI) (h : F_X10_makeBattery N x0 x1 I L R = some (I')) : Cn l D cA ad bs X yX10_makeBattery cX10_makeBattery 3 none 1 24 [.ref (ad x0), .ref (ad x1)] I L R (none, I', L, R) := by
  refine Cn.ofV hAd hX [(0, .ref (ad x0)), (1, .ref (ad x1))] rfl (Nat.le_of_ble_eq_true rfl) (by decide) ?_
  intro G el eD ecA ead ebs eX erm eNL C0
  subst el eD ecA ead ebs eX
  unfold F_X10_makeBattery at h
  obtain ⟨c_x0, h⟩ := ite_some h
  obtain ⟨c_x1, h⟩ := ite_some h
  refine V_aload_n C0 1 rfl rfl dX10_makeBattery_0 ?_
  obtain ⟨a1, qa1, h⟩ := bnd_some h
  refine V_getR C0 8 0 fl_X10_42 c_x1.2 c_x1.1 rfl (rf_at qa1) dX10_makeBattery_1 ?_
  refine V_astore_n C0 [(2, .ref (G.ad a1)), (0, .ref (G.ad x0)), (1, .ref (G.ad x1))] rfl (by rw [eNL]; decide) rfl dX10_makeBattery_4 ?_
  refine V_aload_n C0 0 rfl rfl dX10_makeBattery_5 ?_
  refine V_bipush C0 (v := (11 : Int32)) (by decide) dX10_makeBattery_6 ?_
  refine V_aload_n C0 1 rfl rfl dX10_makeBattery_8 ?_
  obtain ⟨v2, I3, q4, h⟩ := bn2_some h
  refine V_callV C0 (st := [.int (11 : Int32), .ref (G.ad a1)]) (As := []) 9 (c_X10_draw G.l G.D G.cA G.ad G.bs G.X C0.2.2.2.2.2.2.2.2.2.1 C0.2.2.2.2.2.2.2.2.2.2.2.2 x0 I L R v2 I3 q4) lc_X10_draw lk_X10_184 c_x0.2 c_x0.1 ⟨_, rfl, rfl⟩ rfl (by rw [erm]; decide) (Nat.le_of_ble_eq_true rfl) dX10_makeBattery_9 ?_
  show V G _ 12 [(2, .ref (G.ad a1)), (0, .ref (G.ad x0)), (1, .ref (G.ad x1))] [.int v2, .int (11 : Int32), .ref (G.ad a1)] I3 L R
  refine V_iconst C0 (v := (5 : Int32)) (by decide) dX10_makeBattery_12 ?_
  refine V_irem C0 (by decide) dX10_makeBattery_13 ?_
  obtain ⟨I5, qI5, h⟩ := bnd_some h
  refine V_wi C0 (rf_lt qa1) (rf_kd qa1) qI5 dX10_makeBattery_14 ?_
  refine V_aload_n C0 0 rfl rfl dX10_makeBattery_15 ?_
  refine V_bipush C0 (v := (10 : Int32)) (by decide) dX10_makeBattery_16 ?_
  refine V_aload_n C0 0 rfl rfl dX10_makeBattery_18 ?_
  refine V_bipush C0 (v := (9 : Int32)) (by decide) dX10_makeBattery_19 ?_
  obtain ⟨v6, qv6, h⟩ := bnd_some h
  refine V_ri C0 (rf_lt qa1) (rf_kd qa1) qv6 dX10_makeBattery_21 ?_
  refine V_iconst C0 (v := (3 : Int32)) (by decide) dX10_makeBattery_22 ?_
  refine V_imul C0 dX10_makeBattery_23 ?_
  refine V_iconst C0 (v := (4 : Int32)) (by decide) dX10_makeBattery_24 ?_
  refine V_idiv C0 (by decide) dX10_makeBattery_25 ?_
  obtain ⟨I7, qI7, h⟩ := bnd_some h
  refine V_wi C0 (rf_lt qa1) (rf_kd qa1) qI7 dX10_makeBattery_26 ?_
  refine V_aload_n C0 0 rfl rfl dX10_makeBattery_27 ?_
  refine V_bipush C0 (v := (13 : Int32)) (by decide) dX10_makeBattery_28 ?_
  refine V_aload_n C0 2 rfl rfl dX10_makeBattery_30 ?_
  obtain ⟨v8, q9, h⟩ := bn1_some h
  refine V_callV C0 (st := [.int (13 : Int32), .ref (G.ad a1)]) (As := []) 8 (c_X9_need G.l G.D G.cA G.ad G.bs G.X C0.2.2.2.2.2.2.2.2.2.1 C0.2.2.2.2.2.2.2.2.2.2.2.2 N x1 I7 L R v8 q9) lc_X9_need lk_X10_203 c_x1.2 c_x1.1 ⟨_, rfl, rfl⟩ rfl (by rw [erm]; decide) (Nat.le_of_ble_eq_true rfl) dX10_makeBattery_31 ?_
  show V G _ 34 [(2, .ref (G.ad a1)), (0, .ref (G.ad x0)), (1, .ref (G.ad x1))] [.int v8, .int (13 : Int32), .ref (G.ad a1)] I7 L R
  obtain ⟨I10, qI10, h⟩ := bnd_some h
  refine V_wi C0 (rf_lt qa1) (rf_kd qa1) qI10 dX10_makeBattery_34 ?_
  refine V_aload_n C0 1 rfl rfl dX10_makeBattery_35 ?_
  refine V_aload_n C0 2 rfl rfl dX10_makeBattery_36 ?_
  refine V_iconst C0 (v := (2 : Int32)) (by decide) dX10_makeBattery_37 ?_
  refine V_aload_n C0 0 rfl rfl dX10_makeBattery_38 ?_
  refine V_bipush C0 (v := (13 : Int32)) (by decide) dX10_makeBattery_39 ?_
  obtain ⟨v11, qv11, h⟩ := bnd_some h
  refine V_ri C0 (rf_lt qa1) (rf_kd qa1) qv11 dX10_makeBattery_41 ?_
  obtain ⟨I12, q13, h⟩ := bn1_some h
  refine V_callV C0 (st := []) (As := [.ref (G.ad x1), .int (2 : Int32), .int v11]) 9 (c_X10_jot G.l G.D G.cA G.ad G.bs G.X C0.2.2.2.2.2.2.2.2.2.1 C0.2.2.2.2.2.2.2.2.2.2.2.2 x0 x1 (2 : Int32) v11 I10 L R I12 q13) lc_X10_jot lk_X10_196 c_x0.2 c_x0.1 ⟨_, rfl, rfl⟩ rfl (by rw [erm]; decide) (Nat.le_of_ble_eq_true rfl) dX10_makeBattery_42 ?_
  show V G _ 45 [(2, .ref (G.ad a1)), (0, .ref (G.ad x0)), (1, .ref (G.ad x1))] [] I12 L R
  cases h
  exact V_vret C0 dX10_makeBattery_45
theorem dX10_makeCellpack_0 : decode cX10_makeCellpack 0 = .ok (.aload_n 1, 1) := by decide +kernel
theorem dX10_makeCellpack_1 : decode cX10_makeCellpack 1 = .ok (.getfield 42, 3) := by decide +kernel
theorem dX10_makeCellpack_4 : decode cX10_makeCellpack 4 = .ok (.astore_n 2, 1) := by decide +kernel
theorem dX10_makeCellpack_5 : decode cX10_makeCellpack 5 = .ok (.aload_n 2, 1) := by decide +kernel
theorem dX10_makeCellpack_6 : decode cX10_makeCellpack 6 = .ok (.bipush 14, 2) := by decide +kernel
theorem dX10_makeCellpack_8 : decode cX10_makeCellpack 8 = .ok (.iconst 2, 1) := by decide +kernel
theorem dX10_makeCellpack_9 : decode cX10_makeCellpack 9 = .ok (.iastore, 1) := by decide +kernel
theorem dX10_makeCellpack_10 : decode cX10_makeCellpack 10 = .ok (.aload_n 2, 1) := by decide +kernel
theorem dX10_makeCellpack_11 : decode cX10_makeCellpack 11 = .ok (.bipush 15, 2) := by decide +kernel
theorem dX10_makeCellpack_13 : decode cX10_makeCellpack 13 = .ok (.aload_n 2, 1) := by decide +kernel
theorem dX10_makeCellpack_14 : decode cX10_makeCellpack 14 = .ok (.bipush 13, 2) := by decide +kernel
theorem dX10_makeCellpack_16 : decode cX10_makeCellpack 16 = .ok (.iaload, 1) := by decide +kernel
theorem dX10_makeCellpack_17 : decode cX10_makeCellpack 17 = .ok (.iconst 2, 1) := by decide +kernel
theorem dX10_makeCellpack_18 : decode cX10_makeCellpack 18 = .ok (.imul, 1) := by decide +kernel
theorem dX10_makeCellpack_19 : decode cX10_makeCellpack 19 = .ok (.aload_n 2, 1) := by decide +kernel
theorem dX10_makeCellpack_20 : decode cX10_makeCellpack 20 = .ok (.bipush 11, 2) := by decide +kernel
theorem dX10_makeCellpack_22 : decode cX10_makeCellpack 22 = .ok (.iaload, 1) := by decide +kernel
theorem dX10_makeCellpack_23 : decode cX10_makeCellpack 23 = .ok (.iadd, 1) := by decide +kernel
theorem dX10_makeCellpack_24 : decode cX10_makeCellpack 24 = .ok (.iastore, 1) := by decide +kernel
theorem dX10_makeCellpack_25 : decode cX10_makeCellpack 25 = .ok (.aload_n 2, 1) := by decide +kernel
theorem dX10_makeCellpack_26 : decode cX10_makeCellpack 26 = .ok (.bipush 16, 2) := by decide +kernel
theorem dX10_makeCellpack_28 : decode cX10_makeCellpack 28 = .ok (.aload_n 1, 1) := by decide +kernel
theorem dX10_makeCellpack_29 : decode cX10_makeCellpack 29 = .ok (.getfield 206, 3) := by decide +kernel
theorem dX10_makeCellpack_32 : decode cX10_makeCellpack 32 = .ok (.iastore, 1) := by decide +kernel
theorem dX10_makeCellpack_33 : decode cX10_makeCellpack 33 = .ok (.aload_n 2, 1) := by decide +kernel
theorem dX10_makeCellpack_34 : decode cX10_makeCellpack 34 = .ok (.bipush 10, 2) := by decide +kernel
theorem dX10_makeCellpack_36 : decode cX10_makeCellpack 36 = .ok (.aload_n 2, 1) := by decide +kernel
theorem dX10_makeCellpack_37 : decode cX10_makeCellpack 37 = .ok (.bipush 10, 2) := by decide +kernel
theorem dX10_makeCellpack_39 : decode cX10_makeCellpack 39 = .ok (.iaload, 1) := by decide +kernel
theorem dX10_makeCellpack_40 : decode cX10_makeCellpack 40 = .ok (.aload_n 2, 1) := by decide +kernel
theorem dX10_makeCellpack_41 : decode cX10_makeCellpack 41 = .ok (.bipush 16, 2) := by decide +kernel
theorem dX10_makeCellpack_43 : decode cX10_makeCellpack 43 = .ok (.iaload, 1) := by decide +kernel
theorem dX10_makeCellpack_44 : decode cX10_makeCellpack 44 = .ok (.imul, 1) := by decide +kernel
theorem dX10_makeCellpack_45 : decode cX10_makeCellpack 45 = .ok (.bipush 8, 2) := by decide +kernel
theorem dX10_makeCellpack_47 : decode cX10_makeCellpack 47 = .ok (.idiv, 1) := by decide +kernel
theorem dX10_makeCellpack_48 : decode cX10_makeCellpack 48 = .ok (.iastore, 1) := by decide +kernel
theorem dX10_makeCellpack_49 : decode cX10_makeCellpack 49 = .ok (.aload_n 2, 1) := by decide +kernel
theorem dX10_makeCellpack_50 : decode cX10_makeCellpack 50 = .ok (.bipush 13, 2) := by decide +kernel
theorem dX10_makeCellpack_52 : decode cX10_makeCellpack 52 = .ok (.aload_n 1, 1) := by decide +kernel
theorem dX10_makeCellpack_53 : decode cX10_makeCellpack 53 = .ok (.invokevirtual 203, 3) := by decide +kernel
theorem dX10_makeCellpack_56 : decode cX10_makeCellpack 56 = .ok (.iastore, 1) := by decide +kernel
theorem dX10_makeCellpack_57 : decode cX10_makeCellpack 57 = .ok (.aload_n 0, 1) := by decide +kernel
theorem dX10_makeCellpack_58 : decode cX10_makeCellpack 58 = .ok (.aload_n 1, 1) := by decide +kernel
theorem dX10_makeCellpack_59 : decode cX10_makeCellpack 59 = .ok (.iconst 3, 1) := by decide +kernel
theorem dX10_makeCellpack_60 : decode cX10_makeCellpack 60 = .ok (.aload_n 2, 1) := by decide +kernel
theorem dX10_makeCellpack_61 : decode cX10_makeCellpack 61 = .ok (.bipush 10, 2) := by decide +kernel
theorem dX10_makeCellpack_63 : decode cX10_makeCellpack 63 = .ok (.iaload, 1) := by decide +kernel
theorem dX10_makeCellpack_64 : decode cX10_makeCellpack 64 = .ok (.aload_n 2, 1) := by decide +kernel
theorem dX10_makeCellpack_65 : decode cX10_makeCellpack 65 = .ok (.bipush 15, 2) := by decide +kernel
theorem dX10_makeCellpack_67 : decode cX10_makeCellpack 67 = .ok (.iaload, 1) := by decide +kernel
theorem dX10_makeCellpack_68 : decode cX10_makeCellpack 68 = .ok (.iadd, 1) := by decide +kernel
theorem dX10_makeCellpack_69 : decode cX10_makeCellpack 69 = .ok (.invokevirtual 196, 3) := by decide +kernel
theorem dX10_makeCellpack_72 : decode cX10_makeCellpack 72 = .ok (.return_, 1) := by decide +kernel
def F_X10_makeCellpack (N : Nat) (x0 : Nat) (x1 : Nat) (I : MI) (L : ML) (R : MR) : Option (MI) :=
  if kd x0 = 9 ∧ x0 < NN then
  if kd x1 = 8 ∧ x1 < NN then
  (rf R x1 0 20).bind fun a1 =>
  (wi I a1 (14 : Int32) (2 : Int32)).bind fun I2 =>
  (ri I2 a1 (13 : Int32)).bind fun v3 =>
  (ri I2 a1 (11 : Int32)).bind fun v4 =>
  (wi I2 a1 (15 : Int32) ((v3 * (2 : Int32)) + v4)).bind fun I5 =>
  (wi I5 a1 (16 : Int32) (I5 x1 5)).bind fun I6 =>
  (ri I6 a1 (10 : Int32)).bind fun v7 =>
  (ri I6 a1 (16 : Int32)).bind fun v8 =>
  (wi I6 a1 (10 : Int32) ((v7 * v8) / (8 : Int32))).bind fun I9 =>
  bn1 (F_X9_need N x1 I9 L R) fun v10 =>
  (wi I9 a1 (13 : Int32) v10).bind fun I12 =>
  (ri I12 a1 (10 : Int32)).bind fun v13 =>
  (ri I12 a1 (15 : Int32)).bind fun v14 =>
  bn1 (F_X10_jot x0 x1 (3 : Int32) (v13 + v14) I12 L R) fun I15 =>
  some (I15)
  else none
  else none
set_option maxRecDepth 100000 in
set_option maxHeartbeats 4000000 in
theorem c_X10_makeCellpack (l : Launch) (D : va_G) (cA : Nat → ClassId) (ad : Nat → Nat) (bs : Nat) (X : State → Prop) (hAd : Ax ad bs) (hX : Stb bs X) (N : Nat) (x0 : Nat) (x1 : Nat) (I : MI) (L : ML) (R : MR) (I' : MI) (h : F_X10_makeCellpack N x0 x1 I L R = some (I')) : Cn l D cA ad bs X yX10_makeCellpack cX10_makeCellpack 3 none 1 24 [.ref (ad x0), .ref (ad x1)] I L R (none, I', L, R) := by
  refine Cn.ofV hAd hX [(0, .ref (ad x0)), (1, .ref (ad x1))] rfl (Nat.le_of_ble_eq_true rfl) (by decide) ?_
  intro G el eD ecA ead ebs eX erm eNL C0
  subst el eD ecA ead ebs eX
  unfold F_X10_makeCellpack at h
  obtain ⟨c_x0, h⟩ := ite_some h
  obtain ⟨c_x1, h⟩ := ite_some h
  refine V_aload_n C0 1 rfl rfl dX10_makeCellpack_0 ?_
  obtain ⟨a1, qa1, h⟩ := bnd_some h
  refine V_getR C0 8 0 fl_X10_42 c_x1.2 c_x1.1 rfl (rf_at qa1) dX10_makeCellpack_1 ?_
  refine V_astore_n C0 [(2, .ref (G.ad a1)), (0, .ref (G.ad x0)), (1, .ref (G.ad x1))] rfl (by rw [eNL]; decide) rfl dX10_makeCellpack_4 ?_
  refine V_aload_n C0 0 rfl rfl dX10_makeCellpack_5 ?_
  refine V_bipush C0 (v := (14 : Int32)) (by decide) dX10_makeCellpack_6 ?_
  refine V_iconst C0 (v := (2 : Int32)) (by decide) dX10_makeCellpack_8 ?_
  obtain ⟨I2, qI2, h⟩ := bnd_some h
  refine V_wi C0 (rf_lt qa1) (rf_kd qa1) qI2 dX10_makeCellpack_9 ?_
  refine V_aload_n C0 0 rfl rfl dX10_makeCellpack_10 ?_
  refine V_bipush C0 (v := (15 : Int32)) (by decide) dX10_makeCellpack_11 ?_
  refine V_aload_n C0 0 rfl rfl dX10_makeCellpack_13 ?_
  refine V_bipush C0 (v := (13 : Int32)) (by decide) dX10_makeCellpack_14 ?_
  obtain ⟨v3, qv3, h⟩ := bnd_some h
  refine V_ri C0 (rf_lt qa1) (rf_kd qa1) qv3 dX10_makeCellpack_16 ?_
  refine V_iconst C0 (v := (2 : Int32)) (by decide) dX10_makeCellpack_17 ?_
  refine V_imul C0 dX10_makeCellpack_18 ?_
  refine V_aload_n C0 0 rfl rfl dX10_makeCellpack_19 ?_
  refine V_bipush C0 (v := (11 : Int32)) (by decide) dX10_makeCellpack_20 ?_
  obtain ⟨v4, qv4, h⟩ := bnd_some h
  refine V_ri C0 (rf_lt qa1) (rf_kd qa1) qv4 dX10_makeCellpack_22 ?_
  refine V_iadd C0 dX10_makeCellpack_23 ?_
  obtain ⟨I5, qI5, h⟩ := bnd_some h
  refine V_wi C0 (rf_lt qa1) (rf_kd qa1) qI5 dX10_makeCellpack_24 ?_
  refine V_aload_n C0 0 rfl rfl dX10_makeCellpack_25 ?_
  refine V_bipush C0 (v := (16 : Int32)) (by decide) dX10_makeCellpack_26 ?_
  refine V_aload_n C0 2 rfl rfl dX10_makeCellpack_28 ?_
  refine V_getI C0 8 5 fl_X10_206 c_x1.2 c_x1.1 rfl dX10_makeCellpack_29 ?_
  obtain ⟨I6, qI6, h⟩ := bnd_some h
  refine V_wi C0 (rf_lt qa1) (rf_kd qa1) qI6 dX10_makeCellpack_32 ?_
  refine V_aload_n C0 0 rfl rfl dX10_makeCellpack_33 ?_
  refine V_bipush C0 (v := (10 : Int32)) (by decide) dX10_makeCellpack_34 ?_
  refine V_aload_n C0 0 rfl rfl dX10_makeCellpack_36 ?_
  refine V_bipush C0 (v := (10 : Int32)) (by decide) dX10_makeCellpack_37 ?_
  obtain ⟨v7, qv7, h⟩ := bnd_some h
  refine V_ri C0 (rf_lt qa1) (rf_kd qa1) qv7 dX10_makeCellpack_39 ?_
  refine V_aload_n C0 0 rfl rfl dX10_makeCellpack_40 ?_
  refine V_bipush C0 (v := (16 : Int32)) (by decide) dX10_makeCellpack_41 ?_
  obtain ⟨v8, qv8, h⟩ := bnd_some h
  refine V_ri C0 (rf_lt qa1) (rf_kd qa1) qv8 dX10_makeCellpack_43 ?_
  refine V_imul C0 dX10_makeCellpack_44 ?_
  refine V_bipush C0 (v := (8 : Int32)) (by decide) dX10_makeCellpack_45 ?_
  refine V_idiv C0 (by decide) dX10_makeCellpack_47 ?_
  obtain ⟨I9, qI9, h⟩ := bnd_some h
  refine V_wi C0 (rf_lt qa1) (rf_kd qa1) qI9 dX10_makeCellpack_48 ?_
  refine V_aload_n C0 0 rfl rfl dX10_makeCellpack_49 ?_
  refine V_bipush C0 (v := (13 : Int32)) (by decide) dX10_makeCellpack_50 ?_
  refine V_aload_n C0 2 rfl rfl dX10_makeCellpack_52 ?_
  obtain ⟨v10, q11, h⟩ := bn1_some h
  refine V_callV C0 (st := [.int (13 : Int32), .ref (G.ad a1)]) (As := []) 8 (c_X9_need G.l G.D G.cA G.ad G.bs G.X C0.2.2.2.2.2.2.2.2.2.1 C0.2.2.2.2.2.2.2.2.2.2.2.2 N x1 I9 L R v10 q11) lc_X9_need lk_X10_203 c_x1.2 c_x1.1 ⟨_, rfl, rfl⟩ rfl (by rw [erm]; decide) (Nat.le_of_ble_eq_true rfl) dX10_makeCellpack_53 ?_
  show V G _ 56 [(2, .ref (G.ad a1)), (0, .ref (G.ad x0)), (1, .ref (G.ad x1))] [.int v10, .int (13 : Int32), .ref (G.ad a1)] I9 L R
  obtain ⟨I12, qI12, h⟩ := bnd_some h
  refine V_wi C0 (rf_lt qa1) (rf_kd qa1) qI12 dX10_makeCellpack_56 ?_
  refine V_aload_n C0 1 rfl rfl dX10_makeCellpack_57 ?_
  refine V_aload_n C0 2 rfl rfl dX10_makeCellpack_58 ?_
  refine V_iconst C0 (v := (3 : Int32)) (by decide) dX10_makeCellpack_59 ?_
  refine V_aload_n C0 0 rfl rfl dX10_makeCellpack_60 ?_
  refine V_bipush C0 (v := (10 : Int32)) (by decide) dX10_makeCellpack_61 ?_
  obtain ⟨v13, qv13, h⟩ := bnd_some h
  refine V_ri C0 (rf_lt qa1) (rf_kd qa1) qv13 dX10_makeCellpack_63 ?_
  refine V_aload_n C0 0 rfl rfl dX10_makeCellpack_64 ?_
  refine V_bipush C0 (v := (15 : Int32)) (by decide) dX10_makeCellpack_65 ?_
  obtain ⟨v14, qv14, h⟩ := bnd_some h
  refine V_ri C0 (rf_lt qa1) (rf_kd qa1) qv14 dX10_makeCellpack_67 ?_
  refine V_iadd C0 dX10_makeCellpack_68 ?_
  obtain ⟨I15, q16, h⟩ := bn1_some h
  refine V_callV C0 (st := []) (As := [.ref (G.ad x1), .int (3 : Int32), .int (v13 + v14)]) 9 (c_X10_jot G.l G.D G.cA G.ad G.bs G.X C0.2.2.2.2.2.2.2.2.2.1 C0.2.2.2.2.2.2.2.2.2.2.2.2 x0 x1 (3 : Int32) (v13 + v14) I12 L R I15 q16) lc_X10_jot lk_X10_196 c_x0.2 c_x0.1 ⟨_, rfl, rfl⟩ rfl (by rw [erm]; decide) (Nat.le_of_ble_eq_true rfl) dX10_makeCellpack_69 ?_
  show V G _ 72 [(2, .ref (G.ad a1)), (0, .ref (G.ad x0)), (1, .ref (G.ad x1))] [] I15 L R
  cases h
  exact V_vret C0 dX10_makeCellpack_72
theorem dX10_makeTank_0 : decode cX10_makeTank 0 = .ok (.aload_n 1, 1) := by decide +kernel
theorem dX10_makeTank_1 : decode cX10_makeTank 1 = .ok (.getfield 42, 3) := by decide +kernel
theorem dX10_makeTank_4 : decode cX10_makeTank 4 = .ok (.astore_n 2, 1) := by decide +kernel
theorem dX10_makeTank_5 : decode cX10_makeTank 5 = .ok (.aload_n 2, 1) := by decide +kernel
theorem dX10_makeTank_6 : decode cX10_makeTank 6 = .ok (.bipush 17, 2) := by decide +kernel
theorem dX10_makeTank_8 : decode cX10_makeTank 8 = .ok (.aload_n 2, 1) := by decide +kernel
theorem dX10_makeTank_9 : decode cX10_makeTank 9 = .ok (.iconst 4, 1) := by decide +kernel
theorem dX10_makeTank_10 : decode cX10_makeTank 10 = .ok (.iaload, 1) := by decide +kernel
theorem dX10_makeTank_11 : decode cX10_makeTank 11 = .ok (.iconst 4, 1) := by decide +kernel
theorem dX10_makeTank_12 : decode cX10_makeTank 12 = .ok (.irem, 1) := by decide +kernel
theorem dX10_makeTank_13 : decode cX10_makeTank 13 = .ok (.iastore, 1) := by decide +kernel
theorem dX10_makeTank_14 : decode cX10_makeTank 14 = .ok (.aload_n 2, 1) := by decide +kernel
theorem dX10_makeTank_15 : decode cX10_makeTank 15 = .ok (.bipush 10, 2) := by decide +kernel
theorem dX10_makeTank_17 : decode cX10_makeTank 17 = .ok (.aload_n 2, 1) := by decide +kernel
theorem dX10_makeTank_18 : decode cX10_makeTank 18 = .ok (.bipush 9, 2) := by decide +kernel
theorem dX10_makeTank_20 : decode cX10_makeTank 20 = .ok (.iaload, 1) := by decide +kernel
theorem dX10_makeTank_21 : decode cX10_makeTank 21 = .ok (.iastore, 1) := by decide +kernel
theorem dX10_makeTank_22 : decode cX10_makeTank 22 = .ok (.aload_n 0, 1) := by decide +kernel
theorem dX10_makeTank_23 : decode cX10_makeTank 23 = .ok (.aload_n 1, 1) := by decide +kernel
theorem dX10_makeTank_24 : decode cX10_makeTank 24 = .ok (.iconst 4, 1) := by decide +kernel
theorem dX10_makeTank_25 : decode cX10_makeTank 25 = .ok (.aload_n 2, 1) := by decide +kernel
theorem dX10_makeTank_26 : decode cX10_makeTank 26 = .ok (.bipush 17, 2) := by decide +kernel
theorem dX10_makeTank_28 : decode cX10_makeTank 28 = .ok (.iaload, 1) := by decide +kernel
theorem dX10_makeTank_29 : decode cX10_makeTank 29 = .ok (.invokevirtual 196, 3) := by decide +kernel
theorem dX10_makeTank_32 : decode cX10_makeTank 32 = .ok (.return_, 1) := by decide +kernel
def F_X10_makeTank (x0 : Nat) (x1 : Nat) (I : MI) (L : ML) (R : MR) : Option (MI) :=
  if kd x0 = 9 ∧ x0 < NN then
  if kd x1 = 8 ∧ x1 < NN then
  (rf R x1 0 20).bind fun a1 =>
  (ri I a1 (4 : Int32)).bind fun v2 =>
  (wi I a1 (17 : Int32) (iR v2 (4 : Int32))).bind fun I3 =>
  (ri I3 a1 (9 : Int32)).bind fun v4 =>
  (wi I3 a1 (10 : Int32) v4).bind fun I5 =>
  (ri I5 a1 (17 : Int32)).bind fun v6 =>
  bn1 (F_X10_jot x0 x1 (4 : Int32) v6 I5 L R) fun I7 =>
  some (I7)
  else none
  else none
set_option maxRecDepth 100000 in
set_option maxHeartbeats 4000000 in
theorem c_X10_makeTank (l : Launch) (D : va_G) (cA : Nat → ClassId) (ad : Nat → Nat) (bs : Nat) (X : State → Prop) (hAd : Ax ad bs) (hX : Stb bs X) (x0 : Nat) (x1 : Nat) (I : MI) (L : ML) (R : MR) (I' : MI) (h : F_X10_makeTank x0 x1 I L R = some (I')) : Cn l D cA ad bs X yX10_makeTank cX10_makeTank 3 none 1 24 [.ref (ad x0), .ref (ad x1)] I L R (none, I', L, R) := by
  refine Cn.ofV hAd hX [(0, .ref (ad x0)), (1, .ref (ad x1))] rfl (Nat.le_of_ble_eq_true rfl) (by decide) ?_
  intro G el eD ecA ead ebs eX erm eNL C0
  subst el eD ecA ead ebs eX
  unfold F_X10_makeTank at h
  obtain ⟨c_x0, h⟩ := ite_some h
  obtain ⟨c_x1, h⟩ := ite_some h
  refine V_aload_n C0 1 rfl rfl dX10_makeTank_0 ?_
  obtain ⟨a1, qa1, h⟩ := bnd_some h
  refine V_getR C0 8 0 fl_X10_42 c_x1.2 c_x1.1 rfl (rf_at qa1) dX10_makeTank_1 ?_
  refine V_astore_n C0 [(2, .ref (G.ad a1)), (0, .ref (G.ad x0)), (1, .ref (G.ad x1))] rfl (by rw [eNL]; decide) rfl dX10_makeTank_4 ?_
  refine V_aload_n C0 0 rfl rfl dX10_makeTank_5 ?_
  refine V_bipush C0 (v := (17 : Int32)) (by decide) dX10_makeTank_6 ?_
  refine V_aload_n C0 0 rfl rfl dX10_makeTank_8 ?_
  refine V_iconst C0 (v := (4 : Int32)) (by decide) dX10_makeTank_9 ?_
  obtain ⟨v2, qv2, h⟩ := bnd_some h
  refine V_ri C0 (rf_lt qa1) (rf_kd qa1) qv2 dX10_makeTank_10 ?_
  refine V_iconst C0 (v := (4 : Int32)) (by decide) dX10_makeTank_11 ?_
  refine V_irem C0 (by decide) dX10_makeTank_12 ?_
  obtain ⟨I3, qI3, h⟩ := bnd_some h
  refine V_wi C0 (rf_lt qa1) (rf_kd qa1) qI3 dX10_makeTank_13 ?_
  refine V_aload_n C0 0 rfl rfl dX10_makeTank_14 ?_
  refine V_bipush C0 (v := (10 : Int32)) (by decide) dX10_makeTank_15 ?_
  refine V_aload_n C0 0 rfl rfl dX10_makeTank_17 ?_
  refine V_bipush C0 (v := (9 : Int32)) (by decide) dX10_makeTank_18 ?_
  obtain ⟨v4, qv4, h⟩ := bnd_some h
  refine V_ri C0 (rf_lt qa1) (rf_kd qa1) qv4 dX10_makeTank_20 ?_
  obtain ⟨I5, qI5, h⟩ := bnd_some h
  refine V_wi C0 (rf_lt qa1) (rf_kd qa1) qI5 dX10_makeTank_21 ?_
  refine V_aload_n C0 1 rfl rfl dX10_makeTank_22 ?_
  refine V_aload_n C0 2 rfl rfl dX10_makeTank_23 ?_
  refine V_iconst C0 (v := (4 : Int32)) (by decide) dX10_makeTank_24 ?_
  refine V_aload_n C0 0 rfl rfl dX10_makeTank_25 ?_
  refine V_bipush C0 (v := (17 : Int32)) (by decide) dX10_makeTank_26 ?_
  obtain ⟨v6, qv6, h⟩ := bnd_some h
  refine V_ri C0 (rf_lt qa1) (rf_kd qa1) qv6 dX10_makeTank_28 ?_
  obtain ⟨I7, q8, h⟩ := bn1_some h
  refine V_callV C0 (st := []) (As := [.ref (G.ad x1), .int (4 : Int32), .int v6]) 9 (c_X10_jot G.l G.D G.cA G.ad G.bs G.X C0.2.2.2.2.2.2.2.2.2.1 C0.2.2.2.2.2.2.2.2.2.2.2.2 x0 x1 (4 : Int32) v6 I5 L R I7 q8) lc_X10_jot lk_X10_196 c_x0.2 c_x0.1 ⟨_, rfl, rfl⟩ rfl (by rw [erm]; decide) (Nat.le_of_ble_eq_true rfl) dX10_makeTank_29 ?_
  show V G _ 32 [(2, .ref (G.ad a1)), (0, .ref (G.ad x0)), (1, .ref (G.ad x1))] [] I7 L R
  cases h
  exact V_vret C0 dX10_makeTank_32
theorem dX10_makeRecorder_0 : decode cX10_makeRecorder 0 = .ok (.aload_n 1, 1) := by decide +kernel
theorem dX10_makeRecorder_1 : decode cX10_makeRecorder 1 = .ok (.getfield 42, 3) := by decide +kernel
theorem dX10_makeRecorder_4 : decode cX10_makeRecorder 4 = .ok (.astore_n 2, 1) := by decide +kernel
theorem dX10_makeRecorder_5 : decode cX10_makeRecorder 5 = .ok (.aload_n 2, 1) := by decide +kernel
theorem dX10_makeRecorder_6 : decode cX10_makeRecorder 6 = .ok (.bipush 18, 2) := by decide +kernel
theorem dX10_makeRecorder_8 : decode cX10_makeRecorder 8 = .ok (.aload_n 2, 1) := by decide +kernel
theorem dX10_makeRecorder_9 : decode cX10_makeRecorder 9 = .ok (.bipush 9, 2) := by decide +kernel
theorem dX10_makeRecorder_11 : decode cX10_makeRecorder 11 = .ok (.iaload, 1) := by decide +kernel
theorem dX10_makeRecorder_12 : decode cX10_makeRecorder 12 = .ok (.bipush 10, 2) := by decide +kernel
theorem dX10_makeRecorder_14 : decode cX10_makeRecorder 14 = .ok (.idiv, 1) := by decide +kernel
theorem dX10_makeRecorder_15 : decode cX10_makeRecorder 15 = .ok (.iastore, 1) := by decide +kernel
theorem dX10_makeRecorder_16 : decode cX10_makeRecorder 16 = .ok (.aload_n 2, 1) := by decide +kernel
theorem dX10_makeRecorder_17 : decode cX10_makeRecorder 17 = .ok (.bipush 19, 2) := by decide +kernel
theorem dX10_makeRecorder_19 : decode cX10_makeRecorder 19 = .ok (.aload_n 2, 1) := by decide +kernel
theorem dX10_makeRecorder_20 : decode cX10_makeRecorder 20 = .ok (.bipush 10, 2) := by decide +kernel
theorem dX10_makeRecorder_22 : decode cX10_makeRecorder 22 = .ok (.iaload, 1) := by decide +kernel
theorem dX10_makeRecorder_23 : decode cX10_makeRecorder 23 = .ok (.iastore, 1) := by decide +kernel
theorem dX10_makeRecorder_24 : decode cX10_makeRecorder 24 = .ok (.aload_n 2, 1) := by decide +kernel
theorem dX10_makeRecorder_25 : decode cX10_makeRecorder 25 = .ok (.bipush 10, 2) := by decide +kernel
theorem dX10_makeRecorder_27 : decode cX10_makeRecorder 27 = .ok (.iconst 0, 1) := by decide +kernel
theorem dX10_makeRecorder_28 : decode cX10_makeRecorder 28 = .ok (.iastore, 1) := by decide +kernel
theorem dX10_makeRecorder_29 : decode cX10_makeRecorder 29 = .ok (.aload_n 2, 1) := by decide +kernel
theorem dX10_makeRecorder_30 : decode cX10_makeRecorder 30 = .ok (.bipush 20, 2) := by decide +kernel
theorem dX10_makeRecorder_32 : decode cX10_makeRecorder 32 = .ok (.aload_n 1, 1) := by decide +kernel
theorem dX10_makeRecorder_33 : decode cX10_makeRecorder 33 = .ok (.invokevirtual 190, 3) := by decide +kernel
theorem dX10_makeRecorder_36 : decode cX10_makeRecorder 36 = .ok (.iastore, 1) := by decide +kernel
theorem dX10_makeRecorder_37 : decode cX10_makeRecorder 37 = .ok (.aload_n 0, 1) := by decide +kernel
theorem dX10_makeRecorder_38 : decode cX10_makeRecorder 38 = .ok (.aload_n 1, 1) := by decide +kernel
theorem dX10_makeRecorder_39 : decode cX10_makeRecorder 39 = .ok (.iconst 5, 1) := by decide +kernel
theorem dX10_makeRecorder_40 : decode cX10_makeRecorder 40 = .ok (.aload_n 2, 1) := by decide +kernel
theorem dX10_makeRecorder_41 : decode cX10_makeRecorder 41 = .ok (.bipush 20, 2) := by decide +kernel
theorem dX10_makeRecorder_43 : decode cX10_makeRecorder 43 = .ok (.iaload, 1) := by decide +kernel
theorem dX10_makeRecorder_44 : decode cX10_makeRecorder 44 = .ok (.aload_n 2, 1) := by decide +kernel
theorem dX10_makeRecorder_45 : decode cX10_makeRecorder 45 = .ok (.bipush 19, 2) := by decide +kernel
theorem dX10_makeRecorder_47 : decode cX10_makeRecorder 47 = .ok (.iaload, 1) := by decide +kernel
theorem dX10_makeRecorder_48 : decode cX10_makeRecorder 48 = .ok (.iadd, 1) := by decide +kernel
theorem dX10_makeRecorder_49 : decode cX10_makeRecorder 49 = .ok (.invokevirtual 196, 3) := by decide +kernel
theorem dX10_makeRecorder_52 : decode cX10_makeRecorder 52 = .ok (.return_, 1) := by decide +kernel
def F_X10_makeRecorder (N : Nat) (x0 : Nat) (x1 : Nat) (I : MI) (L : ML) (R : MR) : Option (MI) :=
  if kd x0 = 9 ∧ x0 < NN then
  if kd x1 = 8 ∧ x1 < NN then
  (rf R x1 0 20).bind fun a1 =>
  (ri I a1 (9 : Int32)).bind fun v2 =>
  (wi I a1 (18 : Int32) (v2 / (10 : Int32))).bind fun I3 =>
  (ri I3 a1 (10 : Int32)).bind fun v4 =>
  (wi I3 a1 (19 : Int32) v4).bind fun I5 =>
  (wi I5 a1 (10 : Int32) (0 : Int32)).bind fun I6 =>
  bn1 (F_X9_span N x1 I6 L R) fun v7 =>
  (wi I6 a1 (20 : Int32) v7).bind fun I9 =>
  (ri I9 a1 (20 : Int32)).bind fun v10 =>
  (ri I9 a1 (19 : Int32)).bind fun v11 =>
  bn1 (F_X10_jot x0 x1 (5 : Int32) (v10 + v11) I9 L R) fun I12 =>
  some (I12)
  else none
  else none
set_option maxRecDepth 100000 in
set_option maxHeartbeats 4000000 in
theorem c_X10_makeRecorder (l : Launch) (D : va_G) (cA : Nat → ClassId) (ad : Nat → Nat) (bs : Nat) (X : State → Prop) (hAd : Ax ad bs) (hX : Stb bs X) (N : Nat) (x0 : Nat) (x1 : Nat) (I : MI) (L : ML) (R : MR) (I' : MI) (h : F_X10_makeRecorder N x0 x1 I L R = some (I')) : Cn l D cA ad bs X yX10_makeRecorder cX10_makeRecorder 3 none 1 24 [.ref (ad x0), .ref (ad x1)] I L R (none, I', L, R) := by
  refine Cn.ofV hAd hX [(0, .ref (ad x0)), (1, .ref (ad x1))] rfl (Nat.le_of_ble_eq_true rfl) (by decide) ?_
  intro G el eD ecA ead ebs eX erm eNL C0
  subst el eD ecA ead ebs eX
  unfold F_X10_makeRecorder at h
  obtain ⟨c_x0, h⟩ := ite_some h
  obtain ⟨c_x1, h⟩ := ite_some h
  refine V_aload_n C0 1 rfl rfl dX10_makeRecorder_0 ?_
  obtain ⟨a1, qa1, h⟩ := bnd_some h
  refine V_getR C0 8 0 fl_X10_42 c_x1.2 c_x1.1 rfl (rf_at qa1) dX10_makeRecorder_1 ?_
  refine V_astore_n C0 [(2, .ref (G.ad a1)), (0, .ref (G.ad x0)), (1, .ref (G.ad x1))] rfl (by rw [eNL]; decide) rfl dX10_makeRecorder_4 ?_
  refine V_aload_n C0 0 rfl rfl dX10_makeRecorder_5 ?_
  refine V_bipush C0 (v := (18 : Int32)) (by decide) dX10_makeRecorder_6 ?_
  refine V_aload_n C0 0 rfl rfl dX10_makeRecorder_8 ?_
  refine V_bipush C0 (v := (9 : Int32)) (by decide) dX10_makeRecorder_9 ?_
  obtain ⟨v2, qv2, h⟩ := bnd_some h
  refine V_ri C0 (rf_lt qa1) (rf_kd qa1) qv2 dX10_makeRecorder_11 ?_
  refine V_bipush C0 (v := (10 : Int32)) (by decide) dX10_makeRecorder_12 ?_
  refine V_idiv C0 (by decide) dX10_makeRecorder_14 ?_
  obtain ⟨I3, qI3, h⟩ := bnd_some h
  refine V_wi C0 (rf_lt qa1) (rf_kd qa1) qI3 dX10_makeRecorder_15 ?_
  refine V_aload_n C0 0 rfl rfl dX10_makeRecorder_16 ?_
  refine V_bipush C0 (v := (19 : Int32)) (by decide) dX10_makeRecorder_17 ?_
  refine V_aload_n C0 0 rfl rfl dX10_makeRecorder_19 ?_
  refine V_bipush C0 (v := (10 : Int32)) (by decide) dX10_makeRecorder_20 ?_
  obtain ⟨v4, qv4, h⟩ := bnd_some h
  refine V_ri C0 (rf_lt qa1) (rf_kd qa1) qv4 dX10_makeRecorder_22 ?_
  obtain ⟨I5, qI5, h⟩ := bnd_some h
  refine V_wi C0 (rf_lt qa1) (rf_kd qa1) qI5 dX10_makeRecorder_23 ?_
  refine V_aload_n C0 0 rfl rfl dX10_makeRecorder_24 ?_
  refine V_bipush C0 (v := (10 : Int32)) (by decide) dX10_makeRecorder_25 ?_
  refine V_iconst C0 (v := (0 : Int32)) (by decide) dX10_makeRecorder_27 ?_
  obtain ⟨I6, qI6, h⟩ := bnd_some h
  refine V_wi C0 (rf_lt qa1) (rf_kd qa1) qI6 dX10_makeRecorder_28 ?_
  refine V_aload_n C0 0 rfl rfl dX10_makeRecorder_29 ?_
  refine V_bipush C0 (v := (20 : Int32)) (by decide) dX10_makeRecorder_30 ?_
  refine V_aload_n C0 2 rfl rfl dX10_makeRecorder_32 ?_
  obtain ⟨v7, q8, h⟩ := bn1_some h
  refine V_callV C0 (st := [.int (20 : Int32), .ref (G.ad a1)]) (As := []) 8 (c_X9_span G.l G.D G.cA G.ad G.bs G.X C0.2.2.2.2.2.2.2.2.2.1 C0.2.2.2.2.2.2.2.2.2.2.2.2 N x1 I6 L R v7 q8) lc_X9_span lk_X10_190 c_x1.2 c_x1.1 ⟨_, rfl, rfl⟩ rfl (by rw [erm]; decide) (Nat.le_of_ble_eq_true rfl) dX10_makeRecorder_33 ?_
  show V G _ 36 [(2, .ref (G.ad a1)), (0, .ref (G.ad x0)), (1, .ref (G.ad x1))] [.int v7, .int (20 : Int32), .ref (G.ad a1)] I6 L R
  obtain ⟨I9, qI9, h⟩ := bnd_some h
  refine V_wi C0 (rf_lt qa1) (rf_kd qa1) qI9 dX10_makeRecorder_36 ?_
  refine V_aload_n C0 1 rfl rfl dX10_makeRecorder_37 ?_
  refine V_aload_n C0 2 rfl rfl dX10_makeRecorder_38 ?_
  refine V_iconst C0 (v := (5 : Int32)) (by decide) dX10_makeRecorder_39 ?_
  refine V_aload_n C0 0 rfl rfl dX10_makeRecorder_40 ?_
  refine V_bipush C0 (v := (20 : Int32)) (by decide) dX10_makeRecorder_41 ?_
  obtain ⟨v10, qv10, h⟩ := bnd_some h
  refine V_ri C0 (rf_lt qa1) (rf_kd qa1) qv10 dX10_makeRecorder_43 ?_
  refine V_aload_n C0 0 rfl rfl dX10_makeRecorder_44 ?_
  refine V_bipush C0 (v := (19 : Int32)) (by decide) dX10_makeRecorder_45 ?_
  obtain ⟨v11, qv11, h⟩ := bnd_some h
  refine V_ri C0 (rf_lt qa1) (rf_kd qa1) qv11 dX10_makeRecorder_47 ?_
  refine V_iadd C0 dX10_makeRecorder_48 ?_
  obtain ⟨I12, q13, h⟩ := bn1_some h
  refine V_callV C0 (st := []) (As := [.ref (G.ad x1), .int (5 : Int32), .int (v10 + v11)]) 9 (c_X10_jot G.l G.D G.cA G.ad G.bs G.X C0.2.2.2.2.2.2.2.2.2.1 C0.2.2.2.2.2.2.2.2.2.2.2.2 x0 x1 (5 : Int32) (v10 + v11) I9 L R I12 q13) lc_X10_jot lk_X10_196 c_x0.2 c_x0.1 ⟨_, rfl, rfl⟩ rfl (by rw [erm]; decide) (Nat.le_of_ble_eq_true rfl) dX10_makeRecorder_49 ?_
  show V G _ 52 [(2, .ref (G.ad a1)), (0, .ref (G.ad x0)), (1, .ref (G.ad x1))] [] I12 L R
  cases h
  exact V_vret C0 dX10_makeRecorder_52
theorem dX10_makeLoad_0 : decode cX10_makeLoad 0 = .ok (.aload_n 1, 1) := by decide +kernel
theorem dX10_makeLoad_1 : decode cX10_makeLoad 1 = .ok (.getfield 42, 3) := by decide +kernel
theorem dX10_makeLoad_4 : decode cX10_makeLoad 4 = .ok (.astore_n 2, 1) := by decide +kernel
theorem dX10_makeLoad_5 : decode cX10_makeLoad 5 = .ok (.aload_n 2, 1) := by decide +kernel
theorem dX10_makeLoad_6 : decode cX10_makeLoad 6 = .ok (.bipush 21, 2) := by decide +kernel
theorem dX10_makeLoad_8 : decode cX10_makeLoad 8 = .ok (.aload_n 2, 1) := by decide +kernel
theorem dX10_makeLoad_9 : decode cX10_makeLoad 9 = .ok (.iconst 2, 1) := by decide +kernel
theorem dX10_makeLoad_10 : decode cX10_makeLoad 10 = .ok (.iaload, 1) := by decide +kernel
theorem dX10_makeLoad_11 : decode cX10_makeLoad 11 = .ok (.aload_n 0, 1) := by decide +kernel
theorem dX10_makeLoad_12 : decode cX10_makeLoad 12 = .ok (.invokevirtual 184, 3) := by decide +kernel
theorem dX10_makeLoad_15 : decode cX10_makeLoad 15 = .ok (.iadd, 1) := by decide +kernel
theorem dX10_makeLoad_16 : decode cX10_makeLoad 16 = .ok (.iconst 3, 1) := by decide +kernel
theorem dX10_makeLoad_17 : decode cX10_makeLoad 17 = .ok (.irem, 1) := by decide +kernel
theorem dX10_makeLoad_18 : decode cX10_makeLoad 18 = .ok (.iastore, 1) := by decide +kernel
theorem dX10_makeLoad_19 : decode cX10_makeLoad 19 = .ok (.aload_n 2, 1) := by decide +kernel
theorem dX10_makeLoad_20 : decode cX10_makeLoad 20 = .ok (.bipush 22, 2) := by decide +kernel
theorem dX10_makeLoad_22 : decode cX10_makeLoad 22 = .ok (.iconst 0, 1) := by decide +kernel
theorem dX10_makeLoad_23 : decode cX10_makeLoad 23 = .ok (.iastore, 1) := by decide +kernel
theorem dX10_makeLoad_24 : decode cX10_makeLoad 24 = .ok (.aload_n 2, 1) := by decide +kernel
theorem dX10_makeLoad_25 : decode cX10_makeLoad 25 = .ok (.bipush 23, 2) := by decide +kernel
theorem dX10_makeLoad_27 : decode cX10_makeLoad 27 = .ok (.aload_n 1, 1) := by decide +kernel
theorem dX10_makeLoad_28 : decode cX10_makeLoad 28 = .ok (.getfield 200, 3) := by decide +kernel
theorem dX10_makeLoad_31 : decode cX10_makeLoad 31 = .ok (.iastore, 1) := by decide +kernel
theorem dX10_makeLoad_32 : decode cX10_makeLoad 32 = .ok (.aload_n 2, 1) := by decide +kernel
theorem dX10_makeLoad_33 : decode cX10_makeLoad 33 = .ok (.bipush 24, 2) := by decide +kernel
theorem dX10_makeLoad_35 : decode cX10_makeLoad 35 = .ok (.aload_n 1, 1) := by decide +kernel
theorem dX10_makeLoad_36 : decode cX10_makeLoad 36 = .ok (.invokevirtual 203, 3) := by decide +kernel
theorem dX10_makeLoad_39 : decode cX10_makeLoad 39 = .ok (.iastore, 1) := by decide +kernel
theorem dX10_makeLoad_40 : decode cX10_makeLoad 40 = .ok (.aload_n 0, 1) := by decide +kernel
theorem dX10_makeLoad_41 : decode cX10_makeLoad 41 = .ok (.dup, 1) := by decide +kernel
theorem dX10_makeLoad_42 : decode cX10_makeLoad 42 = .ok (.getfield 51, 3) := by decide +kernel
theorem dX10_makeLoad_45 : decode cX10_makeLoad 45 = .ok (.aload_n 2, 1) := by decide +kernel
theorem dX10_makeLoad_46 : decode cX10_makeLoad 46 = .ok (.bipush 24, 2) := by decide +kernel
theorem dX10_makeLoad_48 : decode cX10_makeLoad 48 = .ok (.iaload, 1) := by decide +kernel
theorem dX10_makeLoad_49 : decode cX10_makeLoad 49 = .ok (.iadd, 1) := by decide +kernel
theorem dX10_makeLoad_50 : decode cX10_makeLoad 50 = .ok (.putfield 51, 3) := by decide +kernel
theorem dX10_makeLoad_53 : decode cX10_makeLoad 53 = .ok (.aload_n 0, 1) := by decide +kernel
theorem dX10_makeLoad_54 : decode cX10_makeLoad 54 = .ok (.aload_n 1, 1) := by decide +kernel
theorem dX10_makeLoad_55 : decode cX10_makeLoad 55 = .ok (.bipush 6, 2) := by decide +kernel
theorem dX10_makeLoad_57 : decode cX10_makeLoad 57 = .ok (.aload_n 2, 1) := by decide +kernel
theorem dX10_makeLoad_58 : decode cX10_makeLoad 58 = .ok (.bipush 24, 2) := by decide +kernel
theorem dX10_makeLoad_60 : decode cX10_makeLoad 60 = .ok (.iaload, 1) := by decide +kernel
theorem dX10_makeLoad_61 : decode cX10_makeLoad 61 = .ok (.invokevirtual 196, 3) := by decide +kernel
theorem dX10_makeLoad_64 : decode cX10_makeLoad 64 = .ok (.return_, 1) := by decide +kernel
def F_X10_makeLoad (N : Nat) (x0 : Nat) (x1 : Nat) (I : MI) (L : ML) (R : MR) : Option (MI) :=
  if kd x0 = 9 ∧ x0 < NN then
  if kd x1 = 8 ∧ x1 < NN then
  (rf R x1 0 20).bind fun a1 =>
  (ri I a1 (2 : Int32)).bind fun v2 =>
  bn2 (F_X10_draw x0 I L R) fun v3 I4 =>
  (wi I4 a1 (21 : Int32) (iR (v2 + v3) (3 : Int32))).bind fun I6 =>
  (wi I6 a1 (22 : Int32) (0 : Int32)).bind fun I7 =>
  (wi I7 a1 (23 : Int32) (I7 x1 4)).bind fun I8 =>
  bn1 (F_X9_need N x1 I8 L R) fun v9 =>
  (wi I8 a1 (24 : Int32) v9).bind fun I11 =>
  (ri I11 a1 (24 : Int32)).bind fun v12 =>
  wr (uI I11 x0 6 ((I11 x0 6) + v12)) fun (I13 : MI) =>
  (ri I13 a1 (24 : Int32)).bind fun v14 =>
  bn1 (F_X10_jot x0 x1 (6 : Int32) v14 I13 L R) fun I15 =>
  some (I15)
  else none
  else none
set_option maxRecDepth 100000 in
set_option maxHeartbeats 4000000 in
theorem c_X10_makeLoad (l : Launch) (D : va_G) (cA : Nat → ClassId) (ad : Nat → Nat) (bs : Nat) (X : State → Prop) (hAd : Ax ad bs) (hX : Stb bs X) (N : Nat) (x0 : Nat) (x1 : Nat) (I : MI) (L : ML) (R : MR) (I' : MI) (h : F_X10_makeLoad N x0 x1 I L R = some (I')) : Cn l D cA ad bs X yX10_makeLoad cX10_makeLoad 3 none 1 24 [.ref (ad x0), .ref (ad x1)] I L R (none, I', L, R) := by
  refine Cn.ofV hAd hX [(0, .ref (ad x0)), (1, .ref (ad x1))] rfl (Nat.le_of_ble_eq_true rfl) (by decide) ?_
  intro G el eD ecA ead ebs eX erm eNL C0
  subst el eD ecA ead ebs eX
  unfold F_X10_makeLoad at h
  obtain ⟨c_x0, h⟩ := ite_some h
  obtain ⟨c_x1, h⟩ := ite_some h
  refine V_aload_n C0 1 rfl rfl dX10_makeLoad_0 ?_
  obtain ⟨a1, qa1, h⟩ := bnd_some h
  refine V_getR C0 8 0 fl_X10_42 c_x1.2 c_x1.1 rfl (rf_at qa1) dX10_makeLoad_1 ?_
  refine V_astore_n C0 [(2, .ref (G.ad a1)), (0, .ref (G.ad x0)), (1, .ref (G.ad x1))] rfl (by rw [eNL]; decide) rfl dX10_makeLoad_4 ?_
  refine V_aload_n C0 0 rfl rfl dX10_makeLoad_5 ?_
  refine V_bipush C0 (v := (21 : Int32)) (by decide) dX10_makeLoad_6 ?_
  refine V_aload_n C0 0 rfl rfl dX10_makeLoad_8 ?_
  refine V_iconst C0 (v := (2 : Int32)) (by decide) dX10_makeLoad_9 ?_
  obtain ⟨v2, qv2, h⟩ := bnd_some h
  refine V_ri C0 (rf_lt qa1) (rf_kd qa1) qv2 dX10_makeLoad_10 ?_
  refine V_aload_n C0 1 rfl rfl dX10_makeLoad_11 ?_
  obtain ⟨v3, I4, q5, h⟩ := bn2_some h
  refine V_callV C0 (st := [.int v2, .int (21 : Int32), .ref (G.ad a1)]) (As := []) 9 (c_X10_draw G.l G.D G.cA G.ad G.bs G.X C0.2.2.2.2.2.2.2.2.2.1 C0.2.2.2.2.2.2.2.2.2.2.2.2 x0 I L R v3 I4 q5) lc_X10_draw lk_X10_184 c_x0.2 c_x0.1 ⟨_, rfl, rfl⟩ rfl (by rw [erm]; decide) (Nat.le_of_ble_eq_true rfl) dX10_makeLoad_12 ?_
  show V G _ 15 [(2, .ref (G.ad a1)), (0, .ref (G.ad x0)), (1, .ref (G.ad x1))] [.int v3, .int v2, .int (21 : Int32), .ref (G.ad a1)] I4 L R
  refine V_iadd C0 dX10_makeLoad_15 ?_
  refine V_iconst C0 (v := (3 : Int32)) (by decide) dX10_makeLoad_16 ?_
  refine V_irem C0 (by decide) dX10_makeLoad_17 ?_
  obtain ⟨I6, qI6, h⟩ := bnd_some h
  refine V_wi C0 (rf_lt qa1) (rf_kd qa1) qI6 dX10_makeLoad_18 ?_
  refine V_aload_n C0 0 rfl rfl dX10_makeLoad_19 ?_
  refine V_bipush C0 (v := (22 : Int32)) (by decide) dX10_makeLoad_20 ?_
  refine V_iconst C0 (v := (0 : Int32)) (by decide) dX10_makeLoad_22 ?_
  obtain ⟨I7, qI7, h⟩ := bnd_some h
  refine V_wi C0 (rf_lt qa1) (rf_kd qa1) qI7 dX10_makeLoad_23 ?_
  refine V_aload_n C0 0 rfl rfl dX10_makeLoad_24 ?_
  refine V_bipush C0 (v := (23 : Int32)) (by decide) dX10_makeLoad_25 ?_
  refine V_aload_n C0 2 rfl rfl dX10_makeLoad_27 ?_
  refine V_getI C0 8 4 fl_X10_200 c_x1.2 c_x1.1 rfl dX10_makeLoad_28 ?_
  obtain ⟨I8, qI8, h⟩ := bnd_some h
  refine V_wi C0 (rf_lt qa1) (rf_kd qa1) qI8 dX10_makeLoad_31 ?_
  refine V_aload_n C0 0 rfl rfl dX10_makeLoad_32 ?_
  refine V_bipush C0 (v := (24 : Int32)) (by decide) dX10_makeLoad_33 ?_
  refine V_aload_n C0 2 rfl rfl dX10_makeLoad_35 ?_
  obtain ⟨v9, q10, h⟩ := bn1_some h
  refine V_callV C0 (st := [.int (24 : Int32), .ref (G.ad a1)]) (As := []) 8 (c_X9_need G.l G.D G.cA G.ad G.bs G.X C0.2.2.2.2.2.2.2.2.2.1 C0.2.2.2.2.2.2.2.2.2.2.2.2 N x1 I8 L R v9 q10) lc_X9_need lk_X10_203 c_x1.2 c_x1.1 ⟨_, rfl, rfl⟩ rfl (by rw [erm]; decide) (Nat.le_of_ble_eq_true rfl) dX10_makeLoad_36 ?_
  show V G _ 39 [(2, .ref (G.ad a1)), (0, .ref (G.ad x0)), (1, .ref (G.ad x1))] [.int v9, .int (24 : Int32), .ref (G.ad a1)] I8 L R
  obtain ⟨I11, qI11, h⟩ := bnd_some h
  refine V_wi C0 (rf_lt qa1) (rf_kd qa1) qI11 dX10_makeLoad_39 ?_
  refine V_aload_n C0 1 rfl rfl dX10_makeLoad_40 ?_
  refine V_dup C0 rfl dX10_makeLoad_41 ?_
  refine V_getI C0 9 6 fl_X10_51 c_x0.2 c_x0.1 rfl dX10_makeLoad_42 ?_
  refine V_aload_n C0 0 rfl rfl dX10_makeLoad_45 ?_
  refine V_bipush C0 (v := (24 : Int32)) (by decide) dX10_makeLoad_46 ?_
  obtain ⟨v12, qv12, h⟩ := bnd_some h
  refine V_ri C0 (rf_lt qa1) (rf_kd qa1) qv12 dX10_makeLoad_48 ?_
  refine V_iadd C0 dX10_makeLoad_49 ?_
  obtain ⟨I13, eI13, h⟩ := wr_some h
  refine V_putI C0 9 6 fp_X10_51 c_x0.2 c_x0.1 rfl dX10_makeLoad_50 ?_
  rw [← eI13]
  refine V_aload_n C0 1 rfl rfl dX10_makeLoad_53 ?_
  refine V_aload_n C0 2 rfl rfl dX10_makeLoad_54 ?_
  refine V_bipush C0 (v := (6 : Int32)) (by decide) dX10_makeLoad_55 ?_
  refine V_aload_n C0 0 rfl rfl dX10_makeLoad_57 ?_
  refine V_bipush C0 (v := (24 : Int32)) (by decide) dX10_makeLoad_58 ?_
  obtain ⟨v14, qv14, h⟩ := bnd_some h
  refine V_ri C0 (rf_lt qa1) (rf_kd qa1) qv14 dX10_makeLoad_60 ?_
  obtain ⟨I15, q16, h⟩ := bn1_some h
  refine V_callV C0 (st := []) (As := [.ref (G.ad x1), .int (6 : Int32), .int v14]) 9 (c_X10_jot G.l G.D G.cA G.ad G.bs G.X C0.2.2.2.2.2.2.2.2.2.1 C0.2.2.2.2.2.2.2.2.2.2.2.2 x0 x1 (6 : Int32) v14 I13 L R I15 q16) lc_X10_jot lk_X10_196 c_x0.2 c_x0.1 ⟨_, rfl, rfl⟩ rfl (by rw [erm]; decide) (Nat.le_of_ble_eq_true rfl) dX10_makeLoad_61 ?_
  show V G _ 64 [(2, .ref (G.ad a1)), (0, .ref (G.ad x0)), (1, .ref (G.ad x1))] [] I15 L R
  cases h
  exact V_vret C0 dX10_makeLoad_64
theorem dX10_makeHeater_0 : decode cX10_makeHeater 0 = .ok (.aload_n 1, 1) := by decide +kernel
theorem dX10_makeHeater_1 : decode cX10_makeHeater 1 = .ok (.getfield 42, 3) := by decide +kernel
theorem dX10_makeHeater_4 : decode cX10_makeHeater 4 = .ok (.astore_n 2, 1) := by decide +kernel
theorem dX10_makeHeater_5 : decode cX10_makeHeater 5 = .ok (.aload_n 2, 1) := by decide +kernel
theorem dX10_makeHeater_6 : decode cX10_makeHeater 6 = .ok (.bipush 25, 2) := by decide +kernel
theorem dX10_makeHeater_8 : decode cX10_makeHeater 8 = .ok (.aload_n 1, 1) := by decide +kernel
theorem dX10_makeHeater_9 : decode cX10_makeHeater 9 = .ok (.invokevirtual 203, 3) := by decide +kernel
theorem dX10_makeHeater_12 : decode cX10_makeHeater 12 = .ok (.iconst 1, 1) := by decide +kernel
theorem dX10_makeHeater_13 : decode cX10_makeHeater 13 = .ok (.iadd, 1) := by decide +kernel
theorem dX10_makeHeater_14 : decode cX10_makeHeater 14 = .ok (.iastore, 1) := by decide +kernel
theorem dX10_makeHeater_15 : decode cX10_makeHeater 15 = .ok (.aload_n 0, 1) := by decide +kernel
theorem dX10_makeHeater_16 : decode cX10_makeHeater 16 = .ok (.aload_n 1, 1) := by decide +kernel
theorem dX10_makeHeater_17 : decode cX10_makeHeater 17 = .ok (.bipush 7, 2) := by decide +kernel
theorem dX10_makeHeater_19 : decode cX10_makeHeater 19 = .ok (.aload_n 2, 1) := by decide +kernel
theorem dX10_makeHeater_20 : decode cX10_makeHeater 20 = .ok (.bipush 25, 2) := by decide +kernel
theorem dX10_makeHeater_22 : decode cX10_makeHeater 22 = .ok (.iaload, 1) := by decide +kernel
theorem dX10_makeHeater_23 : decode cX10_makeHeater 23 = .ok (.invokevirtual 196, 3) := by decide +kernel
theorem dX10_makeHeater_26 : decode cX10_makeHeater 26 = .ok (.return_, 1) := by decide +kernel
def F_X10_makeHeater (N : Nat) (x0 : Nat) (x1 : Nat) (I : MI) (L : ML) (R : MR) : Option (MI) :=
  if kd x0 = 9 ∧ x0 < NN then
  if kd x1 = 8 ∧ x1 < NN then
  (rf R x1 0 20).bind fun a1 =>
  bn1 (F_X9_need N x1 I L R) fun v2 =>
  (wi I a1 (25 : Int32) (v2 + (1 : Int32))).bind fun I4 =>
  (ri I4 a1 (25 : Int32)).bind fun v5 =>
  bn1 (F_X10_jot x0 x1 (7 : Int32) v5 I4 L R) fun I6 =>
  some (I6)
  else none
  else none
set_option maxRecDepth 100000 in
set_option maxHeartbeats 4000000 in
theorem c_X10_makeHeater (l : Launch) (D : va_G) (cA : Nat → ClassId) (ad : Nat → Nat) (bs : Nat) (X : State → Prop) (hAd : Ax ad bs) (hX : Stb bs X) (N : Nat) (x0 : Nat) (x1 : Nat) (I : MI) (L : ML) (R : MR) (I' : MI) (h : F_X10_makeHeater N x0 x1 I L R = some (I')) : Cn l D cA ad bs X yX10_makeHeater cX10_makeHeater 3 none 1 24 [.ref (ad x0), .ref (ad x1)] I L R (none, I', L, R) := by
  refine Cn.ofV hAd hX [(0, .ref (ad x0)), (1, .ref (ad x1))] rfl (Nat.le_of_ble_eq_true rfl) (by decide) ?_
  intro G el eD ecA ead ebs eX erm eNL C0
  subst el eD ecA ead ebs eX
  unfold F_X10_makeHeater at h
  obtain ⟨c_x0, h⟩ := ite_some h
  obtain ⟨c_x1, h⟩ := ite_some h
  refine V_aload_n C0 1 rfl rfl dX10_makeHeater_0 ?_
  obtain ⟨a1, qa1, h⟩ := bnd_some h
  refine V_getR C0 8 0 fl_X10_42 c_x1.2 c_x1.1 rfl (rf_at qa1) dX10_makeHeater_1 ?_
  refine V_astore_n C0 [(2, .ref (G.ad a1)), (0, .ref (G.ad x0)), (1, .ref (G.ad x1))] rfl (by rw [eNL]; decide) rfl dX10_makeHeater_4 ?_
  refine V_aload_n C0 0 rfl rfl dX10_makeHeater_5 ?_
  refine V_bipush C0 (v := (25 : Int32)) (by decide) dX10_makeHeater_6 ?_
  refine V_aload_n C0 2 rfl rfl dX10_makeHeater_8 ?_
  obtain ⟨v2, q3, h⟩ := bn1_some h
  refine V_callV C0 (st := [.int (25 : Int32), .ref (G.ad a1)]) (As := []) 8 (c_X9_need G.l G.D G.cA G.ad G.bs G.X C0.2.2.2.2.2.2.2.2.2.1 C0.2.2.2.2.2.2.2.2.2.2.2.2 N x1 I L R v2 q3) lc_X9_need lk_X10_203 c_x1.2 c_x1.1 ⟨_, rfl, rfl⟩ rfl (by rw [erm]; decide) (Nat.le_of_ble_eq_true rfl) dX10_makeHeater_9 ?_
  show V G _ 12 [(2, .ref (G.ad a1)), (0, .ref (G.ad x0)), (1, .ref (G.ad x1))] [.int v2, .int (25 : Int32), .ref (G.ad a1)] I L R
  refine V_iconst C0 (v := (1 : Int32)) (by decide) dX10_makeHeater_12 ?_
  refine V_iadd C0 dX10_makeHeater_13 ?_
  obtain ⟨I4, qI4, h⟩ := bnd_some h
  refine V_wi C0 (rf_lt qa1) (rf_kd qa1) qI4 dX10_makeHeater_14 ?_
  refine V_aload_n C0 1 rfl rfl dX10_makeHeater_15 ?_
  refine V_aload_n C0 2 rfl rfl dX10_makeHeater_16 ?_
  refine V_bipush C0 (v := (7 : Int32)) (by decide) dX10_makeHeater_17 ?_
  refine V_aload_n C0 0 rfl rfl dX10_makeHeater_19 ?_
  refine V_bipush C0 (v := (25 : Int32)) (by decide) dX10_makeHeater_20 ?_
  obtain ⟨v5, qv5, h⟩ := bnd_some h
  refine V_ri C0 (rf_lt qa1) (rf_kd qa1) qv5 dX10_makeHeater_22 ?_
  obtain ⟨I6, q7, h⟩ := bn1_some h
  refine V_callV C0 (st := []) (As := [.ref (G.ad x1), .int (7 : Int32), .int v5]) 9 (c_X10_jot G.l G.D G.cA G.ad G.bs G.X C0.2.2.2.2.2.2.2.2.2.1 C0.2.2.2.2.2.2.2.2.2.2.2.2 x0 x1 (7 : Int32) v5 I4 L R I6 q7) lc_X10_jot lk_X10_196 c_x0.2 c_x0.1 ⟨_, rfl, rfl⟩ rfl (by rw [erm]; decide) (Nat.le_of_ble_eq_true rfl) dX10_makeHeater_23 ?_
  show V G _ 26 [(2, .ref (G.ad a1)), (0, .ref (G.ad x0)), (1, .ref (G.ad x1))] [] I6 L R
  cases h
  exact V_vret C0 dX10_makeHeater_26
theorem dX10_makeThermo_0 : decode cX10_makeThermo 0 = .ok (.aload_n 1, 1) := by decide +kernel
theorem dX10_makeThermo_1 : decode cX10_makeThermo 1 = .ok (.getfield 42, 3) := by decide +kernel
theorem dX10_makeThermo_4 : decode cX10_makeThermo 4 = .ok (.astore_n 2, 1) := by decide +kernel
theorem dX10_makeThermo_5 : decode cX10_makeThermo 5 = .ok (.aload_n 2, 1) := by decide +kernel
theorem dX10_makeThermo_6 : decode cX10_makeThermo 6 = .ok (.bipush 26, 2) := by decide +kernel
theorem dX10_makeThermo_8 : decode cX10_makeThermo 8 = .ok (.iconst 5, 1) := by decide +kernel
theorem dX10_makeThermo_9 : decode cX10_makeThermo 9 = .ok (.aload_n 2, 1) := by decide +kernel
theorem dX10_makeThermo_10 : decode cX10_makeThermo 10 = .ok (.bipush 21, 2) := by decide +kernel
theorem dX10_makeThermo_12 : decode cX10_makeThermo 12 = .ok (.iaload, 1) := by decide +kernel
theorem dX10_makeThermo_13 : decode cX10_makeThermo 13 = .ok (.iconst 5, 1) := by decide +kernel
theorem dX10_makeThermo_14 : decode cX10_makeThermo 14 = .ok (.imul, 1) := by decide +kernel
theorem dX10_makeThermo_15 : decode cX10_makeThermo 15 = .ok (.iadd, 1) := by decide +kernel
theorem dX10_makeThermo_16 : decode cX10_makeThermo 16 = .ok (.aload_n 2, 1) := by decide +kernel
theorem dX10_makeThermo_17 : decode cX10_makeThermo 17 = .ok (.bipush 25, 2) := by decide +kernel
theorem dX10_makeThermo_19 : decode cX10_makeThermo 19 = .ok (.iaload, 1) := by decide +kernel
theorem dX10_makeThermo_20 : decode cX10_makeThermo 20 = .ok (.bipush 8, 2) := by decide +kernel
theorem dX10_makeThermo_22 : decode cX10_makeThermo 22 = .ok (.idiv, 1) := by decide +kernel
theorem dX10_makeThermo_23 : decode cX10_makeThermo 23 = .ok (.iadd, 1) := by decide +kernel
theorem dX10_makeThermo_24 : decode cX10_makeThermo 24 = .ok (.iastore, 1) := by decide +kernel
theorem dX10_makeThermo_25 : decode cX10_makeThermo 25 = .ok (.aload_n 2, 1) := by decide +kernel
theorem dX10_makeThermo_26 : decode cX10_makeThermo 26 = .ok (.bipush 27, 2) := by decide +kernel
theorem dX10_makeThermo_28 : decode cX10_makeThermo 28 = .ok (.aload_n 1, 1) := by decide +kernel
theorem dX10_makeThermo_29 : decode cX10_makeThermo 29 = .ok (.getfield 206, 3) := by decide +kernel
theorem dX10_makeThermo_32 : decode cX10_makeThermo 32 = .ok (.iastore, 1) := by decide +kernel
theorem dX10_makeThermo_33 : decode cX10_makeThermo 33 = .ok (.aload_n 2, 1) := by decide +kernel
theorem dX10_makeThermo_34 : decode cX10_makeThermo 34 = .ok (.bipush 28, 2) := by decide +kernel
theorem dX10_makeThermo_36 : decode cX10_makeThermo 36 = .ok (.aload_n 1, 1) := by decide +kernel
theorem dX10_makeThermo_37 : decode cX10_makeThermo 37 = .ok (.getfield 209, 3) := by decide +kernel
theorem dX10_makeThermo_40 : decode cX10_makeThermo 40 = .ok (.iastore, 1) := by decide +kernel
theorem dX10_makeThermo_41 : decode cX10_makeThermo 41 = .ok (.aload_n 0, 1) := by decide +kernel
theorem dX10_makeThermo_42 : decode cX10_makeThermo 42 = .ok (.aload_n 1, 1) := by decide +kernel
theorem dX10_makeThermo_43 : decode cX10_makeThermo 43 = .ok (.bipush 8, 2) := by decide +kernel
theorem dX10_makeThermo_45 : decode cX10_makeThermo 45 = .ok (.aload_n 1, 1) := by decide +kernel
theorem dX10_makeThermo_46 : decode cX10_makeThermo 46 = .ok (.invokevirtual 78, 3) := by decide +kernel
theorem dX10_makeThermo_49 : decode cX10_makeThermo 49 = .ok (.invokevirtual 196, 3) := by decide +kernel
theorem dX10_makeThermo_52 : decode cX10_makeThermo 52 = .ok (.return_, 1) := by decide +kernel
def F_X10_makeThermo (N : Nat) (x0 : Nat) (x1 : Nat) (I : MI) (L : ML) (R : MR) : Option (MI) :=
  if kd x0 = 9 ∧ x0 < NN then
  if kd x1 = 8 ∧ x1 < NN then
  (rf R x1 0 20).bind fun a1 =>
  (ri I a1 (21 : Int32)).bind fun v2 =>
  (ri I a1 (25 : Int32)).bind fun v3 =>
  (wi I a1 (26 : Int32) (((5 : Int32) + (v2 * (5 : Int32))) + (v3 / (8 : Int32)))).bind fun I4 =>
  (wi I4 a1 (27 : Int32) (I4 x1 5)).bind fun I5 =>
  (wi I5 a1 (28 : Int32) (I5 x1 6)).bind fun I6 =>
  bn1 (F_X9_test N x1 I6 L R) fun v7 =>
  bn1 (F_X10_jot x0 x1 (8 : Int32) v7 I6 L R) fun I9 =>
  some (I9)
  else none
  else none
set_option maxRecDepth 100000 in
set_option maxHeartbeats 4000000 in
theorem c_X10_makeThermo (l : Launch) (D : va_G) (cA : Nat → ClassId) (ad : Nat → Nat) (bs : Nat) (X : State → Prop) (hAd : Ax ad bs) (hX : Stb bs X) (N : Nat) (x0 : Nat) (x1 : Nat) (I : MI) (L : ML) (R : MR) (I' : MI) (h : F_X10_makeThermo N x0 x1 I L R = some (I')) : Cn l D cA ad bs X yX10_makeThermo cX10_makeThermo 3 none 1 24 [.ref (ad x0), .ref (ad x1)] I L R (none, I', L, R) := by
  refine Cn.ofV hAd hX [(0, .ref (ad x0)), (1, .ref (ad x1))] rfl (Nat.le_of_ble_eq_true rfl) (by decide) ?_
  intro G el eD ecA ead ebs eX erm eNL C0
  subst el eD ecA ead ebs eX
  unfold F_X10_makeThermo at h
  obtain ⟨c_x0, h⟩ := ite_some h
  obtain ⟨c_x1, h⟩ := ite_some h
  refine V_aload_n C0 1 rfl rfl dX10_makeThermo_0 ?_
  obtain ⟨a1, qa1, h⟩ := bnd_some h
  refine V_getR C0 8 0 fl_X10_42 c_x1.2 c_x1.1 rfl (rf_at qa1) dX10_makeThermo_1 ?_
  refine V_astore_n C0 [(2, .ref (G.ad a1)), (0, .ref (G.ad x0)), (1, .ref (G.ad x1))] rfl (by rw [eNL]; decide) rfl dX10_makeThermo_4 ?_
  refine V_aload_n C0 0 rfl rfl dX10_makeThermo_5 ?_
  refine V_bipush C0 (v := (26 : Int32)) (by decide) dX10_makeThermo_6 ?_
  refine V_iconst C0 (v := (5 : Int32)) (by decide) dX10_makeThermo_8 ?_
  refine V_aload_n C0 0 rfl rfl dX10_makeThermo_9 ?_
  refine V_bipush C0 (v := (21 : Int32)) (by decide) dX10_makeThermo_10 ?_
  obtain ⟨v2, qv2, h⟩ := bnd_some h
  refine V_ri C0 (rf_lt qa1) (rf_kd qa1) qv2 dX10_makeThermo_12 ?_
  refine V_iconst C0 (v := (5 : Int32)) (by decide) dX10_makeThermo_13 ?_
  refine V_imul C0 dX10_makeThermo_14 ?_
  refine V_iadd C0 dX10_makeThermo_15 ?_
  refine V_aload_n C0 0 rfl rfl dX10_makeThermo_16 ?_
  refine V_bipush C0 (v := (25 : Int32)) (by decide) dX10_makeThermo_17 ?_
  obtain ⟨v3, qv3, h⟩ := bnd_some h
  refine V_ri C0 (rf_lt qa1) (rf_kd qa1) qv3 dX10_makeThermo_19 ?_
  refine V_bipush C0 (v := (8 : Int32)) (by decide) dX10_makeThermo_20 ?_
  refine V_idiv C0 (by decide) dX10_makeThermo_22 ?_
  refine V_iadd C0 dX10_makeThermo_23 ?_
  obtain ⟨I4, qI4, h⟩ := bnd_some h
  refine V_wi C0 (rf_lt qa1) (rf_kd qa1) qI4 dX10_makeThermo_24 ?_
  refine V_aload_n C0 0 rfl rfl dX10_makeThermo_25 ?_
  refine V_bipush C0 (v := (27 : Int32)) (by decide) dX10_makeThermo_26 ?_
  refine V_aload_n C0 2 rfl rfl dX10_makeThermo_28 ?_
  refine V_getI C0 8 5 fl_X10_206 c_x1.2 c_x1.1 rfl dX10_makeThermo_29 ?_
  obtain ⟨I5, qI5, h⟩ := bnd_some h
  refine V_wi C0 (rf_lt qa1) (rf_kd qa1) qI5 dX10_makeThermo_32 ?_
  refine V_aload_n C0 0 rfl rfl dX10_makeThermo_33 ?_
  refine V_bipush C0 (v := (28 : Int32)) (by decide) dX10_makeThermo_34 ?_
  refine V_aload_n C0 2 rfl rfl dX10_makeThermo_36 ?_
  refine V_getI C0 8 6 fl_X10_209 c_x1.2 c_x1.1 rfl dX10_makeThermo_37 ?_
  obtain ⟨I6, qI6, h⟩ := bnd_some h
  refine V_wi C0 (rf_lt qa1) (rf_kd qa1) qI6 dX10_makeThermo_40 ?_
  refine V_aload_n C0 1 rfl rfl dX10_makeThermo_41 ?_
  refine V_aload_n C0 2 rfl rfl dX10_makeThermo_42 ?_
  refine V_bipush C0 (v := (8 : Int32)) (by decide) dX10_makeThermo_43 ?_
  refine V_aload_n C0 2 rfl rfl dX10_makeThermo_45 ?_
  obtain ⟨v7, q8, h⟩ := bn1_some h
  refine V_callV C0 (st := [.int (8 : Int32), .ref (G.ad x1), .ref (G.ad x0)]) (As := []) 8 (c_X9_test G.l G.D G.cA G.ad G.bs G.X C0.2.2.2.2.2.2.2.2.2.1 C0.2.2.2.2.2.2.2.2.2.2.2.2 N x1 I6 L R v7 q8) lc_X9_test lk_X10_78 c_x1.2 c_x1.1 ⟨_, rfl, rfl⟩ rfl (by rw [erm]; decide) (Nat.le_of_ble_eq_true rfl) dX10_makeThermo_46 ?_
  show V G _ 49 [(2, .ref (G.ad a1)), (0, .ref (G.ad x0)), (1, .ref (G.ad x1))] [.int v7, .int (8 : Int32), .ref (G.ad x1), .ref (G.ad x0)] I6 L R
  obtain ⟨I9, q10, h⟩ := bn1_some h
  refine V_callV C0 (st := []) (As := [.ref (G.ad x1), .int (8 : Int32), .int v7]) 9 (c_X10_jot G.l G.D G.cA G.ad G.bs G.X C0.2.2.2.2.2.2.2.2.2.1 C0.2.2.2.2.2.2.2.2.2.2.2.2 x0 x1 (8 : Int32) v7 I6 L R I9 q10) lc_X10_jot lk_X10_196 c_x0.2 c_x0.1 ⟨_, rfl, rfl⟩ rfl (by rw [erm]; decide) (Nat.le_of_ble_eq_true rfl) dX10_makeThermo_49 ?_
  show V G _ 52 [(2, .ref (G.ad a1)), (0, .ref (G.ad x0)), (1, .ref (G.ad x1))] [] I9 L R
  cases h
  exact V_vret C0 dX10_makeThermo_52
theorem dX9_channels_0 : decode cX9_channels 0 = .ok (.iconst 0, 1) := by decide +kernel
theorem dX9_channels_1 : decode cX9_channels 1 = .ok (.istore_n 1, 1) := by decide +kernel
theorem dX9_channels_2 : decode cX9_channels 2 = .ok (.iconst 0, 1) := by decide +kernel
theorem dX9_channels_3 : decode cX9_channels 3 = .ok (.istore_n 2, 1) := by decide +kernel
theorem dX9_channels_4 : decode cX9_channels 4 = .ok (.iload_n 2, 1) := by decide +kernel
theorem dX9_channels_5 : decode cX9_channels 5 = .ok (.aload_n 0, 1) := by decide +kernel
theorem dX9_channels_6 : decode cX9_channels 6 = .ok (.getfield 53, 3) := by decide +kernel
theorem dX9_channels_9 : decode cX9_channels 9 = .ok (.if_icmp .ge 121, 3) := by decide +kernel
theorem dX9_channels_12 : decode cX9_channels 12 = .ok (.iload_n 2, 1) := by decide +kernel
theorem dX9_channels_13 : decode cX9_channels 13 = .ok (.aload_n 0, 1) := by decide +kernel
theorem dX9_channels_14 : decode cX9_channels 14 = .ok (.getfield 15, 3) := by decide +kernel
theorem dX9_channels_17 : decode cX9_channels 17 = .ok (.arraylength, 1) := by decide +kernel
theorem dX9_channels_18 : decode cX9_channels 18 = .ok (.if_icmp .ge 112, 3) := by decide +kernel
theorem dX9_channels_21 : decode cX9_channels 21 = .ok (.aload_n 0, 1) := by decide +kernel
theorem dX9_channels_22 : decode cX9_channels 22 = .ok (.getfield 15, 3) := by decide +kernel
theorem dX9_channels_25 : decode cX9_channels 25 = .ok (.iload_n 2, 1) := by decide +kernel
theorem dX9_channels_26 : decode cX9_channels 26 = .ok (.iaload, 1) := by decide +kernel
theorem dX9_channels_27 : decode cX9_channels 27 = .ok (.tableswitch 97 9 14 #[37, 42, 53, 66, 71, 84], 37) := by decide +kernel
theorem dX9_channels_64 : decode cX9_channels 64 = .ok (.iconst 1, 1) := by decide +kernel
theorem dX9_channels_65 : decode cX9_channels 65 = .ok (.istore_n 1, 1) := by decide +kernel
theorem dX9_channels_66 : decode cX9_channels 66 = .ok (.goto 58, 3) := by decide +kernel
theorem dX9_channels_69 : decode cX9_channels 69 = .ok (.aload_n 0, 1) := by decide +kernel
theorem dX9_channels_70 : decode cX9_channels 70 = .ok (.getfield 9, 3) := by decide +kernel
theorem dX9_channels_73 : decode cX9_channels 73 = .ok (.bipush 34, 2) := by decide +kernel
theorem dX9_channels_75 : decode cX9_channels 75 = .ok (.iaload, 1) := by decide +kernel
theorem dX9_channels_76 : decode cX9_channels 76 = .ok (.istore_n 1, 1) := by decide +kernel
theorem dX9_channels_77 : decode cX9_channels 77 = .ok (.goto 47, 3) := by decide +kernel
theorem dX9_channels_80 : decode cX9_channels 80 = .ok (.iload_n 1, 1) := by decide +kernel
theorem dX9_channels_81 : decode cX9_channels 81 = .ok (.aload_n 0, 1) := by decide +kernel
theorem dX9_channels_82 : decode cX9_channels 82 = .ok (.getfield 9, 3) := by decide +kernel
theorem dX9_channels_85 : decode cX9_channels 85 = .ok (.bipush 36, 2) := by decide +kernel
theorem dX9_channels_87 : decode cX9_channels 87 = .ok (.iaload, 1) := by decide +kernel
theorem dX9_channels_88 : decode cX9_channels 88 = .ok (.iadd, 1) := by decide +kernel
theorem dX9_channels_89 : decode cX9_channels 89 = .ok (.istore_n 1, 1) := by decide +kernel
theorem dX9_channels_90 : decode cX9_channels 90 = .ok (.goto 34, 3) := by decide +kernel
theorem dX9_channels_93 : decode cX9_channels 93 = .ok (.iconst 2, 1) := by decide +kernel
theorem dX9_channels_94 : decode cX9_channels 94 = .ok (.istore_n 1, 1) := by decide +kernel
theorem dX9_channels_95 : decode cX9_channels 95 = .ok (.goto 29, 3) := by decide +kernel
theorem dX9_channels_98 : decode cX9_channels 98 = .ok (.iload_n 1, 1) := by decide +kernel
theorem dX9_channels_99 : decode cX9_channels 99 = .ok (.aload_n 0, 1) := by decide +kernel
theorem dX9_channels_100 : decode cX9_channels 100 = .ok (.getfield 9, 3) := by decide +kernel
theorem dX9_channels_103 : decode cX9_channels 103 = .ok (.bipush 38, 2) := by decide +kernel
theorem dX9_channels_105 : decode cX9_channels 105 = .ok (.iaload, 1) := by decide +kernel
theorem dX9_channels_106 : decode cX9_channels 106 = .ok (.iadd, 1) := by decide +kernel
theorem dX9_channels_107 : decode cX9_channels 107 = .ok (.istore_n 1, 1) := by decide +kernel
theorem dX9_channels_108 : decode cX9_channels 108 = .ok (.goto 16, 3) := by decide +kernel
theorem dX9_channels_111 : decode cX9_channels 111 = .ok (.iconst 3, 1) := by decide +kernel
theorem dX9_channels_112 : decode cX9_channels 112 = .ok (.aload_n 0, 1) := by decide +kernel
theorem dX9_channels_113 : decode cX9_channels 113 = .ok (.getfield 9, 3) := by decide +kernel
theorem dX9_channels_116 : decode cX9_channels 116 = .ok (.bipush 39, 2) := by decide +kernel
theorem dX9_channels_118 : decode cX9_channels 118 = .ok (.iaload, 1) := by decide +kernel
theorem dX9_channels_119 : decode cX9_channels 119 = .ok (.iadd, 1) := by decide +kernel
theorem dX9_channels_120 : decode cX9_channels 120 = .ok (.istore_n 1, 1) := by decide +kernel
theorem dX9_channels_121 : decode cX9_channels 121 = .ok (.goto 3, 3) := by decide +kernel
theorem dX9_channels_124 : decode cX9_channels 124 = .ok (.iinc 2 1, 3) := by decide +kernel
theorem dX9_channels_127 : decode cX9_channels 127 = .ok (.goto (-123), 3) := by decide +kernel
theorem dX9_channels_130 : decode cX9_channels 130 = .ok (.iload_n 1, 1) := by decide +kernel
theorem dX9_channels_131 : decode cX9_channels 131 = .ok (.ireturn, 1) := by decide +kernel
def LF_X9_channels_4 (N : Nat) : Nat → Nat → Int32 → Int32 → MI → ML → MR → Option (Int32)
  | 0, _, _, _, _, _, _ => none
  | k + 1, y0, y1, y2, I, L, R =>
    if (I y0 7) ≤ y2 then
      some (y1)
    else
      (rf R y0 1 20).bind fun a2 =>
      if (Int32.ofNat (ln a2)) ≤ y2 then
        some (y1)
      else
        (ri I a2 y2).bind fun v4 =>
        bn1 (
          if v4 = (9 : Int32) then
            some ((1 : Int32))
          else
            if v4 = (10 : Int32) then
              (rf R y0 0 20).bind fun a11 =>
              (ri I a11 (34 : Int32)).bind fun v12 =>
              some (v12)
            else
              if v4 = (11 : Int32) then
                (rf R y0 0 20).bind fun a14 =>
                (ri I a14 (36 : Int32)).bind fun v15 =>
                wr (y1 + v15) fun (u16 : Int32) =>
                some (u16)
              else
                if v4 = (12 : Int32) then
                  some ((2 : Int32))
                else
                  if v4 = (13 : Int32) then
                    (rf R y0 0 20).bind fun a19 =>
                    (ri I a19 (38 : Int32)).bind fun v20 =>
                    wr (y1 + v20) fun (u21 : Int32) =>
                    some (u21)
                  else
                    if v4 = (14 : Int32) then
                      (rf R y0 0 20).bind fun a23 =>
                      (ri I a23 (39 : Int32)).bind fun v24 =>
                      wr ((3 : Int32) + v24) fun (u25 : Int32) =>
                      some (u25)
                    else
                      some (y1)
        ) fun (u5 : Int32) =>
        wr (y2 + (1 : Int32)) fun (u26 : Int32) =>
        LF_X9_channels_4 N k y0 u5 u26 I L R
def F_X9_channels (N : Nat) (x0 : Nat) (I : MI) (L : ML) (R : MR) : Option (Int32) :=
  if kd x0 = 8 ∧ x0 < NN then
  bn1 (LF_X9_channels_4 N N x0 (0 : Int32) (0 : Int32) I L R) fun z27 =>
  some (z27)
  else none
set_option maxRecDepth 100000 in
set_option maxHeartbeats 4000000 in
theorem lp_X9_channels_4 {G : Gm} (C0 : Cx G (yX9_channels.cls) cX9_channels (some .int)) (eNL : G.nL = 3) (erm : G.rm = ({ frames := 0, cells := 0, slots := 0, locals := 0 } : Room)) (N : Nat) : ∀ (k : Nat) (y0 : Nat) (y1 : Int32) (y2 : Int32) (I : MI) (L : ML) (R : MR) (z : Int32) (hk0 : kd y0 = 8) (ho0 : y0 < NN), LF_X9_channels_4 N k y0 y1 y2 I L R = some z → ∀ f : State → Prop, V G f 130 [(1, .int z)] [] I L R → V G f 4 [(0, .ref (G.ad y0)), (1, .int y1), (2, .int y2)] [] I L R := by
  intro k
  induction k with
  | zero =>
    intro y0 y1 y2 I L R q hk0 ho0 h
    exact absurd h (by simp [LF_X9_channels_4])
  | succ k ih =>
    intro y0 y1 y2 I L R q hk0 ho0 h f kx
    rw [LF_X9_channels_4] at h
    refine V_iload_n C0 2 rfl rfl dX9_channels_4 ?_
    refine V_aload_n C0 0 rfl rfl dX9_channels_5 ?_
    refine V_getI C0 8 7 fl_X9_53 ho0 hk0 rfl dX9_channels_6 ?_
    refine V_icmp_ge C0 (tgt := 130) (by decide) dX9_channels_9 (fun c1 => ?_) (fun c1 => ?_)
    · have h := (if_pos c1).symm.trans h
      cases h
      exact V_sub [1] rfl kx
    · have h := (if_neg c1).symm.trans h
      refine V_iload_n C0 2 rfl rfl dX9_channels_12 ?_
      refine V_aload_n C0 0 rfl rfl dX9_channels_13 ?_
      obtain ⟨a2, qa2, h⟩ := bnd_some h
      refine V_getR C0 8 1 fl_X9_15 ho0 hk0 rfl (rf_at qa2) dX9_channels_14 ?_
      refine V_alen C0 (v := Int32.ofNat (ln a2)) (rf_lt qa2) (by rw [(rf_kd qa2)]; decide) rfl dX9_channels_17 ?_
      refine V_icmp_ge C0 (tgt := 130) (by decide) dX9_channels_18 (fun c3 => ?_) (fun c3 => ?_)
      · have h := (if_pos c3).symm.trans h
        cases h
        exact V_sub [1] rfl kx
      · have h := (if_neg c3).symm.trans h
        refine V_aload_n C0 0 rfl rfl dX9_channels_21 ?_
        refine V_getR C0 8 1 fl_X9_15 ho0 hk0 rfl (rf_at qa2) dX9_channels_22 ?_
        refine V_iload_n C0 2 rfl rfl dX9_channels_25 ?_
        obtain ⟨v4, qv4, h⟩ := bnd_some h
        refine V_ri C0 (rf_lt qa2) (rf_kd qa2) qv4 dX9_channels_26 ?_
        obtain ⟨u5, q6, h⟩ := bn1_some h
        have k7 : V G f 124 [(0, .ref (G.ad y0)), (1, .int u5), (2, .int y2)] [] I L R := by
          obtain ⟨u26, eu26, h⟩ := wr_some h
          refine V_iinc C0 2 [(2, .int u26), (0, .ref (G.ad y0)), (1, .int u5)] rfl (n := 1) (by rw [eu26]; rfl) (by rw [eNL]; decide) rfl dX9_channels_124 ?_
          refine V_goto C0 (tgt := 4) (by decide) dX9_channels_127 ?_
          exact V_sub [1, 2, 0] rfl (ih y0 u5 u26 I L R _ hk0 ho0 h f kx)
        have nd8 := nd_0 v4
        by_cases c9 : v4 = (9 : Int32)
        · have q6 := (if_pos c9).symm.trans q6
          refine V_tableC C0 (tgt := 64) (v := (9 : Int32)) c9 (by decide) (by decide) dX9_channels_27 ?_
          refine V_iconst C0 (v := (1 : Int32)) (by decide) dX9_channels_64 ?_
          refine V_istore_n C0 [(1, .int (1 : Int32)), (0, .ref (G.ad y0)), (2, .int y2)] rfl (by rw [eNL]; decide) rfl dX9_channels_65 ?_
          refine V_goto C0 (tgt := 124) (by decide) dX9_channels_66 ?_
          cases q6
          exact V_sub [1, 0, 2] rfl k7
        · have q6 := (if_neg c9).symm.trans q6
          have nd8 := nd_add nd8 c9
          by_cases c10 : v4 = (10 : Int32)
          · have q6 := (if_pos c10).symm.trans q6
            refine V_tableC C0 (tgt := 69) (v := (10 : Int32)) c10 (by decide) (by decide) dX9_channels_27 ?_
            refine V_aload_n C0 0 rfl rfl dX9_channels_69 ?_
            obtain ⟨a11, qa11, q6⟩ := bnd_some q6
            refine V_getR C0 8 0 fl_X9_9 ho0 hk0 rfl (rf_at qa11) dX9_channels_70 ?_
            refine V_bipush C0 (v := (34 : Int32)) (by decide) dX9_channels_73 ?_
            obtain ⟨v12, qv12, q6⟩ := bnd_some q6
            refine V_ri C0 (rf_lt qa11) (rf_kd qa11) qv12 dX9_channels_75 ?_
            refine V_istore_n C0 [(1, .int v12), (0, .ref (G.ad y0)), (2, .int y2)] rfl (by rw [eNL]; decide) rfl dX9_channels_76 ?_
            refine V_goto C0 (tgt := 124) (by decide) dX9_channels_77 ?_
            cases q6
            exact V_sub [1, 0, 2] rfl k7
          · have q6 := (if_neg c10).symm.trans q6
            have nd8 := nd_add nd8 c10
            by_cases c13 : v4 = (11 : Int32)
            · have q6 := (if_pos c13).symm.trans q6
              refine V_tableC C0 (tgt := 80) (v := (11 : Int32)) c13 (by decide) (by decide) dX9_channels_27 ?_
              refine V_iload_n C0 1 rfl rfl dX9_channels_80 ?_
              refine V_aload_n C0 0 rfl rfl dX9_channels_81 ?_
              obtain ⟨a14, qa14, q6⟩ := bnd_some q6
              refine V_getR C0 8 0 fl_X9_9 ho0 hk0 rfl (rf_at qa14) dX9_channels_82 ?_
              refine V_bipush C0 (v := (36 : Int32)) (by decide) dX9_channels_85 ?_
              obtain ⟨v15, qv15, q6⟩ := bnd_some q6
              refine V_ri C0 (rf_lt qa14) (rf_kd qa14) qv15 dX9_channels_87 ?_
              refine V_iadd C0 dX9_channels_88 ?_
              obtain ⟨u16, eu16, q6⟩ := wr_some q6
              rw [← eu16]
              refine V_istore_n C0 [(1, .int u16), (0, .ref (G.ad y0)), (2, .int y2)] rfl (by rw [eNL]; decide) rfl dX9_channels_89 ?_
              refine V_goto C0 (tgt := 124) (by decide) dX9_channels_90 ?_
              cases q6
              exact V_sub [1, 0, 2] rfl k7
            · have q6 := (if_neg c13).symm.trans q6
              have nd8 := nd_add nd8 c13
              by_cases c17 : v4 = (12 : Int32)
              · have q6 := (if_pos c17).symm.trans q6
                refine V_tableC C0 (tgt := 93) (v := (12 : Int32)) c17 (by decide) (by decide) dX9_channels_27 ?_
                refine V_iconst C0 (v := (2 : Int32)) (by decide) dX9_channels_93 ?_
                refine V_istore_n C0 [(1, .int (2 : Int32)), (0, .ref (G.ad y0)), (2, .int y2)] rfl (by rw [eNL]; decide) rfl dX9_channels_94 ?_
                refine V_goto C0 (tgt := 124) (by decide) dX9_channels_95 ?_
                cases q6
                exact V_sub [1, 0, 2] rfl k7
              · have q6 := (if_neg c17).symm.trans q6
                have nd8 := nd_add nd8 c17
                by_cases c18 : v4 = (13 : Int32)
                · have q6 := (if_pos c18).symm.trans q6
                  refine V_tableC C0 (tgt := 98) (v := (13 : Int32)) c18 (by decide) (by decide) dX9_channels_27 ?_
                  refine V_iload_n C0 1 rfl rfl dX9_channels_98 ?_
                  refine V_aload_n C0 0 rfl rfl dX9_channels_99 ?_
                  obtain ⟨a19, qa19, q6⟩ := bnd_some q6
                  refine V_getR C0 8 0 fl_X9_9 ho0 hk0 rfl (rf_at qa19) dX9_channels_100 ?_
                  refine V_bipush C0 (v := (38 : Int32)) (by decide) dX9_channels_103 ?_
                  obtain ⟨v20, qv20, q6⟩ := bnd_some q6
                  refine V_ri C0 (rf_lt qa19) (rf_kd qa19) qv20 dX9_channels_105 ?_
                  refine V_iadd C0 dX9_channels_106 ?_
                  obtain ⟨u21, eu21, q6⟩ := wr_some q6
                  rw [← eu21]
                  refine V_istore_n C0 [(1, .int u21), (0, .ref (G.ad y0)), (2, .int y2)] rfl (by rw [eNL]; decide) rfl dX9_channels_107 ?_
                  refine V_goto C0 (tgt := 124) (by decide) dX9_channels_108 ?_
                  cases q6
                  exact V_sub [1, 0, 2] rfl k7
                · have q6 := (if_neg c18).symm.trans q6
                  have nd8 := nd_add nd8 c18
                  by_cases c22 : v4 = (14 : Int32)
                  · have q6 := (if_pos c22).symm.trans q6
                    refine V_tableC C0 (tgt := 111) (v := (14 : Int32)) c22 (by decide) (by decide) dX9_channels_27 ?_
                    refine V_iconst C0 (v := (3 : Int32)) (by decide) dX9_channels_111 ?_
                    refine V_aload_n C0 0 rfl rfl dX9_channels_112 ?_
                    obtain ⟨a23, qa23, q6⟩ := bnd_some q6
                    refine V_getR C0 8 0 fl_X9_9 ho0 hk0 rfl (rf_at qa23) dX9_channels_113 ?_
                    refine V_bipush C0 (v := (39 : Int32)) (by decide) dX9_channels_116 ?_
                    obtain ⟨v24, qv24, q6⟩ := bnd_some q6
                    refine V_ri C0 (rf_lt qa23) (rf_kd qa23) qv24 dX9_channels_118 ?_
                    refine V_iadd C0 dX9_channels_119 ?_
                    obtain ⟨u25, eu25, q6⟩ := wr_some q6
                    rw [← eu25]
                    refine V_istore_n C0 [(1, .int u25), (0, .ref (G.ad y0)), (2, .int y2)] rfl (by rw [eNL]; decide) rfl dX9_channels_120 ?_
                    refine V_goto C0 (tgt := 124) (by decide) dX9_channels_121 ?_
                    cases q6
                    exact V_sub [1, 0, 2] rfl k7
                  · have q6 := (if_neg c22).symm.trans q6
                    have nd8 := nd_add nd8 c22
                    refine V_tableN C0 (tgt := 124) nd8 (by decide) (by decide) dX9_channels_27 ?_
                    cases q6
                    exact V_sub [0, 1, 2] rfl k7
set_option maxRecDepth 100000 in
set_option maxHeartbeats 4000000 in
theorem c_X9_channels (l : Launch) (D : va_G) (cA : Nat → ClassId) (ad : Nat → Nat) (bs : Nat) (X : State → Prop) (hAd : Ax ad bs) (hX : Stb bs X) (N : Nat) (x0 : Nat) (I : MI) (L : ML) (R : MR) (r : Int32) (h : F_X9_channels N x0 I L R = some (r)) : Cn l D cA ad bs X yX9_channels cX9_channels 3 (some .int) 0 0 [.ref (ad x0)] I L R (some (.int r), I, L, R) := by
  refine Cn.ofV hAd hX [(0, .ref (ad x0))] rfl (Nat.le_of_ble_eq_true rfl) (by decide) ?_
  intro G el eD ecA ead ebs eX erm eNL C0
  subst el eD ecA ead ebs eX
  unfold F_X9_channels at h
  obtain ⟨c_x0, h⟩ := ite_some h
  refine V_iconst C0 (v := (0 : Int32)) (by decide) dX9_channels_0 ?_
  refine V_istore_n C0 [(1, .int (0 : Int32)), (0, .ref (G.ad x0))] rfl (by rw [eNL]; decide) rfl dX9_channels_1 ?_
  refine V_iconst C0 (v := (0 : Int32)) (by decide) dX9_channels_2 ?_
  refine V_istore_n C0 [(2, .int (0 : Int32)), (1, .int (0 : Int32)), (0, .ref (G.ad x0))] rfl (by rw [eNL]; decide) rfl dX9_channels_3 ?_
  obtain ⟨z27, q28, h⟩ := bn1_some h
  refine V_sub [2, 1, 0] rfl (lp_X9_channels_4 C0 eNL erm N N x0 (0 : Int32) (0 : Int32) I L R _ c_x0.1 c_x0.2 q28 _ ?_)
  show V G _ 130 [(1, .int z27)] [] I L R
  refine V_iload_n C0 0 rfl rfl dX9_channels_130 ?_
  cases h
  exact V_iret C0 dX9_channels_131
theorem dX10_makeSensor_0 : decode cX10_makeSensor 0 = .ok (.aload_n 1, 1) := by decide +kernel
theorem dX10_makeSensor_1 : decode cX10_makeSensor 1 = .ok (.getfield 42, 3) := by decide +kernel
theorem dX10_makeSensor_4 : decode cX10_makeSensor 4 = .ok (.astore_n 2, 1) := by decide +kernel
theorem dX10_makeSensor_5 : decode cX10_makeSensor 5 = .ok (.aload_n 2, 1) := by decide +kernel
theorem dX10_makeSensor_6 : decode cX10_makeSensor 6 = .ok (.bipush 29, 2) := by decide +kernel
theorem dX10_makeSensor_8 : decode cX10_makeSensor 8 = .ok (.aload_n 0, 1) := by decide +kernel
theorem dX10_makeSensor_9 : decode cX10_makeSensor 9 = .ok (.invokevirtual 184, 3) := by decide +kernel
theorem dX10_makeSensor_12 : decode cX10_makeSensor 12 = .ok (.bipush 7, 2) := by decide +kernel
theorem dX10_makeSensor_14 : decode cX10_makeSensor 14 = .ok (.irem, 1) := by decide +kernel
theorem dX10_makeSensor_15 : decode cX10_makeSensor 15 = .ok (.iastore, 1) := by decide +kernel
theorem dX10_makeSensor_16 : decode cX10_makeSensor 16 = .ok (.aload_n 2, 1) := by decide +kernel
theorem dX10_makeSensor_17 : decode cX10_makeSensor 17 = .ok (.bipush 30, 2) := by decide +kernel
theorem dX10_makeSensor_19 : decode cX10_makeSensor 19 = .ok (.aload_n 1, 1) := by decide +kernel
theorem dX10_makeSensor_20 : decode cX10_makeSensor 20 = .ok (.invokevirtual 212, 3) := by decide +kernel
theorem dX10_makeSensor_23 : decode cX10_makeSensor 23 = .ok (.iastore, 1) := by decide +kernel
theorem dX10_makeSensor_24 : decode cX10_makeSensor 24 = .ok (.aload_n 2, 1) := by decide +kernel
theorem dX10_makeSensor_25 : decode cX10_makeSensor 25 = .ok (.bipush 31, 2) := by decide +kernel
theorem dX10_makeSensor_27 : decode cX10_makeSensor 27 = .ok (.aload_n 1, 1) := by decide +kernel
theorem dX10_makeSensor_28 : decode cX10_makeSensor 28 = .ok (.getfield 206, 3) := by decide +kernel
theorem dX10_makeSensor_31 : decode cX10_makeSensor 31 = .ok (.iastore, 1) := by decide +kernel
theorem dX10_makeSensor_32 : decode cX10_makeSensor 32 = .ok (.aload_n 2, 1) := by decide +kernel
theorem dX10_makeSensor_33 : decode cX10_makeSensor 33 = .ok (.bipush 32, 2) := by decide +kernel
theorem dX10_makeSensor_35 : decode cX10_makeSensor 35 = .ok (.iconst 0, 1) := by decide +kernel
theorem dX10_makeSensor_36 : decode cX10_makeSensor 36 = .ok (.iastore, 1) := by decide +kernel
theorem dX10_makeSensor_37 : decode cX10_makeSensor 37 = .ok (.aload_n 0, 1) := by decide +kernel
theorem dX10_makeSensor_38 : decode cX10_makeSensor 38 = .ok (.aload_n 1, 1) := by decide +kernel
theorem dX10_makeSensor_39 : decode cX10_makeSensor 39 = .ok (.bipush 9, 2) := by decide +kernel
theorem dX10_makeSensor_41 : decode cX10_makeSensor 41 = .ok (.aload_n 2, 1) := by decide +kernel
theorem dX10_makeSensor_42 : decode cX10_makeSensor 42 = .ok (.bipush 30, 2) := by decide +kernel
theorem dX10_makeSensor_44 : decode cX10_makeSensor 44 = .ok (.iaload, 1) := by decide +kernel
theorem dX10_makeSensor_45 : decode cX10_makeSensor 45 = .ok (.invokevirtual 196, 3) := by decide +kernel
theorem dX10_makeSensor_48 : decode cX10_makeSensor 48 = .ok (.return_, 1) := by decide +kernel
def F_X10_makeSensor (N : Nat) (x0 : Nat) (x1 : Nat) (I : MI) (L : ML) (R : MR) : Option (MI) :=
  if kd x0 = 9 ∧ x0 < NN then
  if kd x1 = 8 ∧ x1 < NN then
  (rf R x1 0 20).bind fun a1 =>
  bn2 (F_X10_draw x0 I L R) fun v2 I3 =>
  (wi I3 a1 (29 : Int32) (iR v2 (7 : Int32))).bind fun I5 =>
  bn1 (F_X9_channels N x1 I5 L R) fun v6 =>
  (wi I5 a1 (30 : Int32) v6).bind fun I8 =>
  (wi I8 a1 (31 : Int32) (I8 x1 5)).bind fun I9 =>
  (wi I9 a1 (32 : Int32) (0 : Int32)).bind fun I10 =>
  (ri I10 a1 (30 : Int32)).bind fun v11 =>
  bn1 (F_X10_jot x0 x1 (9 : Int32) v11 I10 L R) fun I12 =>
  some (I12)
  else none
  else none
set_option maxRecDepth 100000 in
set_option maxHeartbeats 4000000 in
theorem c_X10_makeSensor (l : Launch) (D : va_G) (cA : Nat → ClassId) (ad : Nat → Nat) (bs : Nat) (X : State → Prop) (hAd : Ax ad bs) (hX : Stb bs X) (N : Nat) (x0 : Nat) (x1 : Nat) (I : MI) (L : ML) (R : MR) (I' : MI) (h : F_X10_makeSensor N x0 x1 I L R = some (I')) : Cn l D cA ad bs X yX10_makeSensor cX10_makeSensor 3 none 1 24 [.ref (ad x0), .ref (ad x1)] I L R (none, I', L, R) := by
  refine Cn.ofV hAd hX [(0, .ref (ad x0)), (1, .ref (ad x1))] rfl (Nat.le_of_ble_eq_true rfl) (by decide) ?_
  intro G el eD ecA ead ebs eX erm eNL C0
  subst el eD ecA ead ebs eX
  unfold F_X10_makeSensor at h
  obtain ⟨c_x0, h⟩ := ite_some h
  obtain ⟨c_x1, h⟩ := ite_some h
  refine V_aload_n C0 1 rfl rfl dX10_makeSensor_0 ?_
  obtain ⟨a1, qa1, h⟩ := bnd_some h
  refine V_getR C0 8 0 fl_X10_42 c_x1.2 c_x1.1 rfl (rf_at qa1) dX10_makeSensor_1 ?_
  refine V_astore_n C0 [(2, .ref (G.ad a1)), (0, .ref (G.ad x0)), (1, .ref (G.ad x1))] rfl (by rw [eNL]; decide) rfl dX10_makeSensor_4 ?_
  refine V_aload_n C0 0 rfl rfl dX10_makeSensor_5 ?_
  refine V_bipush C0 (v := (29 : Int32)) (by decide) dX10_makeSensor_6 ?_
  refine V_aload_n C0 1 rfl rfl dX10_makeSensor_8 ?_
  obtain ⟨v2, I3, q4, h⟩ := bn2_some h
  refine V_callV C0 (st := [.int (29 : Int32), .ref (G.ad a1)]) (As := []) 9 (c_X10_draw G.l G.D G.cA G.ad G.bs G.X C0.2.2.2.2.2.2.2.2.2.1 C0.2.2.2.2.2.2.2.2.2.2.2.2 x0 I L R v2 I3 q4) lc_X10_draw lk_X10_184 c_x0.2 c_x0.1 ⟨_, rfl, rfl⟩ rfl (by rw [erm]; decide) (Nat.le_of_ble_eq_true rfl) dX10_makeSensor_9 ?_
  show V G _ 12 [(2, .ref (G.ad a1)), (0, .ref (G.ad x0)), (1, .ref (G.ad x1))] [.int v2, .int (29 : Int32), .ref (G.ad a1)] I3 L R
  refine V_bipush C0 (v := (7 : Int32)) (by decide) dX10_makeSensor_12 ?_
  refine V_irem C0 (by decide) dX10_makeSensor_14 ?_
  obtain ⟨I5, qI5, h⟩ := bnd_some h
  refine V_wi C0 (rf_lt qa1) (rf_kd qa1) qI5 dX10_makeSensor_15 ?_
  refine V_aload_n C0 0 rfl rfl dX10_makeSensor_16 ?_
  refine V_bipush C0 (v := (30 : Int32)) (by decide) dX10_makeSensor_17 ?_
  refine V_aload_n C0 2 rfl rfl dX10_makeSensor_19 ?_
  obtain ⟨v6, q7, h⟩ := bn1_some h
  refine V_callV C0 (st := [.int (30 : Int32), .ref (G.ad a1)]) (As := []) 8 (c_X9_channels G.l G.D G.cA G.ad G.bs G.X C0.2.2.2.2.2.2.2.2.2.1 C0.2.2.2.2.2.2.2.2.2.2.2.2 N x1 I5 L R v6 q7) lc_X9_channels lk_X10_212 c_x1.2 c_x1.1 ⟨_, rfl, rfl⟩ rfl (by rw [erm]; decide) (Nat.le_of_ble_eq_true rfl) dX10_makeSensor_20 ?_
  show V G _ 23 [(2, .ref (G.ad a1)), (0, .ref (G.ad x0)), (1, .ref (G.ad x1))] [.int v6, .int (30 : Int32), .ref (G.ad a1)] I5 L R
  obtain ⟨I8, qI8, h⟩ := bnd_some h
  refine V_wi C0 (rf_lt qa1) (rf_kd qa1) qI8 dX10_makeSensor_23 ?_
  refine V_aload_n C0 0 rfl rfl dX10_makeSensor_24 ?_
  refine V_bipush C0 (v := (31 : Int32)) (by decide) dX10_makeSensor_25 ?_
  refine V_aload_n C0 2 rfl rfl dX10_makeSensor_27 ?_
  refine V_getI C0 8 5 fl_X10_206 c_x1.2 c_x1.1 rfl dX10_makeSensor_28 ?_
  obtain ⟨I9, qI9, h⟩ := bnd_some h
  refine V_wi C0 (rf_lt qa1) (rf_kd qa1) qI9 dX10_makeSensor_31 ?_
  refine V_aload_n C0 0 rfl rfl dX10_makeSensor_32 ?_
  refine V_bipush C0 (v := (32 : Int32)) (by decide) dX10_makeSensor_33 ?_
  refine V_iconst C0 (v := (0 : Int32)) (by decide) dX10_makeSensor_35 ?_
  obtain ⟨I10, qI10, h⟩ := bnd_some h
  refine V_wi C0 (rf_lt qa1) (rf_kd qa1) qI10 dX10_makeSensor_36 ?_
  refine V_aload_n C0 1 rfl rfl dX10_makeSensor_37 ?_
  refine V_aload_n C0 2 rfl rfl dX10_makeSensor_38 ?_
  refine V_bipush C0 (v := (9 : Int32)) (by decide) dX10_makeSensor_39 ?_
  refine V_aload_n C0 0 rfl rfl dX10_makeSensor_41 ?_
  refine V_bipush C0 (v := (30 : Int32)) (by decide) dX10_makeSensor_42 ?_
  obtain ⟨v11, qv11, h⟩ := bnd_some h
  refine V_ri C0 (rf_lt qa1) (rf_kd qa1) qv11 dX10_makeSensor_44 ?_
  obtain ⟨I12, q13, h⟩ := bn1_some h
  refine V_callV C0 (st := []) (As := [.ref (G.ad x1), .int (9 : Int32), .int v11]) 9 (c_X10_jot G.l G.D G.cA G.ad G.bs G.X C0.2.2.2.2.2.2.2.2.2.1 C0.2.2.2.2.2.2.2.2.2.2.2.2 x0 x1 (9 : Int32) v11 I10 L R I12 q13) lc_X10_jot lk_X10_196 c_x0.2 c_x0.1 ⟨_, rfl, rfl⟩ rfl (by rw [erm]; decide) (Nat.le_of_ble_eq_true rfl) dX10_makeSensor_45 ?_
  show V G _ 48 [(2, .ref (G.ad a1)), (0, .ref (G.ad x0)), (1, .ref (G.ad x1))] [] I12 L R
  cases h
  exact V_vret C0 dX10_makeSensor_48
theorem dX10_makeGyro_0 : decode cX10_makeGyro 0 = .ok (.aload_n 1, 1) := by decide +kernel
theorem dX10_makeGyro_1 : decode cX10_makeGyro 1 = .ok (.getfield 42, 3) := by decide +kernel
theorem dX10_makeGyro_4 : decode cX10_makeGyro 4 = .ok (.astore_n 2, 1) := by decide +kernel
theorem dX10_makeGyro_5 : decode cX10_makeGyro 5 = .ok (.aload_n 2, 1) := by decide +kernel
theorem dX10_makeGyro_6 : decode cX10_makeGyro 6 = .ok (.bipush 33, 2) := by decide +kernel
theorem dX10_makeGyro_8 : decode cX10_makeGyro 8 = .ok (.aload_n 2, 1) := by decide +kernel
theorem dX10_makeGyro_9 : decode cX10_makeGyro 9 = .ok (.bipush 29, 2) := by decide +kernel
theorem dX10_makeGyro_11 : decode cX10_makeGyro 11 = .ok (.iaload, 1) := by decide +kernel
theorem dX10_makeGyro_12 : decode cX10_makeGyro 12 = .ok (.iconst 3, 1) := by decide +kernel
theorem dX10_makeGyro_13 : decode cX10_makeGyro 13 = .ok (.isub, 1) := by decide +kernel
theorem dX10_makeGyro_14 : decode cX10_makeGyro 14 = .ok (.iastore, 1) := by decide +kernel
theorem dX10_makeGyro_15 : decode cX10_makeGyro 15 = .ok (.aload_n 2, 1) := by decide +kernel
theorem dX10_makeGyro_16 : decode cX10_makeGyro 16 = .ok (.bipush 34, 2) := by decide +kernel
theorem dX10_makeGyro_18 : decode cX10_makeGyro 18 = .ok (.iconst 1, 1) := by decide +kernel
theorem dX10_makeGyro_19 : decode cX10_makeGyro 19 = .ok (.iastore, 1) := by decide +kernel
theorem dX10_makeGyro_20 : decode cX10_makeGyro 20 = .ok (.aload_n 2, 1) := by decide +kernel
theorem dX10_makeGyro_21 : decode cX10_makeGyro 21 = .ok (.bipush 35, 2) := by decide +kernel
theorem dX10_makeGyro_23 : decode cX10_makeGyro 23 = .ok (.aload_n 1, 1) := by decide +kernel
theorem dX10_makeGyro_24 : decode cX10_makeGyro 24 = .ok (.getfield 209, 3) := by decide +kernel
theorem dX10_makeGyro_27 : decode cX10_makeGyro 27 = .ok (.iastore, 1) := by decide +kernel
theorem dX10_makeGyro_28 : decode cX10_makeGyro 28 = .ok (.aload_n 2, 1) := by decide +kernel
theorem dX10_makeGyro_29 : decode cX10_makeGyro 29 = .ok (.bipush 30, 2) := by decide +kernel
theorem dX10_makeGyro_31 : decode cX10_makeGyro 31 = .ok (.aload_n 1, 1) := by decide +kernel
theorem dX10_makeGyro_32 : decode cX10_makeGyro 32 = .ok (.invokevirtual 212, 3) := by decide +kernel
theorem dX10_makeGyro_35 : decode cX10_makeGyro 35 = .ok (.iastore, 1) := by decide +kernel
theorem dX10_makeGyro_36 : decode cX10_makeGyro 36 = .ok (.aload_n 0, 1) := by decide +kernel
theorem dX10_makeGyro_37 : decode cX10_makeGyro 37 = .ok (.aload_n 1, 1) := by decide +kernel
theorem dX10_makeGyro_38 : decode cX10_makeGyro 38 = .ok (.bipush 10, 2) := by decide +kernel
theorem dX10_makeGyro_40 : decode cX10_makeGyro 40 = .ok (.aload_n 2, 1) := by decide +kernel
theorem dX10_makeGyro_41 : decode cX10_makeGyro 41 = .ok (.bipush 33, 2) := by decide +kernel
theorem dX10_makeGyro_43 : decode cX10_makeGyro 43 = .ok (.iaload, 1) := by decide +kernel
theorem dX10_makeGyro_44 : decode cX10_makeGyro 44 = .ok (.invokevirtual 196, 3) := by decide +kernel
theorem dX10_makeGyro_47 : decode cX10_makeGyro 47 = .ok (.return_, 1) := by decide +kernel
def F_X10_makeGyro (N : Nat) (x0 : Nat) (x1 : Nat) (I : MI) (L : ML) (R : MR) : Option (MI) :=
  if kd x0 = 9 ∧ x0 < NN then
  if kd x1 = 8 ∧ x1 < NN then
  (rf R x1 0 20).bind fun a1 =>
  (ri I a1 (29 : Int32)).bind fun v2 =>
  (wi I a1 (33 : Int32) (v2 - (3 : Int32))).bind fun I3 =>
  (wi I3 a1 (34 : Int32) (1 : Int32)).bind fun I4 =>
  (wi I4 a1 (35 : Int32) (I4 x1 6)).bind fun I5 =>
  bn1 (F_X9_channels N x1 I5 L R) fun v6 =>
  (wi I5 a1 (30 : Int32) v6).bind fun I8 =>
  (ri I8 a1 (33 : Int32)).bind fun v9 =>
  bn1 (F_X10_jot x0 x1 (10 : Int32) v9 I8 L R) fun I10 =>
  some (I10)
  else none
  else none
set_option maxRecDepth 100000 in
set_option maxHeartbeats 4000000 in
theorem c_X10_makeGyro (l : Launch) (D : va_G) (cA : Nat → ClassId) (ad : Nat → Nat) (bs : Nat) (X : State → Prop) (hAd : Ax ad bs) (hX : Stb bs X) (N : Nat) (x0 : Nat) (x1 : Nat) (I : MI) (L : ML) (R : MR) (I' : MI) (h : F_X10_makeGyro N x0 x1 I L R = some (I')) : Cn l D cA ad bs X yX10_makeGyro cX10_makeGyro 3 none 1 24 [.ref (ad x0), .ref (ad x1)] I L R (none, I', L, R) := by
  refine Cn.ofV hAd hX [(0, .ref (ad x0)), (1, .ref (ad x1))] rfl (Nat.le_of_ble_eq_true rfl) (by decide) ?_
  intro G el eD ecA ead ebs eX erm eNL C0
  subst el eD ecA ead ebs eX
  unfold F_X10_makeGyro at h
  obtain ⟨c_x0, h⟩ := ite_some h
  obtain ⟨c_x1, h⟩ := ite_some h
  refine V_aload_n C0 1 rfl rfl dX10_makeGyro_0 ?_
  obtain ⟨a1, qa1, h⟩ := bnd_some h
  refine V_getR C0 8 0 fl_X10_42 c_x1.2 c_x1.1 rfl (rf_at qa1) dX10_makeGyro_1 ?_
  refine V_astore_n C0 [(2, .ref (G.ad a1)), (0, .ref (G.ad x0)), (1, .ref (G.ad x1))] rfl (by rw [eNL]; decide) rfl dX10_makeGyro_4 ?_
  refine V_aload_n C0 0 rfl rfl dX10_makeGyro_5 ?_
  refine V_bipush C0 (v := (33 : Int32)) (by decide) dX10_makeGyro_6 ?_
  refine V_aload_n C0 0 rfl rfl dX10_makeGyro_8 ?_
  refine V_bipush C0 (v := (29 : Int32)) (by decide) dX10_makeGyro_9 ?_
  obtain ⟨v2, qv2, h⟩ := bnd_some h
  refine V_ri C0 (rf_lt qa1) (rf_kd qa1) qv2 dX10_makeGyro_11 ?_
  refine V_iconst C0 (v := (3 : Int32)) (by decide) dX10_makeGyro_12 ?_
  refine V_isub C0 dX10_makeGyro_13 ?_
  obtain ⟨I3, qI3, h⟩ := bnd_some h
  refine V_wi C0 (rf_lt qa1) (rf_kd qa1) qI3 dX10_makeGyro_14 ?_
  refine V_aload_n C0 0 rfl rfl dX10_makeGyro_15 ?_
  refine V_bipush C0 (v := (34 : Int32)) (by decide) dX10_makeGyro_16 ?_
  refine V_iconst C0 (v := (1 : Int32)) (by decide) dX10_makeGyro_18 ?_
  obtain ⟨I4, qI4, h⟩ := bnd_some h
  refine V_wi C0 (rf_lt qa1) (rf_kd qa1) qI4 dX10_makeGyro_19 ?_
  refine V_aload_n C0 0 rfl rfl dX10_makeGyro_20 ?_
  refine V_bipush C0 (v := (35 : Int32)) (by decide) dX10_makeGyro_21 ?_
  refine V_aload_n C0 2 rfl rfl dX10_makeGyro_23 ?_
  refine V_getI C0 8 6 fl_X10_209 c_x1.2 c_x1.1 rfl dX10_makeGyro_24 ?_
  obtain ⟨I5, qI5, h⟩ := bnd_some h
  refine V_wi C0 (rf_lt qa1) (rf_kd qa1) qI5 dX10_makeGyro_27 ?_
  refine V_aload_n C0 0 rfl rfl dX10_makeGyro_28 ?_
  refine V_bipush C0 (v := (30 : Int32)) (by decide) dX10_makeGyro_29 ?_
  refine V_aload_n C0 2 rfl rfl dX10_makeGyro_31 ?_
  obtain ⟨v6, q7, h⟩ := bn1_some h
  refine V_callV C0 (st := [.int (30 : Int32), .ref (G.ad a1)]) (As := []) 8 (c_X9_channels G.l G.D G.cA G.ad G.bs G.X C0.2.2.2.2.2.2.2.2.2.1 C0.2.2.2.2.2.2.2.2.2.2.2.2 N x1 I5 L R v6 q7) lc_X9_channels lk_X10_212 c_x1.2 c_x1.1 ⟨_, rfl, rfl⟩ rfl (by rw [erm]; decide) (Nat.le_of_ble_eq_true rfl) dX10_makeGyro_32 ?_
  show V G _ 35 [(2, .ref (G.ad a1)), (0, .ref (G.ad x0)), (1, .ref (G.ad x1))] [.int v6, .int (30 : Int32), .ref (G.ad a1)] I5 L R
  obtain ⟨I8, qI8, h⟩ := bnd_some h
  refine V_wi C0 (rf_lt qa1) (rf_kd qa1) qI8 dX10_makeGyro_35 ?_
  refine V_aload_n C0 1 rfl rfl dX10_makeGyro_36 ?_
  refine V_aload_n C0 2 rfl rfl dX10_makeGyro_37 ?_
  refine V_bipush C0 (v := (10 : Int32)) (by decide) dX10_makeGyro_38 ?_
  refine V_aload_n C0 0 rfl rfl dX10_makeGyro_40 ?_
  refine V_bipush C0 (v := (33 : Int32)) (by decide) dX10_makeGyro_41 ?_
  obtain ⟨v9, qv9, h⟩ := bnd_some h
  refine V_ri C0 (rf_lt qa1) (rf_kd qa1) qv9 dX10_makeGyro_43 ?_
  obtain ⟨I10, q11, h⟩ := bn1_some h
  refine V_callV C0 (st := []) (As := [.ref (G.ad x1), .int (10 : Int32), .int v9]) 9 (c_X10_jot G.l G.D G.cA G.ad G.bs G.X C0.2.2.2.2.2.2.2.2.2.1 C0.2.2.2.2.2.2.2.2.2.2.2.2 x0 x1 (10 : Int32) v9 I8 L R I10 q11) lc_X10_jot lk_X10_196 c_x0.2 c_x0.1 ⟨_, rfl, rfl⟩ rfl (by rw [erm]; decide) (Nat.le_of_ble_eq_true rfl) dX10_makeGyro_44 ?_
  show V G _ 47 [(2, .ref (G.ad a1)), (0, .ref (G.ad x0)), (1, .ref (G.ad x1))] [] I10 L R
  cases h
  exact V_vret C0 dX10_makeGyro_47
theorem dX10_makeFinegyro_0 : decode cX10_makeFinegyro 0 = .ok (.aload_n 1, 1) := by decide +kernel
theorem dX10_makeFinegyro_1 : decode cX10_makeFinegyro 1 = .ok (.getfield 42, 3) := by decide +kernel
theorem dX10_makeFinegyro_4 : decode cX10_makeFinegyro 4 = .ok (.astore_n 2, 1) := by decide +kernel
theorem dX10_makeFinegyro_5 : decode cX10_makeFinegyro 5 = .ok (.aload_n 2, 1) := by decide +kernel
theorem dX10_makeFinegyro_6 : decode cX10_makeFinegyro 6 = .ok (.bipush 33, 2) := by decide +kernel
theorem dX10_makeFinegyro_8 : decode cX10_makeFinegyro 8 = .ok (.aload_n 2, 1) := by decide +kernel
theorem dX10_makeFinegyro_9 : decode cX10_makeFinegyro 9 = .ok (.bipush 33, 2) := by decide +kernel
theorem dX10_makeFinegyro_11 : decode cX10_makeFinegyro 11 = .ok (.iaload, 1) := by decide +kernel
theorem dX10_makeFinegyro_12 : decode cX10_makeFinegyro 12 = .ok (.iconst 2, 1) := by decide +kernel
theorem dX10_makeFinegyro_13 : decode cX10_makeFinegyro 13 = .ok (.idiv, 1) := by decide +kernel
theorem dX10_makeFinegyro_14 : decode cX10_makeFinegyro 14 = .ok (.iastore, 1) := by decide +kernel
theorem dX10_makeFinegyro_15 : decode cX10_makeFinegyro 15 = .ok (.aload_n 2, 1) := by decide +kernel
theorem dX10_makeFinegyro_16 : decode cX10_makeFinegyro 16 = .ok (.bipush 36, 2) := by decide +kernel
theorem dX10_makeFinegyro_18 : decode cX10_makeFinegyro 18 = .ok (.aload_n 0, 1) := by decide +kernel
theorem dX10_makeFinegyro_19 : decode cX10_makeFinegyro 19 = .ok (.invokevirtual 184, 3) := by decide +kernel
theorem dX10_makeFinegyro_22 : decode cX10_makeFinegyro 22 = .ok (.iconst 4, 1) := by decide +kernel
theorem dX10_makeFinegyro_23 : decode cX10_makeFinegyro 23 = .ok (.irem, 1) := by decide +kernel
theorem dX10_makeFinegyro_24 : decode cX10_makeFinegyro 24 = .ok (.iconst 1, 1) := by decide +kernel
theorem dX10_makeFinegyro_25 : decode cX10_makeFinegyro 25 = .ok (.iadd, 1) := by decide +kernel
theorem dX10_makeFinegyro_26 : decode cX10_makeFinegyro 26 = .ok (.iastore, 1) := by decide +kernel
theorem dX10_makeFinegyro_27 : decode cX10_makeFinegyro 27 = .ok (.aload_n 2, 1) := by decide +kernel
theorem dX10_makeFinegyro_28 : decode cX10_makeFinegyro 28 = .ok (.bipush 34, 2) := by decide +kernel
theorem dX10_makeFinegyro_30 : decode cX10_makeFinegyro 30 = .ok (.iconst 3, 1) := by decide +kernel
theorem dX10_makeFinegyro_31 : decode cX10_makeFinegyro 31 = .ok (.iastore, 1) := by decide +kernel
theorem dX10_makeFinegyro_32 : decode cX10_makeFinegyro 32 = .ok (.aload_n 2, 1) := by decide +kernel
theorem dX10_makeFinegyro_33 : decode cX10_makeFinegyro 33 = .ok (.bipush 30, 2) := by decide +kernel
theorem dX10_makeFinegyro_35 : decode cX10_makeFinegyro 35 = .ok (.aload_n 1, 1) := by decide +kernel
theorem dX10_makeFinegyro_36 : decode cX10_makeFinegyro 36 = .ok (.invokevirtual 212, 3) := by decide +kernel
theorem dX10_makeFinegyro_39 : decode cX10_makeFinegyro 39 = .ok (.iastore, 1) := by decide +kernel
theorem dX10_makeFinegyro_40 : decode cX10_makeFinegyro 40 = .ok (.aload_n 0, 1) := by decide +kernel
theorem dX10_makeFinegyro_41 : decode cX10_makeFinegyro 41 = .ok (.aload_n 1, 1) := by decide +kernel
theorem dX10_makeFinegyro_42 : decode cX10_makeFinegyro 42 = .ok (.bipush 11, 2) := by decide +kernel
theorem dX10_makeFinegyro_44 : decode cX10_makeFinegyro 44 = .ok (.aload_n 2, 1) := by decide +kernel
theorem dX10_makeFinegyro_45 : decode cX10_makeFinegyro 45 = .ok (.bipush 30, 2) := by decide +kernel
theorem dX10_makeFinegyro_47 : decode cX10_makeFinegyro 47 = .ok (.iaload, 1) := by decide +kernel
theorem dX10_makeFinegyro_48 : decode cX10_makeFinegyro 48 = .ok (.invokevirtual 196, 3) := by decide +kernel
theorem dX10_makeFinegyro_51 : decode cX10_makeFinegyro 51 = .ok (.return_, 1) := by decide +kernel
def F_X10_makeFinegyro (N : Nat) (x0 : Nat) (x1 : Nat) (I : MI) (L : ML) (R : MR) : Option (MI) :=
  if kd x0 = 9 ∧ x0 < NN then
  if kd x1 = 8 ∧ x1 < NN then
  (rf R x1 0 20).bind fun a1 =>
  (ri I a1 (33 : Int32)).bind fun v2 =>
  (wi I a1 (33 : Int32) (v2 / (2 : Int32))).bind fun I3 =>
  bn2 (F_X10_draw x0 I3 L R) fun v4 I5 =>
  (wi I5 a1 (36 : Int32) ((iR v4 (4 : Int32)) + (1 : Int32))).bind fun I7 =>
  (wi I7 a1 (34 : Int32) (3 : Int32)).bind fun I8 =>
  bn1 (F_X9_channels N x1 I8 L R) fun v9 =>
  (wi I8 a1 (30 : Int32) v9).bind fun I11 =>
  (ri I11 a1 (30 : Int32)).bind fun v12 =>
  bn1 (F_X10_jot x0 x1 (11 : Int32) v12 I11 L R) fun I13 =>
  some (I13)
  else none
  else none
set_option maxRecDepth 100000 in
set_option maxHeartbeats 4000000 in
theorem c_X10_makeFinegyro (l : Launch) (D : va_G) (cA : Nat → ClassId) (ad : Nat → Nat) (bs : Nat) (X : State → Prop) (hAd : Ax ad bs) (hX : Stb bs X) (N : Nat) (x0 : Nat) (x1 : Nat) (I : MI) (L : ML) (R : MR) (I' : MI) (h : F_X10_makeFinegyro N x0 x1 I L R = some (I')) : Cn l D cA ad bs X yX10_makeFinegyro cX10_makeFinegyro 3 none 1 24 [.ref (ad x0), .ref (ad x1)] I L R (none, I', L, R) := by
  refine Cn.ofV hAd hX [(0, .ref (ad x0)), (1, .ref (ad x1))] rfl (Nat.le_of_ble_eq_true rfl) (by decide) ?_
  intro G el eD ecA ead ebs eX erm eNL C0
  subst el eD ecA ead ebs eX
  unfold F_X10_makeFinegyro at h
  obtain ⟨c_x0, h⟩ := ite_some h
  obtain ⟨c_x1, h⟩ := ite_some h
  refine V_aload_n C0 1 rfl rfl dX10_makeFinegyro_0 ?_
  obtain ⟨a1, qa1, h⟩ := bnd_some h
  refine V_getR C0 8 0 fl_X10_42 c_x1.2 c_x1.1 rfl (rf_at qa1) dX10_makeFinegyro_1 ?_
  refine V_astore_n C0 [(2, .ref (G.ad a1)), (0, .ref (G.ad x0)), (1, .ref (G.ad x1))] rfl (by rw [eNL]; decide) rfl dX10_makeFinegyro_4 ?_
  refine V_aload_n C0 0 rfl rfl dX10_makeFinegyro_5 ?_
  refine V_bipush C0 (v := (33 : Int32)) (by decide) dX10_makeFinegyro_6 ?_
  refine V_aload_n C0 0 rfl rfl dX10_makeFinegyro_8 ?_
  refine V_bipush C0 (v := (33 : Int32)) (by decide) dX10_makeFinegyro_9 ?_
  obtain ⟨v2, qv2, h⟩ := bnd_some h
  refine V_ri C0 (rf_lt qa1) (rf_kd qa1) qv2 dX10_makeFinegyro_11 ?_
  refine V_iconst C0 (v := (2 : Int32)) (by decide) dX10_makeFinegyro_12 ?_
  refine V_idiv C0 (by decide) dX10_makeFinegyro_13 ?_
  obtain ⟨I3, qI3, h⟩ := bnd_some h
  refine V_wi C0 (rf_lt qa1) (rf_kd qa1) qI3 dX10_makeFinegyro_14 ?_
  refine V_aload_n C0 0 rfl rfl dX10_makeFinegyro_15 ?_
  refine V_bipush C0 (v := (36 : Int32)) (by decide) dX10_makeFinegyro_16 ?_
  refine V_aload_n C0 1 rfl rfl dX10_makeFinegyro_18 ?_
  obtain ⟨v4, I5, q6, h⟩ := bn2_some h
  refine V_callV C0 (st := [.int (36 : Int32), .ref (G.ad a1)]) (As := []) 9 (c_X10_draw G.l G.D G.cA G.ad G.bs G.X C0.2.2.2.2.2.2.2.2.2.1 C0.2.2.2.2.2.2.2.2.2.2.2.2 x0 I3 L R v4 I5 q6) lc_X10_draw lk_X10_184 c_x0.2 c_x0.1 ⟨_, rfl, rfl⟩ rfl (by rw [erm]; decide) (Nat.le_of_ble_eq_true rfl) dX10_makeFinegyro_19 ?_
  show V G _ 22 [(2, .ref (G.ad a1)), (0, .ref (G.ad x0)), (1, .ref (G.ad x1))] [.int v4, .int (36 : Int32), .ref (G.ad a1)] I5 L R
  refine V_iconst C0 (v := (4 : Int32)) (by decide) dX10_makeFinegyro_22 ?_
  refine V_irem C0 (by decide) dX10_makeFinegyro_23 ?_
  refine V_iconst C0 (v := (1 : Int32)) (by decide) dX10_makeFinegyro_24 ?_
  refine V_iadd C0 dX10_makeFinegyro_25 ?_
  obtain ⟨I7, qI7, h⟩ := bnd_some h
  refine V_wi C0 (rf_lt qa1) (rf_kd qa1) qI7 dX10_makeFinegyro_26 ?_
  refine V_aload_n C0 0 rfl rfl dX10_makeFinegyro_27 ?_
  refine V_bipush C0 (v := (34 : Int32)) (by decide) dX10_makeFinegyro_28 ?_
  refine V_iconst C0 (v := (3 : Int32)) (by decide) dX10_makeFinegyro_30 ?_
  obtain ⟨I8, qI8, h⟩ := bnd_some h
  refine V_wi C0 (rf_lt qa1) (rf_kd qa1) qI8 dX10_makeFinegyro_31 ?_
  refine V_aload_n C0 0 rfl rfl dX10_makeFinegyro_32 ?_
  refine V_bipush C0 (v := (30 : Int32)) (by decide) dX10_makeFinegyro_33 ?_
  refine V_aload_n C0 2 rfl rfl dX10_makeFinegyro_35 ?_
  obtain ⟨v9, q10, h⟩ := bn1_some h
  refine V_callV C0 (st := [.int (30 : Int32), .ref (G.ad a1)]) (As := []) 8 (c_X9_channels G.l G.D G.cA G.ad G.bs G.X C0.2.2.2.2.2.2.2.2.2.1 C0.2.2.2.2.2.2.2.2.2.2.2.2 N x1 I8 L R v9 q10) lc_X9_channels lk_X10_212 c_x1.2 c_x1.1 ⟨_, rfl, rfl⟩ rfl (by rw [erm]; decide) (Nat.le_of_ble_eq_true rfl) dX10_makeFinegyro_36 ?_
  show V G _ 39 [(2, .ref (G.ad a1)), (0, .ref (G.ad x0)), (1, .ref (G.ad x1))] [.int v9, .int (30 : Int32), .ref (G.ad a1)] I8 L R
  obtain ⟨I11, qI11, h⟩ := bnd_some h
  refine V_wi C0 (rf_lt qa1) (rf_kd qa1) qI11 dX10_makeFinegyro_39 ?_
  refine V_aload_n C0 1 rfl rfl dX10_makeFinegyro_40 ?_
  refine V_aload_n C0 2 rfl rfl dX10_makeFinegyro_41 ?_
  refine V_bipush C0 (v := (11 : Int32)) (by decide) dX10_makeFinegyro_42 ?_
  refine V_aload_n C0 0 rfl rfl dX10_makeFinegyro_44 ?_
  refine V_bipush C0 (v := (30 : Int32)) (by decide) dX10_makeFinegyro_45 ?_
  obtain ⟨v12, qv12, h⟩ := bnd_some h
  refine V_ri C0 (rf_lt qa1) (rf_kd qa1) qv12 dX10_makeFinegyro_47 ?_
  obtain ⟨I13, q14, h⟩ := bn1_some h
  refine V_callV C0 (st := []) (As := [.ref (G.ad x1), .int (11 : Int32), .int v12]) 9 (c_X10_jot G.l G.D G.cA G.ad G.bs G.X C0.2.2.2.2.2.2.2.2.2.1 C0.2.2.2.2.2.2.2.2.2.2.2.2 x0 x1 (11 : Int32) v12 I11 L R I13 q14) lc_X10_jot lk_X10_196 c_x0.2 c_x0.1 ⟨_, rfl, rfl⟩ rfl (by rw [erm]; decide) (Nat.le_of_ble_eq_true rfl) dX10_makeFinegyro_48 ?_
  show V G _ 51 [(2, .ref (G.ad a1)), (0, .ref (G.ad x0)), (1, .ref (G.ad x1))] [] I13 L R
  cases h
  exact V_vret C0 dX10_makeFinegyro_51
theorem dX10_makeSuneye_0 : decode cX10_makeSuneye 0 = .ok (.aload_n 1, 1) := by decide +kernel
theorem dX10_makeSuneye_1 : decode cX10_makeSuneye 1 = .ok (.getfield 42, 3) := by decide +kernel
theorem dX10_makeSuneye_4 : decode cX10_makeSuneye 4 = .ok (.astore_n 2, 1) := by decide +kernel
theorem dX10_makeSuneye_5 : decode cX10_makeSuneye 5 = .ok (.aload_n 2, 1) := by decide +kernel
theorem dX10_makeSuneye_6 : decode cX10_makeSuneye 6 = .ok (.bipush 37, 2) := by decide +kernel
theorem dX10_makeSuneye_8 : decode cX10_makeSuneye 8 = .ok (.sipush 600, 3) := by decide +kernel
theorem dX10_makeSuneye_11 : decode cX10_makeSuneye 11 = .ok (.aload_n 2, 1) := by decide +kernel
theorem dX10_makeSuneye_12 : decode cX10_makeSuneye 12 = .ok (.bipush 29, 2) := by decide +kernel
theorem dX10_makeSuneye_14 : decode cX10_makeSuneye 14 = .ok (.iaload, 1) := by decide +kernel
theorem dX10_makeSuneye_15 : decode cX10_makeSuneye 15 = .ok (.bipush 40, 2) := by decide +kernel
theorem dX10_makeSuneye_17 : decode cX10_makeSuneye 17 = .ok (.imul, 1) := by decide +kernel
theorem dX10_makeSuneye_18 : decode cX10_makeSuneye 18 = .ok (.iadd, 1) := by decide +kernel
theorem dX10_makeSuneye_19 : decode cX10_makeSuneye 19 = .ok (.iastore, 1) := by decide +kernel
theorem dX10_makeSuneye_20 : decode cX10_makeSuneye 20 = .ok (.aload_n 0, 1) := by decide +kernel
theorem dX10_makeSuneye_21 : decode cX10_makeSuneye 21 = .ok (.aload_n 1, 1) := by decide +kernel
theorem dX10_makeSuneye_22 : decode cX10_makeSuneye 22 = .ok (.bipush 12, 2) := by decide +kernel
theorem dX10_makeSuneye_24 : decode cX10_makeSuneye 24 = .ok (.aload_n 2, 1) := by decide +kernel
theorem dX10_makeSuneye_25 : decode cX10_makeSuneye 25 = .ok (.bipush 37, 2) := by decide +kernel
theorem dX10_makeSuneye_27 : decode cX10_makeSuneye 27 = .ok (.iaload, 1) := by decide +kernel
theorem dX10_makeSuneye_28 : decode cX10_makeSuneye 28 = .ok (.invokevirtual 196, 3) := by decide +kernel
theorem dX10_makeSuneye_31 : decode cX10_makeSuneye 31 = .ok (.return_, 1) := by decide +kernel
def F_X10_makeSuneye (x0 : Nat) (x1 : Nat) (I : MI) (L : ML) (R : MR) : Option (MI) :=
  if kd x0 = 9 ∧ x0 < NN then
  if kd x1 = 8 ∧ x1 < NN then
  (rf R x1 0 20).bind fun a1 =>
  (ri I a1 (29 : Int32)).bind fun v2 =>
  (wi I a1 (37 : Int32) ((600 : Int32) + (v2 * (40 : Int32)))).bind fun I3 =>
  (ri I3 a1 (37 : Int32)).bind fun v4 =>
  bn1 (F_X10_jot x0 x1 (12 : Int32) v4 I3 L R) fun I5 =>
  some (I5)
  else none
  else none
set_option maxRecDepth 100000 in
set_option maxHeartbeats 4000000 in
theorem c_X10_makeSuneye (l : Launch) (D : va_G) (cA : Nat → ClassId) (ad : Nat → Nat) (bs : Nat) (X : State → Prop) (hAd : Ax ad bs) (hX : Stb bs X) (x0 : Nat) (x1 : Nat) (I : MI) (L : ML) (R : MR) (I' : MI) (h : F_X10_makeSuneye x0 x1 I L R = some (I')) : Cn l D cA ad bs X yX10_makeSuneye cX10_makeSuneye 3 none 1 24 [.ref (ad x0), .ref (ad x1)] I L R (none, I', L, R) := by
  refine Cn.ofV hAd hX [(0, .ref (ad x0)), (1, .ref (ad x1))] rfl (Nat.le_of_ble_eq_true rfl) (by decide) ?_
  intro G el eD ecA ead ebs eX erm eNL C0
  subst el eD ecA ead ebs eX
  unfold F_X10_makeSuneye at h
  obtain ⟨c_x0, h⟩ := ite_some h
  obtain ⟨c_x1, h⟩ := ite_some h
  refine V_aload_n C0 1 rfl rfl dX10_makeSuneye_0 ?_
  obtain ⟨a1, qa1, h⟩ := bnd_some h
  refine V_getR C0 8 0 fl_X10_42 c_x1.2 c_x1.1 rfl (rf_at qa1) dX10_makeSuneye_1 ?_
  refine V_astore_n C0 [(2, .ref (G.ad a1)), (0, .ref (G.ad x0)), (1, .ref (G.ad x1))] rfl (by rw [eNL]; decide) rfl dX10_makeSuneye_4 ?_
  refine V_aload_n C0 0 rfl rfl dX10_makeSuneye_5 ?_
  refine V_bipush C0 (v := (37 : Int32)) (by decide) dX10_makeSuneye_6 ?_
  refine V_sipush C0 (v := (600 : Int32)) (by decide) dX10_makeSuneye_8 ?_
  refine V_aload_n C0 0 rfl rfl dX10_makeSuneye_11 ?_
  refine V_bipush C0 (v := (29 : Int32)) (by decide) dX10_makeSuneye_12 ?_
  obtain ⟨v2, qv2, h⟩ := bnd_some h
  refine V_ri C0 (rf_lt qa1) (rf_kd qa1) qv2 dX10_makeSuneye_14 ?_
  refine V_bipush C0 (v := (40 : Int32)) (by decide) dX10_makeSuneye_15 ?_
  refine V_imul C0 dX10_makeSuneye_17 ?_
  refine V_iadd C0 dX10_makeSuneye_18 ?_
  obtain ⟨I3, qI3, h⟩ := bnd_some h
  refine V_wi C0 (rf_lt qa1) (rf_kd qa1) qI3 dX10_makeSuneye_19 ?_
  refine V_aload_n C0 1 rfl rfl dX10_makeSuneye_20 ?_
  refine V_aload_n C0 2 rfl rfl dX10_makeSuneye_21 ?_
  refine V_bipush C0 (v := (12 : Int32)) (by decide) dX10_makeSuneye_22 ?_
  refine V_aload_n C0 0 rfl rfl dX10_makeSuneye_24 ?_
  refine V_bipush C0 (v := (37 : Int32)) (by decide) dX10_makeSuneye_25 ?_
  obtain ⟨v4, qv4, h⟩ := bnd_some h
  refine V_ri C0 (rf_lt qa1) (rf_kd qa1) qv4 dX10_makeSuneye_27 ?_
  obtain ⟨I5, q6, h⟩ := bn1_some h
  refine V_callV C0 (st := []) (As := [.ref (G.ad x1), .int (12 : Int32), .int v4]) 9 (c_X10_jot G.l G.D G.cA G.ad G.bs G.X C0.2.2.2.2.2.2.2.2.2.1 C0.2.2.2.2.2.2.2.2.2.2.2.2 x0 x1 (12 : Int32) v4 I3 L R I5 q6) lc_X10_jot lk_X10_196 c_x0.2 c_x0.1 ⟨_, rfl, rfl⟩ rfl (by rw [erm]; decide) (Nat.le_of_ble_eq_true rfl) dX10_makeSuneye_28 ?_
  show V G _ 31 [(2, .ref (G.ad a1)), (0, .ref (G.ad x0)), (1, .ref (G.ad x1))] [] I5 L R
  cases h
  exact V_vret C0 dX10_makeSuneye_31
theorem dX10_makeProbe_0 : decode cX10_makeProbe 0 = .ok (.aload_n 1, 1) := by decide +kernel
theorem dX10_makeProbe_1 : decode cX10_makeProbe 1 = .ok (.getfield 42, 3) := by decide +kernel
theorem dX10_makeProbe_4 : decode cX10_makeProbe 4 = .ok (.astore_n 2, 1) := by decide +kernel
theorem dX10_makeProbe_5 : decode cX10_makeProbe 5 = .ok (.aload_n 2, 1) := by decide +kernel
theorem dX10_makeProbe_6 : decode cX10_makeProbe 6 = .ok (.bipush 38, 2) := by decide +kernel
theorem dX10_makeProbe_8 : decode cX10_makeProbe 8 = .ok (.aload_n 2, 1) := by decide +kernel
theorem dX10_makeProbe_9 : decode cX10_makeProbe 9 = .ok (.bipush 29, 2) := by decide +kernel
theorem dX10_makeProbe_11 : decode cX10_makeProbe 11 = .ok (.iaload, 1) := by decide +kernel
theorem dX10_makeProbe_12 : decode cX10_makeProbe 12 = .ok (.iconst 2, 1) := by decide +kernel
theorem dX10_makeProbe_13 : decode cX10_makeProbe 13 = .ok (.isub, 1) := by decide +kernel
theorem dX10_makeProbe_14 : decode cX10_makeProbe 14 = .ok (.iastore, 1) := by decide +kernel
theorem dX10_makeProbe_15 : decode cX10_makeProbe 15 = .ok (.aload_n 2, 1) := by decide +kernel
theorem dX10_makeProbe_16 : decode cX10_makeProbe 16 = .ok (.bipush 27, 2) := by decide +kernel
theorem dX10_makeProbe_18 : decode cX10_makeProbe 18 = .ok (.aload_n 1, 1) := by decide +kernel
theorem dX10_makeProbe_19 : decode cX10_makeProbe 19 = .ok (.getfield 209, 3) := by decide +kernel
theorem dX10_makeProbe_22 : decode cX10_makeProbe 22 = .ok (.iastore, 1) := by decide +kernel
theorem dX10_makeProbe_23 : decode cX10_makeProbe 23 = .ok (.aload_n 0, 1) := by decide +kernel
theorem dX10_makeProbe_24 : decode cX10_makeProbe 24 = .ok (.aload_n 1, 1) := by decide +kernel
theorem dX10_makeProbe_25 : decode cX10_makeProbe 25 = .ok (.bipush 13, 2) := by decide +kernel
theorem dX10_makeProbe_27 : decode cX10_makeProbe 27 = .ok (.aload_n 2, 1) := by decide +kernel
theorem dX10_makeProbe_28 : decode cX10_makeProbe 28 = .ok (.bipush 38, 2) := by decide +kernel
theorem dX10_makeProbe_30 : decode cX10_makeProbe 30 = .ok (.iaload, 1) := by decide +kernel
theorem dX10_makeProbe_31 : decode cX10_makeProbe 31 = .ok (.invokevirtual 196, 3) := by decide +kernel
theorem dX10_makeProbe_34 : decode cX10_makeProbe 34 = .ok (.return_, 1) := by decide +kernel
def F_X10_makeProbe (x0 : Nat) (x1 : Nat) (I : MI) (L : ML) (R : MR) : Option (MI) :=
  if kd x0 = 9 ∧ x0 < NN then
  if kd x1 = 8 ∧ x1 < NN then
  (rf R x1 0 20).bind fun a1 =>
  (ri I a1 (29 : Int32)).bind fun v2 =>
  (wi I a1 (38 : Int32) (v2 - (2 : Int32))).bind fun I3 =>
  (wi I3 a1 (27 : Int32) (I3 x1 6)).bind fun I4 =>
  (ri I4 a1 (38 : Int32)).bind fun v5 =>
  bn1 (F_X10_jot x0 x1 (13 : Int32) v5 I4 L R) fun I6 =>
  some (I6)
  else none
  else none
set_option maxRecDepth 100000 in
set_option maxHeartbeats 4000000 in
theorem c_X10_makeProbe (l : Launch) (D : va_G) (cA : Nat → ClassId) (ad : Nat → Nat) (bs : Nat) (X : State → Prop) (hAd : Ax ad bs) (hX : Stb bs X) (x0 : Nat) (x1 : Nat) (I : MI) (L : ML) (R : MR) (I' : MI) (h : F_X10_makeProbe x0 x1 I L R = some (I')) : Cn l D cA ad bs X yX10_makeProbe cX10_makeProbe 3 none 1 24 [.ref (ad x0), .ref (ad x1)] I L R (none, I', L, R) := by
  refine Cn.ofV hAd hX [(0, .ref (ad x0)), (1, .ref (ad x1))] rfl (Nat.le_of_ble_eq_true rfl) (by decide) ?_
  intro G el eD ecA ead ebs eX erm eNL C0
  subst el eD ecA ead ebs eX
  unfold F_X10_makeProbe at h
  obtain ⟨c_x0, h⟩ := ite_some h
  obtain ⟨c_x1, h⟩ := ite_some h
  refine V_aload_n C0 1 rfl rfl dX10_makeProbe_0 ?_
  obtain ⟨a1, qa1, h⟩ := bnd_some h
  refine V_getR C0 8 0 fl_X10_42 c_x1.2 c_x1.1 rfl (rf_at qa1) dX10_makeProbe_1 ?_
  refine V_astore_n C0 [(2, .ref (G.ad a1)), (0, .ref (G.ad x0)), (1, .ref (G.ad x1))] rfl (by rw [eNL]; decide) rfl dX10_makeProbe_4 ?_
  refine V_aload_n C0 0 rfl rfl dX10_makeProbe_5 ?_
  refine V_bipush C0 (v := (38 : Int32)) (by decide) dX10_makeProbe_6 ?_
  refine V_aload_n C0 0 rfl rfl dX10_makeProbe_8 ?_
  refine V_bipush C0 (v := (29 : Int32)) (by decide) dX10_makeProbe_9 ?_
  obtain ⟨v2, qv2, h⟩ := bnd_some h
  refine V_ri C0 (rf_lt qa1) (rf_kd qa1) qv2 dX10_makeProbe_11 ?_
  refine V_iconst C0 (v := (2 : Int32)) (by decide) dX10_makeProbe_12 ?_
  refine V_isub C0 dX10_makeProbe_13 ?_
  obtain ⟨I3, qI3, h⟩ := bnd_some h
  refine V_wi C0 (rf_lt qa1) (rf_kd qa1) qI3 dX10_makeProbe_14 ?_
  refine V_aload_n C0 0 rfl rfl dX10_makeProbe_15 ?_
  refine V_bipush C0 (v := (27 : Int32)) (by decide) dX10_makeProbe_16 ?_
  refine V_aload_n C0 2 rfl rfl dX10_makeProbe_18 ?_
  refine V_getI C0 8 6 fl_X10_209 c_x1.2 c_x1.1 rfl dX10_makeProbe_19 ?_
  obtain ⟨I4, qI4, h⟩ := bnd_some h
  refine V_wi C0 (rf_lt qa1) (rf_kd qa1) qI4 dX10_makeProbe_22 ?_
  refine V_aload_n C0 1 rfl rfl dX10_makeProbe_23 ?_
  refine V_aload_n C0 2 rfl rfl dX10_makeProbe_24 ?_
  refine V_bipush C0 (v := (13 : Int32)) (by decide) dX10_makeProbe_25 ?_
  refine V_aload_n C0 0 rfl rfl dX10_makeProbe_27 ?_
  refine V_bipush C0 (v := (38 : Int32)) (by decide) dX10_makeProbe_28 ?_
  obtain ⟨v5, qv5, h⟩ := bnd_some h
  refine V_ri C0 (rf_lt qa1) (rf_kd qa1) qv5 dX10_makeProbe_30 ?_
  obtain ⟨I6, q7, h⟩ := bn1_some h
  refine V_callV C0 (st := []) (As := [.ref (G.ad x1), .int (13 : Int32), .int v5]) 9 (c_X10_jot G.l G.D G.cA G.ad G.bs G.X C0.2.2.2.2.2.2.2.2.2.1 C0.2.2.2.2.2.2.2.2.2.2.2.2 x0 x1 (13 : Int32) v5 I4 L R I6 q7) lc_X10_jot lk_X10_196 c_x0.2 c_x0.1 ⟨_, rfl, rfl⟩ rfl (by rw [erm]; decide) (Nat.le_of_ble_eq_true rfl) dX10_makeProbe_31 ?_
  show V G _ 34 [(2, .ref (G.ad a1)), (0, .ref (G.ad x0)), (1, .ref (G.ad x1))] [] I6 L R
  cases h
  exact V_vret C0 dX10_makeProbe_34
theorem dX10_makeCamera_0 : decode cX10_makeCamera 0 = .ok (.aload_n 1, 1) := by decide +kernel
theorem dX10_makeCamera_1 : decode cX10_makeCamera 1 = .ok (.getfield 42, 3) := by decide +kernel
theorem dX10_makeCamera_4 : decode cX10_makeCamera 4 = .ok (.astore_n 2, 1) := by decide +kernel
theorem dX10_makeCamera_5 : decode cX10_makeCamera 5 = .ok (.aload_n 2, 1) := by decide +kernel
theorem dX10_makeCamera_6 : decode cX10_makeCamera 6 = .ok (.bipush 39, 2) := by decide +kernel
theorem dX10_makeCamera_8 : decode cX10_makeCamera 8 = .ok (.aload_n 2, 1) := by decide +kernel
theorem dX10_makeCamera_9 : decode cX10_makeCamera 9 = .ok (.bipush 30, 2) := by decide +kernel
theorem dX10_makeCamera_11 : decode cX10_makeCamera 11 = .ok (.iaload, 1) := by decide +kernel
theorem dX10_makeCamera_12 : decode cX10_makeCamera 12 = .ok (.aload_n 0, 1) := by decide +kernel
theorem dX10_makeCamera_13 : decode cX10_makeCamera 13 = .ok (.invokevirtual 184, 3) := by decide +kernel
theorem dX10_makeCamera_16 : decode cX10_makeCamera 16 = .ok (.iconst 3, 1) := by decide +kernel
theorem dX10_makeCamera_17 : decode cX10_makeCamera 17 = .ok (.irem, 1) := by decide +kernel
theorem dX10_makeCamera_18 : decode cX10_makeCamera 18 = .ok (.iadd, 1) := by decide +kernel
theorem dX10_makeCamera_19 : decode cX10_makeCamera 19 = .ok (.iastore, 1) := by decide +kernel
theorem dX10_makeCamera_20 : decode cX10_makeCamera 20 = .ok (.aload_n 2, 1) := by decide +kernel
theorem dX10_makeCamera_21 : decode cX10_makeCamera 21 = .ok (.bipush 27, 2) := by decide +kernel
theorem dX10_makeCamera_23 : decode cX10_makeCamera 23 = .ok (.aload_n 1, 1) := by decide +kernel
theorem dX10_makeCamera_24 : decode cX10_makeCamera 24 = .ok (.getfield 209, 3) := by decide +kernel
theorem dX10_makeCamera_27 : decode cX10_makeCamera 27 = .ok (.iastore, 1) := by decide +kernel
theorem dX10_makeCamera_28 : decode cX10_makeCamera 28 = .ok (.aload_n 2, 1) := by decide +kernel
theorem dX10_makeCamera_29 : decode cX10_makeCamera 29 = .ok (.bipush 40, 2) := by decide +kernel
theorem dX10_makeCamera_31 : decode cX10_makeCamera 31 = .ok (.iconst 0, 1) := by decide +kernel
theorem dX10_makeCamera_32 : decode cX10_makeCamera 32 = .ok (.iastore, 1) := by decide +kernel
theorem dX10_makeCamera_33 : decode cX10_makeCamera 33 = .ok (.aload_n 0, 1) := by decide +kernel
theorem dX10_makeCamera_34 : decode cX10_makeCamera 34 = .ok (.aload_n 1, 1) := by decide +kernel
theorem dX10_makeCamera_35 : decode cX10_makeCamera 35 = .ok (.bipush 14, 2) := by decide +kernel
theorem dX10_makeCamera_37 : decode cX10_makeCamera 37 = .ok (.aload_n 2, 1) := by decide +kernel
theorem dX10_makeCamera_38 : decode cX10_makeCamera 38 = .ok (.bipush 39, 2) := by decide +kernel
theorem dX10_makeCamera_40 : decode cX10_makeCamera 40 = .ok (.iaload, 1) := by decide +kernel
theorem dX10_makeCamera_41 : decode cX10_makeCamera 41 = .ok (.invokevirtual 196, 3) := by decide +kernel
theorem dX10_makeCamera_44 : decode cX10_makeCamera 44 = .ok (.return_, 1) := by decide +kernel
def F_X10_makeCamera (x0 : Nat) (x1 : Nat) (I : MI) (L : ML) (R : MR) : Option (MI) :=
  if kd x0 = 9 ∧ x0 < NN then
  if kd x1 = 8 ∧ x1 < NN then
  (rf R x1 0 20).bind fun a1 =>
  (ri I a1 (30 : Int32)).bind fun v2 =>
  bn2 (F_X10_draw x0 I L R) fun v3 I4 =>
  (wi I4 a1 (39 : Int32) (v2 + (iR v3 (3 : Int32)))).bind fun I6 =>
  (wi I6 a1 (27 : Int32) (I6 x1 6)).bind fun I7 =>
  (wi I7 a1 (40 : Int32) (0 : Int32)).bind fun I8 =>
  (ri I8 a1 (39 : Int32)).bind fun v9 =>
  bn1 (F_X10_jot x0 x1 (14 : Int32) v9 I8 L R) fun I10 =>
  some (I10)
  else none
  else none
set_option maxRecDepth 100000 in
set_option maxHeartbeats 4000000 in
theorem c_X10_makeCamera (l : Launch) (D : va_G) (cA : Nat → ClassId) (ad : Nat → Nat) (bs : Nat) (X : State → Prop) (hAd : Ax ad bs) (hX : Stb bs X) (x0 : Nat) (x1 : Nat) (I : MI) (L : ML) (R : MR) (I' : MI) (h : F_X10_makeCamera x0 x1 I L R = some (I')) : Cn l D cA ad bs X yX10_makeCamera cX10_makeCamera 3 none 1 24 [.ref (ad x0), .ref (ad x1)] I L R (none, I', L, R) := by
  refine Cn.ofV hAd hX [(0, .ref (ad x0)), (1, .ref (ad x1))] rfl (Nat.le_of_ble_eq_true rfl) (by decide) ?_
  intro G el eD ecA ead ebs eX erm eNL C0
  subst el eD ecA ead ebs eX
  unfold F_X10_makeCamera at h
  obtain ⟨c_x0, h⟩ := ite_some h
  obtain ⟨c_x1, h⟩ := ite_some h
  refine V_aload_n C0 1 rfl rfl dX10_makeCamera_0 ?_
  obtain ⟨a1, qa1, h⟩ := bnd_some h
  refine V_getR C0 8 0 fl_X10_42 c_x1.2 c_x1.1 rfl (rf_at qa1) dX10_makeCamera_1 ?_
  refine V_astore_n C0 [(2, .ref (G.ad a1)), (0, .ref (G.ad x0)), (1, .ref (G.ad x1))] rfl (by rw [eNL]; decide) rfl dX10_makeCamera_4 ?_
  refine V_aload_n C0 0 rfl rfl dX10_makeCamera_5 ?_
  refine V_bipush C0 (v := (39 : Int32)) (by decide) dX10_makeCamera_6 ?_
  refine V_aload_n C0 0 rfl rfl dX10_makeCamera_8 ?_
  refine V_bipush C0 (v := (30 : Int32)) (by decide) dX10_makeCamera_9 ?_
  obtain ⟨v2, qv2, h⟩ := bnd_some h
  refine V_ri C0 (rf_lt qa1) (rf_kd qa1) qv2 dX10_makeCamera_11 ?_
  refine V_aload_n C0 1 rfl rfl dX10_makeCamera_12 ?_
  obtain ⟨v3, I4, q5, h⟩ := bn2_some h
  refine V_callV C0 (st := [.int v2, .int (39 : Int32), .ref (G.ad a1)]) (As := []) 9 (c_X10_draw G.l G.D G.cA G.ad G.bs G.X C0.2.2.2.2.2.2.2.2.2.1 C0.2.2.2.2.2.2.2.2.2.2.2.2 x0 I L R v3 I4 q5) lc_X10_draw lk_X10_184 c_x0.2 c_x0.1 ⟨_, rfl, rfl⟩ rfl (by rw [erm]; decide) (Nat.le_of_ble_eq_true rfl) dX10_makeCamera_13 ?_
  show V G _ 16 [(2, .ref (G.ad a1)), (0, .ref (G.ad x0)), (1, .ref (G.ad x1))] [.int v3, .int v2, .int (39 : Int32), .ref (G.ad a1)] I4 L R
  refine V_iconst C0 (v := (3 : Int32)) (by decide) dX10_makeCamera_16 ?_
  refine V_irem C0 (by decide) dX10_makeCamera_17 ?_
  refine V_iadd C0 dX10_makeCamera_18 ?_
  obtain ⟨I6, qI6, h⟩ := bnd_some h
  refine V_wi C0 (rf_lt qa1) (rf_kd qa1) qI6 dX10_makeCamera_19 ?_
  refine V_aload_n C0 0 rfl rfl dX10_makeCamera_20 ?_
  refine V_bipush C0 (v := (27 : Int32)) (by decide) dX10_makeCamera_21 ?_
  refine V_aload_n C0 2 rfl rfl dX10_makeCamera_23 ?_
  refine V_getI C0 8 6 fl_X10_209 c_x1.2 c_x1.1 rfl dX10_makeCamera_24 ?_
  obtain ⟨I7, qI7, h⟩ := bnd_some h
  refine V_wi C0 (rf_lt qa1) (rf_kd qa1) qI7 dX10_makeCamera_27 ?_
  refine V_aload_n C0 0 rfl rfl dX10_makeCamera_28 ?_
  refine V_bipush C0 (v := (40 : Int32)) (by decide) dX10_makeCamera_29 ?_
  refine V_iconst C0 (v := (0 : Int32)) (by decide) dX10_makeCamera_31 ?_
  obtain ⟨I8, qI8, h⟩ := bnd_some h
  refine V_wi C0 (rf_lt qa1) (rf_kd qa1) qI8 dX10_makeCamera_32 ?_
  refine V_aload_n C0 1 rfl rfl dX10_makeCamera_33 ?_
  refine V_aload_n C0 2 rfl rfl dX10_makeCamera_34 ?_
  refine V_bipush C0 (v := (14 : Int32)) (by decide) dX10_makeCamera_35 ?_
  refine V_aload_n C0 0 rfl rfl dX10_makeCamera_37 ?_
  refine V_bipush C0 (v := (39 : Int32)) (by decide) dX10_makeCamera_38 ?_
  obtain ⟨v9, qv9, h⟩ := bnd_some h
  refine V_ri C0 (rf_lt qa1) (rf_kd qa1) qv9 dX10_makeCamera_40 ?_
  obtain ⟨I10, q11, h⟩ := bn1_some h
  refine V_callV C0 (st := []) (As := [.ref (G.ad x1), .int (14 : Int32), .int v9]) 9 (c_X10_jot G.l G.D G.cA G.ad G.bs G.X C0.2.2.2.2.2.2.2.2.2.1 C0.2.2.2.2.2.2.2.2.2.2.2.2 x0 x1 (14 : Int32) v9 I8 L R I10 q11) lc_X10_jot lk_X10_196 c_x0.2 c_x0.1 ⟨_, rfl, rfl⟩ rfl (by rw [erm]; decide) (Nat.le_of_ble_eq_true rfl) dX10_makeCamera_41 ?_
  show V G _ 44 [(2, .ref (G.ad a1)), (0, .ref (G.ad x0)), (1, .ref (G.ad x1))] [] I10 L R
  cases h
  exact V_vret C0 dX10_makeCamera_44
theorem dX9_push_0 : decode cX9_push 0 = .ok (.iconst 0, 1) := by decide +kernel
theorem dX9_push_1 : decode cX9_push 1 = .ok (.istore_n 1, 1) := by decide +kernel
theorem dX9_push_2 : decode cX9_push 2 = .ok (.iconst 0, 1) := by decide +kernel
theorem dX9_push_3 : decode cX9_push 3 = .ok (.istore_n 2, 1) := by decide +kernel
theorem dX9_push_4 : decode cX9_push 4 = .ok (.iload_n 2, 1) := by decide +kernel
theorem dX9_push_5 : decode cX9_push 5 = .ok (.aload_n 0, 1) := by decide +kernel
theorem dX9_push_6 : decode cX9_push 6 = .ok (.getfield 53, 3) := by decide +kernel
theorem dX9_push_9 : decode cX9_push 9 = .ok (.if_icmp .ge 137, 3) := by decide +kernel
theorem dX9_push_12 : decode cX9_push 12 = .ok (.iload_n 2, 1) := by decide +kernel
theorem dX9_push_13 : decode cX9_push 13 = .ok (.aload_n 0, 1) := by decide +kernel
theorem dX9_push_14 : decode cX9_push 14 = .ok (.getfield 15, 3) := by decide +kernel
theorem dX9_push_17 : decode cX9_push 17 = .ok (.arraylength, 1) := by decide +kernel
theorem dX9_push_18 : decode cX9_push 18 = .ok (.if_icmp .ge 128, 3) := by decide +kernel
theorem dX9_push_21 : decode cX9_push 21 = .ok (.aload_n 0, 1) := by decide +kernel
theorem dX9_push_22 : decode cX9_push 22 = .ok (.getfield 15, 3) := by decide +kernel
theorem dX9_push_25 : decode cX9_push 25 = .ok (.iload_n 2, 1) := by decide +kernel
theorem dX9_push_26 : decode cX9_push 26 = .ok (.iaload, 1) := by decide +kernel
theorem dX9_push_27 : decode cX9_push 27 = .ok (.tableswitch 113 15 19 #[33, 46, 62, 83, 98], 33) := by decide +kernel
theorem dX9_push_60 : decode cX9_push 60 = .ok (.iconst 4, 1) := by decide +kernel
theorem dX9_push_61 : decode cX9_push 61 = .ok (.aload_n 0, 1) := by decide +kernel
theorem dX9_push_62 : decode cX9_push 62 = .ok (.getfield 9, 3) := by decide +kernel
theorem dX9_push_65 : decode cX9_push 65 = .ok (.bipush 35, 2) := by decide +kernel
theorem dX9_push_67 : decode cX9_push 67 = .ok (.iaload, 1) := by decide +kernel
theorem dX9_push_68 : decode cX9_push 68 = .ok (.iadd, 1) := by decide +kernel
theorem dX9_push_69 : decode cX9_push 69 = .ok (.istore_n 1, 1) := by decide +kernel
theorem dX9_push_70 : decode cX9_push 70 = .ok (.goto 70, 3) := by decide +kernel
theorem dX9_push_73 : decode cX9_push 73 = .ok (.iconst 2, 1) := by decide +kernel
theorem dX9_push_74 : decode cX9_push 74 = .ok (.aload_n 0, 1) := by decide +kernel
theorem dX9_push_75 : decode cX9_push 75 = .ok (.getfield 9, 3) := by decide +kernel
theorem dX9_push_78 : decode cX9_push 78 = .ok (.bipush 43, 2) := by decide +kernel
theorem dX9_push_80 : decode cX9_push 80 = .ok (.iaload, 1) := by decide +kernel
theorem dX9_push_81 : decode cX9_push 81 = .ok (.bipush 100, 2) := by decide +kernel
theorem dX9_push_83 : decode cX9_push 83 = .ok (.idiv, 1) := by decide +kernel
theorem dX9_push_84 : decode cX9_push 84 = .ok (.iadd, 1) := by decide +kernel
theorem dX9_push_85 : decode cX9_push 85 = .ok (.istore_n 1, 1) := by decide +kernel
theorem dX9_push_86 : decode cX9_push 86 = .ok (.goto 54, 3) := by decide +kernel
theorem dX9_push_89 : decode cX9_push 89 = .ok (.aload_n 0, 1) := by decide +kernel
theorem dX9_push_90 : decode cX9_push 90 = .ok (.getfield 9, 3) := by decide +kernel
theorem dX9_push_93 : decode cX9_push 93 = .ok (.bipush 46, 2) := by decide +kernel
theorem dX9_push_95 : decode cX9_push 95 = .ok (.iaload, 1) := by decide +kernel
theorem dX9_push_96 : decode cX9_push 96 = .ok (.aload_n 0, 1) := by decide +kernel
theorem dX9_push_97 : decode cX9_push 97 = .ok (.getfield 9, 3) := by decide +kernel
theorem dX9_push_100 : decode cX9_push 100 = .ok (.bipush 45, 2) := by decide +kernel
theorem dX9_push_102 : decode cX9_push 102 = .ok (.iaload, 1) := by decide +kernel
theorem dX9_push_103 : decode cX9_push 103 = .ok (.iadd, 1) := by decide +kernel
theorem dX9_push_104 : decode cX9_push 104 = .ok (.iload_n 1, 1) := by decide +kernel
theorem dX9_push_105 : decode cX9_push 105 = .ok (.isub, 1) := by decide +kernel
theorem dX9_push_106 : decode cX9_push 106 = .ok (.istore_n 1, 1) := by decide +kernel
theorem dX9_push_107 : decode cX9_push 107 = .ok (.goto 33, 3) := by decide +kernel
theorem dX9_push_110 : decode cX9_push 110 = .ok (.iload_n 1, 1) := by decide +kernel
theorem dX9_push_111 : decode cX9_push 111 = .ok (.iconst 1, 1) := by decide +kernel
theorem dX9_push_112 : decode cX9_push 112 = .ok (.aload_n 0, 1) := by decide +kernel
theorem dX9_push_113 : decode cX9_push 113 = .ok (.getfield 9, 3) := by decide +kernel
theorem dX9_push_116 : decode cX9_push 116 = .ok (.bipush 47, 2) := by decide +kernel
theorem dX9_push_118 : decode cX9_push 118 = .ok (.iaload, 1) := by decide +kernel
theorem dX9_push_119 : decode cX9_push 119 = .ok (.iadd, 1) := by decide +kernel
theorem dX9_push_120 : decode cX9_push 120 = .ok (.imul, 1) := by decide +kernel
theorem dX9_push_121 : decode cX9_push 121 = .ok (.istore_n 1, 1) := by decide +kernel
theorem dX9_push_122 : decode cX9_push 122 = .ok (.goto 18, 3) := by decide +kernel
theorem dX9_push_125 : decode cX9_push 125 = .ok (.iload_n 1, 1) := by decide +kernel
theorem dX9_push_126 : decode cX9_push 126 = .ok (.iconst 2, 1) := by decide +kernel
theorem dX9_push_127 : decode cX9_push 127 = .ok (.idiv, 1) := by decide +kernel
theorem dX9_push_128 : decode cX9_push 128 = .ok (.aload_n 0, 1) := by decide +kernel
theorem dX9_push_129 : decode cX9_push 129 = .ok (.getfield 9, 3) := by decide +kernel
theorem dX9_push_132 : decode cX9_push 132 = .ok (.bipush 48, 2) := by decide +kernel
theorem dX9_push_134 : decode cX9_push 134 = .ok (.iaload, 1) := by decide +kernel
theorem dX9_push_135 : decode cX9_push 135 = .ok (.iadd, 1) := by decide +kernel
theorem dX9_push_136 : decode cX9_push 136 = .ok (.istore_n 1, 1) := by decide +kernel
theorem dX9_push_137 : decode cX9_push 137 = .ok (.goto 3, 3) := by decide +kernel
theorem dX9_push_140 : decode cX9_push 140 = .ok (.iinc 2 1, 3) := by decide +kernel
theorem dX9_push_143 : decode cX9_push 143 = .ok (.goto (-139), 3) := by decide +kernel
theorem dX9_push_146 : decode cX9_push 146 = .ok (.iload_n 1, 1) := by decide +kernel
theorem dX9_push_147 : decode cX9_push 147 = .ok (.ireturn, 1) := by decide +kernel
def LF_X9_push_4 (N : Nat) : Nat → Nat → Int32 → Int32 → MI → ML → MR → Option (Int32)
  | 0, _, _, _, _, _, _ => none
  | k + 1, y0, y1, y2, I, L, R =>
    if (I y0 7) ≤ y2 then
      some (y1)
    else
      (rf R y0 1 20).bind fun a2 =>
      if (Int32.ofNat (ln a2)) ≤ y2 then
        some (y1)
      else
        (ri I a2 y2).bind fun v4 =>
        bn1 (
          if v4 = (15 : Int32) then
            (rf R y0 0 20).bind fun a10 =>
            (ri I a10 (35 : Int32)).bind fun v11 =>
            wr ((4 : Int32) + v11) fun (u12 : Int32) =>
            some (u12)
          else
            if v4 = (16 : Int32) then
              (rf R y0 0 20).bind fun a14 =>
              (ri I a14 (43 : Int32)).bind fun v15 =>
              wr ((2 : Int32) + (v15 / (100 : Int32))) fun (u16 : Int32) =>
              some (u16)
            else
              if v4 = (17 : Int32) then
                (rf R y0 0 20).bind fun a18 =>
                (ri I a18 (46 : Int32)).bind fun v19 =>
                (ri I a18 (45 : Int32)).bind fun v20 =>
                wr ((v19 + v20) - y1) fun (u21 : Int32) =>
                some (u21)
              else
                if v4 = (18 : Int32) then
                  (rf R y0 0 20).bind fun a23 =>
                  (ri I a23 (47 : Int32)).bind fun v24 =>
                  wr (y1 * ((1 : Int32) + v24)) fun (u25 : Int32) =>
                  some (u25)
                else
                  if v4 = (19 : Int32) then
                    (rf R y0 0 20).bind fun a27 =>
                    (ri I a27 (48 : Int32)).bind fun v28 =>
                    wr ((y1 / (2 : Int32)) + v28) fun (u29 : Int32) =>
                    some (u29)
                  else
                    some (y1)
        ) fun (u5 : Int32) =>
        wr (y2 + (1 : Int32)) fun (u30 : Int32) =>
        LF_X9_push_4 N k y0 u5 u30 I L R
def F_X9_push (N : Nat) (x0 : Nat) (I : MI) (L : ML) (R : MR) : Option (Int32) :=
  if kd x0 = 8 ∧ x0 < NN then
  bn1 (LF_X9_push_4 N N x0 (0 : Int32) (0 : Int32) I L R) fun z31 =>
  some (z31)
  else none
set_option maxRecDepth 100000 in
set_option maxHeartbeats 4000000 in
theorem lp_X9_push_4 {G : Gm} (C0 : Cx G (yX9_push.cls) cX9_push (some .int)) (eNL : G.nL = 3) (erm : G.rm = ({ frames := 0, cells := 0, slots := 0, locals := 0 } : Room)) (N : Nat) : ∀ (k : Nat) (y0 : Nat) (y1 : Int32) (y2 : Int32) (I : MI) (L : ML) (R : MR) (z : Int32) (hk0 : kd y0 = 8) (ho0 : y0 < NN), LF_X9_push_4 N k y0 y1 y2 I L R = some z → ∀ f : State → Prop, V G f 146 [(1, .int z)] [] I L R → V G f 4 [(0, .ref (G.ad y0)), (1, .int y1), (2, .int y2)] [] I L R := by
  intro k
  induction k with
  | zero =>
    intro y0 y1 y2 I L R q hk0 ho0 h
    exact absurd h (by simp [LF_X9_push_4])
  | succ k ih =>
    intro y0 y1 y2 I L R q hk0 ho0 h f kx
    rw [LF_X9_push_4] at h
    refine V_iload_n C0 2 rfl rfl dX9_push_4 ?_
    refine V_aload_n C0 0 rfl rfl dX9_push_5 ?_
    refine V_getI C0 8 7 fl_X9_53 ho0 hk0 rfl dX9_push_6 ?_
    refine V_icmp_ge C0 (tgt := 146) (by decide) dX9_push_9 (fun c1 => ?_) (fun c1 => ?_)
    · have h := (if_pos c1).symm.trans h
      cases h
      exact V_sub [1] rfl kx
    · have h := (if_neg c1).symm.trans h
      refine V_iload_n C0 2 rfl rfl dX9_push_12 ?_
      refine V_aload_n C0 0 rfl rfl dX9_push_13 ?_
      obtain ⟨a2, qa2, h⟩ := bnd_some h
      refine V_getR C0 8 1 fl_X9_15 ho0 hk0 rfl (rf_at qa2) dX9_push_14 ?_
      refine V_alen C0 (v := Int32.ofNat (ln a2)) (rf_lt qa2) (by rw [(rf_kd qa2)]; decide) rfl dX9_push_17 ?_
      refine V_icmp_ge C0 (tgt := 146) (by decide) dX9_push_18 (fun c3 => ?_) (fun c3 => ?_)
      · have h := (if_pos c3).symm.trans h
        cases h
        exact V_sub [1] rfl kx
      · have h := (if_neg c3).symm.trans h
        refine V_aload_n C0 0 rfl rfl dX9_push_21 ?_
        refine V_getR C0 8 1 fl_X9_15 ho0 hk0 rfl (rf_at qa2) dX9_push_22 ?_
        refine V_iload_n C0 2 rfl rfl dX9_push_25 ?_
        obtain ⟨v4, qv4, h⟩ := bnd_some h
        refine V_ri C0 (rf_lt qa2) (rf_kd qa2) qv4 dX9_push_26 ?_
        obtain ⟨u5, q6, h⟩ := bn1_some h
        have k7 : V G f 140 [(0, .ref (G.ad y0)), (1, .int u5), (2, .int y2)] [] I L R := by
          obtain ⟨u30, eu30, h⟩ := wr_some h
          refine V_iinc C0 2 [(2, .int u30), (0, .ref (G.ad y0)), (1, .int u5)] rfl (n := 1) (by rw [eu30]; rfl) (by rw [eNL]; decide) rfl dX9_push_140 ?_
          refine V_goto C0 (tgt := 4) (by decide) dX9_push_143 ?_
          exact V_sub [1, 2, 0] rfl (ih y0 u5 u30 I L R _ hk0 ho0 h f kx)
        have nd8 := nd_0 v4
        by_cases c9 : v4 = (15 : Int32)
        · have q6 := (if_pos c9).symm.trans q6
          refine V_tableC C0 (tgt := 60) (v := (15 : Int32)) c9 (by decide) (by decide) dX9_push_27 ?_
          refine V_iconst C0 (v := (4 : Int32)) (by decide) dX9_push_60 ?_
          refine V_aload_n C0 0 rfl rfl dX9_push_61 ?_
          obtain ⟨a10, qa10, q6⟩ := bnd_some q6
          refine V_getR C0 8 0 fl_X9_9 ho0 hk0 rfl (rf_at qa10) dX9_push_62 ?_
          refine V_bipush C0 (v := (35 : Int32)) (by decide) dX9_push_65 ?_
          obtain ⟨v11, qv11, q6⟩ := bnd_some q6
          refine V_ri C0 (rf_lt qa10) (rf_kd qa10) qv11 dX9_push_67 ?_
          refine V_iadd C0 dX9_push_68 ?_
          obtain ⟨u12, eu12, q6⟩ := wr_some q6
          rw [← eu12]
          refine V_istore_n C0 [(1, .int u12), (0, .ref (G.ad y0)), (2, .int y2)] rfl (by rw [eNL]; decide) rfl dX9_push_69 ?_
          refine V_goto C0 (tgt := 140) (by decide) dX9_push_70 ?_
          cases q6
          exact V_sub [1, 0, 2] rfl k7
        · have q6 := (if_neg c9).symm.trans q6
          have nd8 := nd_add nd8 c9
          by_cases c13 : v4 = (16 : Int32)
          · have q6 := (if_pos c13).symm.trans q6
            refine V_tableC C0 (tgt := 73) (v := (16 : Int32)) c13 (by decide) (by decide) dX9_push_27 ?_
            refine V_iconst C0 (v := (2 : Int32)) (by decide) dX9_push_73 ?_
            refine V_aload_n C0 0 rfl rfl dX9_push_74 ?_
            obtain ⟨a14, qa14, q6⟩ := bnd_some q6
            refine V_getR C0 8 0 fl_X9_9 ho0 hk0 rfl (rf_at qa14) dX9_push_75 ?_
            refine V_bipush C0 (v := (43 : Int32)) (by decide) dX9_push_78 ?_
            obtain ⟨v15, qv15, q6⟩ := bnd_some q6
            refine V_ri C0 (rf_lt qa14) (rf_kd qa14) qv15 dX9_push_80 ?_
            refine V_bipush C0 (v := (100 : Int32)) (by decide) dX9_push_81 ?_
            refine V_idiv C0 (by decide) dX9_push_83 ?_
            refine V_iadd C0 dX9_push_84 ?_
            obtain ⟨u16, eu16, q6⟩ := wr_some q6
            rw [← eu16]
            refine V_istore_n C0 [(1, .int u16), (0, .ref (G.ad y0)), (2, .int y2)] rfl (by rw [eNL]; decide) rfl dX9_push_85 ?_
            refine V_goto C0 (tgt := 140) (by decide) dX9_push_86 ?_
            cases q6
            exact V_sub [1, 0, 2] rfl k7
          · have q6 := (if_neg c13).symm.trans q6
            have nd8 := nd_add nd8 c13
            by_cases c17 : v4 = (17 : Int32)
            · have q6 := (if_pos c17).symm.trans q6
              refine V_tableC C0 (tgt := 89) (v := (17 : Int32)) c17 (by decide) (by decide) dX9_push_27 ?_
              refine V_aload_n C0 0 rfl rfl dX9_push_89 ?_
              obtain ⟨a18, qa18, q6⟩ := bnd_some q6
              refine V_getR C0 8 0 fl_X9_9 ho0 hk0 rfl (rf_at qa18) dX9_push_90 ?_
              refine V_bipush C0 (v := (46 : Int32)) (by decide) dX9_push_93 ?_
              obtain ⟨v19, qv19, q6⟩ := bnd_some q6
              refine V_ri C0 (rf_lt qa18) (rf_kd qa18) qv19 dX9_push_95 ?_
              refine V_aload_n C0 0 rfl rfl dX9_push_96 ?_
              refine V_getR C0 8 0 fl_X9_9 ho0 hk0 rfl (rf_at qa18) dX9_push_97 ?_
              refine V_bipush C0 (v := (45 : Int32)) (by decide) dX9_push_100 ?_
              obtain ⟨v20, qv20, q6⟩ := bnd_some q6
              refine V_ri C0 (rf_lt qa18) (rf_kd qa18) qv20 dX9_push_102 ?_
              refine V_iadd C0 dX9_push_103 ?_
              refine V_iload_n C0 1 rfl rfl dX9_push_104 ?_
              refine V_isub C0 dX9_push_105 ?_
              obtain ⟨u21, eu21, q6⟩ := wr_some q6
              rw [← eu21]
              refine V_istore_n C0 [(1, .int u21), (0, .ref (G.ad y0)), (2, .int y2)] rfl (by rw [eNL]; decide) rfl dX9_push_106 ?_
              refine V_goto C0 (tgt := 140) (by decide) dX9_push_107 ?_
              cases q6
              exact V_sub [1, 0, 2] rfl k7
            · have q6 := (if_neg c17).symm.trans q6
              have nd8 := nd_add nd8 c17
              by_cases c22 : v4 = (18 : Int32)
              · have q6 := (if_pos c22).symm.trans q6
                refine V_tableC C0 (tgt := 110) (v := (18 : Int32)) c22 (by decide) (by decide) dX9_push_27 ?_
                refine V_iload_n C0 1 rfl rfl dX9_push_110 ?_
                refine V_iconst C0 (v := (1 : Int32)) (by decide) dX9_push_111 ?_
                refine V_aload_n C0 0 rfl rfl dX9_push_112 ?_
                obtain ⟨a23, qa23, q6⟩ := bnd_some q6
                refine V_getR C0 8 0 fl_X9_9 ho0 hk0 rfl (rf_at qa23) dX9_push_113 ?_
                refine V_bipush C0 (v := (47 : Int32)) (by decide) dX9_push_116 ?_
                obtain ⟨v24, qv24, q6⟩ := bnd_some q6
                refine V_ri C0 (rf_lt qa23) (rf_kd qa23) qv24 dX9_push_118 ?_
                refine V_iadd C0 dX9_push_119 ?_
                refine V_imul C0 dX9_push_120 ?_
                obtain ⟨u25, eu25, q6⟩ := wr_some q6
                rw [← eu25]
                refine V_istore_n C0 [(1, .int u25), (0, .ref (G.ad y0)), (2, .int y2)] rfl (by rw [eNL]; decide) rfl dX9_push_121 ?_
                refine V_goto C0 (tgt := 140) (by decide) dX9_push_122 ?_
                cases q6
                exact V_sub [1, 0, 2] rfl k7
              · have q6 := (if_neg c22).symm.trans q6
                have nd8 := nd_add nd8 c22
                by_cases c26 : v4 = (19 : Int32)
                · have q6 := (if_pos c26).symm.trans q6
                  refine V_tableC C0 (tgt := 125) (v := (19 : Int32)) c26 (by decide) (by decide) dX9_push_27 ?_
                  refine V_iload_n C0 1 rfl rfl dX9_push_125 ?_
                  refine V_iconst C0 (v := (2 : Int32)) (by decide) dX9_push_126 ?_
                  refine V_idiv C0 (by decide) dX9_push_127 ?_
                  refine V_aload_n C0 0 rfl rfl dX9_push_128 ?_
                  obtain ⟨a27, qa27, q6⟩ := bnd_some q6
                  refine V_getR C0 8 0 fl_X9_9 ho0 hk0 rfl (rf_at qa27) dX9_push_129 ?_
                  refine V_bipush C0 (v := (48 : Int32)) (by decide) dX9_push_132 ?_
                  obtain ⟨v28, qv28, q6⟩ := bnd_some q6
                  refine V_ri C0 (rf_lt qa27) (rf_kd qa27) qv28 dX9_push_134 ?_
                  refine V_iadd C0 dX9_push_135 ?_
                  obtain ⟨u29, eu29, q6⟩ := wr_some q6
                  rw [← eu29]
                  refine V_istore_n C0 [(1, .int u29), (0, .ref (G.ad y0)), (2, .int y2)] rfl (by rw [eNL]; decide) rfl dX9_push_136 ?_
                  refine V_goto C0 (tgt := 140) (by decide) dX9_push_137 ?_
                  cases q6
                  exact V_sub [1, 0, 2] rfl k7
                · have q6 := (if_neg c26).symm.trans q6
                  have nd8 := nd_add nd8 c26
                  refine V_tableN C0 (tgt := 140) nd8 (by decide) (by decide) dX9_push_27 ?_
                  cases q6
                  exact V_sub [0, 1, 2] rfl k7
set_option maxRecDepth 100000 in
set_option maxHeartbeats 4000000 in
theorem c_X9_push (l : Launch) (D : va_G) (cA : Nat → ClassId) (ad : Nat → Nat) (bs : Nat) (X : State → Prop) (hAd : Ax ad bs) (hX : Stb bs X) (N : Nat) (x0 : Nat) (I : MI) (L : ML) (R : MR) (r : Int32) (h : F_X9_push N x0 I L R = some (r)) : Cn l D cA ad bs X yX9_push cX9_push 3 (some .int) 0 0 [.ref (ad x0)] I L R (some (.int r), I, L, R) := by
  refine Cn.ofV hAd hX [(0, .ref (ad x0))] rfl (Nat.le_of_ble_eq_true rfl) (by decide) ?_
  intro G el eD ecA ead ebs eX erm eNL C0
  subst el eD ecA ead ebs eX
  unfold F_X9_push at h
  obtain ⟨c_x0, h⟩ := ite_some h
  refine V_iconst C0 (v := (0 : Int32)) (by decide) dX9_push_0 ?_
  refine V_istore_n C0 [(1, .int (0 : Int32)), (0, .ref (G.ad x0))] rfl (by rw [eNL]; decide) rfl dX9_push_1 ?_
  refine V_iconst C0 (v := (0 : Int32)) (by decide) dX9_push_2 ?_
  refine V_istore_n C0 [(2, .int (0 : Int32)), (1, .int (0 : Int32)), (0, .ref (G.ad x0))] rfl (by rw [eNL]; decide) rfl dX9_push_3 ?_
  obtain ⟨z31, q32, h⟩ := bn1_some h
  refine V_sub [2, 1, 0] rfl (lp_X9_push_4 C0 eNL erm N N x0 (0 : Int32) (0 : Int32) I L R _ c_x0.1 c_x0.2 q32 _ ?_)
  show V G _ 146 [(1, .int z31)] [] I L R
  refine V_iload_n C0 0 rfl rfl dX9_push_146 ?_
  cases h
  exact V_iret C0 dX9_push_147
theorem dX10_makeActuator_0 : decode cX10_makeActuator 0 = .ok (.aload_n 1, 1) := by decide +kernel
theorem dX10_makeActuator_1 : decode cX10_makeActuator 1 = .ok (.getfield 42, 3) := by decide +kernel
theorem dX10_makeActuator_4 : decode cX10_makeActuator 4 = .ok (.astore_n 2, 1) := by decide +kernel
theorem dX10_makeActuator_5 : decode cX10_makeActuator 5 = .ok (.aload_n 2, 1) := by decide +kernel
theorem dX10_makeActuator_6 : decode cX10_makeActuator 6 = .ok (.bipush 41, 2) := by decide +kernel
theorem dX10_makeActuator_8 : decode cX10_makeActuator 8 = .ok (.aload_n 1, 1) := by decide +kernel
theorem dX10_makeActuator_9 : decode cX10_makeActuator 9 = .ok (.invokevirtual 215, 3) := by decide +kernel
theorem dX10_makeActuator_12 : decode cX10_makeActuator 12 = .ok (.iastore, 1) := by decide +kernel
theorem dX10_makeActuator_13 : decode cX10_makeActuator 13 = .ok (.aload_n 2, 1) := by decide +kernel
theorem dX10_makeActuator_14 : decode cX10_makeActuator 14 = .ok (.bipush 35, 2) := by decide +kernel
theorem dX10_makeActuator_16 : decode cX10_makeActuator 16 = .ok (.aload_n 1, 1) := by decide +kernel
theorem dX10_makeActuator_17 : decode cX10_makeActuator 17 = .ok (.getfield 206, 3) := by decide +kernel
theorem dX10_makeActuator_20 : decode cX10_makeActuator 20 = .ok (.iastore, 1) := by decide +kernel
theorem dX10_makeActuator_21 : decode cX10_makeActuator 21 = .ok (.aload_n 2, 1) := by decide +kernel
theorem dX10_makeActuator_22 : decode cX10_makeActuator 22 = .ok (.bipush 42, 2) := by decide +kernel
theorem dX10_makeActuator_24 : decode cX10_makeActuator 24 = .ok (.aload_n 1, 1) := by decide +kernel
theorem dX10_makeActuator_25 : decode cX10_makeActuator 25 = .ok (.invokevirtual 215, 3) := by decide +kernel
theorem dX10_makeActuator_28 : decode cX10_makeActuator 28 = .ok (.iastore, 1) := by decide +kernel
theorem dX10_makeActuator_29 : decode cX10_makeActuator 29 = .ok (.aload_n 0, 1) := by decide +kernel
theorem dX10_makeActuator_30 : decode cX10_makeActuator 30 = .ok (.aload_n 1, 1) := by decide +kernel
theorem dX10_makeActuator_31 : decode cX10_makeActuator 31 = .ok (.bipush 15, 2) := by decide +kernel
theorem dX10_makeActuator_33 : decode cX10_makeActuator 33 = .ok (.aload_n 2, 1) := by decide +kernel
theorem dX10_makeActuator_34 : decode cX10_makeActuator 34 = .ok (.bipush 42, 2) := by decide +kernel
theorem dX10_makeActuator_36 : decode cX10_makeActuator 36 = .ok (.iaload, 1) := by decide +kernel
theorem dX10_makeActuator_37 : decode cX10_makeActuator 37 = .ok (.aload_n 2, 1) := by decide +kernel
theorem dX10_makeActuator_38 : decode cX10_makeActuator 38 = .ok (.bipush 41, 2) := by decide +kernel
theorem dX10_makeActuator_40 : decode cX10_makeActuator 40 = .ok (.iaload, 1) := by decide +kernel
theorem dX10_makeActuator_41 : decode cX10_makeActuator 41 = .ok (.isub, 1) := by decide +kernel
theorem dX10_makeActuator_42 : decode cX10_makeActuator 42 = .ok (.invokevirtual 196, 3) := by decide +kernel
theorem dX10_makeActuator_45 : decode cX10_makeActuator 45 = .ok (.return_, 1) := by decide +kernel
def F_X10_makeActuator (N : Nat) (x0 : Nat) (x1 : Nat) (I : MI) (L : ML) (R : MR) : Option (MI) :=
  if kd x0 = 9 ∧ x0 < NN then
  if kd x1 = 8 ∧ x1 < NN then
  (rf R x1 0 20).bind fun a1 =>
  bn1 (F_X9_push N x1 I L R) fun v2 =>
  (wi I a1 (41 : Int32) v2).bind fun I4 =>
  (wi I4 a1 (35 : Int32) (I4 x1 5)).bind fun I5 =>
  bn1 (F_X9_push N x1 I5 L R) fun v6 =>
  (wi I5 a1 (42 : Int32) v6).bind fun I8 =>
  (ri I8 a1 (42 : Int32)).bind fun v9 =>
  (ri I8 a1 (41 : Int32)).bind fun v10 =>
  bn1 (F_X10_jot x0 x1 (15 : Int32) (v9 - v10) I8 L R) fun I11 =>
  some (I11)
  else none
  else none
set_option maxRecDepth 100000 in
set_option maxHeartbeats 4000000 in
theorem c_X10_makeActuator (l : Launch) (D : va_G) (cA : Nat → ClassId) (ad : Nat → Nat) (bs : Nat) (X : State → Prop) (hAd : Ax ad bs) (hX : Stb bs X) (N : Nat) (x0 : Nat) (x1 : Nat) (I : MI) (L : ML) (R : MR) (I' : MI) (h : F_X10_makeActuator N x0 x1 I L R = some (I')) : Cn l D cA ad bs X yX10_makeActuator cX10_makeActuator 3 none 1 24 [.ref (ad x0), .ref (ad x1)] I L R (none, I', L, R) := by
  refine Cn.ofV hAd hX [(0, .ref (ad x0)), (1, .ref (ad x1))] rfl (Nat.le_of_ble_eq_true rfl) (by decide) ?_
  intro G el eD ecA ead ebs eX erm eNL C0
  subst el eD ecA ead ebs eX
  unfold F_X10_makeActuator at h
  obtain ⟨c_x0, h⟩ := ite_some h
  obtain ⟨c_x1, h⟩ := ite_some h
  refine V_aload_n C0 1 rfl rfl dX10_makeActuator_0 ?_
  obtain ⟨a1, qa1, h⟩ := bnd_some h
  refine V_getR C0 8 0 fl_X10_42 c_x1.2 c_x1.1 rfl (rf_at qa1) dX10_makeActuator_1 ?_
  refine V_astore_n C0 [(2, .ref (G.ad a1)), (0, .ref (G.ad x0)), (1, .ref (G.ad x1))] rfl (by rw [eNL]; decide) rfl dX10_makeActuator_4 ?_
  refine V_aload_n C0 0 rfl rfl dX10_makeActuator_5 ?_
  refine V_bipush C0 (v := (41 : Int32)) (by decide) dX10_makeActuator_6 ?_
  refine V_aload_n C0 2 rfl rfl dX10_makeActuator_8 ?_
  obtain ⟨v2, q3, h⟩ := bn1_some h
  refine V_callV C0 (st := [.int (41 : Int32), .ref (G.ad a1)]) (As := []) 8 (c_X9_push G.l G.D G.cA G.ad G.bs G.X C0.2.2.2.2.2.2.2.2.2.1 C0.2.2.2.2.2.2.2.2.2.2.2.2 N x1 I L R v2 q3) lc_X9_push lk_X10_215 c_x1.2 c_x1.1 ⟨_, rfl, rfl⟩ rfl (by rw [erm]; decide) (Nat.le_of_ble_eq_true rfl) dX10_makeActuator_9 ?_
  show V G _ 12 [(2, .ref (G.ad a1)), (0, .ref (G.ad x0)), (1, .ref (G.ad x1))] [.int v2, .int (41 : Int32), .ref (G.ad a1)] I L R
  obtain ⟨I4, qI4, h⟩ := bnd_some h
  refine V_wi C0 (rf_lt qa1) (rf_kd qa1) qI4 dX10_makeActuator_12 ?_
  refine V_aload_n C0 0 rfl rfl dX10_makeActuator_13 ?_
  refine V_bipush C0 (v := (35 : Int32)) (by decide) dX10_makeActuator_14 ?_
  refine V_aload_n C0 2 rfl rfl dX10_makeActuator_16 ?_
  refine V_getI C0 8 5 fl_X10_206 c_x1.2 c_x1.1 rfl dX10_makeActuator_17 ?_
  obtain ⟨I5, qI5, h⟩ := bnd_some h
  refine V_wi C0 (rf_lt qa1) (rf_kd qa1) qI5 dX10_makeActuator_20 ?_
  refine V_aload_n C0 0 rfl rfl dX10_makeActuator_21 ?_
  refine V_bipush C0 (v := (42 : Int32)) (by decide) dX10_makeActuator_22 ?_
  refine V_aload_n C0 2 rfl rfl dX10_makeActuator_24 ?_
  obtain ⟨v6, q7, h⟩ := bn1_some h
  refine V_callV C0 (st := [.int (42 : Int32), .ref (G.ad a1)]) (As := []) 8 (c_X9_push G.l G.D G.cA G.ad G.bs G.X C0.2.2.2.2.2.2.2.2.2.1 C0.2.2.2.2.2.2.2.2.2.2.2.2 N x1 I5 L R v6 q7) lc_X9_push lk_X10_215 c_x1.2 c_x1.1 ⟨_, rfl, rfl⟩ rfl (by rw [erm]; decide) (Nat.le_of_ble_eq_true rfl) dX10_makeActuator_25 ?_
  show V G _ 28 [(2, .ref (G.ad a1)), (0, .ref (G.ad x0)), (1, .ref (G.ad x1))] [.int v6, .int (42 : Int32), .ref (G.ad a1)] I5 L R
  obtain ⟨I8, qI8, h⟩ := bnd_some h
  refine V_wi C0 (rf_lt qa1) (rf_kd qa1) qI8 dX10_makeActuator_28 ?_
  refine V_aload_n C0 1 rfl rfl dX10_makeActuator_29 ?_
  refine V_aload_n C0 2 rfl rfl dX10_makeActuator_30 ?_
  refine V_bipush C0 (v := (15 : Int32)) (by decide) dX10_makeActuator_31 ?_
  refine V_aload_n C0 0 rfl rfl dX10_makeActuator_33 ?_
  refine V_bipush C0 (v := (42 : Int32)) (by decide) dX10_makeActuator_34 ?_
  obtain ⟨v9, qv9, h⟩ := bnd_some h
  refine V_ri C0 (rf_lt qa1) (rf_kd qa1) qv9 dX10_makeActuator_36 ?_
  refine V_aload_n C0 0 rfl rfl dX10_makeActuator_37 ?_
  refine V_bipush C0 (v := (41 : Int32)) (by decide) dX10_makeActuator_38 ?_
  obtain ⟨v10, qv10, h⟩ := bnd_some h
  refine V_ri C0 (rf_lt qa1) (rf_kd qa1) qv10 dX10_makeActuator_40 ?_
  refine V_isub C0 dX10_makeActuator_41 ?_
  obtain ⟨I11, q12, h⟩ := bn1_some h
  refine V_callV C0 (st := []) (As := [.ref (G.ad x1), .int (15 : Int32), .int (v9 - v10)]) 9 (c_X10_jot G.l G.D G.cA G.ad G.bs G.X C0.2.2.2.2.2.2.2.2.2.1 C0.2.2.2.2.2.2.2.2.2.2.2.2 x0 x1 (15 : Int32) (v9 - v10) I8 L R I11 q12) lc_X10_jot lk_X10_196 c_x0.2 c_x0.1 ⟨_, rfl, rfl⟩ rfl (by rw [erm]; decide) (Nat.le_of_ble_eq_true rfl) dX10_makeActuator_42 ?_
  show V G _ 45 [(2, .ref (G.ad a1)), (0, .ref (G.ad x0)), (1, .ref (G.ad x1))] [] I11 L R
  cases h
  exact V_vret C0 dX10_makeActuator_45
theorem dX10_makeWheel_0 : decode cX10_makeWheel 0 = .ok (.aload_n 1, 1) := by decide +kernel
theorem dX10_makeWheel_1 : decode cX10_makeWheel 1 = .ok (.getfield 42, 3) := by decide +kernel
theorem dX10_makeWheel_4 : decode cX10_makeWheel 4 = .ok (.astore_n 2, 1) := by decide +kernel
theorem dX10_makeWheel_5 : decode cX10_makeWheel 5 = .ok (.aload_n 2, 1) := by decide +kernel
theorem dX10_makeWheel_6 : decode cX10_makeWheel 6 = .ok (.bipush 43, 2) := by decide +kernel
theorem dX10_makeWheel_8 : decode cX10_makeWheel 8 = .ok (.sipush 200, 3) := by decide +kernel
theorem dX10_makeWheel_11 : decode cX10_makeWheel 11 = .ok (.aload_n 2, 1) := by decide +kernel
theorem dX10_makeWheel_12 : decode cX10_makeWheel 12 = .ok (.iconst 2, 1) := by decide +kernel
theorem dX10_makeWheel_13 : decode cX10_makeWheel 13 = .ok (.iaload, 1) := by decide +kernel
theorem dX10_makeWheel_14 : decode cX10_makeWheel 14 = .ok (.iadd, 1) := by decide +kernel
theorem dX10_makeWheel_15 : decode cX10_makeWheel 15 = .ok (.iastore, 1) := by decide +kernel
theorem dX10_makeWheel_16 : decode cX10_makeWheel 16 = .ok (.aload_n 2, 1) := by decide +kernel
theorem dX10_makeWheel_17 : decode cX10_makeWheel 17 = .ok (.bipush 44, 2) := by decide +kernel
theorem dX10_makeWheel_19 : decode cX10_makeWheel 19 = .ok (.iconst 0, 1) := by decide +kernel
theorem dX10_makeWheel_20 : decode cX10_makeWheel 20 = .ok (.iastore, 1) := by decide +kernel
theorem dX10_makeWheel_21 : decode cX10_makeWheel 21 = .ok (.aload_n 0, 1) := by decide +kernel
theorem dX10_makeWheel_22 : decode cX10_makeWheel 22 = .ok (.aload_n 1, 1) := by decide +kernel
theorem dX10_makeWheel_23 : decode cX10_makeWheel 23 = .ok (.bipush 16, 2) := by decide +kernel
theorem dX10_makeWheel_25 : decode cX10_makeWheel 25 = .ok (.aload_n 2, 1) := by decide +kernel
theorem dX10_makeWheel_26 : decode cX10_makeWheel 26 = .ok (.bipush 43, 2) := by decide +kernel
theorem dX10_makeWheel_28 : decode cX10_makeWheel 28 = .ok (.iaload, 1) := by decide +kernel
theorem dX10_makeWheel_29 : decode cX10_makeWheel 29 = .ok (.aload_n 2, 1) := by decide +kernel
theorem dX10_makeWheel_30 : decode cX10_makeWheel 30 = .ok (.bipush 42, 2) := by decide +kernel
theorem dX10_makeWheel_32 : decode cX10_makeWheel 32 = .ok (.iaload, 1) := by decide +kernel
theorem dX10_makeWheel_33 : decode cX10_makeWheel 33 = .ok (.isub, 1) := by decide +kernel
theorem dX10_makeWheel_34 : decode cX10_makeWheel 34 = .ok (.invokevirtual 196, 3) := by decide +kernel
theorem dX10_makeWheel_37 : decode cX10_makeWheel 37 = .ok (.return_, 1) := by decide +kernel
def F_X10_makeWheel (x0 : Nat) (x1 : Nat) (I : MI) (L : ML) (R : MR) : Option (MI) :=
  if kd x0 = 9 ∧ x0 < NN then
  if kd x1 = 8 ∧ x1 < NN then
  (rf R x1 0 20).bind fun a1 =>
  (ri I a1 (2 : Int32)).bind fun v2 =>
  (wi I a1 (43 : Int32) ((200 : Int32) + v2)).bind fun I3 =>
  (wi I3 a1 (44 : Int32) (0 : Int32)).bind fun I4 =>
  (ri I4 a1 (43 : Int32)).bind fun v5 =>
  (ri I4 a1 (42 : Int32)).bind fun v6 =>
  bn1 (F_X10_jot x0 x1 (16 : Int32) (v5 - v6) I4 L R) fun I7 =>
  some (I7)
  else none
  else none
set_option maxRecDepth 100000 in
set_option maxHeartbeats 4000000 in
theorem c_X10_makeWheel (l : Launch) (D : va_G) (cA : Nat → ClassId) (ad : Nat → Nat) (bs : Nat) (X : State → Prop) (hAd : Ax ad bs) (hX : Stb bs X) (x0 : Nat) (x1 : Nat) (I : MI) (L : ML) (R : MR) (I' : MI) (h : F_X10_makeWheel x0 x1 I L R = some (I')) : Cn l D cA ad bs X yX10_makeWheel cX10_makeWheel 3 none 1 24 [.ref (ad x0), .ref (ad x1)] I L R (none, I', L, R) := by
  refine Cn.ofV hAd hX [(0, .ref (ad x0)), (1, .ref (ad x1))] rfl (Nat.le_of_ble_eq_true rfl) (by decide) ?_
  intro G el eD ecA ead ebs eX erm eNL C0
  subst el eD ecA ead ebs eX
  unfold F_X10_makeWheel at h
  obtain ⟨c_x0, h⟩ := ite_some h
  obtain ⟨c_x1, h⟩ := ite_some h
  refine V_aload_n C0 1 rfl rfl dX10_makeWheel_0 ?_
  obtain ⟨a1, qa1, h⟩ := bnd_some h
  refine V_getR C0 8 0 fl_X10_42 c_x1.2 c_x1.1 rfl (rf_at qa1) dX10_makeWheel_1 ?_
  refine V_astore_n C0 [(2, .ref (G.ad a1)), (0, .ref (G.ad x0)), (1, .ref (G.ad x1))] rfl (by rw [eNL]; decide) rfl dX10_makeWheel_4 ?_
  refine V_aload_n C0 0 rfl rfl dX10_makeWheel_5 ?_
  refine V_bipush C0 (v := (43 : Int32)) (by decide) dX10_makeWheel_6 ?_
  refine V_sipush C0 (v := (200 : Int32)) (by decide) dX10_makeWheel_8 ?_
  refine V_aload_n C0 0 rfl rfl dX10_makeWheel_11 ?_
  refine V_iconst C0 (v := (2 : Int32)) (by decide) dX10_makeWheel_12 ?_
  obtain ⟨v2, qv2, h⟩ := bnd_some h
  refine V_ri C0 (rf_lt qa1) (rf_kd qa1) qv2 dX10_makeWheel_13 ?_
  refine V_iadd C0 dX10_makeWheel_14 ?_
  obtain ⟨I3, qI3, h⟩ := bnd_some h
  refine V_wi C0 (rf_lt qa1) (rf_kd qa1) qI3 dX10_makeWheel_15 ?_
  refine V_aload_n C0 0 rfl rfl dX10_makeWheel_16 ?_
  refine V_bipush C0 (v := (44 : Int32)) (by decide) dX10_makeWheel_17 ?_
  refine V_iconst C0 (v := (0 : Int32)) (by decide) dX10_makeWheel_19 ?_
  obtain ⟨I4, qI4, h⟩ := bnd_some h
  refine V_wi C0 (rf_lt qa1) (rf_kd qa1) qI4 dX10_makeWheel_20 ?_
  refine V_aload_n C0 1 rfl rfl dX10_makeWheel_21 ?_
  refine V_aload_n C0 2 rfl rfl dX10_makeWheel_22 ?_
  refine V_bipush C0 (v := (16 : Int32)) (by decide) dX10_makeWheel_23 ?_
  refine V_aload_n C0 0 rfl rfl dX10_makeWheel_25 ?_
  refine V_bipush C0 (v := (43 : Int32)) (by decide) dX10_makeWheel_26 ?_
  obtain ⟨v5, qv5, h⟩ := bnd_some h
  refine V_ri C0 (rf_lt qa1) (rf_kd qa1) qv5 dX10_makeWheel_28 ?_
  refine V_aload_n C0 0 rfl rfl dX10_makeWheel_29 ?_
  refine V_bipush C0 (v := (42 : Int32)) (by decide) dX10_makeWheel_30 ?_
  obtain ⟨v6, qv6, h⟩ := bnd_some h
  refine V_ri C0 (rf_lt qa1) (rf_kd qa1) qv6 dX10_makeWheel_32 ?_
  refine V_isub C0 dX10_makeWheel_33 ?_
  obtain ⟨I7, q8, h⟩ := bn1_some h
  refine V_callV C0 (st := []) (As := [.ref (G.ad x1), .int (16 : Int32), .int (v5 - v6)]) 9 (c_X10_jot G.l G.D G.cA G.ad G.bs G.X C0.2.2.2.2.2.2.2.2.2.1 C0.2.2.2.2.2.2.2.2.2.2.2.2 x0 x1 (16 : Int32) (v5 - v6) I4 L R I7 q8) lc_X10_jot lk_X10_196 c_x0.2 c_x0.1 ⟨_, rfl, rfl⟩ rfl (by rw [erm]; decide) (Nat.le_of_ble_eq_true rfl) dX10_makeWheel_34 ?_
  show V G _ 37 [(2, .ref (G.ad a1)), (0, .ref (G.ad x0)), (1, .ref (G.ad x1))] [] I7 L R
  cases h
  exact V_vret C0 dX10_makeWheel_37
theorem dX10_makeCoil_0 : decode cX10_makeCoil 0 = .ok (.aload_n 1, 1) := by decide +kernel
theorem dX10_makeCoil_1 : decode cX10_makeCoil 1 = .ok (.getfield 42, 3) := by decide +kernel
theorem dX10_makeCoil_4 : decode cX10_makeCoil 4 = .ok (.astore_n 2, 1) := by decide +kernel
theorem dX10_makeCoil_5 : decode cX10_makeCoil 5 = .ok (.aload_n 2, 1) := by decide +kernel
theorem dX10_makeCoil_6 : decode cX10_makeCoil 6 = .ok (.bipush 45, 2) := by decide +kernel
theorem dX10_makeCoil_8 : decode cX10_makeCoil 8 = .ok (.aload_n 2, 1) := by decide +kernel
theorem dX10_makeCoil_9 : decode cX10_makeCoil 9 = .ok (.bipush 41, 2) := by decide +kernel
theorem dX10_makeCoil_11 : decode cX10_makeCoil 11 = .ok (.iaload, 1) := by decide +kernel
theorem dX10_makeCoil_12 : decode cX10_makeCoil 12 = .ok (.iconst 2, 1) := by decide +kernel
theorem dX10_makeCoil_13 : decode cX10_makeCoil 13 = .ok (.imul, 1) := by decide +kernel
theorem dX10_makeCoil_14 : decode cX10_makeCoil 14 = .ok (.iastore, 1) := by decide +kernel
theorem dX10_makeCoil_15 : decode cX10_makeCoil 15 = .ok (.aload_n 2, 1) := by decide +kernel
theorem dX10_makeCoil_16 : decode cX10_makeCoil 16 = .ok (.bipush 42, 2) := by decide +kernel
theorem dX10_makeCoil_18 : decode cX10_makeCoil 18 = .ok (.aload_n 1, 1) := by decide +kernel
theorem dX10_makeCoil_19 : decode cX10_makeCoil 19 = .ok (.invokevirtual 215, 3) := by decide +kernel
theorem dX10_makeCoil_22 : decode cX10_makeCoil 22 = .ok (.iastore, 1) := by decide +kernel
theorem dX10_makeCoil_23 : decode cX10_makeCoil 23 = .ok (.aload_n 0, 1) := by decide +kernel
theorem dX10_makeCoil_24 : decode cX10_makeCoil 24 = .ok (.aload_n 1, 1) := by decide +kernel
theorem dX10_makeCoil_25 : decode cX10_makeCoil 25 = .ok (.bipush 17, 2) := by decide +kernel
theorem dX10_makeCoil_27 : decode cX10_makeCoil 27 = .ok (.aload_n 2, 1) := by decide +kernel
theorem dX10_makeCoil_28 : decode cX10_makeCoil 28 = .ok (.bipush 42, 2) := by decide +kernel
theorem dX10_makeCoil_30 : decode cX10_makeCoil 30 = .ok (.iaload, 1) := by decide +kernel
theorem dX10_makeCoil_31 : decode cX10_makeCoil 31 = .ok (.invokevirtual 196, 3) := by decide +kernel
theorem dX10_makeCoil_34 : decode cX10_makeCoil 34 = .ok (.return_, 1) := by decide +kernel
def F_X10_makeCoil (N : Nat) (x0 : Nat) (x1 : Nat) (I : MI) (L : ML) (R : MR) : Option (MI) :=
  if kd x0 = 9 ∧ x0 < NN then
  if kd x1 = 8 ∧ x1 < NN then
  (rf R x1 0 20).bind fun a1 =>
  (ri I a1 (41 : Int32)).bind fun v2 =>
  (wi I a1 (45 : Int32) (v2 * (2 : Int32))).bind fun I3 =>
  bn1 (F_X9_push N x1 I3 L R) fun v4 =>
  (wi I3 a1 (42 : Int32) v4).bind fun I6 =>
  (ri I6 a1 (42 : Int32)).bind fun v7 =>
  bn1 (F_X10_jot x0 x1 (17 : Int32) v7 I6 L R) fun I8 =>
  some (I8)
  else none
  else none
set_option maxRecDepth 100000 in
set_option maxHeartbeats 4000000 in
theorem c_X10_makeCoil (l : Launch) (D : va_G) (cA : Nat → ClassId) (ad : Nat → Nat) (bs : Nat) (X : State → Prop) (hAd : Ax ad bs) (hX : Stb bs X) (N : Nat) (x0 : Nat) (x1 : Nat) (I : MI) (L : ML) (R : MR) (I' : MI) (h : F_X10_makeCoil N x0 x1 I L R = some (I')) : Cn l D cA ad bs X yX10_makeCoil cX10_makeCoil 3 none 1 24 [.ref (ad x0), .ref (ad x1)] I L R (none, I', L, R) := by
  refine Cn.ofV hAd hX [(0, .ref (ad x0)), (1, .ref (ad x1))] rfl (Nat.le_of_ble_eq_true rfl) (by decide) ?_
  intro G el eD ecA ead ebs eX erm eNL C0
  subst el eD ecA ead ebs eX
  unfold F_X10_makeCoil at h
  obtain ⟨c_x0, h⟩ := ite_some h
  obtain ⟨c_x1, h⟩ := ite_some h
  refine V_aload_n C0 1 rfl rfl dX10_makeCoil_0 ?_
  obtain ⟨a1, qa1, h⟩ := bnd_some h
  refine V_getR C0 8 0 fl_X10_42 c_x1.2 c_x1.1 rfl (rf_at qa1) dX10_makeCoil_1 ?_
  refine V_astore_n C0 [(2, .ref (G.ad a1)), (0, .ref (G.ad x0)), (1, .ref (G.ad x1))] rfl (by rw [eNL]; decide) rfl dX10_makeCoil_4 ?_
  refine V_aload_n C0 0 rfl rfl dX10_makeCoil_5 ?_
  refine V_bipush C0 (v := (45 : Int32)) (by decide) dX10_makeCoil_6 ?_
  refine V_aload_n C0 0 rfl rfl dX10_makeCoil_8 ?_
  refine V_bipush C0 (v := (41 : Int32)) (by decide) dX10_makeCoil_9 ?_
  obtain ⟨v2, qv2, h⟩ := bnd_some h
  refine V_ri C0 (rf_lt qa1) (rf_kd qa1) qv2 dX10_makeCoil_11 ?_
  refine V_iconst C0 (v := (2 : Int32)) (by decide) dX10_makeCoil_12 ?_
  refine V_imul C0 dX10_makeCoil_13 ?_
  obtain ⟨I3, qI3, h⟩ := bnd_some h
  refine V_wi C0 (rf_lt qa1) (rf_kd qa1) qI3 dX10_makeCoil_14 ?_
  refine V_aload_n C0 0 rfl rfl dX10_makeCoil_15 ?_
  refine V_bipush C0 (v := (42 : Int32)) (by decide) dX10_makeCoil_16 ?_
  refine V_aload_n C0 2 rfl rfl dX10_makeCoil_18 ?_
  obtain ⟨v4, q5, h⟩ := bn1_some h
  refine V_callV C0 (st := [.int (42 : Int32), .ref (G.ad a1)]) (As := []) 8 (c_X9_push G.l G.D G.cA G.ad G.bs G.X C0.2.2.2.2.2.2.2.2.2.1 C0.2.2.2.2.2.2.2.2.2.2.2.2 N x1 I3 L R v4 q5) lc_X9_push lk_X10_215 c_x1.2 c_x1.1 ⟨_, rfl, rfl⟩ rfl (by rw [erm]; decide) (Nat.le_of_ble_eq_true rfl) dX10_makeCoil_19 ?_
  show V G _ 22 [(2, .ref (G.ad a1)), (0, .ref (G.ad x0)), (1, .ref (G.ad x1))] [.int v4, .int (42 : Int32), .ref (G.ad a1)] I3 L R
  obtain ⟨I6, qI6, h⟩ := bnd_some h
  refine V_wi C0 (rf_lt qa1) (rf_kd qa1) qI6 dX10_makeCoil_22 ?_
  refine V_aload_n C0 1 rfl rfl dX10_makeCoil_23 ?_
  refine V_aload_n C0 2 rfl rfl dX10_makeCoil_24 ?_
  refine V_bipush C0 (v := (17 : Int32)) (by decide) dX10_makeCoil_25 ?_
  refine V_aload_n C0 0 rfl rfl dX10_makeCoil_27 ?_
  refine V_bipush C0 (v := (42 : Int32)) (by decide) dX10_makeCoil_28 ?_
  obtain ⟨v7, qv7, h⟩ := bnd_some h
  refine V_ri C0 (rf_lt qa1) (rf_kd qa1) qv7 dX10_makeCoil_30 ?_
  obtain ⟨I8, q9, h⟩ := bn1_some h
  refine V_callV C0 (st := []) (As := [.ref (G.ad x1), .int (17 : Int32), .int v7]) 9 (c_X10_jot G.l G.D G.cA G.ad G.bs G.X C0.2.2.2.2.2.2.2.2.2.1 C0.2.2.2.2.2.2.2.2.2.2.2.2 x0 x1 (17 : Int32) v7 I6 L R I8 q9) lc_X10_jot lk_X10_196 c_x0.2 c_x0.1 ⟨_, rfl, rfl⟩ rfl (by rw [erm]; decide) (Nat.le_of_ble_eq_true rfl) dX10_makeCoil_31 ?_
  show V G _ 34 [(2, .ref (G.ad a1)), (0, .ref (G.ad x0)), (1, .ref (G.ad x1))] [] I8 L R
  cases h
  exact V_vret C0 dX10_makeCoil_34
theorem dX10_makeJet_0 : decode cX10_makeJet 0 = .ok (.aload_n 1, 1) := by decide +kernel
theorem dX10_makeJet_1 : decode cX10_makeJet 1 = .ok (.getfield 42, 3) := by decide +kernel
theorem dX10_makeJet_4 : decode cX10_makeJet 4 = .ok (.astore_n 2, 1) := by decide +kernel
theorem dX10_makeJet_5 : decode cX10_makeJet 5 = .ok (.aload_n 2, 1) := by decide +kernel
theorem dX10_makeJet_6 : decode cX10_makeJet 6 = .ok (.bipush 47, 2) := by decide +kernel
theorem dX10_makeJet_8 : decode cX10_makeJet 8 = .ok (.aload_n 0, 1) := by decide +kernel
theorem dX10_makeJet_9 : decode cX10_makeJet 9 = .ok (.invokevirtual 184, 3) := by decide +kernel
theorem dX10_makeJet_12 : decode cX10_makeJet 12 = .ok (.iconst 3, 1) := by decide +kernel
theorem dX10_makeJet_13 : decode cX10_makeJet 13 = .ok (.irem, 1) := by decide +kernel
theorem dX10_makeJet_14 : decode cX10_makeJet 14 = .ok (.iconst 1, 1) := by decide +kernel
theorem dX10_makeJet_15 : decode cX10_makeJet 15 = .ok (.iadd, 1) := by decide +kernel
theorem dX10_makeJet_16 : decode cX10_makeJet 16 = .ok (.iastore, 1) := by decide +kernel
theorem dX10_makeJet_17 : decode cX10_makeJet 17 = .ok (.aload_n 2, 1) := by decide +kernel
theorem dX10_makeJet_18 : decode cX10_makeJet 18 = .ok (.bipush 27, 2) := by decide +kernel
theorem dX10_makeJet_20 : decode cX10_makeJet 20 = .ok (.aload_n 1, 1) := by decide +kernel
theorem dX10_makeJet_21 : decode cX10_makeJet 21 = .ok (.getfield 209, 3) := by decide +kernel
theorem dX10_makeJet_24 : decode cX10_makeJet 24 = .ok (.iastore, 1) := by decide +kernel
theorem dX10_makeJet_25 : decode cX10_makeJet 25 = .ok (.aload_n 2, 1) := by decide +kernel
theorem dX10_makeJet_26 : decode cX10_makeJet 26 = .ok (.bipush 40, 2) := by decide +kernel
theorem dX10_makeJet_28 : decode cX10_makeJet 28 = .ok (.iconst 0, 1) := by decide +kernel
theorem dX10_makeJet_29 : decode cX10_makeJet 29 = .ok (.iastore, 1) := by decide +kernel
theorem dX10_makeJet_30 : decode cX10_makeJet 30 = .ok (.aload_n 0, 1) := by decide +kernel
theorem dX10_makeJet_31 : decode cX10_makeJet 31 = .ok (.aload_n 1, 1) := by decide +kernel
theorem dX10_makeJet_32 : decode cX10_makeJet 32 = .ok (.bipush 18, 2) := by decide +kernel
theorem dX10_makeJet_34 : decode cX10_makeJet 34 = .ok (.aload_n 1, 1) := by decide +kernel
theorem dX10_makeJet_35 : decode cX10_makeJet 35 = .ok (.invokevirtual 215, 3) := by decide +kernel
theorem dX10_makeJet_38 : decode cX10_makeJet 38 = .ok (.invokevirtual 196, 3) := by decide +kernel
theorem dX10_makeJet_41 : decode cX10_makeJet 41 = .ok (.return_, 1) := by decide +kernel
def F_X10_makeJet (N : Nat) (x0 : Nat) (x1 : Nat) (I : MI) (L : ML) (R : MR) : Option (MI) :=
  if kd x0 = 9 ∧ x0 < NN then
  if kd x1 = 8 ∧ x1 < NN then
  (rf R x1 0 20).bind fun a1 =>
  bn2 (F_X10_draw x0 I L R) fun v2 I3 =>
  (wi I3 a1 (47 : Int32) ((iR v2 (3 : Int32)) + (1 : Int32))).bind fun I5 =>
  (wi I5 a1 (27 : Int32) (I5 x1 6)).bind fun I6 =>
  (wi I6 a1 (40 : Int32) (0 : Int32)).bind fun I7 =>
  bn1 (F_X9_push N x1 I7 L R) fun v8 =>
  bn1 (F_X10_jot x0 x1 (18 : Int32) v8 I7 L R) fun I10 =>
  some (I10)
  else none
  else none
set_option maxRecDepth 100000 in
set_option maxHeartbeats 4000000 in
theorem c_X10_makeJet (l : Launch) (D : va_G) (cA : Nat → ClassId) (ad : Nat → Nat) (bs : Nat) (X : State → Prop) (hAd : Ax ad bs) (hX : Stb bs X) (N : Nat) (x0 : Nat) (x1 : Nat) (I : MI) (L : ML) (R : MR) (I' : MI) (h : F_X10_makeJet N x0 x1 I L R = some (I')) : Cn l D cA ad bs X yX10_makeJet cX10_makeJet 3 none 1 24 [.ref (ad x0), .ref (ad x1)] I L R (none, I', L, R) := by
  refine Cn.ofV hAd hX [(0, .ref (ad x0)), (1, .ref (ad x1))] rfl (Nat.le_of_ble_eq_true rfl) (by decide) ?_
  intro G el eD ecA ead ebs eX erm eNL C0
  subst el eD ecA ead ebs eX
  unfold F_X10_makeJet at h
  obtain ⟨c_x0, h⟩ := ite_some h
  obtain ⟨c_x1, h⟩ := ite_some h
  refine V_aload_n C0 1 rfl rfl dX10_makeJet_0 ?_
  obtain ⟨a1, qa1, h⟩ := bnd_some h
  refine V_getR C0 8 0 fl_X10_42 c_x1.2 c_x1.1 rfl (rf_at qa1) dX10_makeJet_1 ?_
  refine V_astore_n C0 [(2, .ref (G.ad a1)), (0, .ref (G.ad x0)), (1, .ref (G.ad x1))] rfl (by rw [eNL]; decide) rfl dX10_makeJet_4 ?_
  refine V_aload_n C0 0 rfl rfl dX10_makeJet_5 ?_
  refine V_bipush C0 (v := (47 : Int32)) (by decide) dX10_makeJet_6 ?_
  refine V_aload_n C0 1 rfl rfl dX10_makeJet_8 ?_
  obtain ⟨v2, I3, q4, h⟩ := bn2_some h
  refine V_callV C0 (st := [.int (47 : Int32), .ref (G.ad a1)]) (As := []) 9 (c_X10_draw G.l G.D G.cA G.ad G.bs G.X C0.2.2.2.2.2.2.2.2.2.1 C0.2.2.2.2.2.2.2.2.2.2.2.2 x0 I L R v2 I3 q4) lc_X10_draw lk_X10_184 c_x0.2 c_x0.1 ⟨_, rfl, rfl⟩ rfl (by rw [erm]; decide) (Nat.le_of_ble_eq_true rfl) dX10_makeJet_9 ?_
  show V G _ 12 [(2, .ref (G.ad a1)), (0, .ref (G.ad x0)), (1, .ref (G.ad x1))] [.int v2, .int (47 : Int32), .ref (G.ad a1)] I3 L R
  refine V_iconst C0 (v := (3 : Int32)) (by decide) dX10_makeJet_12 ?_
  refine V_irem C0 (by decide) dX10_makeJet_13 ?_
  refine V_iconst C0 (v := (1 : Int32)) (by decide) dX10_makeJet_14 ?_
  refine V_iadd C0 dX10_makeJet_15 ?_
  obtain ⟨I5, qI5, h⟩ := bnd_some h
  refine V_wi C0 (rf_lt qa1) (rf_kd qa1) qI5 dX10_makeJet_16 ?_
  refine V_aload_n C0 0 rfl rfl dX10_makeJet_17 ?_
  refine V_bipush C0 (v := (27 : Int32)) (by decide) dX10_makeJet_18 ?_
  refine V_aload_n C0 2 rfl rfl dX10_makeJet_20 ?_
  refine V_getI C0 8 6 fl_X10_209 c_x1.2 c_x1.1 rfl dX10_makeJet_21 ?_
  obtain ⟨I6, qI6, h⟩ := bnd_some h
  refine V_wi C0 (rf_lt qa1) (rf_kd qa1) qI6 dX10_makeJet_24 ?_
  refine V_aload_n C0 0 rfl rfl dX10_makeJet_25 ?_
  refine V_bipush C0 (v := (40 : Int32)) (by decide) dX10_makeJet_26 ?_
  refine V_iconst C0 (v := (0 : Int32)) (by decide) dX10_makeJet_28 ?_
  obtain ⟨I7, qI7, h⟩ := bnd_some h
  refine V_wi C0 (rf_lt qa1) (rf_kd qa1) qI7 dX10_makeJet_29 ?_
  refine V_aload_n C0 1 rfl rfl dX10_makeJet_30 ?_
  refine V_aload_n C0 2 rfl rfl dX10_makeJet_31 ?_
  refine V_bipush C0 (v := (18 : Int32)) (by decide) dX10_makeJet_32 ?_
  refine V_aload_n C0 2 rfl rfl dX10_makeJet_34 ?_
  obtain ⟨v8, q9, h⟩ := bn1_some h
  refine V_callV C0 (st := [.int (18 : Int32), .ref (G.ad x1), .ref (G.ad x0)]) (As := []) 8 (c_X9_push G.l G.D G.cA G.ad G.bs G.X C0.2.2.2.2.2.2.2.2.2.1 C0.2.2.2.2.2.2.2.2.2.2.2.2 N x1 I7 L R v8 q9) lc_X9_push lk_X10_215 c_x1.2 c_x1.1 ⟨_, rfl, rfl⟩ rfl (by rw [erm]; decide) (Nat.le_of_ble_eq_true rfl) dX10_makeJet_35 ?_
  show V G _ 38 [(2, .ref (G.ad a1)), (0, .ref (G.ad x0)), (1, .ref (G.ad x1))] [.int v8, .int (18 : Int32), .ref (G.ad x1), .ref (G.ad x0)] I7 L R
  obtain ⟨I10, q11, h⟩ := bn1_some h
  refine V_callV C0 (st := []) (As := [.ref (G.ad x1), .int (18 : Int32), .int v8]) 9 (c_X10_jot G.l G.D G.cA G.ad G.bs G.X C0.2.2.2.2.2.2.2.2.2.1 C0.2.2.2.2.2.2.2.2.2.2.2.2 x0 x1 (18 : Int32) v8 I7 L R I10 q11) lc_X10_jot lk_X10_196 c_x0.2 c_x0.1 ⟨_, rfl, rfl⟩ rfl (by rw [erm]; decide) (Nat.le_of_ble_eq_true rfl) dX10_makeJet_38 ?_
  show V G _ 41 [(2, .ref (G.ad a1)), (0, .ref (G.ad x0)), (1, .ref (G.ad x1))] [] I10 L R
  cases h
  exact V_vret C0 dX10_makeJet_41
theorem dX10_makePulser_0 : decode cX10_makePulser 0 = .ok (.aload_n 1, 1) := by decide +kernel
theorem dX10_makePulser_1 : decode cX10_makePulser 1 = .ok (.getfield 42, 3) := by decide +kernel
theorem dX10_makePulser_4 : decode cX10_makePulser 4 = .ok (.astore_n 2, 1) := by decide +kernel
theorem dX10_makePulser_5 : decode cX10_makePulser 5 = .ok (.aload_n 2, 1) := by decide +kernel
theorem dX10_makePulser_6 : decode cX10_makePulser 6 = .ok (.bipush 48, 2) := by decide +kernel
theorem dX10_makePulser_8 : decode cX10_makePulser 8 = .ok (.aload_n 2, 1) := by decide +kernel
theorem dX10_makePulser_9 : decode cX10_makePulser 9 = .ok (.bipush 47, 2) := by decide +kernel
theorem dX10_makePulser_11 : decode cX10_makePulser 11 = .ok (.iaload, 1) := by decide +kernel
theorem dX10_makePulser_12 : decode cX10_makePulser 12 = .ok (.iconst 1, 1) := by decide +kernel
theorem dX10_makePulser_13 : decode cX10_makePulser 13 = .ok (.iadd, 1) := by decide +kernel
theorem dX10_makePulser_14 : decode cX10_makePulser 14 = .ok (.iastore, 1) := by decide +kernel
theorem dX10_makePulser_15 : decode cX10_makePulser 15 = .ok (.aload_n 2, 1) := by decide +kernel
theorem dX10_makePulser_16 : decode cX10_makePulser 16 = .ok (.bipush 42, 2) := by decide +kernel
theorem dX10_makePulser_18 : decode cX10_makePulser 18 = .ok (.aload_n 1, 1) := by decide +kernel
theorem dX10_makePulser_19 : decode cX10_makePulser 19 = .ok (.invokevirtual 215, 3) := by decide +kernel
theorem dX10_makePulser_22 : decode cX10_makePulser 22 = .ok (.iastore, 1) := by decide +kernel
theorem dX10_makePulser_23 : decode cX10_makePulser 23 = .ok (.aload_n 0, 1) := by decide +kernel
theorem dX10_makePulser_24 : decode cX10_makePulser 24 = .ok (.aload_n 1, 1) := by decide +kernel
theorem dX10_makePulser_25 : decode cX10_makePulser 25 = .ok (.bipush 19, 2) := by decide +kernel
theorem dX10_makePulser_27 : decode cX10_makePulser 27 = .ok (.aload_n 2, 1) := by decide +kernel
theorem dX10_makePulser_28 : decode cX10_makePulser 28 = .ok (.bipush 42, 2) := by decide +kernel
theorem dX10_makePulser_30 : decode cX10_makePulser 30 = .ok (.iaload, 1) := by decide +kernel
theorem dX10_makePulser_31 : decode cX10_makePulser 31 = .ok (.invokevirtual 196, 3) := by decide +kernel
theorem dX10_makePulser_34 : decode cX10_makePulser 34 = .ok (.return_, 1) := by decide +kernel
def F_X10_makePulser (N : Nat) (x0 : Nat) (x1 : Nat) (I : MI) (L : ML) (R : MR) : Option (MI) :=
  if kd x0 = 9 ∧ x0 < NN then
  if kd x1 = 8 ∧ x1 < NN then
  (rf R x1 0 20).bind fun a1 =>
  (ri I a1 (47 : Int32)).bind fun v2 =>
  (wi I a1 (48 : Int32) (v2 + (1 : Int32))).bind fun I3 =>
  bn1 (F_X9_push N x1 I3 L R) fun v4 =>
  (wi I3 a1 (42 : Int32) v4).bind fun I6 =>
  (ri I6 a1 (42 : Int32)).bind fun v7 =>
  bn1 (F_X10_jot x0 x1 (19 : Int32) v7 I6 L R) fun I8 =>
  some (I8)
  else none
  else none
set_option maxRecDepth 100000 in
set_option maxHeartbeats 4000000 in
theorem c_X10_makePulser (l : Launch) (D : va_G) (cA : Nat → ClassId) (ad : Nat → Nat) (bs : Nat) (X : State → Prop) (hAd : Ax ad bs) (hX : Stb bs X) (N : Nat) (x0 : Nat) (x1 : Nat) (I : MI) (L : ML) (R : MR) (I' : MI) (h : F_X10_makePulser N x0 x1 I L R = some (I')) : Cn l D cA ad bs X yX10_makePulser cX10_makePulser 3 none 1 24 [.ref (ad x0), .ref (ad x1)] I L R (none, I', L, R) := by
  refine Cn.ofV hAd hX [(0, .ref (ad x0)), (1, .ref (ad x1))] rfl (Nat.le_of_ble_eq_true rfl) (by decide) ?_
  intro G el eD ecA ead ebs eX erm eNL C0
  subst el eD ecA ead ebs eX
  unfold F_X10_makePulser at h
  obtain ⟨c_x0, h⟩ := ite_some h
  obtain ⟨c_x1, h⟩ := ite_some h
  refine V_aload_n C0 1 rfl rfl dX10_makePulser_0 ?_
  obtain ⟨a1, qa1, h⟩ := bnd_some h
  refine V_getR C0 8 0 fl_X10_42 c_x1.2 c_x1.1 rfl (rf_at qa1) dX10_makePulser_1 ?_
  refine V_astore_n C0 [(2, .ref (G.ad a1)), (0, .ref (G.ad x0)), (1, .ref (G.ad x1))] rfl (by rw [eNL]; decide) rfl dX10_makePulser_4 ?_
  refine V_aload_n C0 0 rfl rfl dX10_makePulser_5 ?_
  refine V_bipush C0 (v := (48 : Int32)) (by decide) dX10_makePulser_6 ?_
  refine V_aload_n C0 0 rfl rfl dX10_makePulser_8 ?_
  refine V_bipush C0 (v := (47 : Int32)) (by decide) dX10_makePulser_9 ?_
  obtain ⟨v2, qv2, h⟩ := bnd_some h
  refine V_ri C0 (rf_lt qa1) (rf_kd qa1) qv2 dX10_makePulser_11 ?_
  refine V_iconst C0 (v := (1 : Int32)) (by decide) dX10_makePulser_12 ?_
  refine V_iadd C0 dX10_makePulser_13 ?_
  obtain ⟨I3, qI3, h⟩ := bnd_some h
  refine V_wi C0 (rf_lt qa1) (rf_kd qa1) qI3 dX10_makePulser_14 ?_
  refine V_aload_n C0 0 rfl rfl dX10_makePulser_15 ?_
  refine V_bipush C0 (v := (42 : Int32)) (by decide) dX10_makePulser_16 ?_
  refine V_aload_n C0 2 rfl rfl dX10_makePulser_18 ?_
  obtain ⟨v4, q5, h⟩ := bn1_some h
  refine V_callV C0 (st := [.int (42 : Int32), .ref (G.ad a1)]) (As := []) 8 (c_X9_push G.l G.D G.cA G.ad G.bs G.X C0.2.2.2.2.2.2.2.2.2.1 C0.2.2.2.2.2.2.2.2.2.2.2.2 N x1 I3 L R v4 q5) lc_X9_push lk_X10_215 c_x1.2 c_x1.1 ⟨_, rfl, rfl⟩ rfl (by rw [erm]; decide) (Nat.le_of_ble_eq_true rfl) dX10_makePulser_19 ?_
  show V G _ 22 [(2, .ref (G.ad a1)), (0, .ref (G.ad x0)), (1, .ref (G.ad x1))] [.int v4, .int (42 : Int32), .ref (G.ad a1)] I3 L R
  obtain ⟨I6, qI6, h⟩ := bnd_some h
  refine V_wi C0 (rf_lt qa1) (rf_kd qa1) qI6 dX10_makePulser_22 ?_
  refine V_aload_n C0 1 rfl rfl dX10_makePulser_23 ?_
  refine V_aload_n C0 2 rfl rfl dX10_makePulser_24 ?_
  refine V_bipush C0 (v := (19 : Int32)) (by decide) dX10_makePulser_25 ?_
  refine V_aload_n C0 0 rfl rfl dX10_makePulser_27 ?_
  refine V_bipush C0 (v := (42 : Int32)) (by decide) dX10_makePulser_28 ?_
  obtain ⟨v7, qv7, h⟩ := bnd_some h
  refine V_ri C0 (rf_lt qa1) (rf_kd qa1) qv7 dX10_makePulser_30 ?_
  obtain ⟨I8, q9, h⟩ := bn1_some h
  refine V_callV C0 (st := []) (As := [.ref (G.ad x1), .int (19 : Int32), .int v7]) 9 (c_X10_jot G.l G.D G.cA G.ad G.bs G.X C0.2.2.2.2.2.2.2.2.2.1 C0.2.2.2.2.2.2.2.2.2.2.2.2 x0 x1 (19 : Int32) v7 I6 L R I8 q9) lc_X10_jot lk_X10_196 c_x0.2 c_x0.1 ⟨_, rfl, rfl⟩ rfl (by rw [erm]; decide) (Nat.le_of_ble_eq_true rfl) dX10_makePulser_31 ?_
  show V G _ 34 [(2, .ref (G.ad a1)), (0, .ref (G.ad x0)), (1, .ref (G.ad x1))] [] I8 L R
  cases h
  exact V_vret C0 dX10_makePulser_34
