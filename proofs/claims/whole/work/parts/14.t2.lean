theorem dX9_keptByte_0 : decode cX9_keptByte 0 = .ok (.iload_n 1, 1) := by decide +kernel
theorem dX9_keptByte_1 : decode cX9_keptByte 1 = .ok (.ifCond .lt 34, 3) := by decide +kernel
theorem dX9_keptByte_4 : decode cX9_keptByte 4 = .ok (.iload_n 1, 1) := by decide +kernel
theorem dX9_keptByte_5 : decode cX9_keptByte 5 = .ok (.aload_n 0, 1) := by decide +kernel
theorem dX9_keptByte_6 : decode cX9_keptByte 6 = .ok (.getfield 9, 3) := by decide +kernel
theorem dX9_keptByte_9 : decode cX9_keptByte 9 = .ok (.bipush 10, 2) := by decide +kernel
theorem dX9_keptByte_11 : decode cX9_keptByte 11 = .ok (.iaload, 1) := by decide +kernel
theorem dX9_keptByte_12 : decode cX9_keptByte 12 = .ok (.if_icmp .ge 23, 3) := by decide +kernel
theorem dX9_keptByte_15 : decode cX9_keptByte 15 = .ok (.aload_n 0, 1) := by decide +kernel
theorem dX9_keptByte_16 : decode cX9_keptByte 16 = .ok (.getfield 18, 3) := by decide +kernel
theorem dX9_keptByte_19 : decode cX9_keptByte 19 = .ok (.aload_n 0, 1) := by decide +kernel
theorem dX9_keptByte_20 : decode cX9_keptByte 20 = .ok (.getfield 66, 3) := by decide +kernel
theorem dX9_keptByte_23 : decode cX9_keptByte 23 = .ok (.iload_n 1, 1) := by decide +kernel
theorem dX9_keptByte_24 : decode cX9_keptByte 24 = .ok (.iadd, 1) := by decide +kernel
theorem dX9_keptByte_25 : decode cX9_keptByte 25 = .ok (.sipush 2000, 3) := by decide +kernel
theorem dX9_keptByte_28 : decode cX9_keptByte 28 = .ok (.invokestatic 95, 3) := by decide +kernel
theorem dX9_keptByte_31 : decode cX9_keptByte 31 = .ok (.iaload, 1) := by decide +kernel
theorem dX9_keptByte_32 : decode cX9_keptByte 32 = .ok (.goto 4, 3) := by decide +kernel
theorem dX9_keptByte_35 : decode cX9_keptByte 35 = .ok (.iconst (-1), 1) := by decide +kernel
theorem dX9_keptByte_36 : decode cX9_keptByte 36 = .ok (.ireturn, 1) := by decide +kernel
def F_X9_keptByte (x0 : Nat) (x1 : Int32) (I : MI) (L : ML) (R : MR) : Option (Int32) :=
  if kd x0 = 8 ∧ x0 < NN then
  if x1 < 0 then
    some ((-1 : Int32))
  else
    (rf R x0 0 20).bind fun a2 =>
    (ri I a2 (10 : Int32)).bind fun v3 =>
    if v3 ≤ x1 then
      some ((-1 : Int32))
    else
      (rf R x0 2 20).bind fun a5 =>
      bn1 (F_J9_floorMod_7cf53 ((I x0 9) + x1) (2000 : Int32) I L R) fun v6 =>
      (ri I a5 v6).bind fun v8 =>
      some (v8)
  else none
set_option maxRecDepth 100000 in
set_option maxHeartbeats 4000000 in
theorem c_X9_keptByte (l : Launch) (D : va_G) (cA : Nat → ClassId) (ad : Nat → Nat) (bs : Nat) (X : State → Prop) (hAd : Ax ad bs) (hX : Stb bs X) (x0 : Nat) (x1 : Int32) (I : MI) (L : ML) (R : MR) (r : Int32) (h : F_X9_keptByte x0 x1 I L R = some (r)) : Cn l D cA ad bs X yX9_keptByte cX9_keptByte 2 (some .int) 1 22 [.ref (ad x0), .int x1] I L R (some (.int r), I, L, R) := by
  refine Cn.ofV hAd hX [(0, .ref (ad x0)), (1, .int x1)] rfl (Nat.le_of_ble_eq_true rfl) (by decide) ?_
  intro G el eD ecA ead ebs eX erm eNL C0
  subst el eD ecA ead ebs eX
  unfold F_X9_keptByte at h
  obtain ⟨c_x0, h⟩ := ite_some h
  refine V_iload_n C0 1 rfl rfl dX9_keptByte_0 ?_
  refine V_if_lt C0 (tgt := 35) (by decide) dX9_keptByte_1 (fun c1 => ?_) (fun c1 => ?_)
  · have h := (if_pos c1).symm.trans h
    refine V_iconst C0 (v := (-1 : Int32)) (by decide) dX9_keptByte_35 ?_
    cases h
    exact V_iret C0 dX9_keptByte_36
  · have h := (if_neg c1).symm.trans h
    refine V_iload_n C0 1 rfl rfl dX9_keptByte_4 ?_
    refine V_aload_n C0 0 rfl rfl dX9_keptByte_5 ?_
    obtain ⟨a2, qa2, h⟩ := bnd_some h
    refine V_getR C0 8 0 fl_X9_9 c_x0.2 c_x0.1 rfl (rf_at qa2) dX9_keptByte_6 ?_
    refine V_bipush C0 (v := (10 : Int32)) (by decide) dX9_keptByte_9 ?_
    obtain ⟨v3, qv3, h⟩ := bnd_some h
    refine V_ri C0 (rf_lt qa2) (rf_kd qa2) qv3 dX9_keptByte_11 ?_
    refine V_icmp_ge C0 (tgt := 35) (by decide) dX9_keptByte_12 (fun c4 => ?_) (fun c4 => ?_)
    · have h := (if_pos c4).symm.trans h
      refine V_iconst C0 (v := (-1 : Int32)) (by decide) dX9_keptByte_35 ?_
      cases h
      exact V_iret C0 dX9_keptByte_36
    · have h := (if_neg c4).symm.trans h
      refine V_aload_n C0 0 rfl rfl dX9_keptByte_15 ?_
      obtain ⟨a5, qa5, h⟩ := bnd_some h
      refine V_getR C0 8 2 fl_X9_18 c_x0.2 c_x0.1 rfl (rf_at qa5) dX9_keptByte_16 ?_
      refine V_aload_n C0 0 rfl rfl dX9_keptByte_19 ?_
      refine V_getI C0 8 9 fl_X9_66 c_x0.2 c_x0.1 rfl dX9_keptByte_20 ?_
      refine V_iload_n C0 1 rfl rfl dX9_keptByte_23 ?_
      refine V_iadd C0 dX9_keptByte_24 ?_
      refine V_sipush C0 (v := (2000 : Int32)) (by decide) dX9_keptByte_25 ?_
      obtain ⟨v6, q7, h⟩ := bn1_some h
      refine V_callS C0 (st := [.ref (G.ad a5)]) (As := [.int ((I x0 9) + x1), .int (2000 : Int32)]) (c_J9_floorMod_7cf53 G.l G.D G.cA G.ad G.bs G.X C0.2.2.2.2.2.2.2.2.2.1 C0.2.2.2.2.2.2.2.2.2.2.2.2 ((I x0 9) + x1) (2000 : Int32) I L R v6 q7) lc_J9_floorMod_7cf53 lk_X9_95 rfl (by rw [erm]; decide) (Nat.le_of_ble_eq_true rfl) dX9_keptByte_28 ?_
      show V G _ 31 [(0, .ref (G.ad x0)), (1, .int x1)] [.int v6, .ref (G.ad a5)] I L R
      obtain ⟨v8, qv8, h⟩ := bnd_some h
      refine V_ri C0 (rf_lt qa5) (rf_kd qa5) qv8 dX9_keptByte_31 ?_
      refine V_goto C0 (tgt := 36) (by decide) dX9_keptByte_32 ?_
      cases h
      exact V_iret C0 dX9_keptByte_36
theorem dX9_dropFirst_0 : decode cX9_dropFirst 0 = .ok (.aload_n 0, 1) := by decide +kernel
theorem dX9_dropFirst_1 : decode cX9_dropFirst 1 = .ok (.aload_n 0, 1) := by decide +kernel
theorem dX9_dropFirst_2 : decode cX9_dropFirst 2 = .ok (.getfield 66, 3) := by decide +kernel
theorem dX9_dropFirst_5 : decode cX9_dropFirst 5 = .ok (.iconst 1, 1) := by decide +kernel
theorem dX9_dropFirst_6 : decode cX9_dropFirst 6 = .ok (.iadd, 1) := by decide +kernel
theorem dX9_dropFirst_7 : decode cX9_dropFirst 7 = .ok (.sipush 2000, 3) := by decide +kernel
theorem dX9_dropFirst_10 : decode cX9_dropFirst 10 = .ok (.invokestatic 95, 3) := by decide +kernel
theorem dX9_dropFirst_13 : decode cX9_dropFirst 13 = .ok (.putfield 66, 3) := by decide +kernel
theorem dX9_dropFirst_16 : decode cX9_dropFirst 16 = .ok (.aload_n 0, 1) := by decide +kernel
theorem dX9_dropFirst_17 : decode cX9_dropFirst 17 = .ok (.getfield 9, 3) := by decide +kernel
theorem dX9_dropFirst_20 : decode cX9_dropFirst 20 = .ok (.bipush 10, 2) := by decide +kernel
theorem dX9_dropFirst_22 : decode cX9_dropFirst 22 = .ok (.dup2, 1) := by decide +kernel
theorem dX9_dropFirst_23 : decode cX9_dropFirst 23 = .ok (.iaload, 1) := by decide +kernel
theorem dX9_dropFirst_24 : decode cX9_dropFirst 24 = .ok (.iconst 1, 1) := by decide +kernel
theorem dX9_dropFirst_25 : decode cX9_dropFirst 25 = .ok (.isub, 1) := by decide +kernel
theorem dX9_dropFirst_26 : decode cX9_dropFirst 26 = .ok (.iastore, 1) := by decide +kernel
theorem dX9_dropFirst_27 : decode cX9_dropFirst 27 = .ok (.return_, 1) := by decide +kernel
def F_X9_dropFirst (x0 : Nat) (I : MI) (L : ML) (R : MR) : Option (MI) :=
  if kd x0 = 8 ∧ x0 < NN then
  bn1 (F_J9_floorMod_7cf53 ((I x0 9) + (1 : Int32)) (2000 : Int32) I L R) fun v1 =>
  wr (uI I x0 9 v1) fun (I3 : MI) =>
  (rf R x0 0 20).bind fun a4 =>
  (ri I3 a4 (10 : Int32)).bind fun v5 =>
  (wi I3 a4 (10 : Int32) (v5 - (1 : Int32))).bind fun I6 =>
  some (I6)
  else none
set_option maxRecDepth 100000 in
set_option maxHeartbeats 4000000 in
theorem c_X9_dropFirst (l : Launch) (D : va_G) (cA : Nat → ClassId) (ad : Nat → Nat) (bs : Nat) (X : State → Prop) (hAd : Ax ad bs) (hX : Stb bs X) (x0 : Nat) (I : MI) (L : ML) (R : MR) (I' : MI) (h : F_X9_dropFirst x0 I L R = some (I')) : Cn l D cA ad bs X yX9_dropFirst cX9_dropFirst 1 none 1 22 [.ref (ad x0)] I L R (none, I', L, R) := by
  refine Cn.ofV hAd hX [(0, .ref (ad x0))] rfl (Nat.le_of_ble_eq_true rfl) (by decide) ?_
  intro G el eD ecA ead ebs eX erm eNL C0
  subst el eD ecA ead ebs eX
  unfold F_X9_dropFirst at h
  obtain ⟨c_x0, h⟩ := ite_some h
  refine V_aload_n C0 0 rfl rfl dX9_dropFirst_0 ?_
  refine V_aload_n C0 0 rfl rfl dX9_dropFirst_1 ?_
  refine V_getI C0 8 9 fl_X9_66 c_x0.2 c_x0.1 rfl dX9_dropFirst_2 ?_
  refine V_iconst C0 (v := (1 : Int32)) (by decide) dX9_dropFirst_5 ?_
  refine V_iadd C0 dX9_dropFirst_6 ?_
  refine V_sipush C0 (v := (2000 : Int32)) (by decide) dX9_dropFirst_7 ?_
  obtain ⟨v1, q2, h⟩ := bn1_some h
  refine V_callS C0 (st := [.ref (G.ad x0)]) (As := [.int ((I x0 9) + (1 : Int32)), .int (2000 : Int32)]) (c_J9_floorMod_7cf53 G.l G.D G.cA G.ad G.bs G.X C0.2.2.2.2.2.2.2.2.2.1 C0.2.2.2.2.2.2.2.2.2.2.2.2 ((I x0 9) + (1 : Int32)) (2000 : Int32) I L R v1 q2) lc_J9_floorMod_7cf53 lk_X9_95 rfl (by rw [erm]; decide) (Nat.le_of_ble_eq_true rfl) dX9_dropFirst_10 ?_
  show V G _ 13 [(0, .ref (G.ad x0))] [.int v1, .ref (G.ad x0)] I L R
  obtain ⟨I3, eI3, h⟩ := wr_some h
  refine V_putI C0 8 9 fp_X9_66 c_x0.2 c_x0.1 rfl dX9_dropFirst_13 ?_
  rw [← eI3]
  refine V_aload_n C0 0 rfl rfl dX9_dropFirst_16 ?_
  obtain ⟨a4, qa4, h⟩ := bnd_some h
  refine V_getR C0 8 0 fl_X9_9 c_x0.2 c_x0.1 rfl (rf_at qa4) dX9_dropFirst_17 ?_
  refine V_bipush C0 (v := (10 : Int32)) (by decide) dX9_dropFirst_20 ?_
  refine V_dup2 C0 rfl rfl dX9_dropFirst_22 ?_
  obtain ⟨v5, qv5, h⟩ := bnd_some h
  refine V_ri C0 (rf_lt qa4) (rf_kd qa4) qv5 dX9_dropFirst_23 ?_
  refine V_iconst C0 (v := (1 : Int32)) (by decide) dX9_dropFirst_24 ?_
  refine V_isub C0 dX9_dropFirst_25 ?_
  obtain ⟨I6, qI6, h⟩ := bnd_some h
  refine V_wi C0 (rf_lt qa4) (rf_kd qa4) qI6 dX9_dropFirst_26 ?_
  cases h
  exact V_vret C0 dX9_dropFirst_27
theorem dX2_sendKept_0 : decode cX2_sendKept 0 = .ok (.iconst 0, 1) := by decide +kernel
theorem dX2_sendKept_1 : decode cX2_sendKept 1 = .ok (.istore_n 2, 1) := by decide +kernel
theorem dX2_sendKept_2 : decode cX2_sendKept 2 = .ok (.iconst 0, 1) := by decide +kernel
theorem dX2_sendKept_3 : decode cX2_sendKept 3 = .ok (.istore_n 3, 1) := by decide +kernel
theorem dX2_sendKept_4 : decode cX2_sendKept 4 = .ok (.iload_n 3, 1) := by decide +kernel
theorem dX2_sendKept_5 : decode cX2_sendKept 5 = .ok (.aload_n 0, 1) := by decide +kernel
theorem dX2_sendKept_6 : decode cX2_sendKept 6 = .ok (.getfield 15, 3) := by decide +kernel
theorem dX2_sendKept_9 : decode cX2_sendKept 9 = .ok (.invokevirtual 235, 3) := by decide +kernel
theorem dX2_sendKept_12 : decode cX2_sendKept 12 = .ok (.if_icmp .ge 68, 3) := by decide +kernel
theorem dX2_sendKept_15 : decode cX2_sendKept 15 = .ok (.aload_n 0, 1) := by decide +kernel
theorem dX2_sendKept_16 : decode cX2_sendKept 16 = .ok (.getfield 15, 3) := by decide +kernel
theorem dX2_sendKept_19 : decode cX2_sendKept 19 = .ok (.iload_n 3, 1) := by decide +kernel
theorem dX2_sendKept_20 : decode cX2_sendKept 20 = .ok (.invokevirtual 199, 3) := by decide +kernel
theorem dX2_sendKept_23 : decode cX2_sendKept 23 = .ok (.astore 4, 2) := by decide +kernel
theorem dX2_sendKept_25 : decode cX2_sendKept 25 = .ok (.aload 4, 2) := by decide +kernel
theorem dX2_sendKept_27 : decode cX2_sendKept 27 = .ok (.iconst 5, 1) := by decide +kernel
theorem dX2_sendKept_28 : decode cX2_sendKept 28 = .ok (.invokevirtual 229, 3) := by decide +kernel
theorem dX2_sendKept_31 : decode cX2_sendKept 31 = .ok (.ifCond .eq 43, 3) := by decide +kernel
theorem dX2_sendKept_34 : decode cX2_sendKept 34 = .ok (.iload_n 2, 1) := by decide +kernel
theorem dX2_sendKept_35 : decode cX2_sendKept 35 = .ok (.iload_n 1, 1) := by decide +kernel
theorem dX2_sendKept_36 : decode cX2_sendKept 36 = .ok (.if_icmp .ge 38, 3) := by decide +kernel
theorem dX2_sendKept_39 : decode cX2_sendKept 39 = .ok (.aload 4, 2) := by decide +kernel
theorem dX2_sendKept_41 : decode cX2_sendKept 41 = .ok (.getfield 205, 3) := by decide +kernel
theorem dX2_sendKept_44 : decode cX2_sendKept 44 = .ok (.bipush 10, 2) := by decide +kernel
theorem dX2_sendKept_46 : decode cX2_sendKept 46 = .ok (.iaload, 1) := by decide +kernel
theorem dX2_sendKept_47 : decode cX2_sendKept 47 = .ok (.ifCond .le 27, 3) := by decide +kernel
theorem dX2_sendKept_50 : decode cX2_sendKept 50 = .ok (.aload_n 0, 1) := by decide +kernel
theorem dX2_sendKept_51 : decode cX2_sendKept 51 = .ok (.getfield 38, 3) := by decide +kernel
theorem dX2_sendKept_54 : decode cX2_sendKept 54 = .ok (.aload 4, 2) := by decide +kernel
theorem dX2_sendKept_56 : decode cX2_sendKept 56 = .ok (.iconst 0, 1) := by decide +kernel
theorem dX2_sendKept_57 : decode cX2_sendKept 57 = .ok (.invokevirtual 283, 3) := by decide +kernel
theorem dX2_sendKept_60 : decode cX2_sendKept 60 = .ok (.invokevirtual 277, 3) := by decide +kernel
theorem dX2_sendKept_63 : decode cX2_sendKept 63 = .ok (.aload 4, 2) := by decide +kernel
theorem dX2_sendKept_65 : decode cX2_sendKept 65 = .ok (.invokevirtual 286, 3) := by decide +kernel
theorem dX2_sendKept_68 : decode cX2_sendKept 68 = .ok (.iinc 2 1, 3) := by decide +kernel
theorem dX2_sendKept_71 : decode cX2_sendKept 71 = .ok (.goto (-37), 3) := by decide +kernel
theorem dX2_sendKept_74 : decode cX2_sendKept 74 = .ok (.iinc 3 1, 3) := by decide +kernel
theorem dX2_sendKept_77 : decode cX2_sendKept 77 = .ok (.goto (-73), 3) := by decide +kernel
theorem dX2_sendKept_80 : decode cX2_sendKept 80 = .ok (.iload_n 2, 1) := by decide +kernel
theorem dX2_sendKept_81 : decode cX2_sendKept 81 = .ok (.ireturn, 1) := by decide +kernel
def LF_X2_sendKept_34 (N : Nat) : Nat → Nat → Int32 → Int32 → Int32 → Nat → MI → ML → MR → Option (Int32 × MI)
  | 0, _, _, _, _, _, _, _, _ => none
  | k + 1, y0, y1, y2, y3, y4, I, L, R =>
    if y1 ≤ y2 then
      some (y2, I)
    else
      (rf R y4 0 20).bind fun a16 =>
      (ri I a16 (10 : Int32)).bind fun v17 =>
      if v17 ≤ 0 then
        some (y2, I)
      else
        (rf R y0 3 1).bind fun a19 =>
        bn1 (F_X9_keptByte y4 (0 : Int32) I L R) fun v20 =>
        bn1 (F_X1_send a19 v20 I L R) fun I22 =>
        bn1 (F_X9_dropFirst y4 I22 L R) fun I24 =>
        wr (y2 + (1 : Int32)) fun (u26 : Int32) =>
        LF_X2_sendKept_34 N k y0 y1 u26 y3 y4 I24 L R
def LF_X2_sendKept_4 (N : Nat) : Nat → Nat → Int32 → Int32 → Int32 → MI → ML → MR → Option (Int32 × MI)
  | 0, _, _, _, _, _, _, _ => none
  | k + 1, y0, y1, y2, y3, I, L, R =>
    (rf R y0 0 9).bind fun a1 =>
    bn1 (F_X10_size a1 I L R) fun v2 =>
    if v2 ≤ y3 then
      some (y2, I)
    else
      bn1 (F_X10_unitAt a1 y3 I L R) fun a5 =>
      if kd a5 = 8 ∧ a5 < NN then
      bn1 (F_X9_isWhole a5 (5 : Int32) I L R) fun b8 =>
      bn2 (
        if (b2i b8) = 0 then
          some (y2, I)
        else
          bn1 (LF_X2_sendKept_34 N N y0 y1 y2 y3 a5 I L R) fun z27 =>
          some (z27.1, z27.2)
      ) fun (u10 : Int32) (I11 : MI) =>
      wr (y3 + (1 : Int32)) fun (u29 : Int32) =>
      LF_X2_sendKept_4 N k y0 y1 u10 u29 I11 L R
      else none
def F_X2_sendKept (N : Nat) (x0 : Nat) (x1 : Int32) (I : MI) (L : ML) (R : MR) : Option (Int32 × MI) :=
  if kd x0 = 2 ∧ x0 < NN then
  bn1 (LF_X2_sendKept_4 N N x0 x1 (0 : Int32) (0 : Int32) I L R) fun z30 =>
  some (z30.1, z30.2)
  else none
set_option maxRecDepth 100000 in
set_option maxHeartbeats 4000000 in
theorem lp_X2_sendKept_34 {G : Gm} (C0 : Cx G (yX2_sendKept.cls) cX2_sendKept (some .int)) (eNL : G.nL = 5) (erm : G.rm = ({ frames := 2, cells := 0, slots := 0, locals := 43 } : Room)) (N : Nat) : ∀ (k : Nat) (y0 : Nat) (y1 : Int32) (y2 : Int32) (y3 : Int32) (y4 : Nat) (I : MI) (L : ML) (R : MR) (z : Int32 × MI) (hk0 : kd y0 = 2) (ho0 : y0 < NN) (hk4 : kd y4 = 8) (ho4 : y4 < NN), LF_X2_sendKept_34 N k y0 y1 y2 y3 y4 I L R = some z → ∀ f : State → Prop, V G f 74 [(0, .ref (G.ad y0)), (1, .int y1), (2, .int z.1), (3, .int y3)] [] z.2 L R → V G f 34 [(0, .ref (G.ad y0)), (1, .int y1), (2, .int y2), (3, .int y3), (4, .ref (G.ad y4))] [] I L R := by
  intro k
  induction k with
  | zero =>
    intro y0 y1 y2 y3 y4 I L R q hk0 ho0 hk4 ho4 h
    exact absurd h (by simp [LF_X2_sendKept_34])
  | succ k ih =>
    intro y0 y1 y2 y3 y4 I L R q hk0 ho0 hk4 ho4 h f kx
    rw [LF_X2_sendKept_34] at h
    refine V_iload_n C0 2 rfl rfl dX2_sendKept_34 ?_
    refine V_iload_n C0 1 rfl rfl dX2_sendKept_35 ?_
    refine V_icmp_ge C0 (tgt := 74) (by decide) dX2_sendKept_36 (fun c15 => ?_) (fun c15 => ?_)
    · have h := (if_pos c15).symm.trans h
      cases h
      exact V_sub [0, 1, 2, 3] rfl kx
    · have h := (if_neg c15).symm.trans h
      refine V_aload C0 4 rfl dX2_sendKept_39 ?_
      obtain ⟨a16, qa16, h⟩ := bnd_some h
      refine V_getR C0 8 0 fl_X2_205 ho4 hk4 rfl (rf_at qa16) dX2_sendKept_41 ?_
      refine V_bipush C0 (v := (10 : Int32)) (by decide) dX2_sendKept_44 ?_
      obtain ⟨v17, qv17, h⟩ := bnd_some h
      refine V_ri C0 (rf_lt qa16) (rf_kd qa16) qv17 dX2_sendKept_46 ?_
      refine V_if_le C0 (tgt := 74) (by decide) dX2_sendKept_47 (fun c18 => ?_) (fun c18 => ?_)
      · have h := (if_pos c18).symm.trans h
        cases h
        exact V_sub [0, 1, 2, 3] rfl kx
      · have h := (if_neg c18).symm.trans h
        refine V_aload_n C0 0 rfl rfl dX2_sendKept_50 ?_
        obtain ⟨a19, qa19, h⟩ := bnd_some h
        refine V_getR C0 2 3 fl_X2_38 ho0 hk0 rfl (rf_at qa19) dX2_sendKept_51 ?_
        refine V_aload C0 4 rfl dX2_sendKept_54 ?_
        refine V_iconst C0 (v := (0 : Int32)) (by decide) dX2_sendKept_56 ?_
        obtain ⟨v20, q21, h⟩ := bn1_some h
        refine V_callV C0 (st := [.ref (G.ad a19)]) (As := [.int (0 : Int32)]) 8 (c_X9_keptByte G.l G.D G.cA G.ad G.bs G.X C0.2.2.2.2.2.2.2.2.2.1 C0.2.2.2.2.2.2.2.2.2.2.2.2 y4 (0 : Int32) I L R v20 q21) lc_X9_keptByte lk_X2_283 ho4 hk4 ⟨_, rfl, rfl⟩ rfl (by rw [erm]; decide) (Nat.le_of_ble_eq_true rfl) dX2_sendKept_57 ?_
        show V G _ 60 [(0, .ref (G.ad y0)), (1, .int y1), (2, .int y2), (3, .int y3), (4, .ref (G.ad y4))] [.int v20, .ref (G.ad a19)] I L R
        obtain ⟨I22, q23, h⟩ := bn1_some h
        refine V_callV C0 (st := []) (As := [.int v20]) 1 (c_X1_send G.l G.D G.cA G.ad G.bs G.X C0.2.2.2.2.2.2.2.2.2.1 C0.2.2.2.2.2.2.2.2.2.2.2.2 a19 v20 I L R I22 q23) lc_X1_send lk_X2_277 (rf_lt qa19) (rf_kd qa19) ⟨_, rfl, rfl⟩ rfl (by rw [erm]; decide) (Nat.le_of_ble_eq_true rfl) dX2_sendKept_60 ?_
        show V G _ 63 [(0, .ref (G.ad y0)), (1, .int y1), (2, .int y2), (3, .int y3), (4, .ref (G.ad y4))] [] I22 L R
        refine V_aload C0 4 rfl dX2_sendKept_63 ?_
        obtain ⟨I24, q25, h⟩ := bn1_some h
        refine V_callV C0 (st := []) (As := []) 8 (c_X9_dropFirst G.l G.D G.cA G.ad G.bs G.X C0.2.2.2.2.2.2.2.2.2.1 C0.2.2.2.2.2.2.2.2.2.2.2.2 y4 I22 L R I24 q25) lc_X9_dropFirst lk_X2_286 ho4 hk4 ⟨_, rfl, rfl⟩ rfl (by rw [erm]; decide) (Nat.le_of_ble_eq_true rfl) dX2_sendKept_65 ?_
        show V G _ 68 [(0, .ref (G.ad y0)), (1, .int y1), (2, .int y2), (3, .int y3), (4, .ref (G.ad y4))] [] I24 L R
        obtain ⟨u26, eu26, h⟩ := wr_some h
        refine V_iinc C0 2 [(2, .int u26), (0, .ref (G.ad y0)), (1, .int y1), (3, .int y3), (4, .ref (G.ad y4))] rfl (n := 1) (by rw [eu26]; rfl) (by rw [eNL]; decide) rfl dX2_sendKept_68 ?_
        refine V_goto C0 (tgt := 34) (by decide) dX2_sendKept_71 ?_
        exact V_sub [1, 2, 0, 3, 4] rfl (ih y0 y1 u26 y3 y4 I24 L R _ hk0 ho0 hk4 ho4 h f kx)
set_option maxRecDepth 100000 in
set_option maxHeartbeats 4000000 in
theorem lp_X2_sendKept_4 {G : Gm} (C0 : Cx G (yX2_sendKept.cls) cX2_sendKept (some .int)) (eNL : G.nL = 5) (erm : G.rm = ({ frames := 2, cells := 0, slots := 0, locals := 43 } : Room)) (N : Nat) : ∀ (k : Nat) (y0 : Nat) (y1 : Int32) (y2 : Int32) (y3 : Int32) (I : MI) (L : ML) (R : MR) (z : Int32 × MI) (hk0 : kd y0 = 2) (ho0 : y0 < NN), LF_X2_sendKept_4 N k y0 y1 y2 y3 I L R = some z → ∀ f : State → Prop, V G f 80 [(2, .int z.1)] [] z.2 L R → V G f 4 [(0, .ref (G.ad y0)), (1, .int y1), (2, .int y2), (3, .int y3)] [] I L R := by
  intro k
  induction k with
  | zero =>
    intro y0 y1 y2 y3 I L R q hk0 ho0 h
    exact absurd h (by simp [LF_X2_sendKept_4])
  | succ k ih =>
    intro y0 y1 y2 y3 I L R q hk0 ho0 h f kx
    rw [LF_X2_sendKept_4] at h
    refine V_iload_n C0 3 rfl rfl dX2_sendKept_4 ?_
    refine V_aload_n C0 0 rfl rfl dX2_sendKept_5 ?_
    obtain ⟨a1, qa1, h⟩ := bnd_some h
    refine V_getR C0 2 0 fl_X2_15 ho0 hk0 rfl (rf_at qa1) dX2_sendKept_6 ?_
    obtain ⟨v2, q3, h⟩ := bn1_some h
    refine V_callV C0 (st := [.int y3]) (As := []) 9 (c_X10_size G.l G.D G.cA G.ad G.bs G.X C0.2.2.2.2.2.2.2.2.2.1 C0.2.2.2.2.2.2.2.2.2.2.2.2 a1 I L R v2 q3) lc_X10_size lk_X2_235 (rf_lt qa1) (rf_kd qa1) ⟨_, rfl, rfl⟩ rfl (by rw [erm]; decide) (Nat.le_of_ble_eq_true rfl) dX2_sendKept_9 ?_
    show V G _ 12 [(0, .ref (G.ad y0)), (1, .int y1), (2, .int y2), (3, .int y3)] [.int v2, .int y3] I L R
    refine V_icmp_ge C0 (tgt := 80) (by decide) dX2_sendKept_12 (fun c4 => ?_) (fun c4 => ?_)
    · have h := (if_pos c4).symm.trans h
      cases h
      exact V_sub [2] rfl kx
    · have h := (if_neg c4).symm.trans h
      refine V_aload_n C0 0 rfl rfl dX2_sendKept_15 ?_
      refine V_getR C0 2 0 fl_X2_15 ho0 hk0 rfl (rf_at qa1) dX2_sendKept_16 ?_
      refine V_iload_n C0 3 rfl rfl dX2_sendKept_19 ?_
      obtain ⟨a5, q6, h⟩ := bn1_some h
      refine V_callV C0 (st := []) (As := [.int y3]) 9 (c_X10_unitAt G.l G.D G.cA G.ad G.bs G.X C0.2.2.2.2.2.2.2.2.2.1 C0.2.2.2.2.2.2.2.2.2.2.2.2 a1 y3 I L R a5 q6) lc_X10_unitAt lk_X2_199 (rf_lt qa1) (rf_kd qa1) ⟨_, rfl, rfl⟩ rfl (by rw [erm]; decide) (Nat.le_of_ble_eq_true rfl) dX2_sendKept_20 ?_
      show V G _ 23 [(0, .ref (G.ad y0)), (1, .int y1), (2, .int y2), (3, .int y3)] [.ref (G.ad a5)] I L R
      obtain ⟨c7, h⟩ := ite_some h
      refine V_astore C0 [(4, .ref (G.ad a5)), (0, .ref (G.ad y0)), (1, .int y1), (2, .int y2), (3, .int y3)] (by rw [eNL]; decide) rfl dX2_sendKept_23 ?_
      refine V_aload C0 0 rfl dX2_sendKept_25 ?_
      refine V_iconst C0 (v := (5 : Int32)) (by decide) dX2_sendKept_27 ?_
      obtain ⟨b8, q9, h⟩ := bn1_some h
      refine V_callV C0 (st := []) (As := [.int (5 : Int32)]) 8 (c_X9_isWhole G.l G.D G.cA G.ad G.bs G.X C0.2.2.2.2.2.2.2.2.2.1 C0.2.2.2.2.2.2.2.2.2.2.2.2 a5 (5 : Int32) I L R b8 q9) lc_X9_isWhole lk_X2_229 c7.2 c7.1 ⟨_, rfl, rfl⟩ rfl (by rw [erm]; decide) (Nat.le_of_ble_eq_true rfl) dX2_sendKept_28 ?_
      show V G _ 31 [(4, .ref (G.ad a5)), (0, .ref (G.ad y0)), (1, .int y1), (2, .int y2), (3, .int y3)] [.int (b2i b8)] I L R
      obtain ⟨u10, I11, q12, h⟩ := bn2_some h
      have k13 : V G f 74 [(0, .ref (G.ad y0)), (1, .int y1), (2, .int u10), (3, .int y3)] [] I11 L R := by
        obtain ⟨u29, eu29, h⟩ := wr_some h
        refine V_iinc C0 3 [(3, .int u29), (0, .ref (G.ad y0)), (1, .int y1), (2, .int u10)] rfl (n := 1) (by rw [eu29]; rfl) (by rw [eNL]; decide) rfl dX2_sendKept_74 ?_
        refine V_goto C0 (tgt := 4) (by decide) dX2_sendKept_77 ?_
        exact V_sub [1, 2, 3, 0] rfl (ih y0 y1 u10 u29 I11 L R _ hk0 ho0 h f kx)
      refine V_if_eq C0 (tgt := 74) (by decide) dX2_sendKept_31 (fun c14 => ?_) (fun c14 => ?_)
      · have q12 := (if_pos c14).symm.trans q12
        cases q12
        exact V_sub [1, 2, 3, 4] rfl k13
      · have q12 := (if_neg c14).symm.trans q12
        obtain ⟨z27, q28, q12⟩ := bn1_some q12
        refine V_sub [1, 2, 3, 4, 0] rfl (lp_X2_sendKept_34 C0 eNL erm N N y0 y1 y2 y3 a5 I L R _ hk0 ho0 c7.1 c7.2 q28 _ ?_)
        show V G _ 74 [(0, .ref (G.ad y0)), (1, .int y1), (2, .int z27.1), (3, .int y3)] [] z27.2 L R
        cases q12
        exact V_sub [0, 1, 2, 3] rfl k13
set_option maxRecDepth 100000 in
set_option maxHeartbeats 4000000 in
theorem c_X2_sendKept (l : Launch) (D : va_G) (cA : Nat → ClassId) (ad : Nat → Nat) (bs : Nat) (X : State → Prop) (hAd : Ax ad bs) (hX : Stb bs X) (N : Nat) (x0 : Nat) (x1 : Int32) (I : MI) (L : ML) (R : MR) (r : Int32) (I' : MI) (h : F_X2_sendKept N x0 x1 I L R = some (r, I')) : Cn l D cA ad bs X yX2_sendKept cX2_sendKept 5 (some .int) 2 43 [.ref (ad x0), .int x1] I L R (some (.int r), I', L, R) := by
  refine Cn.ofV hAd hX [(0, .ref (ad x0)), (1, .int x1)] rfl (Nat.le_of_ble_eq_true rfl) (by decide) ?_
  intro G el eD ecA ead ebs eX erm eNL C0
  subst el eD ecA ead ebs eX
  unfold F_X2_sendKept at h
  obtain ⟨c_x0, h⟩ := ite_some h
  refine V_iconst C0 (v := (0 : Int32)) (by decide) dX2_sendKept_0 ?_
  refine V_istore_n C0 [(2, .int (0 : Int32)), (0, .ref (G.ad x0)), (1, .int x1)] rfl (by rw [eNL]; decide) rfl dX2_sendKept_1 ?_
  refine V_iconst C0 (v := (0 : Int32)) (by decide) dX2_sendKept_2 ?_
  refine V_istore_n C0 [(3, .int (0 : Int32)), (2, .int (0 : Int32)), (0, .ref (G.ad x0)), (1, .int x1)] rfl (by rw [eNL]; decide) rfl dX2_sendKept_3 ?_
  obtain ⟨z30, q31, h⟩ := bn1_some h
  refine V_sub [2, 3, 1, 0] rfl (lp_X2_sendKept_4 C0 eNL erm N N x0 x1 (0 : Int32) (0 : Int32) I L R _ c_x0.1 c_x0.2 q31 _ ?_)
  show V G _ 80 [(2, .int z30.1)] [] z30.2 L R
  refine V_iload_n C0 0 rfl rfl dX2_sendKept_80 ?_
  cases h
  exact V_iret C0 dX2_sendKept_81
theorem dX2_sendAll_0 : decode cX2_sendAll 0 = .ok (.iload_n 1, 1) := by decide +kernel
theorem dX2_sendAll_1 : decode cX2_sendAll 1 = .ok (.sipush 600, 3) := by decide +kernel
theorem dX2_sendAll_4 : decode cX2_sendAll 4 = .ok (.invokestatic 92, 3) := by decide +kernel
theorem dX2_sendAll_7 : decode cX2_sendAll 7 = .ok (.bipush 100, 2) := by decide +kernel
theorem dX2_sendAll_9 : decode cX2_sendAll 9 = .ok (.sipush 219, 3) := by decide +kernel
theorem dX2_sendAll_12 : decode cX2_sendAll 12 = .ok (.invokestatic 274, 3) := by decide +kernel
theorem dX2_sendAll_15 : decode cX2_sendAll 15 = .ok (.istore_n 2, 1) := by decide +kernel
theorem dX2_sendAll_16 : decode cX2_sendAll 16 = .ok (.iconst 0, 1) := by decide +kernel
theorem dX2_sendAll_17 : decode cX2_sendAll 17 = .ok (.istore_n 3, 1) := by decide +kernel
theorem dX2_sendAll_18 : decode cX2_sendAll 18 = .ok (.iload_n 3, 1) := by decide +kernel
theorem dX2_sendAll_19 : decode cX2_sendAll 19 = .ok (.aload_n 0, 1) := by decide +kernel
theorem dX2_sendAll_20 : decode cX2_sendAll 20 = .ok (.getfield 15, 3) := by decide +kernel
theorem dX2_sendAll_23 : decode cX2_sendAll 23 = .ok (.invokevirtual 235, 3) := by decide +kernel
theorem dX2_sendAll_26 : decode cX2_sendAll 26 = .ok (.if_icmp .ge 107, 3) := by decide +kernel
theorem dX2_sendAll_29 : decode cX2_sendAll 29 = .ok (.aload_n 0, 1) := by decide +kernel
theorem dX2_sendAll_30 : decode cX2_sendAll 30 = .ok (.getfield 15, 3) := by decide +kernel
theorem dX2_sendAll_33 : decode cX2_sendAll 33 = .ok (.iload_n 3, 1) := by decide +kernel
theorem dX2_sendAll_34 : decode cX2_sendAll 34 = .ok (.invokevirtual 199, 3) := by decide +kernel
theorem dX2_sendAll_37 : decode cX2_sendAll 37 = .ok (.astore 4, 2) := by decide +kernel
theorem dX2_sendAll_39 : decode cX2_sendAll 39 = .ok (.aload 4, 2) := by decide +kernel
theorem dX2_sendAll_41 : decode cX2_sendAll 41 = .ok (.bipush 20, 2) := by decide +kernel
theorem dX2_sendAll_43 : decode cX2_sendAll 43 = .ok (.invokevirtual 236, 3) := by decide +kernel
theorem dX2_sendAll_46 : decode cX2_sendAll 46 = .ok (.ifCond .eq 81, 3) := by decide +kernel
theorem dX2_sendAll_49 : decode cX2_sendAll 49 = .ok (.aload 4, 2) := by decide +kernel
theorem dX2_sendAll_51 : decode cX2_sendAll 51 = .ok (.bipush 21, 2) := by decide +kernel
theorem dX2_sendAll_53 : decode cX2_sendAll 53 = .ok (.invokevirtual 232, 3) := by decide +kernel
theorem dX2_sendAll_56 : decode cX2_sendAll 56 = .ok (.ifCond .eq 44, 3) := by decide +kernel
theorem dX2_sendAll_59 : decode cX2_sendAll 59 = .ok (.iload_n 1, 1) := by decide +kernel
theorem dX2_sendAll_60 : decode cX2_sendAll 60 = .ok (.aload 4, 2) := by decide +kernel
theorem dX2_sendAll_62 : decode cX2_sendAll 62 = .ok (.getfield 205, 3) := by decide +kernel
theorem dX2_sendAll_65 : decode cX2_sendAll 65 = .ok (.bipush 31, 2) := by decide +kernel
theorem dX2_sendAll_67 : decode cX2_sendAll 67 = .ok (.iaload, 1) := by decide +kernel
theorem dX2_sendAll_68 : decode cX2_sendAll 68 = .ok (.invokestatic 112, 3) := by decide +kernel
theorem dX2_sendAll_71 : decode cX2_sendAll 71 = .ok (.ifCond .eq 29, 3) := by decide +kernel
theorem dX2_sendAll_74 : decode cX2_sendAll 74 = .ok (.aload_n 0, 1) := by decide +kernel
theorem dX2_sendAll_75 : decode cX2_sendAll 75 = .ok (.getfield 38, 3) := by decide +kernel
theorem dX2_sendAll_78 : decode cX2_sendAll 78 = .ok (.bipush 48, 2) := by decide +kernel
theorem dX2_sendAll_80 : decode cX2_sendAll 80 = .ok (.aload_n 0, 1) := by decide +kernel
theorem dX2_sendAll_81 : decode cX2_sendAll 81 = .ok (.getfield 61, 3) := by decide +kernel
theorem dX2_sendAll_84 : decode cX2_sendAll 84 = .ok (.iadd, 1) := by decide +kernel
theorem dX2_sendAll_85 : decode cX2_sendAll 85 = .ok (.invokevirtual 277, 3) := by decide +kernel
theorem dX2_sendAll_88 : decode cX2_sendAll 88 = .ok (.aload 4, 2) := by decide +kernel
theorem dX2_sendAll_90 : decode cX2_sendAll 90 = .ok (.getfield 205, 3) := by decide +kernel
theorem dX2_sendAll_93 : decode cX2_sendAll 93 = .ok (.bipush 51, 2) := by decide +kernel
theorem dX2_sendAll_95 : decode cX2_sendAll 95 = .ok (.dup2, 1) := by decide +kernel
theorem dX2_sendAll_96 : decode cX2_sendAll 96 = .ok (.iaload, 1) := by decide +kernel
theorem dX2_sendAll_97 : decode cX2_sendAll 97 = .ok (.iconst 1, 1) := by decide +kernel
theorem dX2_sendAll_98 : decode cX2_sendAll 98 = .ok (.iadd, 1) := by decide +kernel
theorem dX2_sendAll_99 : decode cX2_sendAll 99 = .ok (.iastore, 1) := by decide +kernel
theorem dX2_sendAll_100 : decode cX2_sendAll 100 = .ok (.iload_n 2, 1) := by decide +kernel
theorem dX2_sendAll_101 : decode cX2_sendAll 101 = .ok (.ifCond .eq 26, 3) := by decide +kernel
theorem dX2_sendAll_104 : decode cX2_sendAll 104 = .ok (.aload 4, 2) := by decide +kernel
theorem dX2_sendAll_106 : decode cX2_sendAll 106 = .ok (.getfield 205, 3) := by decide +kernel
theorem dX2_sendAll_109 : decode cX2_sendAll 109 = .ok (.bipush 51, 2) := by decide +kernel
theorem dX2_sendAll_111 : decode cX2_sendAll 111 = .ok (.dup2, 1) := by decide +kernel
theorem dX2_sendAll_112 : decode cX2_sendAll 112 = .ok (.iaload, 1) := by decide +kernel
theorem dX2_sendAll_113 : decode cX2_sendAll 113 = .ok (.aload_n 0, 1) := by decide +kernel
theorem dX2_sendAll_114 : decode cX2_sendAll 114 = .ok (.aload 4, 2) := by decide +kernel
theorem dX2_sendAll_116 : decode cX2_sendAll 116 = .ok (.getfield 205, 3) := by decide +kernel
theorem dX2_sendAll_119 : decode cX2_sendAll 119 = .ok (.bipush 50, 2) := by decide +kernel
theorem dX2_sendAll_121 : decode cX2_sendAll 121 = .ok (.iaload, 1) := by decide +kernel
theorem dX2_sendAll_122 : decode cX2_sendAll 122 = .ok (.invokevirtual 280, 3) := by decide +kernel
theorem dX2_sendAll_125 : decode cX2_sendAll 125 = .ok (.iadd, 1) := by decide +kernel
theorem dX2_sendAll_126 : decode cX2_sendAll 126 = .ok (.iastore, 1) := by decide +kernel
theorem dX2_sendAll_127 : decode cX2_sendAll 127 = .ok (.iinc 3 1, 3) := by decide +kernel
theorem dX2_sendAll_130 : decode cX2_sendAll 130 = .ok (.goto (-112), 3) := by decide +kernel
theorem dX2_sendAll_133 : decode cX2_sendAll 133 = .ok (.return_, 1) := by decide +kernel
def LF_X2_sendAll_18 (N : Nat) : Nat → Nat → Int32 → Int32 → Int32 → MI → ML → MR → Option (MI)
  | 0, _, _, _, _, _, _, _ => none
  | k + 1, y0, y1, y2, y3, I, L, R =>
    (rf R y0 0 9).bind fun a6 =>
    bn1 (F_X10_size a6 I L R) fun v7 =>
    if v7 ≤ y3 then
      some (I)
    else
      bn1 (F_X10_unitAt a6 y3 I L R) fun a10 =>
      if kd a10 = 8 ∧ a10 < NN then
      bn1 (F_X9_isOn a10 (20 : Int32) I L R) fun b13 =>
      bn1 (
        if (b2i b13) = 0 then
          some (I)
        else
          bn1 (F_X9_is a10 (21 : Int32) I L R) fun b19 =>
          bn1 (
            if (b2i b19) = 0 then
              some (I)
            else
              (rf R a10 0 20).bind fun a25 =>
              (ri I a25 (31 : Int32)).bind fun v26 =>
              bn1 (F_X11_isMultiple y1 v26 I L R) fun b27 =>
              bn1 (
                if (b2i b27) = 0 then
                  some (I)
                else
                  (rf R y0 3 1).bind fun a33 =>
                  bn1 (F_X1_send a33 ((48 : Int32) + (I y0 7)) I L R) fun I34 =>
                  (ri I34 a25 (51 : Int32)).bind fun v36 =>
                  (wi I34 a25 (51 : Int32) (v36 + (1 : Int32))).bind fun I37 =>
                  some (I37)
              ) fun (I29 : MI) =>
              some (I29)
          ) fun (I21 : MI) =>
          bn1 (
            if y2 = 0 then
              some (I21)
            else
              (rf R a10 0 20).bind fun a42 =>
              (ri I21 a42 (51 : Int32)).bind fun v43 =>
              (ri I21 a42 (50 : Int32)).bind fun v44 =>
              bn2 (F_X2_sendKept N y0 v44 I21 L R) fun v45 I46 =>
              (wi I46 a42 (51 : Int32) (v43 + v45)).bind fun I48 =>
              some (I48)
          ) fun (I38 : MI) =>
          some (I38)
      ) fun (I15 : MI) =>
      wr (y3 + (1 : Int32)) fun (u49 : Int32) =>
      LF_X2_sendAll_18 N k y0 y1 y2 u49 I15 L R
      else none
def F_X2_sendAll (N : Nat) (x0 : Nat) (x1 : Int32) (I : MI) (L : ML) (R : MR) : Option (MI) :=
  if kd x0 = 2 ∧ x0 < NN then
  bn1 (F_J9_floorMod_7cf53 x1 (600 : Int32) I L R) fun v1 =>
  bn1 (F_X11_within v1 (100 : Int32) (219 : Int32) I L R) fun b3 =>
  wr (b2i b3) fun (u5 : Int32) =>
  bn1 (LF_X2_sendAll_18 N N x0 x1 u5 (0 : Int32) I L R) fun z50 =>
  some (z50)
  else none
set_option maxRecDepth 100000 in
set_option maxHeartbeats 4000000 in
theorem lp_X2_sendAll_18 {G : Gm} (C0 : Cx G (yX2_sendAll.cls) cX2_sendAll none) (eNL : G.nL = 5) (erm : G.rm = ({ frames := 3, cells := 0, slots := 0, locals := 67 } : Room)) (N : Nat) : ∀ (k : Nat) (y0 : Nat) (y1 : Int32) (y2 : Int32) (y3 : Int32) (I : MI) (L : ML) (R : MR) (z : MI) (hk0 : kd y0 = 2) (ho0 : y0 < NN), LF_X2_sendAll_18 N k y0 y1 y2 y3 I L R = some z → ∀ f : State → Prop, V G f 133 [] [] z L R → V G f 18 [(0, .ref (G.ad y0)), (1, .int y1), (2, .int y2), (3, .int y3)] [] I L R := by
  intro k
  induction k with
  | zero =>
    intro y0 y1 y2 y3 I L R q hk0 ho0 h
    exact absurd h (by simp [LF_X2_sendAll_18])
  | succ k ih =>
    intro y0 y1 y2 y3 I L R q hk0 ho0 h f kx
    rw [LF_X2_sendAll_18] at h
    refine V_iload_n C0 3 rfl rfl dX2_sendAll_18 ?_
    refine V_aload_n C0 0 rfl rfl dX2_sendAll_19 ?_
    obtain ⟨a6, qa6, h⟩ := bnd_some h
    refine V_getR C0 2 0 fl_X2_15 ho0 hk0 rfl (rf_at qa6) dX2_sendAll_20 ?_
    obtain ⟨v7, q8, h⟩ := bn1_some h
    refine V_callV C0 (st := [.int y3]) (As := []) 9 (c_X10_size G.l G.D G.cA G.ad G.bs G.X C0.2.2.2.2.2.2.2.2.2.1 C0.2.2.2.2.2.2.2.2.2.2.2.2 a6 I L R v7 q8) lc_X10_size lk_X2_235 (rf_lt qa6) (rf_kd qa6) ⟨_, rfl, rfl⟩ rfl (by rw [erm]; decide) (Nat.le_of_ble_eq_true rfl) dX2_sendAll_23 ?_
    show V G _ 26 [(0, .ref (G.ad y0)), (1, .int y1), (2, .int y2), (3, .int y3)] [.int v7, .int y3] I L R
    refine V_icmp_ge C0 (tgt := 133) (by decide) dX2_sendAll_26 (fun c9 => ?_) (fun c9 => ?_)
    · have h := (if_pos c9).symm.trans h
      cases h
      exact V_sub [] rfl kx
    · have h := (if_neg c9).symm.trans h
      refine V_aload_n C0 0 rfl rfl dX2_sendAll_29 ?_
      refine V_getR C0 2 0 fl_X2_15 ho0 hk0 rfl (rf_at qa6) dX2_sendAll_30 ?_
      refine V_iload_n C0 3 rfl rfl dX2_sendAll_33 ?_
      obtain ⟨a10, q11, h⟩ := bn1_some h
      refine V_callV C0 (st := []) (As := [.int y3]) 9 (c_X10_unitAt G.l G.D G.cA G.ad G.bs G.X C0.2.2.2.2.2.2.2.2.2.1 C0.2.2.2.2.2.2.2.2.2.2.2.2 a6 y3 I L R a10 q11) lc_X10_unitAt lk_X2_199 (rf_lt qa6) (rf_kd qa6) ⟨_, rfl, rfl⟩ rfl (by rw [erm]; decide) (Nat.le_of_ble_eq_true rfl) dX2_sendAll_34 ?_
      show V G _ 37 [(0, .ref (G.ad y0)), (1, .int y1), (2, .int y2), (3, .int y3)] [.ref (G.ad a10)] I L R
      obtain ⟨c12, h⟩ := ite_some h
      refine V_astore C0 [(4, .ref (G.ad a10)), (0, .ref (G.ad y0)), (1, .int y1), (2, .int y2), (3, .int y3)] (by rw [eNL]; decide) rfl dX2_sendAll_37 ?_
      refine V_aload C0 0 rfl dX2_sendAll_39 ?_
      refine V_bipush C0 (v := (20 : Int32)) (by decide) dX2_sendAll_41 ?_
      obtain ⟨b13, q14, h⟩ := bn1_some h
      refine V_callV C0 (st := []) (As := [.int (20 : Int32)]) 8 (c_X9_isOn G.l G.D G.cA G.ad G.bs G.X C0.2.2.2.2.2.2.2.2.2.1 C0.2.2.2.2.2.2.2.2.2.2.2.2 a10 (20 : Int32) I L R b13 q14) lc_X9_isOn lk_X2_236 c12.2 c12.1 ⟨_, rfl, rfl⟩ rfl (by rw [erm]; decide) (Nat.le_of_ble_eq_true rfl) dX2_sendAll_43 ?_
      show V G _ 46 [(4, .ref (G.ad a10)), (0, .ref (G.ad y0)), (1, .int y1), (2, .int y2), (3, .int y3)] [.int (b2i b13)] I L R
      obtain ⟨I15, q16, h⟩ := bn1_some h
      have k17 : V G f 127 [(0, .ref (G.ad y0)), (1, .int y1), (2, .int y2), (3, .int y3)] [] I15 L R := by
        obtain ⟨u49, eu49, h⟩ := wr_some h
        refine V_iinc C0 3 [(3, .int u49), (0, .ref (G.ad y0)), (1, .int y1), (2, .int y2)] rfl (n := 1) (by rw [eu49]; rfl) (by rw [eNL]; decide) rfl dX2_sendAll_127 ?_
        refine V_goto C0 (tgt := 18) (by decide) dX2_sendAll_130 ?_
        exact V_sub [1, 2, 3, 0] rfl (ih y0 y1 y2 u49 I15 L R _ hk0 ho0 h f kx)
      refine V_if_eq C0 (tgt := 127) (by decide) dX2_sendAll_46 (fun c18 => ?_) (fun c18 => ?_)
      · have q16 := (if_pos c18).symm.trans q16
        cases q16
        exact V_sub [1, 2, 3, 4] rfl k17
      · have q16 := (if_neg c18).symm.trans q16
        refine V_aload C0 0 rfl dX2_sendAll_49 ?_
        refine V_bipush C0 (v := (21 : Int32)) (by decide) dX2_sendAll_51 ?_
        obtain ⟨b19, q20, q16⟩ := bn1_some q16
        refine V_callV C0 (st := []) (As := [.int (21 : Int32)]) 8 (c_X9_is G.l G.D G.cA G.ad G.bs G.X C0.2.2.2.2.2.2.2.2.2.1 C0.2.2.2.2.2.2.2.2.2.2.2.2 a10 (21 : Int32) I L R b19 q20) lc_X9_is lk_X2_232 c12.2 c12.1 ⟨_, rfl, rfl⟩ rfl (by rw [erm]; decide) (Nat.le_of_ble_eq_true rfl) dX2_sendAll_53 ?_
        show V G _ 56 [(4, .ref (G.ad a10)), (0, .ref (G.ad y0)), (1, .int y1), (2, .int y2), (3, .int y3)] [.int (b2i b19)] I L R
        obtain ⟨I21, q22, q16⟩ := bn1_some q16
        have k23 : V G f 100 [(0, .ref (G.ad y0)), (1, .int y1), (2, .int y2), (3, .int y3), (4, .ref (G.ad a10))] [] I21 L R := by
          refine V_iload_n C0 2 rfl rfl dX2_sendAll_100 ?_
          obtain ⟨I38, q39, q16⟩ := bn1_some q16
          have k40 : V G f 127 [(0, .ref (G.ad y0)), (1, .int y1), (2, .int y2), (3, .int y3)] [] I38 L R := by
            cases q16
            exact V_sub [0, 1, 2, 3] rfl k17
          refine V_if_eq C0 (tgt := 127) (by decide) dX2_sendAll_101 (fun c41 => ?_) (fun c41 => ?_)
          · have q39 := (if_pos c41).symm.trans q39
            cases q39
            exact V_sub [0, 1, 2, 3] rfl k40
          · have q39 := (if_neg c41).symm.trans q39
            refine V_aload C0 4 rfl dX2_sendAll_104 ?_
            obtain ⟨a42, qa42, q39⟩ := bnd_some q39
            refine V_getR C0 8 0 fl_X2_205 c12.2 c12.1 rfl (rf_at qa42) dX2_sendAll_106 ?_
            refine V_bipush C0 (v := (51 : Int32)) (by decide) dX2_sendAll_109 ?_
            refine V_dup2 C0 rfl rfl dX2_sendAll_111 ?_
            obtain ⟨v43, qv43, q39⟩ := bnd_some q39
            refine V_ri C0 (rf_lt qa42) (rf_kd qa42) qv43 dX2_sendAll_112 ?_
            refine V_aload_n C0 0 rfl rfl dX2_sendAll_113 ?_
            refine V_aload C0 4 rfl dX2_sendAll_114 ?_
            refine V_getR C0 8 0 fl_X2_205 c12.2 c12.1 rfl (rf_at qa42) dX2_sendAll_116 ?_
            refine V_bipush C0 (v := (50 : Int32)) (by decide) dX2_sendAll_119 ?_
            obtain ⟨v44, qv44, q39⟩ := bnd_some q39
            refine V_ri C0 (rf_lt qa42) (rf_kd qa42) qv44 dX2_sendAll_121 ?_
            obtain ⟨v45, I46, q47, q39⟩ := bn2_some q39
            refine V_callV C0 (st := [.int v43, .int (51 : Int32), .ref (G.ad a42)]) (As := [.int v44]) 2 (c_X2_sendKept G.l G.D G.cA G.ad G.bs G.X C0.2.2.2.2.2.2.2.2.2.1 C0.2.2.2.2.2.2.2.2.2.2.2.2 N y0 v44 I21 L R v45 I46 q47) lc_X2_sendKept lk_X2_280 ho0 hk0 ⟨_, rfl, rfl⟩ rfl (by rw [erm]; decide) (Nat.le_of_ble_eq_true rfl) dX2_sendAll_122 ?_
            show V G _ 125 [(0, .ref (G.ad y0)), (1, .int y1), (2, .int y2), (3, .int y3), (4, .ref (G.ad a10))] [.int v45, .int v43, .int (51 : Int32), .ref (G.ad a42)] I46 L R
            refine V_iadd C0 dX2_sendAll_125 ?_
            obtain ⟨I48, qI48, q39⟩ := bnd_some q39
            refine V_wi C0 (rf_lt qa42) (rf_kd qa42) qI48 dX2_sendAll_126 ?_
            cases q39
            exact V_sub [0, 1, 2, 3] rfl k40
        refine V_if_eq C0 (tgt := 100) (by decide) dX2_sendAll_56 (fun c24 => ?_) (fun c24 => ?_)
        · have q22 := (if_pos c24).symm.trans q22
          cases q22
          exact V_sub [1, 2, 3, 4, 0] rfl k23
        · have q22 := (if_neg c24).symm.trans q22
          refine V_iload_n C0 2 rfl rfl dX2_sendAll_59 ?_
          refine V_aload C0 0 rfl dX2_sendAll_60 ?_
          obtain ⟨a25, qa25, q22⟩ := bnd_some q22
          refine V_getR C0 8 0 fl_X2_205 c12.2 c12.1 rfl (rf_at qa25) dX2_sendAll_62 ?_
          refine V_bipush C0 (v := (31 : Int32)) (by decide) dX2_sendAll_65 ?_
          obtain ⟨v26, qv26, q22⟩ := bnd_some q22
          refine V_ri C0 (rf_lt qa25) (rf_kd qa25) qv26 dX2_sendAll_67 ?_
          obtain ⟨b27, q28, q22⟩ := bn1_some q22
          refine V_callS C0 (st := []) (As := [.int y1, .int v26]) (c_X11_isMultiple G.l G.D G.cA G.ad G.bs G.X C0.2.2.2.2.2.2.2.2.2.1 C0.2.2.2.2.2.2.2.2.2.2.2.2 y1 v26 I L R b27 q28) lc_X11_isMultiple lk_X2_112 rfl (by rw [erm]; decide) (Nat.le_of_ble_eq_true rfl) dX2_sendAll_68 ?_
          show V G _ 71 [(4, .ref (G.ad a10)), (0, .ref (G.ad y0)), (1, .int y1), (2, .int y2), (3, .int y3)] [.int (b2i b27)] I L R
          obtain ⟨I29, q30, q22⟩ := bn1_some q22
          have k31 : V G f 100 [(0, .ref (G.ad y0)), (1, .int y1), (2, .int y2), (3, .int y3), (4, .ref (G.ad a10))] [] I29 L R := by
            cases q22
            exact V_sub [0, 1, 2, 3, 4] rfl k23
          refine V_if_eq C0 (tgt := 100) (by decide) dX2_sendAll_71 (fun c32 => ?_) (fun c32 => ?_)
          · have q30 := (if_pos c32).symm.trans q30
            cases q30
            exact V_sub [1, 2, 3, 4, 0] rfl k31
          · have q30 := (if_neg c32).symm.trans q30
            refine V_aload_n C0 1 rfl rfl dX2_sendAll_74 ?_
            obtain ⟨a33, qa33, q30⟩ := bnd_some q30
            refine V_getR C0 2 3 fl_X2_38 ho0 hk0 rfl (rf_at qa33) dX2_sendAll_75 ?_
            refine V_bipush C0 (v := (48 : Int32)) (by decide) dX2_sendAll_78 ?_
            refine V_aload_n C0 1 rfl rfl dX2_sendAll_80 ?_
            refine V_getI C0 2 7 fl_X2_61 ho0 hk0 rfl dX2_sendAll_81 ?_
            refine V_iadd C0 dX2_sendAll_84 ?_
            obtain ⟨I34, q35, q30⟩ := bn1_some q30
            refine V_callV C0 (st := []) (As := [.int ((48 : Int32) + (I y0 7))]) 1 (c_X1_send G.l G.D G.cA G.ad G.bs G.X C0.2.2.2.2.2.2.2.2.2.1 C0.2.2.2.2.2.2.2.2.2.2.2.2 a33 ((48 : Int32) + (I y0 7)) I L R I34 q35) lc_X1_send lk_X2_277 (rf_lt qa33) (rf_kd qa33) ⟨_, rfl, rfl⟩ rfl (by rw [erm]; decide) (Nat.le_of_ble_eq_true rfl) dX2_sendAll_85 ?_
            show V G _ 88 [(4, .ref (G.ad a10)), (0, .ref (G.ad y0)), (1, .int y1), (2, .int y2), (3, .int y3)] [] I34 L R
            refine V_aload C0 0 rfl dX2_sendAll_88 ?_
            refine V_getR C0 8 0 fl_X2_205 c12.2 c12.1 rfl (rf_at qa25) dX2_sendAll_90 ?_
            refine V_bipush C0 (v := (51 : Int32)) (by decide) dX2_sendAll_93 ?_
            refine V_dup2 C0 rfl rfl dX2_sendAll_95 ?_
            obtain ⟨v36, qv36, q30⟩ := bnd_some q30
            refine V_ri C0 (rf_lt qa25) (rf_kd qa25) qv36 dX2_sendAll_96 ?_
            refine V_iconst C0 (v := (1 : Int32)) (by decide) dX2_sendAll_97 ?_
            refine V_iadd C0 dX2_sendAll_98 ?_
            obtain ⟨I37, qI37, q30⟩ := bnd_some q30
            refine V_wi C0 (rf_lt qa25) (rf_kd qa25) qI37 dX2_sendAll_99 ?_
            cases q30
            exact V_sub [1, 2, 3, 4, 0] rfl k31
set_option maxRecDepth 100000 in
set_option maxHeartbeats 4000000 in
theorem c_X2_sendAll (l : Launch) (D : va_G) (cA : Nat → ClassId) (ad : Nat → Nat) (bs : Nat) (X : State → Prop) (hAd : Ax ad bs) (hX : Stb bs X) (N : Nat) (x0 : Nat) (x1 : Int32) (I : MI) (L : ML) (R : MR) (I' : MI) (h : F_X2_sendAll N x0 x1 I L R = some (I')) : Cn l D cA ad bs X yX2_sendAll cX2_sendAll 5 none 3 67 [.ref (ad x0), .int x1] I L R (none, I', L, R) := by
  refine Cn.ofV hAd hX [(0, .ref (ad x0)), (1, .int x1)] rfl (Nat.le_of_ble_eq_true rfl) (by decide) ?_
  intro G el eD ecA ead ebs eX erm eNL C0
  subst el eD ecA ead ebs eX
  unfold F_X2_sendAll at h
  obtain ⟨c_x0, h⟩ := ite_some h
  refine V_iload_n C0 1 rfl rfl dX2_sendAll_0 ?_
  refine V_sipush C0 (v := (600 : Int32)) (by decide) dX2_sendAll_1 ?_
  obtain ⟨v1, q2, h⟩ := bn1_some h
  refine V_callS C0 (st := []) (As := [.int x1, .int (600 : Int32)]) (c_J9_floorMod_7cf53 G.l G.D G.cA G.ad G.bs G.X C0.2.2.2.2.2.2.2.2.2.1 C0.2.2.2.2.2.2.2.2.2.2.2.2 x1 (600 : Int32) I L R v1 q2) lc_J9_floorMod_7cf53 lk_X2_92 rfl (by rw [erm]; decide) (Nat.le_of_ble_eq_true rfl) dX2_sendAll_4 ?_
  show V G _ 7 [(0, .ref (G.ad x0)), (1, .int x1)] [.int v1] I L R
  refine V_bipush C0 (v := (100 : Int32)) (by decide) dX2_sendAll_7 ?_
  refine V_sipush C0 (v := (219 : Int32)) (by decide) dX2_sendAll_9 ?_
  obtain ⟨b3, q4, h⟩ := bn1_some h
  refine V_callS C0 (st := []) (As := [.int v1, .int (100 : Int32), .int (219 : Int32)]) (c_X11_within G.l G.D G.cA G.ad G.bs G.X C0.2.2.2.2.2.2.2.2.2.1 C0.2.2.2.2.2.2.2.2.2.2.2.2 v1 (100 : Int32) (219 : Int32) I L R b3 q4) lc_X11_within lk_X2_274 rfl (by rw [erm]; decide) (Nat.le_of_ble_eq_true rfl) dX2_sendAll_12 ?_
  show V G _ 15 [(0, .ref (G.ad x0)), (1, .int x1)] [.int (b2i b3)] I L R
  obtain ⟨u5, eu5, h⟩ := wr_some h
  rw [← eu5]
  refine V_istore_n C0 [(2, .int u5), (0, .ref (G.ad x0)), (1, .int x1)] rfl (by rw [eNL]; decide) rfl dX2_sendAll_15 ?_
  refine V_iconst C0 (v := (0 : Int32)) (by decide) dX2_sendAll_16 ?_
  refine V_istore_n C0 [(3, .int (0 : Int32)), (2, .int u5), (0, .ref (G.ad x0)), (1, .int x1)] rfl (by rw [eNL]; decide) rfl dX2_sendAll_17 ?_
  obtain ⟨z50, q51, h⟩ := bn1_some h
  refine V_sub [2, 3, 1, 0] rfl (lp_X2_sendAll_18 C0 eNL erm N N x0 x1 u5 (0 : Int32) I L R _ c_x0.1 c_x0.2 q51 _ ?_)
  show V G _ 133 [] [] z50 L R
  cases h
  exact V_vret C0 dX2_sendAll_133
theorem dX3_clear_0 : decode cX3_clear 0 = .ok (.aload_n 0, 1) := by decide +kernel
theorem dX3_clear_1 : decode cX3_clear 1 = .ok (.iconst 0, 1) := by decide +kernel
theorem dX3_clear_2 : decode cX3_clear 2 = .ok (.putfield 11, 3) := by decide +kernel
theorem dX3_clear_5 : decode cX3_clear 5 = .ok (.aload_n 0, 1) := by decide +kernel
theorem dX3_clear_6 : decode cX3_clear 6 = .ok (.iconst 0, 1) := by decide +kernel
theorem dX3_clear_7 : decode cX3_clear 7 = .ok (.putfield 15, 3) := by decide +kernel
theorem dX3_clear_10 : decode cX3_clear 10 = .ok (.aload_n 0, 1) := by decide +kernel
theorem dX3_clear_11 : decode cX3_clear 11 = .ok (.iconst 4, 1) := by decide +kernel
theorem dX3_clear_12 : decode cX3_clear 12 = .ok (.putfield 18, 3) := by decide +kernel
theorem dX3_clear_15 : decode cX3_clear 15 = .ok (.aload_n 0, 1) := by decide +kernel
theorem dX3_clear_16 : decode cX3_clear 16 = .ok (.iconst 0, 1) := by decide +kernel
theorem dX3_clear_17 : decode cX3_clear 17 = .ok (.putfield 21, 3) := by decide +kernel
theorem dX3_clear_20 : decode cX3_clear 20 = .ok (.aload_n 0, 1) := by decide +kernel
theorem dX3_clear_21 : decode cX3_clear 21 = .ok (.iconst 0, 1) := by decide +kernel
theorem dX3_clear_22 : decode cX3_clear 22 = .ok (.putfield 24, 3) := by decide +kernel
theorem dX3_clear_25 : decode cX3_clear 25 = .ok (.aload_n 0, 1) := by decide +kernel
theorem dX3_clear_26 : decode cX3_clear 26 = .ok (.iconst 0, 1) := by decide +kernel
theorem dX3_clear_27 : decode cX3_clear 27 = .ok (.putfield 27, 3) := by decide +kernel
theorem dX3_clear_30 : decode cX3_clear 30 = .ok (.aload_n 0, 1) := by decide +kernel
theorem dX3_clear_31 : decode cX3_clear 31 = .ok (.iconst 0, 1) := by decide +kernel
theorem dX3_clear_32 : decode cX3_clear 32 = .ok (.putfield 30, 3) := by decide +kernel
theorem dX3_clear_35 : decode cX3_clear 35 = .ok (.aload_n 0, 1) := by decide +kernel
theorem dX3_clear_36 : decode cX3_clear 36 = .ok (.iconst 0, 1) := by decide +kernel
theorem dX3_clear_37 : decode cX3_clear 37 = .ok (.putfield 33, 3) := by decide +kernel
theorem dX3_clear_40 : decode cX3_clear 40 = .ok (.aload_n 0, 1) := by decide +kernel
theorem dX3_clear_41 : decode cX3_clear 41 = .ok (.iconst 0, 1) := by decide +kernel
theorem dX3_clear_42 : decode cX3_clear 42 = .ok (.putfield 36, 3) := by decide +kernel
theorem dX3_clear_45 : decode cX3_clear 45 = .ok (.aload_n 0, 1) := by decide +kernel
theorem dX3_clear_46 : decode cX3_clear 46 = .ok (.iconst 0, 1) := by decide +kernel
theorem dX3_clear_47 : decode cX3_clear 47 = .ok (.putfield 39, 3) := by decide +kernel
theorem dX3_clear_50 : decode cX3_clear 50 = .ok (.aload_n 0, 1) := by decide +kernel
theorem dX3_clear_51 : decode cX3_clear 51 = .ok (.iconst 0, 1) := by decide +kernel
theorem dX3_clear_52 : decode cX3_clear 52 = .ok (.putfield 43, 3) := by decide +kernel
theorem dX3_clear_55 : decode cX3_clear 55 = .ok (.return_, 1) := by decide +kernel
def F_X3_clear (x0 : Nat) (I : MI) (L : ML) (R : MR) : Option (MI) :=
  if kd x0 = 3 ∧ x0 < NN then
  wr (uI I x0 0 (0 : Int32)) fun (I1 : MI) =>
  wr (uI I1 x0 1 (0 : Int32)) fun (I2 : MI) =>
  wr (uI I2 x0 2 (4 : Int32)) fun (I3 : MI) =>
  wr (uI I3 x0 3 (0 : Int32)) fun (I4 : MI) =>
  wr (uI I4 x0 4 (0 : Int32)) fun (I5 : MI) =>
  wr (uI I5 x0 5 (0 : Int32)) fun (I6 : MI) =>
  wr (uI I6 x0 6 (0 : Int32)) fun (I7 : MI) =>
  wr (uI I7 x0 7 (0 : Int32)) fun (I8 : MI) =>
  wr (uI I8 x0 8 (0 : Int32)) fun (I9 : MI) =>
  wr (uI I9 x0 9 (0 : Int32)) fun (I10 : MI) =>
  wr (uI I10 x0 10 (0 : Int32)) fun (I11 : MI) =>
  some (I11)
  else none
set_option maxRecDepth 100000 in
set_option maxHeartbeats 4000000 in
theorem c_X3_clear (l : Launch) (D : va_G) (cA : Nat → ClassId) (ad : Nat → Nat) (bs : Nat) (X : State → Prop) (hAd : Ax ad bs) (hX : Stb bs X) (x0 : Nat) (I : MI) (L : ML) (R : MR) (I' : MI) (h : F_X3_clear x0 I L R = some (I')) : Cn l D cA ad bs X yX3_clear cX3_clear 1 none 0 0 [.ref (ad x0)] I L R (none, I', L, R) := by
  refine Cn.ofV hAd hX [(0, .ref (ad x0))] rfl (Nat.le_of_ble_eq_true rfl) (by decide) ?_
  intro G el eD ecA ead ebs eX erm eNL C0
  subst el eD ecA ead ebs eX
  unfold F_X3_clear at h
  obtain ⟨c_x0, h⟩ := ite_some h
  refine V_aload_n C0 0 rfl rfl dX3_clear_0 ?_
  refine V_iconst C0 (v := (0 : Int32)) (by decide) dX3_clear_1 ?_
  obtain ⟨I1, eI1, h⟩ := wr_some h
  refine V_putI C0 3 0 fp_X3_11 c_x0.2 c_x0.1 rfl dX3_clear_2 ?_
  rw [← eI1]
  refine V_aload_n C0 0 rfl rfl dX3_clear_5 ?_
  refine V_iconst C0 (v := (0 : Int32)) (by decide) dX3_clear_6 ?_
  obtain ⟨I2, eI2, h⟩ := wr_some h
  refine V_putI C0 3 1 fp_X3_15 c_x0.2 c_x0.1 rfl dX3_clear_7 ?_
  rw [← eI2]
  refine V_aload_n C0 0 rfl rfl dX3_clear_10 ?_
  refine V_iconst C0 (v := (4 : Int32)) (by decide) dX3_clear_11 ?_
  obtain ⟨I3, eI3, h⟩ := wr_some h
  refine V_putI C0 3 2 fp_X3_18 c_x0.2 c_x0.1 rfl dX3_clear_12 ?_
  rw [← eI3]
  refine V_aload_n C0 0 rfl rfl dX3_clear_15 ?_
  refine V_iconst C0 (v := (0 : Int32)) (by decide) dX3_clear_16 ?_
  obtain ⟨I4, eI4, h⟩ := wr_some h
  refine V_putI C0 3 3 fp_X3_21 c_x0.2 c_x0.1 rfl dX3_clear_17 ?_
  rw [← eI4]
  refine V_aload_n C0 0 rfl rfl dX3_clear_20 ?_
  refine V_iconst C0 (v := (0 : Int32)) (by decide) dX3_clear_21 ?_
  obtain ⟨I5, eI5, h⟩ := wr_some h
  refine V_putI C0 3 4 fp_X3_24 c_x0.2 c_x0.1 rfl dX3_clear_22 ?_
  rw [← eI5]
  refine V_aload_n C0 0 rfl rfl dX3_clear_25 ?_
  refine V_iconst C0 (v := (0 : Int32)) (by decide) dX3_clear_26 ?_
  obtain ⟨I6, eI6, h⟩ := wr_some h
  refine V_putI C0 3 5 fp_X3_27 c_x0.2 c_x0.1 rfl dX3_clear_27 ?_
  rw [← eI6]
  refine V_aload_n C0 0 rfl rfl dX3_clear_30 ?_
  refine V_iconst C0 (v := (0 : Int32)) (by decide) dX3_clear_31 ?_
  obtain ⟨I7, eI7, h⟩ := wr_some h
  refine V_putI C0 3 6 fp_X3_30 c_x0.2 c_x0.1 rfl dX3_clear_32 ?_
  rw [← eI7]
  refine V_aload_n C0 0 rfl rfl dX3_clear_35 ?_
  refine V_iconst C0 (v := (0 : Int32)) (by decide) dX3_clear_36 ?_
  obtain ⟨I8, eI8, h⟩ := wr_some h
  refine V_putI C0 3 7 fp_X3_33 c_x0.2 c_x0.1 rfl dX3_clear_37 ?_
  rw [← eI8]
  refine V_aload_n C0 0 rfl rfl dX3_clear_40 ?_
  refine V_iconst C0 (v := (0 : Int32)) (by decide) dX3_clear_41 ?_
  obtain ⟨I9, eI9, h⟩ := wr_some h
  refine V_putI C0 3 8 fp_X3_36 c_x0.2 c_x0.1 rfl dX3_clear_42 ?_
  rw [← eI9]
  refine V_aload_n C0 0 rfl rfl dX3_clear_45 ?_
  refine V_iconst C0 (v := (0 : Int32)) (by decide) dX3_clear_46 ?_
  obtain ⟨I10, eI10, h⟩ := wr_some h
  refine V_putZ C0 3 9 fp_X3_39 c_x0.2 c_x0.1 rfl (by decide) dX3_clear_47 ?_
  rw [← eI10]
  refine V_aload_n C0 0 rfl rfl dX3_clear_50 ?_
  refine V_iconst C0 (v := (0 : Int32)) (by decide) dX3_clear_51 ?_
  obtain ⟨I11, eI11, h⟩ := wr_some h
  refine V_putZ C0 3 10 fp_X3_43 c_x0.2 c_x0.1 rfl (by decide) dX3_clear_52 ?_
  rw [← eI11]
  cases h
  exact V_vret C0 dX3_clear_55
theorem dX8_takeNumber__0 : decode cX8_takeNumber_ 0 = .ok (.aload_n 0, 1) := by decide +kernel
theorem dX8_takeNumber__1 : decode cX8_takeNumber_ 1 = .ok (.invokevirtual 57, 3) := by decide +kernel
theorem dX8_takeNumber__4 : decode cX8_takeNumber_ 4 = .ok (.aload_n 0, 1) := by decide +kernel
theorem dX8_takeNumber__5 : decode cX8_takeNumber_ 5 = .ok (.getfield 38, 3) := by decide +kernel
theorem dX8_takeNumber__8 : decode cX8_takeNumber_ 8 = .ok (.iconst 2, 1) := by decide +kernel
theorem dX8_takeNumber__9 : decode cX8_takeNumber_ 9 = .ok (.if_icmp .eq 9, 3) := by decide +kernel
theorem dX8_takeNumber__12 : decode cX8_takeNumber_ 12 = .ok (.aload_n 0, 1) := by decide +kernel
theorem dX8_takeNumber__13 : decode cX8_takeNumber_ 13 = .ok (.iconst 2, 1) := by decide +kernel
theorem dX8_takeNumber__14 : decode cX8_takeNumber_ 14 = .ok (.invokevirtual 60, 3) := by decide +kernel
theorem dX8_takeNumber__17 : decode cX8_takeNumber_ 17 = .ok (.ireturn, 1) := by decide +kernel
theorem dX8_takeNumber__18 : decode cX8_takeNumber_ 18 = .ok (.aload_n 0, 1) := by decide +kernel
theorem dX8_takeNumber__19 : decode cX8_takeNumber_ 19 = .ok (.getfield 31, 3) := by decide +kernel
theorem dX8_takeNumber__22 : decode cX8_takeNumber_ 22 = .ok (.iload_n 1, 1) := by decide +kernel
theorem dX8_takeNumber__23 : decode cX8_takeNumber_ 23 = .ok (.iload_n 2, 1) := by decide +kernel
theorem dX8_takeNumber__24 : decode cX8_takeNumber_ 24 = .ok (.invokestatic 64, 3) := by decide +kernel
theorem dX8_takeNumber__27 : decode cX8_takeNumber_ 27 = .ok (.ifCond .ne 11, 3) := by decide +kernel
theorem dX8_takeNumber__30 : decode cX8_takeNumber_ 30 = .ok (.aload_n 0, 1) := by decide +kernel
theorem dX8_takeNumber__31 : decode cX8_takeNumber_ 31 = .ok (.iconst 5, 1) := by decide +kernel
theorem dX8_takeNumber__32 : decode cX8_takeNumber_ 32 = .ok (.invokevirtual 60, 3) := by decide +kernel
theorem dX8_takeNumber__35 : decode cX8_takeNumber_ 35 = .ok (.ifCond .eq 7, 3) := by decide +kernel
theorem dX8_takeNumber__38 : decode cX8_takeNumber_ 38 = .ok (.iconst 1, 1) := by decide +kernel
theorem dX8_takeNumber__39 : decode cX8_takeNumber_ 39 = .ok (.goto 4, 3) := by decide +kernel
theorem dX8_takeNumber__42 : decode cX8_takeNumber_ 42 = .ok (.iconst 0, 1) := by decide +kernel
theorem dX8_takeNumber__43 : decode cX8_takeNumber_ 43 = .ok (.ireturn, 1) := by decide +kernel
def F_X8_takeNumber_ (N : Nat) (x0 : Nat) (x1 : Int32) (x2 : Int32) (I : MI) (L : ML) (R : MR) : Option (Bool × MI × ML) :=
  if kd x0 = 7 ∧ x0 < NN then
  bn2 (F_X8_next N x0 I L R) fun I1 L2 =>
  if (I1 x0 4) = (2 : Int32) then
    bn1 (F_X11_within (I1 x0 6) x1 x2 I1 L2 R) fun b5 =>
    if (b2i b5) = 0 then
      bn2 (F_X8_refuse x0 (5 : Int32) I1 L2 R) fun b8 I9 =>
      if (b2i b8) = 0 then
        some (false, I9, L2)
      else
        some (true, I9, L2)
    else
      some (true, I1, L2)
  else
    bn2 (F_X8_refuse x0 (2 : Int32) I1 L2 R) fun b12 I13 =>
    some (b12, I13, L2)
  else none
set_option maxRecDepth 100000 in
set_option maxHeartbeats 4000000 in
theorem c_X8_takeNumber_ (l : Launch) (D : va_G) (cA : Nat → ClassId) (ad : Nat → Nat) (bs : Nat) (X : State → Prop) (hAd : Ax ad bs) (hX : Stb bs X) (N : Nat) (x0 : Nat) (x1 : Int32) (x2 : Int32) (I : MI) (L : ML) (R : MR) (r : Bool) (I' : MI) (L' : ML) (h : F_X8_takeNumber_ N x0 x1 x2 I L R = some (r, I', L')) : Cn l D cA ad bs X yX8_takeNumber_ cX8_takeNumber_ 3 (some .boolean) 3 64 [.ref (ad x0), .int x1, .int x2] I L R (some (.int (b2i r)), I', L', R) := by
  refine Cn.ofV hAd hX [(0, .ref (ad x0)), (1, .int x1), (2, .int x2)] rfl (Nat.le_of_ble_eq_true rfl) (by decide) ?_
  intro G el eD ecA ead ebs eX erm eNL C0
  subst el eD ecA ead ebs eX
  unfold F_X8_takeNumber_ at h
  obtain ⟨c_x0, h⟩ := ite_some h
  refine V_aload_n C0 0 rfl rfl dX8_takeNumber__0 ?_
  obtain ⟨I1, L2, q3, h⟩ := bn2_some h
  refine V_callV C0 (st := []) (As := []) 7 (c_X8_next G.l G.D G.cA G.ad G.bs G.X C0.2.2.2.2.2.2.2.2.2.1 C0.2.2.2.2.2.2.2.2.2.2.2.2 N x0 I L R I1 L2 q3) lc_X8_next lk_X8_57 c_x0.2 c_x0.1 ⟨_, rfl, rfl⟩ rfl (by rw [erm]; decide) (Nat.le_of_ble_eq_true rfl) dX8_takeNumber__1 ?_
  show V G _ 4 [(0, .ref (G.ad x0)), (1, .int x1), (2, .int x2)] [] I1 L2 R
  refine V_aload_n C0 0 rfl rfl dX8_takeNumber__4 ?_
  refine V_getI C0 7 4 fl_X8_38 c_x0.2 c_x0.1 rfl dX8_takeNumber__5 ?_
  refine V_iconst C0 (v := (2 : Int32)) (by decide) dX8_takeNumber__8 ?_
  refine V_icmp_eq C0 (tgt := 18) (by decide) dX8_takeNumber__9 (fun c4 => ?_) (fun c4 => ?_)
  · have h := (if_pos c4).symm.trans h
    refine V_aload_n C0 0 rfl rfl dX8_takeNumber__18 ?_
    refine V_getI C0 7 6 fl_X8_31 c_x0.2 c_x0.1 rfl dX8_takeNumber__19 ?_
    refine V_iload_n C0 1 rfl rfl dX8_takeNumber__22 ?_
    refine V_iload_n C0 2 rfl rfl dX8_takeNumber__23 ?_
    obtain ⟨b5, q6, h⟩ := bn1_some h
    refine V_callS C0 (st := []) (As := [.int (I1 x0 6), .int x1, .int x2]) (c_X11_within G.l G.D G.cA G.ad G.bs G.X C0.2.2.2.2.2.2.2.2.2.1 C0.2.2.2.2.2.2.2.2.2.2.2.2 (I1 x0 6) x1 x2 I1 L2 R b5 q6) lc_X11_within lk_X8_64 rfl (by rw [erm]; decide) (Nat.le_of_ble_eq_true rfl) dX8_takeNumber__24 ?_
    show V G _ 27 [(0, .ref (G.ad x0)), (1, .int x1), (2, .int x2)] [.int (b2i b5)] I1 L2 R
    refine V_if_ne C0 (tgt := 38) (by decide) dX8_takeNumber__27 (fun c7 => ?_) (fun c7 => ?_)
    · have h := (if_neg c7).symm.trans h
      refine V_iconst C0 (v := (1 : Int32)) (by decide) dX8_takeNumber__38 ?_
      refine V_goto C0 (tgt := 43) (by decide) dX8_takeNumber__39 ?_
      cases h
      exact V_zret C0 (by decide) dX8_takeNumber__43
    · have h := (if_pos c7).symm.trans h
      refine V_aload_n C0 0 rfl rfl dX8_takeNumber__30 ?_
      refine V_iconst C0 (v := (5 : Int32)) (by decide) dX8_takeNumber__31 ?_
      obtain ⟨b8, I9, q10, h⟩ := bn2_some h
      refine V_callV C0 (st := []) (As := [.int (5 : Int32)]) 7 (c_X8_refuse G.l G.D G.cA G.ad G.bs G.X C0.2.2.2.2.2.2.2.2.2.1 C0.2.2.2.2.2.2.2.2.2.2.2.2 x0 (5 : Int32) I1 L2 R b8 I9 q10) lc_X8_refuse lk_X8_60 c_x0.2 c_x0.1 ⟨_, rfl, rfl⟩ rfl (by rw [erm]; decide) (Nat.le_of_ble_eq_true rfl) dX8_takeNumber__32 ?_
      show V G _ 35 [(0, .ref (G.ad x0)), (1, .int x1), (2, .int x2)] [.int (b2i b8)] I9 L2 R
      refine V_if_eq C0 (tgt := 42) (by decide) dX8_takeNumber__35 (fun c11 => ?_) (fun c11 => ?_)
      · have h := (if_pos c11).symm.trans h
        refine V_iconst C0 (v := (0 : Int32)) (by decide) dX8_takeNumber__42 ?_
        cases h
        exact V_zret C0 (by decide) dX8_takeNumber__43
      · have h := (if_neg c11).symm.trans h
        refine V_iconst C0 (v := (1 : Int32)) (by decide) dX8_takeNumber__38 ?_
        refine V_goto C0 (tgt := 43) (by decide) dX8_takeNumber__39 ?_
        cases h
        exact V_zret C0 (by decide) dX8_takeNumber__43
  · have h := (if_neg c4).symm.trans h
    refine V_aload_n C0 0 rfl rfl dX8_takeNumber__12 ?_
    refine V_iconst C0 (v := (2 : Int32)) (by decide) dX8_takeNumber__13 ?_
    obtain ⟨b12, I13, q14, h⟩ := bn2_some h
    refine V_callV C0 (st := []) (As := [.int (2 : Int32)]) 7 (c_X8_refuse G.l G.D G.cA G.ad G.bs G.X C0.2.2.2.2.2.2.2.2.2.1 C0.2.2.2.2.2.2.2.2.2.2.2.2 x0 (2 : Int32) I1 L2 R b12 I13 q14) lc_X8_refuse lk_X8_60 c_x0.2 c_x0.1 ⟨_, rfl, rfl⟩ rfl (by rw [erm]; decide) (Nat.le_of_ble_eq_true rfl) dX8_takeNumber__14 ?_
    show V G _ 17 [(0, .ref (G.ad x0)), (1, .int x1), (2, .int x2)] [.int (b2i b12)] I13 L2 R
    cases h
    exact V_zret C0 (b2i01 _) dX8_takeNumber__17
theorem dX10_unitTitled_0 : decode cX10_unitTitled 0 = .ok (.iconst 0, 1) := by decide +kernel
theorem dX10_unitTitled_1 : decode cX10_unitTitled 1 = .ok (.istore_n 3, 1) := by decide +kernel
theorem dX10_unitTitled_2 : decode cX10_unitTitled 2 = .ok (.iload_n 3, 1) := by decide +kernel
theorem dX10_unitTitled_3 : decode cX10_unitTitled 3 = .ok (.aload_n 0, 1) := by decide +kernel
theorem dX10_unitTitled_4 : decode cX10_unitTitled 4 = .ok (.getfield 26, 3) := by decide +kernel
theorem dX10_unitTitled_7 : decode cX10_unitTitled 7 = .ok (.if_icmp .ge 24, 3) := by decide +kernel
theorem dX10_unitTitled_10 : decode cX10_unitTitled 10 = .ok (.aload_n 0, 1) := by decide +kernel
theorem dX10_unitTitled_11 : decode cX10_unitTitled 11 = .ok (.iload_n 3, 1) := by decide +kernel
theorem dX10_unitTitled_12 : decode cX10_unitTitled 12 = .ok (.invokevirtual 34, 3) := by decide +kernel
theorem dX10_unitTitled_15 : decode cX10_unitTitled 15 = .ok (.getfield 38, 3) := by decide +kernel
theorem dX10_unitTitled_18 : decode cX10_unitTitled 18 = .ok (.lload_n 1, 1) := by decide +kernel
theorem dX10_unitTitled_19 : decode cX10_unitTitled 19 = .ok (.lcmp, 1) := by decide +kernel
theorem dX10_unitTitled_20 : decode cX10_unitTitled 20 = .ok (.ifCond .ne 5, 3) := by decide +kernel
theorem dX10_unitTitled_23 : decode cX10_unitTitled 23 = .ok (.iload_n 3, 1) := by decide +kernel
theorem dX10_unitTitled_24 : decode cX10_unitTitled 24 = .ok (.ireturn, 1) := by decide +kernel
theorem dX10_unitTitled_25 : decode cX10_unitTitled 25 = .ok (.iinc 3 1, 3) := by decide +kernel
theorem dX10_unitTitled_28 : decode cX10_unitTitled 28 = .ok (.goto (-26), 3) := by decide +kernel
theorem dX10_unitTitled_31 : decode cX10_unitTitled 31 = .ok (.iconst (-1), 1) := by decide +kernel
theorem dX10_unitTitled_32 : decode cX10_unitTitled 32 = .ok (.ireturn, 1) := by decide +kernel
def LF_X10_unitTitled_2 (N : Nat) : Nat → Nat → Int64 → Int32 → MI → ML → MR → Option (Sum (Int32) (Unit))
  | 0, _, _, _, _, _, _ => none
  | k + 1, y0, y1, y3, I, L, R =>
    if (I y0 3) ≤ y3 then
      some (.inr ())
    else
      bn1 (F_X10_unitAt y0 y3 I L R) fun a2 =>
      if kd a2 = 8 ∧ a2 < NN then
      if (lg_cmp (L a2 3) y1) = 0 then
        some (.inl (y3))
      else
        wr (y3 + (1 : Int32)) fun (u6 : Int32) =>
        LF_X10_unitTitled_2 N k y0 y1 u6 I L R
      else none
def F_X10_unitTitled (N : Nat) (x0 : Nat) (x1 : Int64) (I : MI) (L : ML) (R : MR) : Option (Int32) :=
  if kd x0 = 9 ∧ x0 < NN then
  bsm (LF_X10_unitTitled_2 N N x0 x1 (0 : Int32) I L R) (fun z7 => some z7) fun z7 =>
  some ((-1 : Int32))
  else none
set_option maxRecDepth 100000 in
set_option maxHeartbeats 4000000 in
theorem lp_X10_unitTitled_2 {G : Gm} (C0 : Cx G (yX10_unitTitled.cls) cX10_unitTitled (some .int)) (eNL : G.nL = 4) (erm : G.rm = ({ frames := 2, cells := 0, slots := 0, locals := 42 } : Room)) (N : Nat) : ∀ (k : Nat) (y0 : Nat) (y1 : Int64) (y3 : Int32) (I : MI) (L : ML) (R : MR) (q : Sum (Int32) (Unit)) (hk0 : kd y0 = 9) (ho0 : y0 < NN), LF_X10_unitTitled_2 N k y0 y1 y3 I L R = some q → ∀ f : State → Prop, (∀ w, q = .inl w → f = qf G (some (.int w), I, L, R)) → (∀ z, q = .inr z → V G f 31 [] [] I L R) → V G f 2 [(0, .ref (G.ad y0)), (1, .long y1), (3, .int y3)] [] I L R := by
  intro k
  induction k with
  | zero =>
    intro y0 y1 y3 I L R q hk0 ho0 h
    exact absurd h (by simp [LF_X10_unitTitled_2])
  | succ k ih =>
    intro y0 y1 y3 I L R q hk0 ho0 h f kr kx
    rw [LF_X10_unitTitled_2] at h
    refine V_iload_n C0 2 rfl rfl dX10_unitTitled_2 ?_
    refine V_aload_n C0 0 rfl rfl dX10_unitTitled_3 ?_
    refine V_getI C0 9 3 fl_X10_26 ho0 hk0 rfl dX10_unitTitled_4 ?_
    refine V_icmp_ge C0 (tgt := 31) (by decide) dX10_unitTitled_7 (fun c1 => ?_) (fun c1 => ?_)
    · have h := (if_pos c1).symm.trans h
      cases h
      exact V_sub [] rfl (kx _ rfl)
    · have h := (if_neg c1).symm.trans h
      refine V_aload_n C0 0 rfl rfl dX10_unitTitled_10 ?_
      refine V_iload_n C0 2 rfl rfl dX10_unitTitled_11 ?_
      obtain ⟨a2, q3, h⟩ := bn1_some h
      refine V_callV C0 (st := []) (As := [.int y3]) 9 (c_X10_unitAt G.l G.D G.cA G.ad G.bs G.X C0.2.2.2.2.2.2.2.2.2.1 C0.2.2.2.2.2.2.2.2.2.2.2.2 y0 y3 I L R a2 q3) lc_X10_unitAt lk_X10_34 ho0 hk0 ⟨_, rfl, rfl⟩ rfl (by rw [erm]; decide) (Nat.le_of_ble_eq_true rfl) dX10_unitTitled_12 ?_
      show V G _ 15 [(0, .ref (G.ad y0)), (1, .long y1), (3, .int y3)] [.ref (G.ad a2)] I L R
      obtain ⟨c4, h⟩ := ite_some h
      refine V_getL C0 8 3 fl_X10_38 c4.2 c4.1 rfl dX10_unitTitled_15 ?_
      refine V_lload_n C0 1 rfl rfl dX10_unitTitled_18 ?_
      refine V_lcmp C0 dX10_unitTitled_19 ?_
      refine V_if_ne C0 (tgt := 25) (by decide) dX10_unitTitled_20 (fun c5 => ?_) (fun c5 => ?_)
      · have h := (if_neg c5).symm.trans h
        obtain ⟨u6, eu6, h⟩ := wr_some h
        refine V_iinc C0 2 [(3, .int u6), (0, .ref (G.ad y0)), (1, .long y1)] rfl (n := 1) (by rw [eu6]; rfl) (by rw [eNL]; decide) rfl dX10_unitTitled_25 ?_
        refine V_goto C0 (tgt := 2) (by decide) dX10_unitTitled_28 ?_
        exact V_sub [1, 2, 0] rfl (ih y0 y1 u6 I L R _ hk0 ho0 h f kr kx)
      · have h := (if_pos c5).symm.trans h
        refine V_iload_n C0 2 rfl rfl dX10_unitTitled_23 ?_
        cases h
        rw [kr _ rfl]
        exact V_iret C0 dX10_unitTitled_24
set_option maxRecDepth 100000 in
set_option maxHeartbeats 4000000 in
theorem c_X10_unitTitled (l : Launch) (D : va_G) (cA : Nat → ClassId) (ad : Nat → Nat) (bs : Nat) (X : State → Prop) (hAd : Ax ad bs) (hX : Stb bs X) (N : Nat) (x0 : Nat) (x1 : Int64) (I : MI) (L : ML) (R : MR) (r : Int32) (h : F_X10_unitTitled N x0 x1 I L R = some (r)) : Cn l D cA ad bs X yX10_unitTitled cX10_unitTitled 4 (some .int) 2 42 [.ref (ad x0), .long x1] I L R (some (.int r), I, L, R) := by
  refine Cn.ofV hAd hX [(0, .ref (ad x0)), (1, .long x1)] rfl (Nat.le_of_ble_eq_true rfl) (by decide) ?_
  intro G el eD ecA ead ebs eX erm eNL C0
  subst el eD ecA ead ebs eX
  unfold F_X10_unitTitled at h
  obtain ⟨c_x0, h⟩ := ite_some h
  refine V_iconst C0 (v := (0 : Int32)) (by decide) dX10_unitTitled_0 ?_
  refine V_istore_n C0 [(3, .int (0 : Int32)), (0, .ref (G.ad x0)), (1, .long x1)] rfl (by rw [eNL]; decide) rfl dX10_unitTitled_1 ?_
  rcases bsm_some h with ⟨z7, q8, h⟩ | ⟨z7, q8, h⟩
  · refine V_sub [1, 2, 0] rfl (lp_X10_unitTitled_2 C0 eNL erm N N x0 x1 (0 : Int32) I L R _ c_x0.1 c_x0.2 q8 _ (fun w e => ?_) (fun _ e => by cases e))
    cases e
    cases h
    rfl
  · refine V_sub [1, 2, 0] rfl (lp_X10_unitTitled_2 C0 eNL erm N N x0 x1 (0 : Int32) I L R _ c_x0.1 c_x0.2 q8 _ (fun _ e => by cases e) (fun w e => ?_))
    cases e
    show V G _ 31 [] [] I L R
    refine V_iconst C0 (v := (-1 : Int32)) (by decide) dX10_unitTitled_31 ?_
    cases h
    exact V_iret C0 dX10_unitTitled_32
theorem dX5_readName_0 : decode cX5_readName 0 = .ok (.aload_n 1, 1) := by decide +kernel
theorem dX5_readName_1 : decode cX5_readName 1 = .ok (.invokevirtual 34, 3) := by decide +kernel
theorem dX5_readName_4 : decode cX5_readName 4 = .ok (.aload_n 1, 1) := by decide +kernel
theorem dX5_readName_5 : decode cX5_readName 5 = .ok (.invokevirtual 124, 3) := by decide +kernel
theorem dX5_readName_8 : decode cX5_readName 8 = .ok (.ifCond .ne 11, 3) := by decide +kernel
theorem dX5_readName_11 : decode cX5_readName 11 = .ok (.aload_n 1, 1) := by decide +kernel
theorem dX5_readName_12 : decode cX5_readName 12 = .ok (.iconst 2, 1) := by decide +kernel
theorem dX5_readName_13 : decode cX5_readName 13 = .ok (.invokevirtual 57, 3) := by decide +kernel
theorem dX5_readName_16 : decode cX5_readName 16 = .ok (.pop, 1) := by decide +kernel
theorem dX5_readName_17 : decode cX5_readName 17 = .ok (.iconst (-1), 1) := by decide +kernel
theorem dX5_readName_18 : decode cX5_readName 18 = .ok (.ireturn, 1) := by decide +kernel
theorem dX5_readName_19 : decode cX5_readName 19 = .ok (.aload_n 2, 1) := by decide +kernel
theorem dX5_readName_20 : decode cX5_readName 20 = .ok (.aload_n 1, 1) := by decide +kernel
theorem dX5_readName_21 : decode cX5_readName 21 = .ok (.invokevirtual 127, 3) := by decide +kernel
theorem dX5_readName_24 : decode cX5_readName 24 = .ok (.invokevirtual 131, 3) := by decide +kernel
theorem dX5_readName_27 : decode cX5_readName 27 = .ok (.istore 4, 2) := by decide +kernel
theorem dX5_readName_29 : decode cX5_readName 29 = .ok (.iload 4, 2) := by decide +kernel
theorem dX5_readName_31 : decode cX5_readName 31 = .ok (.iconst (-1), 1) := by decide +kernel
theorem dX5_readName_32 : decode cX5_readName 32 = .ok (.if_icmp .eq 16, 3) := by decide +kernel
theorem dX5_readName_35 : decode cX5_readName 35 = .ok (.aload_n 2, 1) := by decide +kernel
theorem dX5_readName_36 : decode cX5_readName 36 = .ok (.iload 4, 2) := by decide +kernel
theorem dX5_readName_38 : decode cX5_readName 38 = .ok (.invokevirtual 137, 3) := by decide +kernel
theorem dX5_readName_41 : decode cX5_readName 41 = .ok (.iload_n 3, 1) := by decide +kernel
theorem dX5_readName_42 : decode cX5_readName 42 = .ok (.invokevirtual 141, 3) := by decide +kernel
theorem dX5_readName_45 : decode cX5_readName 45 = .ok (.ifCond .ne 11, 3) := by decide +kernel
theorem dX5_readName_48 : decode cX5_readName 48 = .ok (.aload_n 1, 1) := by decide +kernel
theorem dX5_readName_49 : decode cX5_readName 49 = .ok (.iconst 3, 1) := by decide +kernel
theorem dX5_readName_50 : decode cX5_readName 50 = .ok (.invokevirtual 57, 3) := by decide +kernel
theorem dX5_readName_53 : decode cX5_readName 53 = .ok (.pop, 1) := by decide +kernel
theorem dX5_readName_54 : decode cX5_readName 54 = .ok (.iconst (-1), 1) := by decide +kernel
theorem dX5_readName_55 : decode cX5_readName 55 = .ok (.ireturn, 1) := by decide +kernel
theorem dX5_readName_56 : decode cX5_readName 56 = .ok (.iload 4, 2) := by decide +kernel
theorem dX5_readName_58 : decode cX5_readName 58 = .ok (.ireturn, 1) := by decide +kernel
def F_X5_readName (N : Nat) (x0 : Nat) (x1 : Nat) (x2 : Nat) (x3 : Int32) (I : MI) (L : ML) (R : MR) : Option (Int32 × MI × ML) :=
  if kd x0 = 4 ∧ x0 < NN then
  if kd x1 = 7 ∧ x1 < NN then
  if kd x2 = 9 ∧ x2 < NN then
  bn2 (F_X8_next N x1 I L R) fun I1 L2 =>
  bn1 (F_X8_isAnyWord x1 I1 L2 R) fun b4 =>
  if (b2i b4) = 0 then
    bn2 (F_X8_refuse x1 (2 : Int32) I1 L2 R) fun b24 I25 =>
    some ((-1 : Int32), I25, L2)
  else
    bn1 (F_X8_wordRead x1 I1 L2 R) fun v7 =>
    bn1 (F_X10_unitTitled N x2 v7 I1 L2 R) fun v9 =>
    if v9 = (-1 : Int32) then
      bn2 (F_X8_refuse x1 (3 : Int32) I1 L2 R) fun b12 I13 =>
      some ((-1 : Int32), I13, L2)
    else
      bn1 (F_X10_unitAt x2 v9 I1 L2 R) fun a15 =>
      if kd a15 = 8 ∧ a15 < NN then
      bn1 (F_X9_is a15 x3 I1 L2 R) fun b18 =>
      if (b2i b18) = 0 then
        bn2 (F_X8_refuse x1 (3 : Int32) I1 L2 R) fun b21 I22 =>
        some ((-1 : Int32), I22, L2)
      else
        some (v9, I1, L2)
      else none
  else none
  else none
  else none
set_option maxRecDepth 100000 in
set_option maxHeartbeats 4000000 in
theorem c_X5_readName (l : Launch) (D : va_G) (cA : Nat → ClassId) (ad : Nat → Nat) (bs : Nat) (X : State → Prop) (hAd : Ax ad bs) (hX : Stb bs X) (N : Nat) (x0 : Nat) (x1 : Nat) (x2 : Nat) (x3 : Int32) (I : MI) (L : ML) (R : MR) (r : Int32) (I' : MI) (L' : ML) (h : F_X5_readName N x0 x1 x2 x3 I L R = some (r, I', L')) : Cn l D cA ad bs X yX5_readName cX5_readName 5 (some .int) 3 65 [.ref (ad x0), .ref (ad x1), .ref (ad x2), .int x3] I L R (some (.int r), I', L', R) := by
  refine Cn.ofV hAd hX [(0, .ref (ad x0)), (1, .ref (ad x1)), (2, .ref (ad x2)), (3, .int x3)] rfl (Nat.le_of_ble_eq_true rfl) (by decide) ?_
  intro G el eD ecA ead ebs eX erm eNL C0
  subst el eD ecA ead ebs eX
  unfold F_X5_readName at h
  obtain ⟨c_x0, h⟩ := ite_some h
  obtain ⟨c_x1, h⟩ := ite_some h
  obtain ⟨c_x2, h⟩ := ite_some h
  refine V_aload_n C0 1 rfl rfl dX5_readName_0 ?_
  obtain ⟨I1, L2, q3, h⟩ := bn2_some h
  refine V_callV C0 (st := []) (As := []) 7 (c_X8_next G.l G.D G.cA G.ad G.bs G.X C0.2.2.2.2.2.2.2.2.2.1 C0.2.2.2.2.2.2.2.2.2.2.2.2 N x1 I L R I1 L2 q3) lc_X8_next lk_X5_34 c_x1.2 c_x1.1 ⟨_, rfl, rfl⟩ rfl (by rw [erm]; decide) (Nat.le_of_ble_eq_true rfl) dX5_readName_1 ?_
  show V G _ 4 [(0, .ref (G.ad x0)), (1, .ref (G.ad x1)), (2, .ref (G.ad x2)), (3, .int x3)] [] I1 L2 R
  refine V_aload_n C0 1 rfl rfl dX5_readName_4 ?_
  obtain ⟨b4, q5, h⟩ := bn1_some h
  refine V_callV C0 (st := []) (As := []) 7 (c_X8_isAnyWord G.l G.D G.cA G.ad G.bs G.X C0.2.2.2.2.2.2.2.2.2.1 C0.2.2.2.2.2.2.2.2.2.2.2.2 x1 I1 L2 R b4 q5) lc_X8_isAnyWord lk_X5_124 c_x1.2 c_x1.1 ⟨_, rfl, rfl⟩ rfl (by rw [erm]; decide) (Nat.le_of_ble_eq_true rfl) dX5_readName_5 ?_
  show V G _ 8 [(0, .ref (G.ad x0)), (1, .ref (G.ad x1)), (2, .ref (G.ad x2)), (3, .int x3)] [.int (b2i b4)] I1 L2 R
  refine V_if_ne C0 (tgt := 19) (by decide) dX5_readName_8 (fun c6 => ?_) (fun c6 => ?_)
  · have h := (if_neg c6).symm.trans h
    refine V_aload_n C0 2 rfl rfl dX5_readName_19 ?_
    refine V_aload_n C0 1 rfl rfl dX5_readName_20 ?_
    obtain ⟨v7, q8, h⟩ := bn1_some h
    refine V_callV C0 (st := [.ref (G.ad x2)]) (As := []) 7 (c_X8_wordRead G.l G.D G.cA G.ad G.bs G.X C0.2.2.2.2.2.2.2.2.2.1 C0.2.2.2.2.2.2.2.2.2.2.2.2 x1 I1 L2 R v7 q8) lc_X8_wordRead lk_X5_127 c_x1.2 c_x1.1 ⟨_, rfl, rfl⟩ rfl (by rw [erm]; decide) (Nat.le_of_ble_eq_true rfl) dX5_readName_21 ?_
    show V G _ 24 [(0, .ref (G.ad x0)), (1, .ref (G.ad x1)), (2, .ref (G.ad x2)), (3, .int x3)] [.long v7, .ref (G.ad x2)] I1 L2 R
    obtain ⟨v9, q10, h⟩ := bn1_some h
    refine V_callV C0 (st := []) (As := [.long v7]) 9 (c_X10_unitTitled G.l G.D G.cA G.ad G.bs G.X C0.2.2.2.2.2.2.2.2.2.1 C0.2.2.2.2.2.2.2.2.2.2.2.2 N x2 v7 I1 L2 R v9 q10) lc_X10_unitTitled lk_X5_131 c_x2.2 c_x2.1 ⟨_, rfl, rfl⟩ rfl (by rw [erm]; decide) (Nat.le_of_ble_eq_true rfl) dX5_readName_24 ?_
    show V G _ 27 [(0, .ref (G.ad x0)), (1, .ref (G.ad x1)), (2, .ref (G.ad x2)), (3, .int x3)] [.int v9] I1 L2 R
    refine V_istore C0 [(4, .int v9), (0, .ref (G.ad x0)), (1, .ref (G.ad x1)), (2, .ref (G.ad x2)), (3, .int x3)] (by rw [eNL]; decide) rfl dX5_readName_27 ?_
    refine V_iload C0 0 rfl dX5_readName_29 ?_
    refine V_iconst C0 (v := (-1 : Int32)) (by decide) dX5_readName_31 ?_
    refine V_icmp_eq C0 (tgt := 48) (by decide) dX5_readName_32 (fun c11 => ?_) (fun c11 => ?_)
    · have h := (if_pos c11).symm.trans h
      refine V_aload_n C0 2 rfl rfl dX5_readName_48 ?_
      refine V_iconst C0 (v := (3 : Int32)) (by decide) dX5_readName_49 ?_
      obtain ⟨b12, I13, q14, h⟩ := bn2_some h
      refine V_callV C0 (st := []) (As := [.int (3 : Int32)]) 7 (c_X8_refuse G.l G.D G.cA G.ad G.bs G.X C0.2.2.2.2.2.2.2.2.2.1 C0.2.2.2.2.2.2.2.2.2.2.2.2 x1 (3 : Int32) I1 L2 R b12 I13 q14) lc_X8_refuse lk_X5_57 c_x1.2 c_x1.1 ⟨_, rfl, rfl⟩ rfl (by rw [erm]; decide) (Nat.le_of_ble_eq_true rfl) dX5_readName_50 ?_
      show V G _ 53 [(4, .int v9), (0, .ref (G.ad x0)), (1, .ref (G.ad x1)), (2, .ref (G.ad x2)), (3, .int x3)] [.int (b2i b12)] I13 L2 R
      refine V_pop C0 rfl dX5_readName_53 ?_
      refine V_iconst C0 (v := (-1 : Int32)) (by decide) dX5_readName_54 ?_
      cases h
      exact V_iret C0 dX5_readName_55
    · have h := (if_neg c11).symm.trans h
      refine V_aload_n C0 3 rfl rfl dX5_readName_35 ?_
      refine V_iload C0 0 rfl dX5_readName_36 ?_
      obtain ⟨a15, q16, h⟩ := bn1_some h
      refine V_callV C0 (st := []) (As := [.int v9]) 9 (c_X10_unitAt G.l G.D G.cA G.ad G.bs G.X C0.2.2.2.2.2.2.2.2.2.1 C0.2.2.2.2.2.2.2.2.2.2.2.2 x2 v9 I1 L2 R a15 q16) lc_X10_unitAt lk_X5_137 c_x2.2 c_x2.1 ⟨_, rfl, rfl⟩ rfl (by rw [erm]; decide) (Nat.le_of_ble_eq_true rfl) dX5_readName_38 ?_
      show V G _ 41 [(4, .int v9), (0, .ref (G.ad x0)), (1, .ref (G.ad x1)), (2, .ref (G.ad x2)), (3, .int x3)] [.ref (G.ad a15)] I1 L2 R
      obtain ⟨c17, h⟩ := ite_some h
      refine V_iload_n C0 4 rfl rfl dX5_readName_41 ?_
      obtain ⟨b18, q19, h⟩ := bn1_some h
      refine V_callV C0 (st := []) (As := [.int x3]) 8 (c_X9_is G.l G.D G.cA G.ad G.bs G.X C0.2.2.2.2.2.2.2.2.2.1 C0.2.2.2.2.2.2.2.2.2.2.2.2 a15 x3 I1 L2 R b18 q19) lc_X9_is lk_X5_141 c17.2 c17.1 ⟨_, rfl, rfl⟩ rfl (by rw [erm]; decide) (Nat.le_of_ble_eq_true rfl) dX5_readName_42 ?_
      show V G _ 45 [(4, .int v9), (0, .ref (G.ad x0)), (1, .ref (G.ad x1)), (2, .ref (G.ad x2)), (3, .int x3)] [.int (b2i b18)] I1 L2 R
      refine V_if_ne C0 (tgt := 56) (by decide) dX5_readName_45 (fun c20 => ?_) (fun c20 => ?_)
      · have h := (if_neg c20).symm.trans h
        refine V_iload C0 0 rfl dX5_readName_56 ?_
        cases h
        exact V_iret C0 dX5_readName_58
      · have h := (if_pos c20).symm.trans h
        refine V_aload_n C0 2 rfl rfl dX5_readName_48 ?_
        refine V_iconst C0 (v := (3 : Int32)) (by decide) dX5_readName_49 ?_
        obtain ⟨b21, I22, q23, h⟩ := bn2_some h
        refine V_callV C0 (st := []) (As := [.int (3 : Int32)]) 7 (c_X8_refuse G.l G.D G.cA G.ad G.bs G.X C0.2.2.2.2.2.2.2.2.2.1 C0.2.2.2.2.2.2.2.2.2.2.2.2 x1 (3 : Int32) I1 L2 R b21 I22 q23) lc_X8_refuse lk_X5_57 c_x1.2 c_x1.1 ⟨_, rfl, rfl⟩ rfl (by rw [erm]; decide) (Nat.le_of_ble_eq_true rfl) dX5_readName_50 ?_
        show V G _ 53 [(4, .int v9), (0, .ref (G.ad x0)), (1, .ref (G.ad x1)), (2, .ref (G.ad x2)), (3, .int x3)] [.int (b2i b21)] I22 L2 R
        refine V_pop C0 rfl dX5_readName_53 ?_
        refine V_iconst C0 (v := (-1 : Int32)) (by decide) dX5_readName_54 ?_
        cases h
        exact V_iret C0 dX5_readName_55
  · have h := (if_pos c6).symm.trans h
    refine V_aload_n C0 1 rfl rfl dX5_readName_11 ?_
    refine V_iconst C0 (v := (2 : Int32)) (by decide) dX5_readName_12 ?_
    obtain ⟨b24, I25, q26, h⟩ := bn2_some h
    refine V_callV C0 (st := []) (As := [.int (2 : Int32)]) 7 (c_X8_refuse G.l G.D G.cA G.ad G.bs G.X C0.2.2.2.2.2.2.2.2.2.1 C0.2.2.2.2.2.2.2.2.2.2.2.2 x1 (2 : Int32) I1 L2 R b24 I25 q26) lc_X8_refuse lk_X5_57 c_x1.2 c_x1.1 ⟨_, rfl, rfl⟩ rfl (by rw [erm]; decide) (Nat.le_of_ble_eq_true rfl) dX5_readName_13 ?_
    show V G _ 16 [(0, .ref (G.ad x0)), (1, .ref (G.ad x1)), (2, .ref (G.ad x2)), (3, .int x3)] [.int (b2i b24)] I25 L2 R
    refine V_pop C0 rfl dX5_readName_16 ?_
    refine V_iconst C0 (v := (-1 : Int32)) (by decide) dX5_readName_17 ?_
    cases h
    exact V_iret C0 dX5_readName_18
theorem dX5_readBound_0 : decode cX5_readBound 0 = .ok (.aload_n 1, 1) := by decide +kernel
theorem dX5_readBound_1 : decode cX5_readBound 1 = .ok (.invokevirtual 34, 3) := by decide +kernel
theorem dX5_readBound_4 : decode cX5_readBound 4 = .ok (.aload_n 1, 1) := by decide +kernel
theorem dX5_readBound_5 : decode cX5_readBound 5 = .ok (.bipush 60, 2) := by decide +kernel
theorem dX5_readBound_7 : decode cX5_readBound 7 = .ok (.invokevirtual 119, 3) := by decide +kernel
theorem dX5_readBound_10 : decode cX5_readBound 10 = .ok (.ifCond .ne 18, 3) := by decide +kernel
theorem dX5_readBound_13 : decode cX5_readBound 13 = .ok (.aload_n 1, 1) := by decide +kernel
theorem dX5_readBound_14 : decode cX5_readBound 14 = .ok (.bipush 62, 2) := by decide +kernel
theorem dX5_readBound_16 : decode cX5_readBound 16 = .ok (.invokevirtual 119, 3) := by decide +kernel
theorem dX5_readBound_19 : decode cX5_readBound 19 = .ok (.ifCond .ne 9, 3) := by decide +kernel
theorem dX5_readBound_22 : decode cX5_readBound 22 = .ok (.aload_n 1, 1) := by decide +kernel
theorem dX5_readBound_23 : decode cX5_readBound 23 = .ok (.iconst 2, 1) := by decide +kernel
theorem dX5_readBound_24 : decode cX5_readBound 24 = .ok (.invokevirtual 57, 3) := by decide +kernel
theorem dX5_readBound_27 : decode cX5_readBound 27 = .ok (.ireturn, 1) := by decide +kernel
theorem dX5_readBound_28 : decode cX5_readBound 28 = .ok (.aload_n 2, 1) := by decide +kernel
theorem dX5_readBound_29 : decode cX5_readBound 29 = .ok (.aload_n 1, 1) := by decide +kernel
theorem dX5_readBound_30 : decode cX5_readBound 30 = .ok (.bipush 60, 2) := by decide +kernel
theorem dX5_readBound_32 : decode cX5_readBound 32 = .ok (.invokevirtual 119, 3) := by decide +kernel
theorem dX5_readBound_35 : decode cX5_readBound 35 = .ok (.ifCond .eq 7, 3) := by decide +kernel
theorem dX5_readBound_38 : decode cX5_readBound 38 = .ok (.iconst 2, 1) := by decide +kernel
theorem dX5_readBound_39 : decode cX5_readBound 39 = .ok (.goto 4, 3) := by decide +kernel
theorem dX5_readBound_42 : decode cX5_readBound 42 = .ok (.iconst 3, 1) := by decide +kernel
theorem dX5_readBound_43 : decode cX5_readBound 43 = .ok (.putfield 64, 3) := by decide +kernel
theorem dX5_readBound_46 : decode cX5_readBound 46 = .ok (.aload_n 1, 1) := by decide +kernel
theorem dX5_readBound_47 : decode cX5_readBound 47 = .ok (.invokevirtual 122, 3) := by decide +kernel
theorem dX5_readBound_50 : decode cX5_readBound 50 = .ok (.istore_n 3, 1) := by decide +kernel
theorem dX5_readBound_51 : decode cX5_readBound 51 = .ok (.aload_n 2, 1) := by decide +kernel
theorem dX5_readBound_52 : decode cX5_readBound 52 = .ok (.aload_n 1, 1) := by decide +kernel
theorem dX5_readBound_53 : decode cX5_readBound 53 = .ok (.invokevirtual 70, 3) := by decide +kernel
theorem dX5_readBound_56 : decode cX5_readBound 56 = .ok (.putfield 74, 3) := by decide +kernel
theorem dX5_readBound_59 : decode cX5_readBound 59 = .ok (.iload_n 3, 1) := by decide +kernel
theorem dX5_readBound_60 : decode cX5_readBound 60 = .ok (.ireturn, 1) := by decide +kernel
def F_X5_readBound (N : Nat) (x0 : Nat) (x1 : Nat) (x2 : Nat) (I : MI) (L : ML) (R : MR) : Option (Bool × MI × ML) :=
  if kd x0 = 4 ∧ x0 < NN then
  if kd x1 = 7 ∧ x1 < NN then
  if kd x2 = 3 ∧ x2 < NN then
  bn2 (F_X8_next N x1 I L R) fun I1 L2 =>
  bn1 (F_X8_isSign x1 (60 : Int32) I1 L2 R) fun b4 =>
  if (b2i b4) = 0 then
    bn1 (F_X8_isSign x1 (62 : Int32) I1 L2 R) fun b23 =>
    if (b2i b23) = 0 then
      bn2 (F_X8_refuse x1 (2 : Int32) I1 L2 R) fun b42 I43 =>
      some (b42, I43, L2)
    else
      bn1 (F_X8_isSign x1 (60 : Int32) I1 L2 R) fun b26 =>
      bn1 (
        if (b2i b26) = 0 then
          some ((3 : Int32))
        else
          some ((2 : Int32))
      ) fun (s28 : Int32) =>
      wr (uI I1 x2 0 s28) fun (I32 : MI) =>
      bn3 (F_X8_takeNumber N x1 I32 L2 R) fun b33 I34 L35 =>
      wr (b2i b33) fun (u37 : Int32) =>
      bn1 (F_X8_number x1 I34 L35 R) fun v38 =>
      wr (uI I34 x2 1 v38) fun (I40 : MI) =>
      (z01 u37).bind fun q41 =>
      some (q41, I40, L35)
  else
    bn1 (F_X8_isSign x1 (60 : Int32) I1 L2 R) fun b7 =>
    bn1 (
      if (b2i b7) = 0 then
        some ((3 : Int32))
      else
        some ((2 : Int32))
    ) fun (s9 : Int32) =>
    wr (uI I1 x2 0 s9) fun (I13 : MI) =>
    bn3 (F_X8_takeNumber N x1 I13 L2 R) fun b14 I15 L16 =>
    wr (b2i b14) fun (u18 : Int32) =>
    bn1 (F_X8_number x1 I15 L16 R) fun v19 =>
    wr (uI I15 x2 1 v19) fun (I21 : MI) =>
    (z01 u18).bind fun q22 =>
    some (q22, I21, L16)
  else none
  else none
  else none
set_option maxRecDepth 100000 in
set_option maxHeartbeats 4000000 in
theorem c_X5_readBound (l : Launch) (D : va_G) (cA : Nat → ClassId) (ad : Nat → Nat) (bs : Nat) (X : State → Prop) (hAd : Ax ad bs) (hX : Stb bs X) (N : Nat) (x0 : Nat) (x1 : Nat) (x2 : Nat) (I : MI) (L : ML) (R : MR) (r : Bool) (I' : MI) (L' : ML) (h : F_X5_readBound N x0 x1 x2 I L R = some (r, I', L')) : Cn l D cA ad bs X yX5_readBound cX5_readBound 4 (some .boolean) 4 84 [.ref (ad x0), .ref (ad x1), .ref (ad x2)] I L R (some (.int (b2i r)), I', L', R) := by
  refine Cn.ofV hAd hX [(0, .ref (ad x0)), (1, .ref (ad x1)), (2, .ref (ad x2))] rfl (Nat.le_of_ble_eq_true rfl) (by decide) ?_
  intro G el eD ecA ead ebs eX erm eNL C0
  subst el eD ecA ead ebs eX
  unfold F_X5_readBound at h
  obtain ⟨c_x0, h⟩ := ite_some h
  obtain ⟨c_x1, h⟩ := ite_some h
  obtain ⟨c_x2, h⟩ := ite_some h
  refine V_aload_n C0 1 rfl rfl dX5_readBound_0 ?_
  obtain ⟨I1, L2, q3, h⟩ := bn2_some h
  refine V_callV C0 (st := []) (As := []) 7 (c_X8_next G.l G.D G.cA G.ad G.bs G.X C0.2.2.2.2.2.2.2.2.2.1 C0.2.2.2.2.2.2.2.2.2.2.2.2 N x1 I L R I1 L2 q3) lc_X8_next lk_X5_34 c_x1.2 c_x1.1 ⟨_, rfl, rfl⟩ rfl (by rw [erm]; decide) (Nat.le_of_ble_eq_true rfl) dX5_readBound_1 ?_
  show V G _ 4 [(0, .ref (G.ad x0)), (1, .ref (G.ad x1)), (2, .ref (G.ad x2))] [] I1 L2 R
  refine V_aload_n C0 1 rfl rfl dX5_readBound_4 ?_
  refine V_bipush C0 (v := (60 : Int32)) (by decide) dX5_readBound_5 ?_
  obtain ⟨b4, q5, h⟩ := bn1_some h
  refine V_callV C0 (st := []) (As := [.int (60 : Int32)]) 7 (c_X8_isSign G.l G.D G.cA G.ad G.bs G.X C0.2.2.2.2.2.2.2.2.2.1 C0.2.2.2.2.2.2.2.2.2.2.2.2 x1 (60 : Int32) I1 L2 R b4 q5) lc_X8_isSign lk_X5_119 c_x1.2 c_x1.1 ⟨_, rfl, rfl⟩ rfl (by rw [erm]; decide) (Nat.le_of_ble_eq_true rfl) dX5_readBound_7 ?_
  show V G _ 10 [(0, .ref (G.ad x0)), (1, .ref (G.ad x1)), (2, .ref (G.ad x2))] [.int (b2i b4)] I1 L2 R
  refine V_if_ne C0 (tgt := 28) (by decide) dX5_readBound_10 (fun c6 => ?_) (fun c6 => ?_)
  · have h := (if_neg c6).symm.trans h
    refine V_aload_n C0 2 rfl rfl dX5_readBound_28 ?_
    refine V_aload_n C0 1 rfl rfl dX5_readBound_29 ?_
    refine V_bipush C0 (v := (60 : Int32)) (by decide) dX5_readBound_30 ?_
    obtain ⟨b7, q8, h⟩ := bn1_some h
    refine V_callV C0 (st := [.ref (G.ad x2)]) (As := [.int (60 : Int32)]) 7 (c_X8_isSign G.l G.D G.cA G.ad G.bs G.X C0.2.2.2.2.2.2.2.2.2.1 C0.2.2.2.2.2.2.2.2.2.2.2.2 x1 (60 : Int32) I1 L2 R b7 q8) lc_X8_isSign lk_X5_119 c_x1.2 c_x1.1 ⟨_, rfl, rfl⟩ rfl (by rw [erm]; decide) (Nat.le_of_ble_eq_true rfl) dX5_readBound_32 ?_
    show V G _ 35 [(0, .ref (G.ad x0)), (1, .ref (G.ad x1)), (2, .ref (G.ad x2))] [.int (b2i b7), .ref (G.ad x2)] I1 L2 R
    obtain ⟨s9, q10, h⟩ := bn1_some h
    have k11 : V G (qf G (some (.int (b2i r)), I', L', R)) 43 [(1, .ref (G.ad x1)), (2, .ref (G.ad x2))] [.int s9, .ref (G.ad x2)] I1 L2 R := by
      obtain ⟨I13, eI13, h⟩ := wr_some h
      refine V_putI C0 3 0 fp_X5_64 c_x2.2 c_x2.1 rfl dX5_readBound_43 ?_
      rw [← eI13]
      refine V_aload_n C0 0 rfl rfl dX5_readBound_46 ?_
      obtain ⟨b14, I15, L16, q17, h⟩ := bn3_some h
      refine V_callV C0 (st := []) (As := []) 7 (c_X8_takeNumber G.l G.D G.cA G.ad G.bs G.X C0.2.2.2.2.2.2.2.2.2.1 C0.2.2.2.2.2.2.2.2.2.2.2.2 N x1 I13 L2 R b14 I15 L16 q17) lc_X8_takeNumber lk_X5_122 c_x1.2 c_x1.1 ⟨_, rfl, rfl⟩ rfl (by rw [erm]; decide) (Nat.le_of_ble_eq_true rfl) dX5_readBound_47 ?_
      show V G _ 50 [(1, .ref (G.ad x1)), (2, .ref (G.ad x2))] [.int (b2i b14)] I15 L16 R
      obtain ⟨u18, eu18, h⟩ := wr_some h
      rw [← eu18]
      refine V_istore_n C0 [(3, .int u18), (1, .ref (G.ad x1)), (2, .ref (G.ad x2))] rfl (by rw [eNL]; decide) rfl dX5_readBound_50 ?_
      refine V_aload_n C0 2 rfl rfl dX5_readBound_51 ?_
      refine V_aload_n C0 1 rfl rfl dX5_readBound_52 ?_
      obtain ⟨v19, q20, h⟩ := bn1_some h
      refine V_callV C0 (st := [.ref (G.ad x2)]) (As := []) 7 (c_X8_number G.l G.D G.cA G.ad G.bs G.X C0.2.2.2.2.2.2.2.2.2.1 C0.2.2.2.2.2.2.2.2.2.2.2.2 x1 I15 L16 R v19 q20) lc_X8_number lk_X5_70 c_x1.2 c_x1.1 ⟨_, rfl, rfl⟩ rfl (by rw [erm]; decide) (Nat.le_of_ble_eq_true rfl) dX5_readBound_53 ?_
      show V G _ 56 [(3, .int u18), (1, .ref (G.ad x1)), (2, .ref (G.ad x2))] [.int v19, .ref (G.ad x2)] I15 L16 R
      obtain ⟨I21, eI21, h⟩ := wr_some h
      refine V_putI C0 3 1 fp_X5_74 c_x2.2 c_x2.1 rfl dX5_readBound_56 ?_
      rw [← eI21]
      refine V_iload_n C0 0 rfl rfl dX5_readBound_59 ?_
      obtain ⟨q22, qq22, h⟩ := bnd_some h
      rw [z01_b qq22]
      cases h
      exact V_zret C0 (b2i01 _) dX5_readBound_60
    refine V_if_eq C0 (tgt := 42) (by decide) dX5_readBound_35 (fun c12 => ?_) (fun c12 => ?_)
    · have q10 := (if_pos c12).symm.trans q10
      refine V_iconst C0 (v := (3 : Int32)) (by decide) dX5_readBound_42 ?_
      cases q10
      exact V_sub [1, 2] rfl k11
    · have q10 := (if_neg c12).symm.trans q10
      refine V_iconst C0 (v := (2 : Int32)) (by decide) dX5_readBound_38 ?_
      refine V_goto C0 (tgt := 43) (by decide) dX5_readBound_39 ?_
      cases q10
      exact V_sub [1, 2] rfl k11
  · have h := (if_pos c6).symm.trans h
    refine V_aload_n C0 1 rfl rfl dX5_readBound_13 ?_
    refine V_bipush C0 (v := (62 : Int32)) (by decide) dX5_readBound_14 ?_
    obtain ⟨b23, q24, h⟩ := bn1_some h
    refine V_callV C0 (st := []) (As := [.int (62 : Int32)]) 7 (c_X8_isSign G.l G.D G.cA G.ad G.bs G.X C0.2.2.2.2.2.2.2.2.2.1 C0.2.2.2.2.2.2.2.2.2.2.2.2 x1 (62 : Int32) I1 L2 R b23 q24) lc_X8_isSign lk_X5_119 c_x1.2 c_x1.1 ⟨_, rfl, rfl⟩ rfl (by rw [erm]; decide) (Nat.le_of_ble_eq_true rfl) dX5_readBound_16 ?_
    show V G _ 19 [(0, .ref (G.ad x0)), (1, .ref (G.ad x1)), (2, .ref (G.ad x2))] [.int (b2i b23)] I1 L2 R
    refine V_if_ne C0 (tgt := 28) (by decide) dX5_readBound_19 (fun c25 => ?_) (fun c25 => ?_)
    · have h := (if_neg c25).symm.trans h
      refine V_aload_n C0 2 rfl rfl dX5_readBound_28 ?_
      refine V_aload_n C0 1 rfl rfl dX5_readBound_29 ?_
      refine V_bipush C0 (v := (60 : Int32)) (by decide) dX5_readBound_30 ?_
      obtain ⟨b26, q27, h⟩ := bn1_some h
      refine V_callV C0 (st := [.ref (G.ad x2)]) (As := [.int (60 : Int32)]) 7 (c_X8_isSign G.l G.D G.cA G.ad G.bs G.X C0.2.2.2.2.2.2.2.2.2.1 C0.2.2.2.2.2.2.2.2.2.2.2.2 x1 (60 : Int32) I1 L2 R b26 q27) lc_X8_isSign lk_X5_119 c_x1.2 c_x1.1 ⟨_, rfl, rfl⟩ rfl (by rw [erm]; decide) (Nat.le_of_ble_eq_true rfl) dX5_readBound_32 ?_
      show V G _ 35 [(0, .ref (G.ad x0)), (1, .ref (G.ad x1)), (2, .ref (G.ad x2))] [.int (b2i b26), .ref (G.ad x2)] I1 L2 R
      obtain ⟨s28, q29, h⟩ := bn1_some h
      have k30 : V G (qf G (some (.int (b2i r)), I', L', R)) 43 [(1, .ref (G.ad x1)), (2, .ref (G.ad x2))] [.int s28, .ref (G.ad x2)] I1 L2 R := by
        obtain ⟨I32, eI32, h⟩ := wr_some h
        refine V_putI C0 3 0 fp_X5_64 c_x2.2 c_x2.1 rfl dX5_readBound_43 ?_
        rw [← eI32]
        refine V_aload_n C0 0 rfl rfl dX5_readBound_46 ?_
        obtain ⟨b33, I34, L35, q36, h⟩ := bn3_some h
        refine V_callV C0 (st := []) (As := []) 7 (c_X8_takeNumber G.l G.D G.cA G.ad G.bs G.X C0.2.2.2.2.2.2.2.2.2.1 C0.2.2.2.2.2.2.2.2.2.2.2.2 N x1 I32 L2 R b33 I34 L35 q36) lc_X8_takeNumber lk_X5_122 c_x1.2 c_x1.1 ⟨_, rfl, rfl⟩ rfl (by rw [erm]; decide) (Nat.le_of_ble_eq_true rfl) dX5_readBound_47 ?_
        show V G _ 50 [(1, .ref (G.ad x1)), (2, .ref (G.ad x2))] [.int (b2i b33)] I34 L35 R
        obtain ⟨u37, eu37, h⟩ := wr_some h
        rw [← eu37]
        refine V_istore_n C0 [(3, .int u37), (1, .ref (G.ad x1)), (2, .ref (G.ad x2))] rfl (by rw [eNL]; decide) rfl dX5_readBound_50 ?_
        refine V_aload_n C0 2 rfl rfl dX5_readBound_51 ?_
        refine V_aload_n C0 1 rfl rfl dX5_readBound_52 ?_
        obtain ⟨v38, q39, h⟩ := bn1_some h
        refine V_callV C0 (st := [.ref (G.ad x2)]) (As := []) 7 (c_X8_number G.l G.D G.cA G.ad G.bs G.X C0.2.2.2.2.2.2.2.2.2.1 C0.2.2.2.2.2.2.2.2.2.2.2.2 x1 I34 L35 R v38 q39) lc_X8_number lk_X5_70 c_x1.2 c_x1.1 ⟨_, rfl, rfl⟩ rfl (by rw [erm]; decide) (Nat.le_of_ble_eq_true rfl) dX5_readBound_53 ?_
        show V G _ 56 [(3, .int u37), (1, .ref (G.ad x1)), (2, .ref (G.ad x2))] [.int v38, .ref (G.ad x2)] I34 L35 R
        obtain ⟨I40, eI40, h⟩ := wr_some h
        refine V_putI C0 3 1 fp_X5_74 c_x2.2 c_x2.1 rfl dX5_readBound_56 ?_
        rw [← eI40]
        refine V_iload_n C0 0 rfl rfl dX5_readBound_59 ?_
        obtain ⟨q41, qq41, h⟩ := bnd_some h
        rw [z01_b qq41]
        cases h
        exact V_zret C0 (b2i01 _) dX5_readBound_60
      refine V_if_eq C0 (tgt := 42) (by decide) dX5_readBound_35 (fun c31 => ?_) (fun c31 => ?_)
      · have q29 := (if_pos c31).symm.trans q29
        refine V_iconst C0 (v := (3 : Int32)) (by decide) dX5_readBound_42 ?_
        cases q29
        exact V_sub [1, 2] rfl k30
      · have q29 := (if_neg c31).symm.trans q29
        refine V_iconst C0 (v := (2 : Int32)) (by decide) dX5_readBound_38 ?_
        refine V_goto C0 (tgt := 43) (by decide) dX5_readBound_39 ?_
        cases q29
        exact V_sub [1, 2] rfl k30
    · have h := (if_pos c25).symm.trans h
      refine V_aload_n C0 1 rfl rfl dX5_readBound_22 ?_
      refine V_iconst C0 (v := (2 : Int32)) (by decide) dX5_readBound_23 ?_
      obtain ⟨b42, I43, q44, h⟩ := bn2_some h
      refine V_callV C0 (st := []) (As := [.int (2 : Int32)]) 7 (c_X8_refuse G.l G.D G.cA G.ad G.bs G.X C0.2.2.2.2.2.2.2.2.2.1 C0.2.2.2.2.2.2.2.2.2.2.2.2 x1 (2 : Int32) I1 L2 R b42 I43 q44) lc_X8_refuse lk_X5_57 c_x1.2 c_x1.1 ⟨_, rfl, rfl⟩ rfl (by rw [erm]; decide) (Nat.le_of_ble_eq_true rfl) dX5_readBound_24 ?_
      show V G _ 27 [(0, .ref (G.ad x0)), (1, .ref (G.ad x1)), (2, .ref (G.ad x2))] [.int (b2i b42)] I43 L2 R
      cases h
      exact V_zret C0 (b2i01 _) dX5_readBound_27
theorem dX7_value_0 : decode cX7_value 0 = .ok (.iload_n 1, 1) := by decide +kernel
theorem dX7_value_1 : decode cX7_value 1 = .ok (.iconst 3, 1) := by decide +kernel
theorem dX7_value_2 : decode cX7_value 2 = .ok (.if_icmp .ge 9, 3) := by decide +kernel
theorem dX7_value_5 : decode cX7_value 5 = .ok (.aload_n 0, 1) := by decide +kernel
theorem dX7_value_6 : decode cX7_value 6 = .ok (.iload_n 1, 1) := by decide +kernel
theorem dX7_value_7 : decode cX7_value 7 = .ok (.invokevirtual 25, 3) := by decide +kernel
theorem dX7_value_10 : decode cX7_value 10 = .ok (.ireturn, 1) := by decide +kernel
theorem dX7_value_11 : decode cX7_value 11 = .ok (.iload_n 1, 1) := by decide +kernel
theorem dX7_value_12 : decode cX7_value 12 = .ok (.bipush 6, 2) := by decide +kernel
theorem dX7_value_14 : decode cX7_value 14 = .ok (.if_icmp .ge 13, 3) := by decide +kernel
theorem dX7_value_17 : decode cX7_value 17 = .ok (.aload_n 0, 1) := by decide +kernel
theorem dX7_value_18 : decode cX7_value 18 = .ok (.iload_n 1, 1) := by decide +kernel
theorem dX7_value_19 : decode cX7_value 19 = .ok (.iconst 3, 1) := by decide +kernel
theorem dX7_value_20 : decode cX7_value 20 = .ok (.isub, 1) := by decide +kernel
theorem dX7_value_21 : decode cX7_value 21 = .ok (.invokevirtual 29, 3) := by decide +kernel
theorem dX7_value_24 : decode cX7_value 24 = .ok (.goto 11, 3) := by decide +kernel
theorem dX7_value_27 : decode cX7_value 27 = .ok (.aload_n 0, 1) := by decide +kernel
theorem dX7_value_28 : decode cX7_value 28 = .ok (.iload_n 1, 1) := by decide +kernel
theorem dX7_value_29 : decode cX7_value 29 = .ok (.bipush 6, 2) := by decide +kernel
theorem dX7_value_31 : decode cX7_value 31 = .ok (.isub, 1) := by decide +kernel
theorem dX7_value_32 : decode cX7_value 32 = .ok (.invokevirtual 32, 3) := by decide +kernel
theorem dX7_value_35 : decode cX7_value 35 = .ok (.ireturn, 1) := by decide +kernel
def F_X7_value (x0 : Nat) (x1 : Int32) (I : MI) (L : ML) (R : MR) : Option (Int32) :=
  if kd x0 = 6 ∧ x0 < NN then
  if (3 : Int32) ≤ x1 then
    if (6 : Int32) ≤ x1 then
      bn1 (F_X7_aim x0 (x1 - (6 : Int32)) I L R) fun v3 =>
      some (v3)
    else
      bn1 (F_X7_rate x0 (x1 - (3 : Int32)) I L R) fun v5 =>
      some (v5)
  else
    bn1 (F_X7_angle x0 x1 I L R) fun v7 =>
    some (v7)
  else none
set_option maxRecDepth 100000 in
set_option maxHeartbeats 4000000 in
theorem c_X7_value (l : Launch) (D : va_G) (cA : Nat → ClassId) (ad : Nat → Nat) (bs : Nat) (X : State → Prop) (hAd : Ax ad bs) (hX : Stb bs X) (x0 : Nat) (x1 : Int32) (I : MI) (L : ML) (R : MR) (r : Int32) (h : F_X7_value x0 x1 I L R = some (r)) : Cn l D cA ad bs X yX7_value cX7_value 2 (some .int) 1 21 [.ref (ad x0), .int x1] I L R (some (.int r), I, L, R) := by
  refine Cn.ofV hAd hX [(0, .ref (ad x0)), (1, .int x1)] rfl (Nat.le_of_ble_eq_true rfl) (by decide) ?_
  intro G el eD ecA ead ebs eX erm eNL C0
  subst el eD ecA ead ebs eX
  unfold F_X7_value at h
  obtain ⟨c_x0, h⟩ := ite_some h
  refine V_iload_n C0 1 rfl rfl dX7_value_0 ?_
  refine V_iconst C0 (v := (3 : Int32)) (by decide) dX7_value_1 ?_
  refine V_icmp_ge C0 (tgt := 11) (by decide) dX7_value_2 (fun c1 => ?_) (fun c1 => ?_)
  · have h := (if_pos c1).symm.trans h
    refine V_iload_n C0 1 rfl rfl dX7_value_11 ?_
    refine V_bipush C0 (v := (6 : Int32)) (by decide) dX7_value_12 ?_
    refine V_icmp_ge C0 (tgt := 27) (by decide) dX7_value_14 (fun c2 => ?_) (fun c2 => ?_)
    · have h := (if_pos c2).symm.trans h
      refine V_aload_n C0 0 rfl rfl dX7_value_27 ?_
      refine V_iload_n C0 1 rfl rfl dX7_value_28 ?_
      refine V_bipush C0 (v := (6 : Int32)) (by decide) dX7_value_29 ?_
      refine V_isub C0 dX7_value_31 ?_
      obtain ⟨v3, q4, h⟩ := bn1_some h
      refine V_callV C0 (st := []) (As := [.int (x1 - (6 : Int32))]) 6 (c_X7_aim G.l G.D G.cA G.ad G.bs G.X C0.2.2.2.2.2.2.2.2.2.1 C0.2.2.2.2.2.2.2.2.2.2.2.2 x0 (x1 - (6 : Int32)) I L R v3 q4) lc_X7_aim lk_X7_32 c_x0.2 c_x0.1 ⟨_, rfl, rfl⟩ rfl (by rw [erm]; decide) (Nat.le_of_ble_eq_true rfl) dX7_value_32 ?_
      show V G _ 35 [(0, .ref (G.ad x0)), (1, .int x1)] [.int v3] I L R
      cases h
      exact V_iret C0 dX7_value_35
    · have h := (if_neg c2).symm.trans h
      refine V_aload_n C0 0 rfl rfl dX7_value_17 ?_
      refine V_iload_n C0 1 rfl rfl dX7_value_18 ?_
      refine V_iconst C0 (v := (3 : Int32)) (by decide) dX7_value_19 ?_
      refine V_isub C0 dX7_value_20 ?_
      obtain ⟨v5, q6, h⟩ := bn1_some h
      refine V_callV C0 (st := []) (As := [.int (x1 - (3 : Int32))]) 6 (c_X7_rate G.l G.D G.cA G.ad G.bs G.X C0.2.2.2.2.2.2.2.2.2.1 C0.2.2.2.2.2.2.2.2.2.2.2.2 x0 (x1 - (3 : Int32)) I L R v5 q6) lc_X7_rate lk_X7_29 c_x0.2 c_x0.1 ⟨_, rfl, rfl⟩ rfl (by rw [erm]; decide) (Nat.le_of_ble_eq_true rfl) dX7_value_21 ?_
      show V G _ 24 [(0, .ref (G.ad x0)), (1, .int x1)] [.int v5] I L R
      refine V_goto C0 (tgt := 35) (by decide) dX7_value_24 ?_
      cases h
      exact V_iret C0 dX7_value_35
  · have h := (if_neg c1).symm.trans h
    refine V_aload_n C0 0 rfl rfl dX7_value_5 ?_
    refine V_iload_n C0 1 rfl rfl dX7_value_6 ?_
    obtain ⟨v7, q8, h⟩ := bn1_some h
    refine V_callV C0 (st := []) (As := [.int x1]) 6 (c_X7_angle G.l G.D G.cA G.ad G.bs G.X C0.2.2.2.2.2.2.2.2.2.1 C0.2.2.2.2.2.2.2.2.2.2.2.2 x0 x1 I L R v7 q8) lc_X7_angle lk_X7_25 c_x0.2 c_x0.1 ⟨_, rfl, rfl⟩ rfl (by rw [erm]; decide) (Nat.le_of_ble_eq_true rfl) dX7_value_7 ?_
    show V G _ 10 [(0, .ref (G.ad x0)), (1, .int x1)] [.int v7] I L R
    cases h
    exact V_iret C0 dX7_value_10
theorem dX8_size_0 : decode cX8_size 0 = .ok (.aload_n 0, 1) := by decide +kernel
theorem dX8_size_1 : decode cX8_size 1 = .ok (.getfield 19, 3) := by decide +kernel
theorem dX8_size_4 : decode cX8_size 4 = .ok (.ireturn, 1) := by decide +kernel
def F_X8_size (x0 : Nat) (I : MI) (L : ML) (R : MR) : Option (Int32) :=
  if kd x0 = 7 ∧ x0 < NN then
  some ((I x0 1))
  else none
set_option maxRecDepth 100000 in
set_option maxHeartbeats 4000000 in
theorem c_X8_size (l : Launch) (D : va_G) (cA : Nat → ClassId) (ad : Nat → Nat) (bs : Nat) (X : State → Prop) (hAd : Ax ad bs) (hX : Stb bs X) (x0 : Nat) (I : MI) (L : ML) (R : MR) (r : Int32) (h : F_X8_size x0 I L R = some (r)) : Cn l D cA ad bs X yX8_size cX8_size 1 (some .int) 0 0 [.ref (ad x0)] I L R (some (.int r), I, L, R) := by
  refine Cn.ofV hAd hX [(0, .ref (ad x0))] rfl (Nat.le_of_ble_eq_true rfl) (by decide) ?_
  intro G el eD ecA ead ebs eX erm eNL C0
  subst el eD ecA ead ebs eX
  unfold F_X8_size at h
  obtain ⟨c_x0, h⟩ := ite_some h
  refine V_aload_n C0 0 rfl rfl dX8_size_0 ?_
  refine V_getI C0 7 1 fl_X8_19 c_x0.2 c_x0.1 rfl dX8_size_1 ?_
  cases h
  exact V_iret C0 dX8_size_4
theorem dX8_empty_0 : decode cX8_empty 0 = .ok (.aload_n 0, 1) := by decide +kernel
theorem dX8_empty_1 : decode cX8_empty 1 = .ok (.iconst 0, 1) := by decide +kernel
theorem dX8_empty_2 : decode cX8_empty 2 = .ok (.putfield 19, 3) := by decide +kernel
theorem dX8_empty_5 : decode cX8_empty 5 = .ok (.return_, 1) := by decide +kernel
def F_X8_empty (x0 : Nat) (I : MI) (L : ML) (R : MR) : Option (MI) :=
  if kd x0 = 7 ∧ x0 < NN then
  wr (uI I x0 1 (0 : Int32)) fun (I1 : MI) =>
  some (I1)
  else none
set_option maxRecDepth 100000 in
set_option maxHeartbeats 4000000 in
theorem c_X8_empty (l : Launch) (D : va_G) (cA : Nat → ClassId) (ad : Nat → Nat) (bs : Nat) (X : State → Prop) (hAd : Ax ad bs) (hX : Stb bs X) (x0 : Nat) (I : MI) (L : ML) (R : MR) (I' : MI) (h : F_X8_empty x0 I L R = some (I')) : Cn l D cA ad bs X yX8_empty cX8_empty 1 none 0 0 [.ref (ad x0)] I L R (none, I', L, R) := by
  refine Cn.ofV hAd hX [(0, .ref (ad x0))] rfl (Nat.le_of_ble_eq_true rfl) (by decide) ?_
  intro G el eD ecA ead ebs eX erm eNL C0
  subst el eD ecA ead ebs eX
  unfold F_X8_empty at h
  obtain ⟨c_x0, h⟩ := ite_some h
  refine V_aload_n C0 0 rfl rfl dX8_empty_0 ?_
  refine V_iconst C0 (v := (0 : Int32)) (by decide) dX8_empty_1 ?_
  obtain ⟨I1, eI1, h⟩ := wr_some h
  refine V_putI C0 7 1 fp_X8_19 c_x0.2 c_x0.1 rfl dX8_empty_2 ?_
  rw [← eI1]
  cases h
  exact V_vret C0 dX8_empty_5
theorem dX8_hasPlaceFor_0 : decode cX8_hasPlaceFor 0 = .ok (.aload_n 0, 1) := by decide +kernel
theorem dX8_hasPlaceFor_1 : decode cX8_hasPlaceFor 1 = .ok (.getfield 19, 3) := by decide +kernel
theorem dX8_hasPlaceFor_4 : decode cX8_hasPlaceFor 4 = .ok (.iload_n 1, 1) := by decide +kernel
theorem dX8_hasPlaceFor_5 : decode cX8_hasPlaceFor 5 = .ok (.iadd, 1) := by decide +kernel
theorem dX8_hasPlaceFor_6 : decode cX8_hasPlaceFor 6 = .ok (.sipush 4000, 3) := by decide +kernel
theorem dX8_hasPlaceFor_9 : decode cX8_hasPlaceFor 9 = .ok (.if_icmp .gt 7, 3) := by decide +kernel
theorem dX8_hasPlaceFor_12 : decode cX8_hasPlaceFor 12 = .ok (.iconst 1, 1) := by decide +kernel
theorem dX8_hasPlaceFor_13 : decode cX8_hasPlaceFor 13 = .ok (.goto 4, 3) := by decide +kernel
theorem dX8_hasPlaceFor_16 : decode cX8_hasPlaceFor 16 = .ok (.iconst 0, 1) := by decide +kernel
theorem dX8_hasPlaceFor_17 : decode cX8_hasPlaceFor 17 = .ok (.ireturn, 1) := by decide +kernel
def F_X8_hasPlaceFor (x0 : Nat) (x1 : Int32) (I : MI) (L : ML) (R : MR) : Option (Bool) :=
  if kd x0 = 7 ∧ x0 < NN then
  if (4000 : Int32) < ((I x0 1) + x1) then
    some (false)
  else
    some (true)
  else none
set_option maxRecDepth 100000 in
set_option maxHeartbeats 4000000 in
theorem c_X8_hasPlaceFor (l : Launch) (D : va_G) (cA : Nat → ClassId) (ad : Nat → Nat) (bs : Nat) (X : State → Prop) (hAd : Ax ad bs) (hX : Stb bs X) (x0 : Nat) (x1 : Int32) (I : MI) (L : ML) (R : MR) (r : Bool) (h : F_X8_hasPlaceFor x0 x1 I L R = some (r)) : Cn l D cA ad bs X yX8_hasPlaceFor cX8_hasPlaceFor 2 (some .boolean) 0 0 [.ref (ad x0), .int x1] I L R (some (.int (b2i r)), I, L, R) := by
  refine Cn.ofV hAd hX [(0, .ref (ad x0)), (1, .int x1)] rfl (Nat.le_of_ble_eq_true rfl) (by decide) ?_
  intro G el eD ecA ead ebs eX erm eNL C0
  subst el eD ecA ead ebs eX
  unfold F_X8_hasPlaceFor at h
  obtain ⟨c_x0, h⟩ := ite_some h
  refine V_aload_n C0 0 rfl rfl dX8_hasPlaceFor_0 ?_
  refine V_getI C0 7 1 fl_X8_19 c_x0.2 c_x0.1 rfl dX8_hasPlaceFor_1 ?_
  refine V_iload_n C0 1 rfl rfl dX8_hasPlaceFor_4 ?_
  refine V_iadd C0 dX8_hasPlaceFor_5 ?_
  refine V_sipush C0 (v := (4000 : Int32)) (by decide) dX8_hasPlaceFor_6 ?_
  refine V_icmp_gt C0 (tgt := 16) (by decide) dX8_hasPlaceFor_9 (fun c1 => ?_) (fun c1 => ?_)
  · have h := (if_pos c1).symm.trans h
    refine V_iconst C0 (v := (0 : Int32)) (by decide) dX8_hasPlaceFor_16 ?_
    cases h
    exact V_zret C0 (by decide) dX8_hasPlaceFor_17
  · have h := (if_neg c1).symm.trans h
    refine V_iconst C0 (v := (1 : Int32)) (by decide) dX8_hasPlaceFor_12 ?_
    refine V_goto C0 (tgt := 17) (by decide) dX8_hasPlaceFor_13 ?_
    cases h
    exact V_zret C0 (by decide) dX8_hasPlaceFor_17
theorem dX8_append_0 : decode cX8_append 0 = .ok (.bipush 24, 2) := by decide +kernel
theorem dX8_append_2 : decode cX8_append 2 = .ok (.istore_n 2, 1) := by decide +kernel
theorem dX8_append_3 : decode cX8_append 3 = .ok (.iload_n 2, 1) := by decide +kernel
theorem dX8_append_4 : decode cX8_append 4 = .ok (.ifCond .lt 47, 3) := by decide +kernel
theorem dX8_append_7 : decode cX8_append 7 = .ok (.aload_n 0, 1) := by decide +kernel
theorem dX8_append_8 : decode cX8_append 8 = .ok (.getfield 19, 3) := by decide +kernel
theorem dX8_append_11 : decode cX8_append 11 = .ok (.aload_n 0, 1) := by decide +kernel
theorem dX8_append_12 : decode cX8_append 12 = .ok (.getfield 11, 3) := by decide +kernel
theorem dX8_append_15 : decode cX8_append 15 = .ok (.arraylength, 1) := by decide +kernel
theorem dX8_append_16 : decode cX8_append 16 = .ok (.if_icmp .ge 35, 3) := by decide +kernel
theorem dX8_append_19 : decode cX8_append 19 = .ok (.aload_n 0, 1) := by decide +kernel
theorem dX8_append_20 : decode cX8_append 20 = .ok (.getfield 11, 3) := by decide +kernel
theorem dX8_append_23 : decode cX8_append 23 = .ok (.aload_n 0, 1) := by decide +kernel
theorem dX8_append_24 : decode cX8_append 24 = .ok (.getfield 19, 3) := by decide +kernel
theorem dX8_append_27 : decode cX8_append 27 = .ok (.iload_n 1, 1) := by decide +kernel
theorem dX8_append_28 : decode cX8_append 28 = .ok (.iload_n 2, 1) := by decide +kernel
theorem dX8_append_29 : decode cX8_append 29 = .ok (.iushr, 1) := by decide +kernel
theorem dX8_append_30 : decode cX8_append 30 = .ok (.sipush 255, 3) := by decide +kernel
theorem dX8_append_33 : decode cX8_append 33 = .ok (.iand, 1) := by decide +kernel
theorem dX8_append_34 : decode cX8_append 34 = .ok (.iastore, 1) := by decide +kernel
theorem dX8_append_35 : decode cX8_append 35 = .ok (.aload_n 0, 1) := by decide +kernel
theorem dX8_append_36 : decode cX8_append 36 = .ok (.dup, 1) := by decide +kernel
theorem dX8_append_37 : decode cX8_append 37 = .ok (.getfield 19, 3) := by decide +kernel
theorem dX8_append_40 : decode cX8_append 40 = .ok (.iconst 1, 1) := by decide +kernel
theorem dX8_append_41 : decode cX8_append 41 = .ok (.iadd, 1) := by decide +kernel
theorem dX8_append_42 : decode cX8_append 42 = .ok (.putfield 19, 3) := by decide +kernel
theorem dX8_append_45 : decode cX8_append 45 = .ok (.iinc 2 (-8), 3) := by decide +kernel
theorem dX8_append_48 : decode cX8_append 48 = .ok (.goto (-45), 3) := by decide +kernel
theorem dX8_append_51 : decode cX8_append 51 = .ok (.return_, 1) := by decide +kernel
def LF_X8_append_3 (N : Nat) : Nat → Nat → Int32 → Int32 → MI → ML → MR → Option (MI)
  | 0, _, _, _, _, _, _ => none
  | k + 1, y0, y1, y2, I, L, R =>
    if y2 < 0 then
      some (I)
    else
      (rf R y0 0 20).bind fun a2 =>
      if (Int32.ofNat (ln a2)) ≤ (I y0 1) then
        some (I)
      else
        (wi I a2 (I y0 1) ((iU y1 y2) &&& (255 : Int32))).bind fun I4 =>
        wr (uI I4 y0 1 ((I4 y0 1) + (1 : Int32))) fun (I5 : MI) =>
        wr (y2 + (-8 : Int32)) fun (u6 : Int32) =>
        LF_X8_append_3 N k y0 y1 u6 I5 L R
def F_X8_append (N : Nat) (x0 : Nat) (x1 : Int32) (I : MI) (L : ML) (R : MR) : Option (MI) :=
  if kd x0 = 7 ∧ x0 < NN then
  bn1 (LF_X8_append_3 N N x0 x1 (24 : Int32) I L R) fun z7 =>
  some (z7)
  else none
set_option maxRecDepth 100000 in
set_option maxHeartbeats 4000000 in
theorem lp_X8_append_3 {G : Gm} (C0 : Cx G (yX8_append.cls) cX8_append none) (eNL : G.nL = 3) (erm : G.rm = ({ frames := 0, cells := 0, slots := 0, locals := 0 } : Room)) (N : Nat) : ∀ (k : Nat) (y0 : Nat) (y1 : Int32) (y2 : Int32) (I : MI) (L : ML) (R : MR) (z : MI) (hk0 : kd y0 = 7) (ho0 : y0 < NN), LF_X8_append_3 N k y0 y1 y2 I L R = some z → ∀ f : State → Prop, V G f 51 [] [] z L R → V G f 3 [(0, .ref (G.ad y0)), (1, .int y1), (2, .int y2)] [] I L R := by
  intro k
  induction k with
  | zero =>
    intro y0 y1 y2 I L R q hk0 ho0 h
    exact absurd h (by simp [LF_X8_append_3])
  | succ k ih =>
    intro y0 y1 y2 I L R q hk0 ho0 h f kx
    rw [LF_X8_append_3] at h
    refine V_iload_n C0 2 rfl rfl dX8_append_3 ?_
    refine V_if_lt C0 (tgt := 51) (by decide) dX8_append_4 (fun c1 => ?_) (fun c1 => ?_)
    · have h := (if_pos c1).symm.trans h
      cases h
      exact V_sub [] rfl kx
    · have h := (if_neg c1).symm.trans h
      refine V_aload_n C0 0 rfl rfl dX8_append_7 ?_
      refine V_getI C0 7 1 fl_X8_19 ho0 hk0 rfl dX8_append_8 ?_
      refine V_aload_n C0 0 rfl rfl dX8_append_11 ?_
      obtain ⟨a2, qa2, h⟩ := bnd_some h
      refine V_getR C0 7 0 fl_X8_11 ho0 hk0 rfl (rf_at qa2) dX8_append_12 ?_
      refine V_alen C0 (v := Int32.ofNat (ln a2)) (rf_lt qa2) (by rw [(rf_kd qa2)]; decide) rfl dX8_append_15 ?_
      refine V_icmp_ge C0 (tgt := 51) (by decide) dX8_append_16 (fun c3 => ?_) (fun c3 => ?_)
      · have h := (if_pos c3).symm.trans h
        cases h
        exact V_sub [] rfl kx
      · have h := (if_neg c3).symm.trans h
        refine V_aload_n C0 0 rfl rfl dX8_append_19 ?_
        refine V_getR C0 7 0 fl_X8_11 ho0 hk0 rfl (rf_at qa2) dX8_append_20 ?_
        refine V_aload_n C0 0 rfl rfl dX8_append_23 ?_
        refine V_getI C0 7 1 fl_X8_19 ho0 hk0 rfl dX8_append_24 ?_
        refine V_iload_n C0 1 rfl rfl dX8_append_27 ?_
        refine V_iload_n C0 2 rfl rfl dX8_append_28 ?_
        refine V_iushr C0 dX8_append_29 ?_
        refine V_sipush C0 (v := (255 : Int32)) (by decide) dX8_append_30 ?_
        refine V_iand C0 dX8_append_33 ?_
        obtain ⟨I4, qI4, h⟩ := bnd_some h
        refine V_wi C0 (rf_lt qa2) (rf_kd qa2) qI4 dX8_append_34 ?_
        refine V_aload_n C0 0 rfl rfl dX8_append_35 ?_
        refine V_dup C0 rfl dX8_append_36 ?_
        refine V_getI C0 7 1 fl_X8_19 ho0 hk0 rfl dX8_append_37 ?_
        refine V_iconst C0 (v := (1 : Int32)) (by decide) dX8_append_40 ?_
        refine V_iadd C0 dX8_append_41 ?_
        obtain ⟨I5, eI5, h⟩ := wr_some h
        refine V_putI C0 7 1 fp_X8_19 ho0 hk0 rfl dX8_append_42 ?_
        rw [← eI5]
        obtain ⟨u6, eu6, h⟩ := wr_some h
        refine V_iinc C0 2 [(2, .int u6), (0, .ref (G.ad y0)), (1, .int y1)] rfl (n := -8) (by rw [eu6]; rfl) (by rw [eNL]; decide) rfl dX8_append_45 ?_
        refine V_goto C0 (tgt := 3) (by decide) dX8_append_48 ?_
        exact V_sub [1, 2, 0] rfl (ih y0 y1 u6 I5 L R _ hk0 ho0 h f kx)
set_option maxRecDepth 100000 in
set_option maxHeartbeats 4000000 in
theorem c_X8_append (l : Launch) (D : va_G) (cA : Nat → ClassId) (ad : Nat → Nat) (bs : Nat) (X : State → Prop) (hAd : Ax ad bs) (hX : Stb bs X) (N : Nat) (x0 : Nat) (x1 : Int32) (I : MI) (L : ML) (R : MR) (I' : MI) (h : F_X8_append N x0 x1 I L R = some (I')) : Cn l D cA ad bs X yX8_append cX8_append 3 none 0 0 [.ref (ad x0), .int x1] I L R (none, I', L, R) := by
  refine Cn.ofV hAd hX [(0, .ref (ad x0)), (1, .int x1)] rfl (Nat.le_of_ble_eq_true rfl) (by decide) ?_
  intro G el eD ecA ead ebs eX erm eNL C0
  subst el eD ecA ead ebs eX
  unfold F_X8_append at h
  obtain ⟨c_x0, h⟩ := ite_some h
  refine V_bipush C0 (v := (24 : Int32)) (by decide) dX8_append_0 ?_
  refine V_istore_n C0 [(2, .int (24 : Int32)), (0, .ref (G.ad x0)), (1, .int x1)] rfl (by rw [eNL]; decide) rfl dX8_append_2 ?_
  obtain ⟨z7, q8, h⟩ := bn1_some h
  refine V_sub [1, 2, 0] rfl (lp_X8_append_3 C0 eNL erm N N x0 x1 (24 : Int32) I L R _ c_x0.1 c_x0.2 q8 _ ?_)
  show V G _ 51 [] [] z7 L R
  cases h
  exact V_vret C0 dX8_append_51
theorem dX8_begin_0 : decode cX8_begin 0 = .ok (.aload_n 0, 1) := by decide +kernel
theorem dX8_begin_1 : decode cX8_begin 1 = .ok (.iload_n 1, 1) := by decide +kernel
theorem dX8_begin_2 : decode cX8_begin 2 = .ok (.putfield 22, 3) := by decide +kernel
theorem dX8_begin_5 : decode cX8_begin 5 = .ok (.aload_n 0, 1) := by decide +kernel
theorem dX8_begin_6 : decode cX8_begin 6 = .ok (.iconst 0, 1) := by decide +kernel
theorem dX8_begin_7 : decode cX8_begin 7 = .ok (.putfield 25, 3) := by decide +kernel
theorem dX8_begin_10 : decode cX8_begin 10 = .ok (.aload_n 0, 1) := by decide +kernel
theorem dX8_begin_11 : decode cX8_begin 11 = .ok (.iconst 0, 1) := by decide +kernel
theorem dX8_begin_12 : decode cX8_begin 12 = .ok (.putfield 28, 3) := by decide +kernel
theorem dX8_begin_15 : decode cX8_begin 15 = .ok (.aload_n 0, 1) := by decide +kernel
theorem dX8_begin_16 : decode cX8_begin 16 = .ok (.iconst (-1), 1) := by decide +kernel
theorem dX8_begin_17 : decode cX8_begin 17 = .ok (.putfield 15, 3) := by decide +kernel
theorem dX8_begin_20 : decode cX8_begin 20 = .ok (.return_, 1) := by decide +kernel
def F_X8_begin (x0 : Nat) (x1 : Int32) (I : MI) (L : ML) (R : MR) : Option (MI) :=
  if kd x0 = 7 ∧ x0 < NN then
  wr (uI I x0 2 x1) fun (I1 : MI) =>
  wr (uI I1 x0 3 (0 : Int32)) fun (I2 : MI) =>
  wr (uI I2 x0 8 (0 : Int32)) fun (I3 : MI) =>
  wr (uI I3 x0 9 (-1 : Int32)) fun (I4 : MI) =>
  some (I4)
  else none
set_option maxRecDepth 100000 in
set_option maxHeartbeats 4000000 in
theorem c_X8_begin (l : Launch) (D : va_G) (cA : Nat → ClassId) (ad : Nat → Nat) (bs : Nat) (X : State → Prop) (hAd : Ax ad bs) (hX : Stb bs X) (x0 : Nat) (x1 : Int32) (I : MI) (L : ML) (R : MR) (I' : MI) (h : F_X8_begin x0 x1 I L R = some (I')) : Cn l D cA ad bs X yX8_begin cX8_begin 2 none 0 0 [.ref (ad x0), .int x1] I L R (none, I', L, R) := by
  refine Cn.ofV hAd hX [(0, .ref (ad x0)), (1, .int x1)] rfl (Nat.le_of_ble_eq_true rfl) (by decide) ?_
  intro G el eD ecA ead ebs eX erm eNL C0
  subst el eD ecA ead ebs eX
  unfold F_X8_begin at h
  obtain ⟨c_x0, h⟩ := ite_some h
  refine V_aload_n C0 0 rfl rfl dX8_begin_0 ?_
  refine V_iload_n C0 1 rfl rfl dX8_begin_1 ?_
  obtain ⟨I1, eI1, h⟩ := wr_some h
  refine V_putI C0 7 2 fp_X8_22 c_x0.2 c_x0.1 rfl dX8_begin_2 ?_
  rw [← eI1]
  refine V_aload_n C0 0 rfl rfl dX8_begin_5 ?_
  refine V_iconst C0 (v := (0 : Int32)) (by decide) dX8_begin_6 ?_
  obtain ⟨I2, eI2, h⟩ := wr_some h
  refine V_putI C0 7 3 fp_X8_25 c_x0.2 c_x0.1 rfl dX8_begin_7 ?_
  rw [← eI2]
  refine V_aload_n C0 0 rfl rfl dX8_begin_10 ?_
  refine V_iconst C0 (v := (0 : Int32)) (by decide) dX8_begin_11 ?_
  obtain ⟨I3, eI3, h⟩ := wr_some h
  refine V_putI C0 7 8 fp_X8_28 c_x0.2 c_x0.1 rfl dX8_begin_12 ?_
  rw [← eI3]
  refine V_aload_n C0 0 rfl rfl dX8_begin_15 ?_
  refine V_iconst C0 (v := (-1 : Int32)) (by decide) dX8_begin_16 ?_
  obtain ⟨I4, eI4, h⟩ := wr_some h
  refine V_putI C0 7 9 fp_X8_15 c_x0.2 c_x0.1 rfl dX8_begin_17 ?_
  rw [← eI4]
  cases h
  exact V_vret C0 dX8_begin_20
theorem dX8_faultCode_0 : decode cX8_faultCode 0 = .ok (.aload_n 0, 1) := by decide +kernel
theorem dX8_faultCode_1 : decode cX8_faultCode 1 = .ok (.getfield 28, 3) := by decide +kernel
theorem dX8_faultCode_4 : decode cX8_faultCode 4 = .ok (.ireturn, 1) := by decide +kernel
def F_X8_faultCode (x0 : Nat) (I : MI) (L : ML) (R : MR) : Option (Int32) :=
  if kd x0 = 7 ∧ x0 < NN then
  some ((I x0 8))
  else none
set_option maxRecDepth 100000 in
set_option maxHeartbeats 4000000 in
theorem c_X8_faultCode (l : Launch) (D : va_G) (cA : Nat → ClassId) (ad : Nat → Nat) (bs : Nat) (X : State → Prop) (hAd : Ax ad bs) (hX : Stb bs X) (x0 : Nat) (I : MI) (L : ML) (R : MR) (r : Int32) (h : F_X8_faultCode x0 I L R = some (r)) : Cn l D cA ad bs X yX8_faultCode cX8_faultCode 1 (some .int) 0 0 [.ref (ad x0)] I L R (some (.int r), I, L, R) := by
  refine Cn.ofV hAd hX [(0, .ref (ad x0))] rfl (Nat.le_of_ble_eq_true rfl) (by decide) ?_
  intro G el eD ecA ead ebs eX erm eNL C0
  subst el eD ecA ead ebs eX
  unfold F_X8_faultCode at h
  obtain ⟨c_x0, h⟩ := ite_some h
  refine V_aload_n C0 0 rfl rfl dX8_faultCode_0 ?_
  refine V_getI C0 7 8 fl_X8_28 c_x0.2 c_x0.1 rfl dX8_faultCode_1 ?_
  cases h
  exact V_iret C0 dX8_faultCode_4
theorem dX8_faultPlace_0 : decode cX8_faultPlace 0 = .ok (.aload_n 0, 1) := by decide +kernel
theorem dX8_faultPlace_1 : decode cX8_faultPlace 1 = .ok (.getfield 15, 3) := by decide +kernel
theorem dX8_faultPlace_4 : decode cX8_faultPlace 4 = .ok (.ireturn, 1) := by decide +kernel
def F_X8_faultPlace (x0 : Nat) (I : MI) (L : ML) (R : MR) : Option (Int32) :=
  if kd x0 = 7 ∧ x0 < NN then
  some ((I x0 9))
  else none
set_option maxRecDepth 100000 in
set_option maxHeartbeats 4000000 in
theorem c_X8_faultPlace (l : Launch) (D : va_G) (cA : Nat → ClassId) (ad : Nat → Nat) (bs : Nat) (X : State → Prop) (hAd : Ax ad bs) (hX : Stb bs X) (x0 : Nat) (I : MI) (L : ML) (R : MR) (r : Int32) (h : F_X8_faultPlace x0 I L R = some (r)) : Cn l D cA ad bs X yX8_faultPlace cX8_faultPlace 1 (some .int) 0 0 [.ref (ad x0)] I L R (some (.int r), I, L, R) := by
  refine Cn.ofV hAd hX [(0, .ref (ad x0))] rfl (Nat.le_of_ble_eq_true rfl) (by decide) ?_
  intro G el eD ecA ead ebs eX erm eNL C0
  subst el eD ecA ead ebs eX
  unfold F_X8_faultPlace at h
  obtain ⟨c_x0, h⟩ := ite_some h
  refine V_aload_n C0 0 rfl rfl dX8_faultPlace_0 ?_
  refine V_getI C0 7 9 fl_X8_15 c_x0.2 c_x0.1 rfl dX8_faultPlace_1 ?_
  cases h
  exact V_iret C0 dX8_faultPlace_4
theorem dX9_tells_0 : decode cX9_tells 0 = .ok (.iload_n 1, 1) := by decide +kernel
theorem dX9_tells_1 : decode cX9_tells 1 = .ok (.iconst 4, 1) := by decide +kernel
theorem dX9_tells_2 : decode cX9_tells 2 = .ok (.if_icmp .ne 10, 3) := by decide +kernel
theorem dX9_tells_5 : decode cX9_tells 5 = .ok (.aload_n 0, 1) := by decide +kernel
theorem dX9_tells_6 : decode cX9_tells 6 = .ok (.bipush 9, 2) := by decide +kernel
theorem dX9_tells_8 : decode cX9_tells 8 = .ok (.invokevirtual 62, 3) := by decide +kernel
theorem dX9_tells_11 : decode cX9_tells 11 = .ok (.ireturn, 1) := by decide +kernel
theorem dX9_tells_12 : decode cX9_tells 12 = .ok (.iload_n 1, 1) := by decide +kernel
theorem dX9_tells_13 : decode cX9_tells 13 = .ok (.iconst 5, 1) := by decide +kernel
theorem dX9_tells_14 : decode cX9_tells 14 = .ok (.if_icmp .ne 12, 3) := by decide +kernel
theorem dX9_tells_17 : decode cX9_tells 17 = .ok (.aload_n 0, 1) := by decide +kernel
theorem dX9_tells_18 : decode cX9_tells 18 = .ok (.bipush 15, 2) := by decide +kernel
theorem dX9_tells_20 : decode cX9_tells 20 = .ok (.invokevirtual 62, 3) := by decide +kernel
theorem dX9_tells_23 : decode cX9_tells 23 = .ok (.goto 9, 3) := by decide +kernel
theorem dX9_tells_26 : decode cX9_tells 26 = .ok (.iload_n 1, 1) := by decide +kernel
theorem dX9_tells_27 : decode cX9_tells 27 = .ok (.iconst 0, 1) := by decide +kernel
theorem dX9_tells_28 : decode cX9_tells 28 = .ok (.iconst 3, 1) := by decide +kernel
theorem dX9_tells_29 : decode cX9_tells 29 = .ok (.invokestatic 72, 3) := by decide +kernel
theorem dX9_tells_32 : decode cX9_tells 32 = .ok (.ireturn, 1) := by decide +kernel
def F_X9_tells (x0 : Nat) (x1 : Int32) (I : MI) (L : ML) (R : MR) : Option (Bool) :=
  if kd x0 = 8 ∧ x0 < NN then
  if x1 = (4 : Int32) then
    bn1 (F_X9_is x0 (9 : Int32) I L R) fun b7 =>
    some (b7)
  else
    if x1 = (5 : Int32) then
      bn1 (F_X9_is x0 (15 : Int32) I L R) fun b5 =>
      some (b5)
    else
      bn1 (F_X11_within x1 (0 : Int32) (3 : Int32) I L R) fun b3 =>
      some (b3)
  else none
set_option maxRecDepth 100000 in
set_option maxHeartbeats 4000000 in
theorem c_X9_tells (l : Launch) (D : va_G) (cA : Nat → ClassId) (ad : Nat → Nat) (bs : Nat) (X : State → Prop) (hAd : Ax ad bs) (hX : Stb bs X) (x0 : Nat) (x1 : Int32) (I : MI) (L : ML) (R : MR) (r : Bool) (h : F_X9_tells x0 x1 I L R = some (r)) : Cn l D cA ad bs X yX9_tells cX9_tells 2 (some .boolean) 1 22 [.ref (ad x0), .int x1] I L R (some (.int (b2i r)), I, L, R) := by
  refine Cn.ofV hAd hX [(0, .ref (ad x0)), (1, .int x1)] rfl (Nat.le_of_ble_eq_true rfl) (by decide) ?_
  intro G el eD ecA ead ebs eX erm eNL C0
  subst el eD ecA ead ebs eX
  unfold F_X9_tells at h
  obtain ⟨c_x0, h⟩ := ite_some h
  refine V_iload_n C0 1 rfl rfl dX9_tells_0 ?_
  refine V_iconst C0 (v := (4 : Int32)) (by decide) dX9_tells_1 ?_
  refine V_icmp_ne C0 (tgt := 12) (by decide) dX9_tells_2 (fun c1 => ?_) (fun c1 => ?_)
  · have h := (if_neg c1).symm.trans h
    refine V_iload_n C0 1 rfl rfl dX9_tells_12 ?_
    refine V_iconst C0 (v := (5 : Int32)) (by decide) dX9_tells_13 ?_
    refine V_icmp_ne C0 (tgt := 26) (by decide) dX9_tells_14 (fun c2 => ?_) (fun c2 => ?_)
    · have h := (if_neg c2).symm.trans h
      refine V_iload_n C0 1 rfl rfl dX9_tells_26 ?_
      refine V_iconst C0 (v := (0 : Int32)) (by decide) dX9_tells_27 ?_
      refine V_iconst C0 (v := (3 : Int32)) (by decide) dX9_tells_28 ?_
      obtain ⟨b3, q4, h⟩ := bn1_some h
      refine V_callS C0 (st := []) (As := [.int x1, .int (0 : Int32), .int (3 : Int32)]) (c_X11_within G.l G.D G.cA G.ad G.bs G.X C0.2.2.2.2.2.2.2.2.2.1 C0.2.2.2.2.2.2.2.2.2.2.2.2 x1 (0 : Int32) (3 : Int32) I L R b3 q4) lc_X11_within lk_X9_72 rfl (by rw [erm]; decide) (Nat.le_of_ble_eq_true rfl) dX9_tells_29 ?_
      show V G _ 32 [(0, .ref (G.ad x0)), (1, .int x1)] [.int (b2i b3)] I L R
      cases h
      exact V_zret C0 (b2i01 _) dX9_tells_32
    · have h := (if_pos c2).symm.trans h
      refine V_aload_n C0 0 rfl rfl dX9_tells_17 ?_
      refine V_bipush C0 (v := (15 : Int32)) (by decide) dX9_tells_18 ?_
      obtain ⟨b5, q6, h⟩ := bn1_some h
      refine V_callV C0 (st := []) (As := [.int (15 : Int32)]) 8 (c_X9_is G.l G.D G.cA G.ad G.bs G.X C0.2.2.2.2.2.2.2.2.2.1 C0.2.2.2.2.2.2.2.2.2.2.2.2 x0 (15 : Int32) I L R b5 q6) lc_X9_is lk_X9_62 c_x0.2 c_x0.1 ⟨_, rfl, rfl⟩ rfl (by rw [erm]; decide) (Nat.le_of_ble_eq_true rfl) dX9_tells_20 ?_
      show V G _ 23 [(0, .ref (G.ad x0)), (1, .int x1)] [.int (b2i b5)] I L R
      refine V_goto C0 (tgt := 32) (by decide) dX9_tells_23 ?_
      cases h
      exact V_zret C0 (b2i01 _) dX9_tells_32
  · have h := (if_pos c1).symm.trans h
    refine V_aload_n C0 0 rfl rfl dX9_tells_5 ?_
    refine V_bipush C0 (v := (9 : Int32)) (by decide) dX9_tells_6 ?_
    obtain ⟨b7, q8, h⟩ := bn1_some h
    refine V_callV C0 (st := []) (As := [.int (9 : Int32)]) 8 (c_X9_is G.l G.D G.cA G.ad G.bs G.X C0.2.2.2.2.2.2.2.2.2.1 C0.2.2.2.2.2.2.2.2.2.2.2.2 x0 (9 : Int32) I L R b7 q8) lc_X9_is lk_X9_62 c_x0.2 c_x0.1 ⟨_, rfl, rfl⟩ rfl (by rw [erm]; decide) (Nat.le_of_ble_eq_true rfl) dX9_tells_8 ?_
    show V G _ 11 [(0, .ref (G.ad x0)), (1, .int x1)] [.int (b2i b7)] I L R
    cases h
    exact V_zret C0 (b2i01 _) dX9_tells_11
theorem dX9_answer_0 : decode cX9_answer 0 = .ok (.iload_n 1, 1) := by decide +kernel
theorem dX9_answer_1 : decode cX9_answer 1 = .ok (.tableswitch 69 0 5 #[39, 44, 49, 54, 59, 64], 39) := by decide +kernel
theorem dX9_answer_40 : decode cX9_answer 40 = .ok (.aload_n 0, 1) := by decide +kernel
theorem dX9_answer_41 : decode cX9_answer 41 = .ok (.invokevirtual 76, 3) := by decide +kernel
theorem dX9_answer_44 : decode cX9_answer 44 = .ok (.ireturn, 1) := by decide +kernel
theorem dX9_answer_45 : decode cX9_answer 45 = .ok (.aload_n 0, 1) := by decide +kernel
theorem dX9_answer_46 : decode cX9_answer 46 = .ok (.invokevirtual 80, 3) := by decide +kernel
theorem dX9_answer_49 : decode cX9_answer 49 = .ok (.ireturn, 1) := by decide +kernel
theorem dX9_answer_50 : decode cX9_answer 50 = .ok (.aload_n 0, 1) := by decide +kernel
theorem dX9_answer_51 : decode cX9_answer 51 = .ok (.invokevirtual 83, 3) := by decide +kernel
theorem dX9_answer_54 : decode cX9_answer 54 = .ok (.ireturn, 1) := by decide +kernel
theorem dX9_answer_55 : decode cX9_answer 55 = .ok (.aload_n 0, 1) := by decide +kernel
theorem dX9_answer_56 : decode cX9_answer 56 = .ok (.invokevirtual 86, 3) := by decide +kernel
theorem dX9_answer_59 : decode cX9_answer 59 = .ok (.ireturn, 1) := by decide +kernel
theorem dX9_answer_60 : decode cX9_answer 60 = .ok (.aload_n 0, 1) := by decide +kernel
theorem dX9_answer_61 : decode cX9_answer 61 = .ok (.invokevirtual 89, 3) := by decide +kernel
theorem dX9_answer_64 : decode cX9_answer 64 = .ok (.ireturn, 1) := by decide +kernel
theorem dX9_answer_65 : decode cX9_answer 65 = .ok (.aload_n 0, 1) := by decide +kernel
theorem dX9_answer_66 : decode cX9_answer 66 = .ok (.invokevirtual 92, 3) := by decide +kernel
theorem dX9_answer_69 : decode cX9_answer 69 = .ok (.ireturn, 1) := by decide +kernel
theorem dX9_answer_70 : decode cX9_answer 70 = .ok (.iconst 0, 1) := by decide +kernel
theorem dX9_answer_71 : decode cX9_answer 71 = .ok (.ireturn, 1) := by decide +kernel
def F_X9_answer (N : Nat) (x0 : Nat) (x1 : Int32) (I : MI) (L : ML) (R : MR) : Option (Int32) :=
  if kd x0 = 8 ∧ x0 < NN then
  if x1 = (0 : Int32) then
    bn1 (F_X9_mass N x0 I L R) fun v3 =>
    some (v3)
  else
    if x1 = (1 : Int32) then
      bn1 (F_X9_span N x0 I L R) fun v6 =>
      some (v6)
    else
      if x1 = (2 : Int32) then
        bn1 (F_X9_need N x0 I L R) fun v9 =>
        some (v9)
      else
        if x1 = (3 : Int32) then
          bn1 (F_X9_test N x0 I L R) fun v12 =>
          some (v12)
        else
          if x1 = (4 : Int32) then
            bn1 (F_X9_channels N x0 I L R) fun v15 =>
            some (v15)
          else
            if x1 = (5 : Int32) then
              bn1 (F_X9_push N x0 I L R) fun v18 =>
              some (v18)
            else
              some ((0 : Int32))
  else none
set_option maxRecDepth 100000 in
set_option maxHeartbeats 4000000 in
theorem c_X9_answer (l : Launch) (D : va_G) (cA : Nat → ClassId) (ad : Nat → Nat) (bs : Nat) (X : State → Prop) (hAd : Ax ad bs) (hX : Stb bs X) (N : Nat) (x0 : Nat) (x1 : Int32) (I : MI) (L : ML) (R : MR) (r : Int32) (h : F_X9_answer N x0 x1 I L R = some (r)) : Cn l D cA ad bs X yX9_answer cX9_answer 2 (some .int) 1 22 [.ref (ad x0), .int x1] I L R (some (.int r), I, L, R) := by
  refine Cn.ofV hAd hX [(0, .ref (ad x0)), (1, .int x1)] rfl (Nat.le_of_ble_eq_true rfl) (by decide) ?_
  intro G el eD ecA ead ebs eX erm eNL C0
  subst el eD ecA ead ebs eX
  unfold F_X9_answer at h
  obtain ⟨c_x0, h⟩ := ite_some h
  refine V_iload_n C0 1 rfl rfl dX9_answer_0 ?_
  have nd1 := nd_0 x1
  by_cases c2 : x1 = (0 : Int32)
  · have h := (if_pos c2).symm.trans h
    refine V_tableC C0 (tgt := 40) (v := (0 : Int32)) c2 (by decide) (by decide) dX9_answer_1 ?_
    refine V_aload_n C0 0 rfl rfl dX9_answer_40 ?_
    obtain ⟨v3, q4, h⟩ := bn1_some h
    refine V_callV C0 (st := []) (As := []) 8 (c_X9_mass G.l G.D G.cA G.ad G.bs G.X C0.2.2.2.2.2.2.2.2.2.1 C0.2.2.2.2.2.2.2.2.2.2.2.2 N x0 I L R v3 q4) lc_X9_mass lk_X9_76 c_x0.2 c_x0.1 ⟨_, rfl, rfl⟩ rfl (by rw [erm]; decide) (Nat.le_of_ble_eq_true rfl) dX9_answer_41 ?_
    show V G _ 44 [(0, .ref (G.ad x0)), (1, .int x1)] [.int v3] I L R
    cases h
    exact V_iret C0 dX9_answer_44
  · have h := (if_neg c2).symm.trans h
    have nd1 := nd_add nd1 c2
    by_cases c5 : x1 = (1 : Int32)
    · have h := (if_pos c5).symm.trans h
      refine V_tableC C0 (tgt := 45) (v := (1 : Int32)) c5 (by decide) (by decide) dX9_answer_1 ?_
      refine V_aload_n C0 0 rfl rfl dX9_answer_45 ?_
      obtain ⟨v6, q7, h⟩ := bn1_some h
      refine V_callV C0 (st := []) (As := []) 8 (c_X9_span G.l G.D G.cA G.ad G.bs G.X C0.2.2.2.2.2.2.2.2.2.1 C0.2.2.2.2.2.2.2.2.2.2.2.2 N x0 I L R v6 q7) lc_X9_span lk_X9_80 c_x0.2 c_x0.1 ⟨_, rfl, rfl⟩ rfl (by rw [erm]; decide) (Nat.le_of_ble_eq_true rfl) dX9_answer_46 ?_
      show V G _ 49 [(0, .ref (G.ad x0)), (1, .int x1)] [.int v6] I L R
      cases h
      exact V_iret C0 dX9_answer_49
    · have h := (if_neg c5).symm.trans h
      have nd1 := nd_add nd1 c5
      by_cases c8 : x1 = (2 : Int32)
      · have h := (if_pos c8).symm.trans h
        refine V_tableC C0 (tgt := 50) (v := (2 : Int32)) c8 (by decide) (by decide) dX9_answer_1 ?_
        refine V_aload_n C0 0 rfl rfl dX9_answer_50 ?_
        obtain ⟨v9, q10, h⟩ := bn1_some h
        refine V_callV C0 (st := []) (As := []) 8 (c_X9_need G.l G.D G.cA G.ad G.bs G.X C0.2.2.2.2.2.2.2.2.2.1 C0.2.2.2.2.2.2.2.2.2.2.2.2 N x0 I L R v9 q10) lc_X9_need lk_X9_83 c_x0.2 c_x0.1 ⟨_, rfl, rfl⟩ rfl (by rw [erm]; decide) (Nat.le_of_ble_eq_true rfl) dX9_answer_51 ?_
        show V G _ 54 [(0, .ref (G.ad x0)), (1, .int x1)] [.int v9] I L R
        cases h
        exact V_iret C0 dX9_answer_54
      · have h := (if_neg c8).symm.trans h
        have nd1 := nd_add nd1 c8
        by_cases c11 : x1 = (3 : Int32)
        · have h := (if_pos c11).symm.trans h
          refine V_tableC C0 (tgt := 55) (v := (3 : Int32)) c11 (by decide) (by decide) dX9_answer_1 ?_
          refine V_aload_n C0 0 rfl rfl dX9_answer_55 ?_
          obtain ⟨v12, q13, h⟩ := bn1_some h
          refine V_callV C0 (st := []) (As := []) 8 (c_X9_test G.l G.D G.cA G.ad G.bs G.X C0.2.2.2.2.2.2.2.2.2.1 C0.2.2.2.2.2.2.2.2.2.2.2.2 N x0 I L R v12 q13) lc_X9_test lk_X9_86 c_x0.2 c_x0.1 ⟨_, rfl, rfl⟩ rfl (by rw [erm]; decide) (Nat.le_of_ble_eq_true rfl) dX9_answer_56 ?_
          show V G _ 59 [(0, .ref (G.ad x0)), (1, .int x1)] [.int v12] I L R
          cases h
          exact V_iret C0 dX9_answer_59
        · have h := (if_neg c11).symm.trans h
          have nd1 := nd_add nd1 c11
          by_cases c14 : x1 = (4 : Int32)
          · have h := (if_pos c14).symm.trans h
            refine V_tableC C0 (tgt := 60) (v := (4 : Int32)) c14 (by decide) (by decide) dX9_answer_1 ?_
            refine V_aload_n C0 0 rfl rfl dX9_answer_60 ?_
            obtain ⟨v15, q16, h⟩ := bn1_some h
            refine V_callV C0 (st := []) (As := []) 8 (c_X9_channels G.l G.D G.cA G.ad G.bs G.X C0.2.2.2.2.2.2.2.2.2.1 C0.2.2.2.2.2.2.2.2.2.2.2.2 N x0 I L R v15 q16) lc_X9_channels lk_X9_89 c_x0.2 c_x0.1 ⟨_, rfl, rfl⟩ rfl (by rw [erm]; decide) (Nat.le_of_ble_eq_true rfl) dX9_answer_61 ?_
            show V G _ 64 [(0, .ref (G.ad x0)), (1, .int x1)] [.int v15] I L R
            cases h
            exact V_iret C0 dX9_answer_64
          · have h := (if_neg c14).symm.trans h
            have nd1 := nd_add nd1 c14
            by_cases c17 : x1 = (5 : Int32)
            · have h := (if_pos c17).symm.trans h
              refine V_tableC C0 (tgt := 65) (v := (5 : Int32)) c17 (by decide) (by decide) dX9_answer_1 ?_
              refine V_aload_n C0 0 rfl rfl dX9_answer_65 ?_
              obtain ⟨v18, q19, h⟩ := bn1_some h
              refine V_callV C0 (st := []) (As := []) 8 (c_X9_push G.l G.D G.cA G.ad G.bs G.X C0.2.2.2.2.2.2.2.2.2.1 C0.2.2.2.2.2.2.2.2.2.2.2.2 N x0 I L R v18 q19) lc_X9_push lk_X9_92 c_x0.2 c_x0.1 ⟨_, rfl, rfl⟩ rfl (by rw [erm]; decide) (Nat.le_of_ble_eq_true rfl) dX9_answer_66 ?_
              show V G _ 69 [(0, .ref (G.ad x0)), (1, .int x1)] [.int v18] I L R
              cases h
              exact V_iret C0 dX9_answer_69
            · have h := (if_neg c17).symm.trans h
              have nd1 := nd_add nd1 c17
              refine V_tableN C0 (tgt := 70) nd1 (by decide) (by decide) dX9_answer_1 ?_
              refine V_iconst C0 (v := (0 : Int32)) (by decide) dX9_answer_70 ?_
              cases h
              exact V_iret C0 dX9_answer_71
theorem dX10_unitWithAddress_0 : decode cX10_unitWithAddress 0 = .ok (.iconst (-1), 1) := by decide +kernel
theorem dX10_unitWithAddress_1 : decode cX10_unitWithAddress 1 = .ok (.istore_n 2, 1) := by decide +kernel
theorem dX10_unitWithAddress_2 : decode cX10_unitWithAddress 2 = .ok (.iconst 0, 1) := by decide +kernel
theorem dX10_unitWithAddress_3 : decode cX10_unitWithAddress 3 = .ok (.istore_n 3, 1) := by decide +kernel
theorem dX10_unitWithAddress_4 : decode cX10_unitWithAddress 4 = .ok (.iload_n 3, 1) := by decide +kernel
theorem dX10_unitWithAddress_5 : decode cX10_unitWithAddress 5 = .ok (.aload_n 0, 1) := by decide +kernel
theorem dX10_unitWithAddress_6 : decode cX10_unitWithAddress 6 = .ok (.getfield 26, 3) := by decide +kernel
theorem dX10_unitWithAddress_9 : decode cX10_unitWithAddress 9 = .ok (.if_icmp .ge 78, 3) := by decide +kernel
theorem dX10_unitWithAddress_12 : decode cX10_unitWithAddress 12 = .ok (.aload_n 0, 1) := by decide +kernel
theorem dX10_unitWithAddress_13 : decode cX10_unitWithAddress 13 = .ok (.iload_n 3, 1) := by decide +kernel
theorem dX10_unitWithAddress_14 : decode cX10_unitWithAddress 14 = .ok (.invokevirtual 34, 3) := by decide +kernel
theorem dX10_unitWithAddress_17 : decode cX10_unitWithAddress 17 = .ok (.getfield 42, 3) := by decide +kernel
theorem dX10_unitWithAddress_20 : decode cX10_unitWithAddress 20 = .ok (.iconst 4, 1) := by decide +kernel
theorem dX10_unitWithAddress_21 : decode cX10_unitWithAddress 21 = .ok (.iaload, 1) := by decide +kernel
theorem dX10_unitWithAddress_22 : decode cX10_unitWithAddress 22 = .ok (.istore 4, 2) := by decide +kernel
theorem dX10_unitWithAddress_24 : decode cX10_unitWithAddress 24 = .ok (.iload_n 1, 1) := by decide +kernel
theorem dX10_unitWithAddress_25 : decode cX10_unitWithAddress 25 = .ok (.iload 4, 2) := by decide +kernel
theorem dX10_unitWithAddress_27 : decode cX10_unitWithAddress 27 = .ok (.if_icmp .lt 24, 3) := by decide +kernel
theorem dX10_unitWithAddress_30 : decode cX10_unitWithAddress 30 = .ok (.iload_n 1, 1) := by decide +kernel
theorem dX10_unitWithAddress_31 : decode cX10_unitWithAddress 31 = .ok (.iload 4, 2) := by decide +kernel
theorem dX10_unitWithAddress_33 : decode cX10_unitWithAddress 33 = .ok (.isub, 1) := by decide +kernel
theorem dX10_unitWithAddress_34 : decode cX10_unitWithAddress 34 = .ok (.aload_n 0, 1) := by decide +kernel
theorem dX10_unitWithAddress_35 : decode cX10_unitWithAddress 35 = .ok (.iload_n 3, 1) := by decide +kernel
theorem dX10_unitWithAddress_36 : decode cX10_unitWithAddress 36 = .ok (.invokevirtual 34, 3) := by decide +kernel
theorem dX10_unitWithAddress_39 : decode cX10_unitWithAddress 39 = .ok (.getfield 42, 3) := by decide +kernel
theorem dX10_unitWithAddress_42 : decode cX10_unitWithAddress 42 = .ok (.iconst 5, 1) := by decide +kernel
theorem dX10_unitWithAddress_43 : decode cX10_unitWithAddress 43 = .ok (.iaload, 1) := by decide +kernel
theorem dX10_unitWithAddress_44 : decode cX10_unitWithAddress 44 = .ok (.if_icmp .ge 7, 3) := by decide +kernel
theorem dX10_unitWithAddress_47 : decode cX10_unitWithAddress 47 = .ok (.iconst 1, 1) := by decide +kernel
theorem dX10_unitWithAddress_48 : decode cX10_unitWithAddress 48 = .ok (.goto 4, 3) := by decide +kernel
theorem dX10_unitWithAddress_51 : decode cX10_unitWithAddress 51 = .ok (.iconst 0, 1) := by decide +kernel
theorem dX10_unitWithAddress_52 : decode cX10_unitWithAddress 52 = .ok (.istore 5, 2) := by decide +kernel
theorem dX10_unitWithAddress_54 : decode cX10_unitWithAddress 54 = .ok (.iload 5, 2) := by decide +kernel
theorem dX10_unitWithAddress_56 : decode cX10_unitWithAddress 56 = .ok (.ifCond .eq 25, 3) := by decide +kernel
theorem dX10_unitWithAddress_59 : decode cX10_unitWithAddress 59 = .ok (.iload_n 2, 1) := by decide +kernel
theorem dX10_unitWithAddress_60 : decode cX10_unitWithAddress 60 = .ok (.iconst (-1), 1) := by decide +kernel
theorem dX10_unitWithAddress_61 : decode cX10_unitWithAddress 61 = .ok (.if_icmp .eq 18, 3) := by decide +kernel
theorem dX10_unitWithAddress_64 : decode cX10_unitWithAddress 64 = .ok (.iload 4, 2) := by decide +kernel
theorem dX10_unitWithAddress_66 : decode cX10_unitWithAddress 66 = .ok (.aload_n 0, 1) := by decide +kernel
theorem dX10_unitWithAddress_67 : decode cX10_unitWithAddress 67 = .ok (.iload_n 2, 1) := by decide +kernel
theorem dX10_unitWithAddress_68 : decode cX10_unitWithAddress 68 = .ok (.invokevirtual 34, 3) := by decide +kernel
theorem dX10_unitWithAddress_71 : decode cX10_unitWithAddress 71 = .ok (.getfield 42, 3) := by decide +kernel
theorem dX10_unitWithAddress_74 : decode cX10_unitWithAddress 74 = .ok (.iconst 4, 1) := by decide +kernel
theorem dX10_unitWithAddress_75 : decode cX10_unitWithAddress 75 = .ok (.iaload, 1) := by decide +kernel
theorem dX10_unitWithAddress_76 : decode cX10_unitWithAddress 76 = .ok (.if_icmp .le 5, 3) := by decide +kernel
theorem dX10_unitWithAddress_79 : decode cX10_unitWithAddress 79 = .ok (.iload_n 3, 1) := by decide +kernel
theorem dX10_unitWithAddress_80 : decode cX10_unitWithAddress 80 = .ok (.istore_n 2, 1) := by decide +kernel
theorem dX10_unitWithAddress_81 : decode cX10_unitWithAddress 81 = .ok (.iinc 3 1, 3) := by decide +kernel
theorem dX10_unitWithAddress_84 : decode cX10_unitWithAddress 84 = .ok (.goto (-80), 3) := by decide +kernel
theorem dX10_unitWithAddress_87 : decode cX10_unitWithAddress 87 = .ok (.iload_n 2, 1) := by decide +kernel
theorem dX10_unitWithAddress_88 : decode cX10_unitWithAddress 88 = .ok (.ireturn, 1) := by decide +kernel
def LF_X10_unitWithAddress_4 (N : Nat) : Nat → Nat → Int32 → Int32 → Int32 → MI → ML → MR → Option (Int32)
  | 0, _, _, _, _, _, _, _ => none
  | k + 1, y0, y1, y2, y3, I, L, R =>
    if (I y0 3) ≤ y3 then
      some (y2)
    else
      bn1 (F_X10_unitAt y0 y3 I L R) fun a2 =>
      if kd a2 = 8 ∧ a2 < NN then
      (rf R a2 0 20).bind fun a5 =>
      (ri I a5 (4 : Int32)).bind fun v6 =>
      bn1 (
        if y1 < v6 then
          some ((0 : Int32))
        else
          bn1 (F_X10_unitAt y0 y3 I L R) fun a11 =>
          if kd a11 = 8 ∧ a11 < NN then
          (rf R a11 0 20).bind fun a14 =>
          (ri I a14 (5 : Int32)).bind fun v15 =>
          bn1 (
            if v15 ≤ (y1 - v6) then
              some ((0 : Int32))
            else
              some ((1 : Int32))
          ) fun (s16 : Int32) =>
          some (s16)
          else none
      ) fun (s7 : Int32) =>
      bn1 (
        if s7 = 0 then
          some (y2)
        else
          bn1 (
            if y2 = (-1 : Int32) then
              some (y3)
            else
              bn1 (F_X10_unitAt y0 y2 I L R) fun a28 =>
              if kd a28 = 8 ∧ a28 < NN then
              (rf R a28 0 20).bind fun a31 =>
              (ri I a31 (4 : Int32)).bind fun v32 =>
              bn1 (
                if v6 ≤ v32 then
                  some (y2)
                else
                  some (y3)
              ) fun (u33 : Int32) =>
              some (u33)
              else none
          ) fun (u24 : Int32) =>
          some (u24)
      ) fun (u20 : Int32) =>
      wr (y3 + (1 : Int32)) fun (u37 : Int32) =>
      LF_X10_unitWithAddress_4 N k y0 y1 u20 u37 I L R
      else none
def F_X10_unitWithAddress (N : Nat) (x0 : Nat) (x1 : Int32) (I : MI) (L : ML) (R : MR) : Option (Int32) :=
  if kd x0 = 9 ∧ x0 < NN then
  bn1 (LF_X10_unitWithAddress_4 N N x0 x1 (-1 : Int32) (0 : Int32) I L R) fun z38 =>
  some (z38)
  else none
set_option maxRecDepth 100000 in
set_option maxHeartbeats 4000000 in
theorem lp_X10_unitWithAddress_4 {G : Gm} (C0 : Cx G (yX10_unitWithAddress.cls) cX10_unitWithAddress (some .int)) (eNL : G.nL = 6) (erm : G.rm = ({ frames := 2, cells := 0, slots := 0, locals := 42 } : Room)) (N : Nat) : ∀ (k : Nat) (y0 : Nat) (y1 : Int32) (y2 : Int32) (y3 : Int32) (I : MI) (L : ML) (R : MR) (z : Int32) (hk0 : kd y0 = 9) (ho0 : y0 < NN), LF_X10_unitWithAddress_4 N k y0 y1 y2 y3 I L R = some z → ∀ f : State → Prop, V G f 87 [(2, .int z)] [] I L R → V G f 4 [(0, .ref (G.ad y0)), (1, .int y1), (2, .int y2), (3, .int y3)] [] I L R := by
  intro k
  induction k with
  | zero =>
    intro y0 y1 y2 y3 I L R q hk0 ho0 h
    exact absurd h (by simp [LF_X10_unitWithAddress_4])
  | succ k ih =>
    intro y0 y1 y2 y3 I L R q hk0 ho0 h f kx
    rw [LF_X10_unitWithAddress_4] at h
    refine V_iload_n C0 3 rfl rfl dX10_unitWithAddress_4 ?_
    refine V_aload_n C0 0 rfl rfl dX10_unitWithAddress_5 ?_
    refine V_getI C0 9 3 fl_X10_26 ho0 hk0 rfl dX10_unitWithAddress_6 ?_
    refine V_icmp_ge C0 (tgt := 87) (by decide) dX10_unitWithAddress_9 (fun c1 => ?_) (fun c1 => ?_)
    · have h := (if_pos c1).symm.trans h
      cases h
      exact V_sub [2] rfl kx
    · have h := (if_neg c1).symm.trans h
      refine V_aload_n C0 0 rfl rfl dX10_unitWithAddress_12 ?_
      refine V_iload_n C0 3 rfl rfl dX10_unitWithAddress_13 ?_
      obtain ⟨a2, q3, h⟩ := bn1_some h
      refine V_callV C0 (st := []) (As := [.int y3]) 9 (c_X10_unitAt G.l G.D G.cA G.ad G.bs G.X C0.2.2.2.2.2.2.2.2.2.1 C0.2.2.2.2.2.2.2.2.2.2.2.2 y0 y3 I L R a2 q3) lc_X10_unitAt lk_X10_34 ho0 hk0 ⟨_, rfl, rfl⟩ rfl (by rw [erm]; decide) (Nat.le_of_ble_eq_true rfl) dX10_unitWithAddress_14 ?_
      show V G _ 17 [(0, .ref (G.ad y0)), (1, .int y1), (2, .int y2), (3, .int y3)] [.ref (G.ad a2)] I L R
      obtain ⟨c4, h⟩ := ite_some h
      obtain ⟨a5, qa5, h⟩ := bnd_some h
      refine V_getR C0 8 0 fl_X10_42 c4.2 c4.1 rfl (rf_at qa5) dX10_unitWithAddress_17 ?_
      refine V_iconst C0 (v := (4 : Int32)) (by decide) dX10_unitWithAddress_20 ?_
      obtain ⟨v6, qv6, h⟩ := bnd_some h
      refine V_ri C0 (rf_lt qa5) (rf_kd qa5) qv6 dX10_unitWithAddress_21 ?_
      refine V_istore C0 [(4, .int v6), (0, .ref (G.ad y0)), (1, .int y1), (2, .int y2), (3, .int y3)] (by rw [eNL]; decide) rfl dX10_unitWithAddress_22 ?_
      refine V_iload_n C0 2 rfl rfl dX10_unitWithAddress_24 ?_
      refine V_iload C0 0 rfl dX10_unitWithAddress_25 ?_
      obtain ⟨s7, q8, h⟩ := bn1_some h
      have k9 : V G f 52 [(0, .ref (G.ad y0)), (1, .int y1), (2, .int y2), (3, .int y3), (4, .int v6)] [.int s7] I L R := by
        refine V_istore C0 [(5, .int s7), (0, .ref (G.ad y0)), (1, .int y1), (2, .int y2), (3, .int y3), (4, .int v6)] (by rw [eNL]; decide) rfl dX10_unitWithAddress_52 ?_
        refine V_iload C0 0 rfl dX10_unitWithAddress_54 ?_
        obtain ⟨u20, q21, h⟩ := bn1_some h
        have k22 : V G f 81 [(0, .ref (G.ad y0)), (1, .int y1), (2, .int u20), (3, .int y3)] [] I L R := by
          obtain ⟨u37, eu37, h⟩ := wr_some h
          refine V_iinc C0 3 [(3, .int u37), (0, .ref (G.ad y0)), (1, .int y1), (2, .int u20)] rfl (n := 1) (by rw [eu37]; rfl) (by rw [eNL]; decide) rfl dX10_unitWithAddress_81 ?_
          refine V_goto C0 (tgt := 4) (by decide) dX10_unitWithAddress_84 ?_
          exact V_sub [1, 2, 3, 0] rfl (ih y0 y1 u20 u37 I L R _ hk0 ho0 h f kx)
        refine V_if_eq C0 (tgt := 81) (by decide) dX10_unitWithAddress_56 (fun c23 => ?_) (fun c23 => ?_)
        · have q21 := (if_pos c23).symm.trans q21
          cases q21
          exact V_sub [1, 2, 3, 4] rfl k22
        · have q21 := (if_neg c23).symm.trans q21
          refine V_iload_n C0 3 rfl rfl dX10_unitWithAddress_59 ?_
          refine V_iconst C0 (v := (-1 : Int32)) (by decide) dX10_unitWithAddress_60 ?_
          obtain ⟨u24, q25, q21⟩ := bn1_some q21
          have k26 : V G f 81 [(0, .ref (G.ad y0)), (1, .int y1), (2, .int u24), (3, .int y3)] [] I L R := by
            cases q21
            exact V_sub [0, 1, 2, 3] rfl k22
          refine V_icmp_eq C0 (tgt := 79) (by decide) dX10_unitWithAddress_61 (fun c27 => ?_) (fun c27 => ?_)
          · have q25 := (if_pos c27).symm.trans q25
            refine V_iload_n C0 4 rfl rfl dX10_unitWithAddress_79 ?_
            refine V_istore_n C0 [(2, .int y3), (5, .int s7), (0, .ref (G.ad y0)), (1, .int y1), (3, .int y3), (4, .int v6)] rfl (by rw [eNL]; decide) rfl dX10_unitWithAddress_80 ?_
            cases q25
            exact V_sub [2, 3, 0, 4] rfl k26
          · have q25 := (if_neg c27).symm.trans q25
            refine V_iload C0 5 rfl dX10_unitWithAddress_64 ?_
            refine V_aload_n C0 1 rfl rfl dX10_unitWithAddress_66 ?_
            refine V_iload_n C0 3 rfl rfl dX10_unitWithAddress_67 ?_
            obtain ⟨a28, q29, q25⟩ := bn1_some q25
            refine V_callV C0 (st := [.int v6]) (As := [.int y2]) 9 (c_X10_unitAt G.l G.D G.cA G.ad G.bs G.X C0.2.2.2.2.2.2.2.2.2.1 C0.2.2.2.2.2.2.2.2.2.2.2.2 y0 y2 I L R a28 q29) lc_X10_unitAt lk_X10_34 ho0 hk0 ⟨_, rfl, rfl⟩ rfl (by rw [erm]; decide) (Nat.le_of_ble_eq_true rfl) dX10_unitWithAddress_68 ?_
            show V G _ 71 [(5, .int s7), (0, .ref (G.ad y0)), (1, .int y1), (2, .int y2), (3, .int y3), (4, .int v6)] [.ref (G.ad a28), .int v6] I L R
            obtain ⟨c30, q25⟩ := ite_some q25
            obtain ⟨a31, qa31, q25⟩ := bnd_some q25
            refine V_getR C0 8 0 fl_X10_42 c30.2 c30.1 rfl (rf_at qa31) dX10_unitWithAddress_71 ?_
            refine V_iconst C0 (v := (4 : Int32)) (by decide) dX10_unitWithAddress_74 ?_
            obtain ⟨v32, qv32, q25⟩ := bnd_some q25
            refine V_ri C0 (rf_lt qa31) (rf_kd qa31) qv32 dX10_unitWithAddress_75 ?_
            obtain ⟨u33, q34, q25⟩ := bn1_some q25
            have k35 : V G f 81 [(0, .ref (G.ad y0)), (1, .int y1), (2, .int u33), (3, .int y3)] [] I L R := by
              cases q25
              exact V_sub [0, 1, 2, 3] rfl k26
            refine V_icmp_le C0 (tgt := 81) (by decide) dX10_unitWithAddress_76 (fun c36 => ?_) (fun c36 => ?_)
            · have q34 := (if_pos c36).symm.trans q34
              cases q34
              exact V_sub [1, 2, 3, 4] rfl k35
            · have q34 := (if_neg c36).symm.trans q34
              refine V_iload_n C0 4 rfl rfl dX10_unitWithAddress_79 ?_
              refine V_istore_n C0 [(2, .int y3), (5, .int s7), (0, .ref (G.ad y0)), (1, .int y1), (3, .int y3), (4, .int v6)] rfl (by rw [eNL]; decide) rfl dX10_unitWithAddress_80 ?_
              cases q34
              exact V_sub [2, 3, 0, 4] rfl k35
      refine V_icmp_lt C0 (tgt := 51) (by decide) dX10_unitWithAddress_27 (fun c10 => ?_) (fun c10 => ?_)
      · have q8 := (if_pos c10).symm.trans q8
        refine V_iconst C0 (v := (0 : Int32)) (by decide) dX10_unitWithAddress_51 ?_
        cases q8
        exact V_sub [1, 2, 3, 4, 0] rfl k9
      · have q8 := (if_neg c10).symm.trans q8
        refine V_iload_n C0 2 rfl rfl dX10_unitWithAddress_30 ?_
        refine V_iload C0 0 rfl dX10_unitWithAddress_31 ?_
        refine V_isub C0 dX10_unitWithAddress_33 ?_
        refine V_aload_n C0 1 rfl rfl dX10_unitWithAddress_34 ?_
        refine V_iload_n C0 4 rfl rfl dX10_unitWithAddress_35 ?_
        obtain ⟨a11, q12, q8⟩ := bn1_some q8
        refine V_callV C0 (st := [.int (y1 - v6)]) (As := [.int y3]) 9 (c_X10_unitAt G.l G.D G.cA G.ad G.bs G.X C0.2.2.2.2.2.2.2.2.2.1 C0.2.2.2.2.2.2.2.2.2.2.2.2 y0 y3 I L R a11 q12) lc_X10_unitAt lk_X10_34 ho0 hk0 ⟨_, rfl, rfl⟩ rfl (by rw [erm]; decide) (Nat.le_of_ble_eq_true rfl) dX10_unitWithAddress_36 ?_
        show V G _ 39 [(4, .int v6), (0, .ref (G.ad y0)), (1, .int y1), (2, .int y2), (3, .int y3)] [.ref (G.ad a11), .int (y1 - v6)] I L R
        obtain ⟨c13, q8⟩ := ite_some q8
        obtain ⟨a14, qa14, q8⟩ := bnd_some q8
        refine V_getR C0 8 0 fl_X10_42 c13.2 c13.1 rfl (rf_at qa14) dX10_unitWithAddress_39 ?_
        refine V_iconst C0 (v := (5 : Int32)) (by decide) dX10_unitWithAddress_42 ?_
        obtain ⟨v15, qv15, q8⟩ := bnd_some q8
        refine V_ri C0 (rf_lt qa14) (rf_kd qa14) qv15 dX10_unitWithAddress_43 ?_
        obtain ⟨s16, q17, q8⟩ := bn1_some q8
        have k18 : V G f 52 [(0, .ref (G.ad y0)), (1, .int y1), (2, .int y2), (3, .int y3), (4, .int v6)] [.int s16] I L R := by
          cases q8
          exact V_sub [0, 1, 2, 3, 4] rfl k9
        refine V_icmp_ge C0 (tgt := 51) (by decide) dX10_unitWithAddress_44 (fun c19 => ?_) (fun c19 => ?_)
        · have q17 := (if_pos c19).symm.trans q17
          refine V_iconst C0 (v := (0 : Int32)) (by decide) dX10_unitWithAddress_51 ?_
          cases q17
          exact V_sub [1, 2, 3, 4, 0] rfl k18
        · have q17 := (if_neg c19).symm.trans q17
          refine V_iconst C0 (v := (1 : Int32)) (by decide) dX10_unitWithAddress_47 ?_
          refine V_goto C0 (tgt := 52) (by decide) dX10_unitWithAddress_48 ?_
          cases q17
          exact V_sub [1, 2, 3, 4, 0] rfl k18
set_option maxRecDepth 100000 in
set_option maxHeartbeats 4000000 in
theorem c_X10_unitWithAddress (l : Launch) (D : va_G) (cA : Nat → ClassId) (ad : Nat → Nat) (bs : Nat) (X : State → Prop) (hAd : Ax ad bs) (hX : Stb bs X) (N : Nat) (x0 : Nat) (x1 : Int32) (I : MI) (L : ML) (R : MR) (r : Int32) (h : F_X10_unitWithAddress N x0 x1 I L R = some (r)) : Cn l D cA ad bs X yX10_unitWithAddress cX10_unitWithAddress 6 (some .int) 2 42 [.ref (ad x0), .int x1] I L R (some (.int r), I, L, R) := by
  refine Cn.ofV hAd hX [(0, .ref (ad x0)), (1, .int x1)] rfl (Nat.le_of_ble_eq_true rfl) (by decide) ?_
  intro G el eD ecA ead ebs eX erm eNL C0
  subst el eD ecA ead ebs eX
  unfold F_X10_unitWithAddress at h
  obtain ⟨c_x0, h⟩ := ite_some h
  refine V_iconst C0 (v := (-1 : Int32)) (by decide) dX10_unitWithAddress_0 ?_
  refine V_istore_n C0 [(2, .int (-1 : Int32)), (0, .ref (G.ad x0)), (1, .int x1)] rfl (by rw [eNL]; decide) rfl dX10_unitWithAddress_1 ?_
  refine V_iconst C0 (v := (0 : Int32)) (by decide) dX10_unitWithAddress_2 ?_
  refine V_istore_n C0 [(3, .int (0 : Int32)), (2, .int (-1 : Int32)), (0, .ref (G.ad x0)), (1, .int x1)] rfl (by rw [eNL]; decide) rfl dX10_unitWithAddress_3 ?_
  obtain ⟨z38, q39, h⟩ := bn1_some h
  refine V_sub [2, 3, 1, 0] rfl (lp_X10_unitWithAddress_4 C0 eNL erm N N x0 x1 (-1 : Int32) (0 : Int32) I L R _ c_x0.1 c_x0.2 q39 _ ?_)
  show V G _ 87 [(2, .int z38)] [] I L R
  refine V_iload_n C0 0 rfl rfl dX10_unitWithAddress_87 ?_
  cases h
  exact V_iret C0 dX10_unitWithAddress_88
theorem dX10_drawsTaken_0 : decode cX10_drawsTaken 0 = .ok (.aload_n 0, 1) := by decide +kernel
theorem dX10_drawsTaken_1 : decode cX10_drawsTaken 1 = .ok (.getfield 45, 3) := by decide +kernel
theorem dX10_drawsTaken_4 : decode cX10_drawsTaken 4 = .ok (.ireturn, 1) := by decide +kernel
def F_X10_drawsTaken (x0 : Nat) (I : MI) (L : ML) (R : MR) : Option (Int32) :=
  if kd x0 = 9 ∧ x0 < NN then
  some ((I x0 4))
  else none
set_option maxRecDepth 100000 in
set_option maxHeartbeats 4000000 in
theorem c_X10_drawsTaken (l : Launch) (D : va_G) (cA : Nat → ClassId) (ad : Nat → Nat) (bs : Nat) (X : State → Prop) (hAd : Ax ad bs) (hX : Stb bs X) (x0 : Nat) (I : MI) (L : ML) (R : MR) (r : Int32) (h : F_X10_drawsTaken x0 I L R = some (r)) : Cn l D cA ad bs X yX10_drawsTaken cX10_drawsTaken 1 (some .int) 0 0 [.ref (ad x0)] I L R (some (.int r), I, L, R) := by
  refine Cn.ofV hAd hX [(0, .ref (ad x0))] rfl (Nat.le_of_ble_eq_true rfl) (by decide) ?_
  intro G el eD ecA ead ebs eX erm eNL C0
  subst el eD ecA ead ebs eX
  unfold F_X10_drawsTaken at h
  obtain ⟨c_x0, h⟩ := ite_some h
  refine V_aload_n C0 0 rfl rfl dX10_drawsTaken_0 ?_
  refine V_getI C0 9 4 fl_X10_45 c_x0.2 c_x0.1 rfl dX10_drawsTaken_1 ?_
  cases h
  exact V_iret C0 dX10_drawsTaken_4
theorem dX10_addressNow_0 : decode cX10_addressNow 0 = .ok (.aload_n 0, 1) := by decide +kernel
theorem dX10_addressNow_1 : decode cX10_addressNow 1 = .ok (.getfield 48, 3) := by decide +kernel
theorem dX10_addressNow_4 : decode cX10_addressNow 4 = .ok (.ireturn, 1) := by decide +kernel
def F_X10_addressNow (x0 : Nat) (I : MI) (L : ML) (R : MR) : Option (Int32) :=
  if kd x0 = 9 ∧ x0 < NN then
  some ((I x0 5))
  else none
set_option maxRecDepth 100000 in
set_option maxHeartbeats 4000000 in
theorem c_X10_addressNow (l : Launch) (D : va_G) (cA : Nat → ClassId) (ad : Nat → Nat) (bs : Nat) (X : State → Prop) (hAd : Ax ad bs) (hX : Stb bs X) (x0 : Nat) (I : MI) (L : ML) (R : MR) (r : Int32) (h : F_X10_addressNow x0 I L R = some (r)) : Cn l D cA ad bs X yX10_addressNow cX10_addressNow 1 (some .int) 0 0 [.ref (ad x0)] I L R (some (.int r), I, L, R) := by
  refine Cn.ofV hAd hX [(0, .ref (ad x0))] rfl (Nat.le_of_ble_eq_true rfl) (by decide) ?_
  intro G el eD ecA ead ebs eX erm eNL C0
  subst el eD ecA ead ebs eX
  unfold F_X10_addressNow at h
  obtain ⟨c_x0, h⟩ := ite_some h
  refine V_aload_n C0 0 rfl rfl dX10_addressNow_0 ?_
  refine V_getI C0 9 5 fl_X10_48 c_x0.2 c_x0.1 rfl dX10_addressNow_1 ?_
  cases h
  exact V_iret C0 dX10_addressNow_4
theorem dX10_reserveNow_0 : decode cX10_reserveNow 0 = .ok (.aload_n 0, 1) := by decide +kernel
theorem dX10_reserveNow_1 : decode cX10_reserveNow 1 = .ok (.getfield 51, 3) := by decide +kernel
theorem dX10_reserveNow_4 : decode cX10_reserveNow 4 = .ok (.ireturn, 1) := by decide +kernel
def F_X10_reserveNow (x0 : Nat) (I : MI) (L : ML) (R : MR) : Option (Int32) :=
  if kd x0 = 9 ∧ x0 < NN then
  some ((I x0 6))
  else none
set_option maxRecDepth 100000 in
set_option maxHeartbeats 4000000 in
theorem c_X10_reserveNow (l : Launch) (D : va_G) (cA : Nat → ClassId) (ad : Nat → Nat) (bs : Nat) (X : State → Prop) (hAd : Ax ad bs) (hX : Stb bs X) (x0 : Nat) (I : MI) (L : ML) (R : MR) (r : Int32) (h : F_X10_reserveNow x0 I L R = some (r)) : Cn l D cA ad bs X yX10_reserveNow cX10_reserveNow 1 (some .int) 0 0 [.ref (ad x0)] I L R (some (.int r), I, L, R) := by
  refine Cn.ofV hAd hX [(0, .ref (ad x0))] rfl (Nat.le_of_ble_eq_true rfl) (by decide) ?_
  intro G el eD ecA ead ebs eX erm eNL C0
  subst el eD ecA ead ebs eX
  unfold F_X10_reserveNow at h
  obtain ⟨c_x0, h⟩ := ite_some h
  refine V_aload_n C0 0 rfl rfl dX10_reserveNow_0 ?_
  refine V_getI C0 9 6 fl_X10_51 c_x0.2 c_x0.1 rfl dX10_reserveNow_1 ?_
  cases h
  exact V_iret C0 dX10_reserveNow_4
theorem dX10_notesTaken_0 : decode cX10_notesTaken 0 = .ok (.aload_n 0, 1) := by decide +kernel
theorem dX10_notesTaken_1 : decode cX10_notesTaken 1 = .ok (.getfield 54, 3) := by decide +kernel
theorem dX10_notesTaken_4 : decode cX10_notesTaken 4 = .ok (.ireturn, 1) := by decide +kernel
def F_X10_notesTaken (x0 : Nat) (I : MI) (L : ML) (R : MR) : Option (Int32) :=
  if kd x0 = 9 ∧ x0 < NN then
  some ((I x0 7))
  else none
set_option maxRecDepth 100000 in
set_option maxHeartbeats 4000000 in
theorem c_X10_notesTaken (l : Launch) (D : va_G) (cA : Nat → ClassId) (ad : Nat → Nat) (bs : Nat) (X : State → Prop) (hAd : Ax ad bs) (hX : Stb bs X) (x0 : Nat) (I : MI) (L : ML) (R : MR) (r : Int32) (h : F_X10_notesTaken x0 I L R = some (r)) : Cn l D cA ad bs X yX10_notesTaken cX10_notesTaken 1 (some .int) 0 0 [.ref (ad x0)] I L R (some (.int r), I, L, R) := by
  refine Cn.ofV hAd hX [(0, .ref (ad x0))] rfl (Nat.le_of_ble_eq_true rfl) (by decide) ?_
  intro G el eD ecA ead ebs eX erm eNL C0
  subst el eD ecA ead ebs eX
  unfold F_X10_notesTaken at h
  obtain ⟨c_x0, h⟩ := ite_some h
  refine V_aload_n C0 0 rfl rfl dX10_notesTaken_0 ?_
  refine V_getI C0 9 7 fl_X10_54 c_x0.2 c_x0.1 rfl dX10_notesTaken_1 ?_
  cases h
  exact V_iret C0 dX10_notesTaken_4
theorem dX10_restartsDone_0 : decode cX10_restartsDone 0 = .ok (.aload_n 0, 1) := by decide +kernel
theorem dX10_restartsDone_1 : decode cX10_restartsDone 1 = .ok (.getfield 57, 3) := by decide +kernel
theorem dX10_restartsDone_4 : decode cX10_restartsDone 4 = .ok (.ireturn, 1) := by decide +kernel
def F_X10_restartsDone (x0 : Nat) (I : MI) (L : ML) (R : MR) : Option (Int32) :=
  if kd x0 = 9 ∧ x0 < NN then
  some ((I x0 8))
  else none
set_option maxRecDepth 100000 in
set_option maxHeartbeats 4000000 in
theorem c_X10_restartsDone (l : Launch) (D : va_G) (cA : Nat → ClassId) (ad : Nat → Nat) (bs : Nat) (X : State → Prop) (hAd : Ax ad bs) (hX : Stb bs X) (x0 : Nat) (I : MI) (L : ML) (R : MR) (r : Int32) (h : F_X10_restartsDone x0 I L R = some (r)) : Cn l D cA ad bs X yX10_restartsDone cX10_restartsDone 1 (some .int) 0 0 [.ref (ad x0)] I L R (some (.int r), I, L, R) := by
  refine Cn.ofV hAd hX [(0, .ref (ad x0))] rfl (Nat.le_of_ble_eq_true rfl) (by decide) ?_
  intro G el eD ecA ead ebs eX erm eNL C0
  subst el eD ecA ead ebs eX
  unfold F_X10_restartsDone at h
  obtain ⟨c_x0, h⟩ := ite_some h
  refine V_aload_n C0 0 rfl rfl dX10_restartsDone_0 ?_
  refine V_getI C0 9 8 fl_X10_57 c_x0.2 c_x0.1 rfl dX10_restartsDone_1 ?_
  cases h
  exact V_iret C0 dX10_restartsDone_4
theorem dX10_hasNote_0 : decode cX10_hasNote 0 = .ok (.iload_n 1, 1) := by decide +kernel
theorem dX10_hasNote_1 : decode cX10_hasNote 1 = .ok (.ifCond .lt 21, 3) := by decide +kernel
theorem dX10_hasNote_4 : decode cX10_hasNote 4 = .ok (.iload_n 1, 1) := by decide +kernel
theorem dX10_hasNote_5 : decode cX10_hasNote 5 = .ok (.aload_n 0, 1) := by decide +kernel
theorem dX10_hasNote_6 : decode cX10_hasNote 6 = .ok (.getfield 54, 3) := by decide +kernel
theorem dX10_hasNote_9 : decode cX10_hasNote 9 = .ok (.if_icmp .ge 13, 3) := by decide +kernel
theorem dX10_hasNote_12 : decode cX10_hasNote 12 = .ok (.iload_n 1, 1) := by decide +kernel
theorem dX10_hasNote_13 : decode cX10_hasNote 13 = .ok (.bipush 100, 2) := by decide +kernel
theorem dX10_hasNote_15 : decode cX10_hasNote 15 = .ok (.if_icmp .ge 7, 3) := by decide +kernel
theorem dX10_hasNote_18 : decode cX10_hasNote 18 = .ok (.iconst 1, 1) := by decide +kernel
theorem dX10_hasNote_19 : decode cX10_hasNote 19 = .ok (.goto 4, 3) := by decide +kernel
theorem dX10_hasNote_22 : decode cX10_hasNote 22 = .ok (.iconst 0, 1) := by decide +kernel
theorem dX10_hasNote_23 : decode cX10_hasNote 23 = .ok (.ireturn, 1) := by decide +kernel
def F_X10_hasNote (x0 : Nat) (x1 : Int32) (I : MI) (L : ML) (R : MR) : Option (Bool) :=
  if kd x0 = 9 ∧ x0 < NN then
  if x1 < 0 then
    some (false)
  else
    if (I x0 7) ≤ x1 then
      some (false)
    else
      if (100 : Int32) ≤ x1 then
        some (false)
      else
        some (true)
  else none
set_option maxRecDepth 100000 in
set_option maxHeartbeats 4000000 in
theorem c_X10_hasNote (l : Launch) (D : va_G) (cA : Nat → ClassId) (ad : Nat → Nat) (bs : Nat) (X : State → Prop) (hAd : Ax ad bs) (hX : Stb bs X) (x0 : Nat) (x1 : Int32) (I : MI) (L : ML) (R : MR) (r : Bool) (h : F_X10_hasNote x0 x1 I L R = some (r)) : Cn l D cA ad bs X yX10_hasNote cX10_hasNote 2 (some .boolean) 0 0 [.ref (ad x0), .int x1] I L R (some (.int (b2i r)), I, L, R) := by
  refine Cn.ofV hAd hX [(0, .ref (ad x0)), (1, .int x1)] rfl (Nat.le_of_ble_eq_true rfl) (by decide) ?_
  intro G el eD ecA ead ebs eX erm eNL C0
  subst el eD ecA ead ebs eX
  unfold F_X10_hasNote at h
  obtain ⟨c_x0, h⟩ := ite_some h
  refine V_iload_n C0 1 rfl rfl dX10_hasNote_0 ?_
  refine V_if_lt C0 (tgt := 22) (by decide) dX10_hasNote_1 (fun c1 => ?_) (fun c1 => ?_)
  · have h := (if_pos c1).symm.trans h
    refine V_iconst C0 (v := (0 : Int32)) (by decide) dX10_hasNote_22 ?_
    cases h
    exact V_zret C0 (by decide) dX10_hasNote_23
  · have h := (if_neg c1).symm.trans h
    refine V_iload_n C0 1 rfl rfl dX10_hasNote_4 ?_
    refine V_aload_n C0 0 rfl rfl dX10_hasNote_5 ?_
    refine V_getI C0 9 7 fl_X10_54 c_x0.2 c_x0.1 rfl dX10_hasNote_6 ?_
    refine V_icmp_ge C0 (tgt := 22) (by decide) dX10_hasNote_9 (fun c2 => ?_) (fun c2 => ?_)
    · have h := (if_pos c2).symm.trans h
      refine V_iconst C0 (v := (0 : Int32)) (by decide) dX10_hasNote_22 ?_
      cases h
      exact V_zret C0 (by decide) dX10_hasNote_23
    · have h := (if_neg c2).symm.trans h
      refine V_iload_n C0 1 rfl rfl dX10_hasNote_12 ?_
      refine V_bipush C0 (v := (100 : Int32)) (by decide) dX10_hasNote_13 ?_
      refine V_icmp_ge C0 (tgt := 22) (by decide) dX10_hasNote_15 (fun c3 => ?_) (fun c3 => ?_)
      · have h := (if_pos c3).symm.trans h
        refine V_iconst C0 (v := (0 : Int32)) (by decide) dX10_hasNote_22 ?_
        cases h
        exact V_zret C0 (by decide) dX10_hasNote_23
      · have h := (if_neg c3).symm.trans h
        refine V_iconst C0 (v := (1 : Int32)) (by decide) dX10_hasNote_18 ?_
        refine V_goto C0 (tgt := 23) (by decide) dX10_hasNote_19 ?_
        cases h
        exact V_zret C0 (by decide) dX10_hasNote_23
theorem dX10_noteValue_0 : decode cX10_noteValue 0 = .ok (.iconst 3, 1) := by decide +kernel
theorem dX10_noteValue_1 : decode cX10_noteValue 1 = .ok (.iload_n 1, 1) := by decide +kernel
theorem dX10_noteValue_2 : decode cX10_noteValue 2 = .ok (.imul, 1) := by decide +kernel
theorem dX10_noteValue_3 : decode cX10_noteValue 3 = .ok (.iload_n 2, 1) := by decide +kernel
theorem dX10_noteValue_4 : decode cX10_noteValue 4 = .ok (.iadd, 1) := by decide +kernel
theorem dX10_noteValue_5 : decode cX10_noteValue 5 = .ok (.istore_n 3, 1) := by decide +kernel
theorem dX10_noteValue_6 : decode cX10_noteValue 6 = .ok (.iload_n 3, 1) := by decide +kernel
theorem dX10_noteValue_7 : decode cX10_noteValue 7 = .ok (.ifCond .lt 21, 3) := by decide +kernel
theorem dX10_noteValue_10 : decode cX10_noteValue 10 = .ok (.iload_n 3, 1) := by decide +kernel
theorem dX10_noteValue_11 : decode cX10_noteValue 11 = .ok (.aload_n 0, 1) := by decide +kernel
theorem dX10_noteValue_12 : decode cX10_noteValue 12 = .ok (.getfield 22, 3) := by decide +kernel
theorem dX10_noteValue_15 : decode cX10_noteValue 15 = .ok (.arraylength, 1) := by decide +kernel
theorem dX10_noteValue_16 : decode cX10_noteValue 16 = .ok (.if_icmp .ge 12, 3) := by decide +kernel
theorem dX10_noteValue_19 : decode cX10_noteValue 19 = .ok (.aload_n 0, 1) := by decide +kernel
theorem dX10_noteValue_20 : decode cX10_noteValue 20 = .ok (.getfield 22, 3) := by decide +kernel
theorem dX10_noteValue_23 : decode cX10_noteValue 23 = .ok (.iload_n 3, 1) := by decide +kernel
theorem dX10_noteValue_24 : decode cX10_noteValue 24 = .ok (.iaload, 1) := by decide +kernel
theorem dX10_noteValue_25 : decode cX10_noteValue 25 = .ok (.goto 4, 3) := by decide +kernel
theorem dX10_noteValue_28 : decode cX10_noteValue 28 = .ok (.iconst (-1), 1) := by decide +kernel
theorem dX10_noteValue_29 : decode cX10_noteValue 29 = .ok (.ireturn, 1) := by decide +kernel
def F_X10_noteValue (x0 : Nat) (x1 : Int32) (x2 : Int32) (I : MI) (L : ML) (R : MR) : Option (Int32) :=
  if kd x0 = 9 ∧ x0 < NN then
  wr (((3 : Int32) * x1) + x2) fun (u1 : Int32) =>
  if u1 < 0 then
    some ((-1 : Int32))
  else
    (rf R x0 2 20).bind fun a3 =>
    if (Int32.ofNat (ln a3)) ≤ u1 then
      some ((-1 : Int32))
    else
      (ri I a3 u1).bind fun v5 =>
      some (v5)
  else none
set_option maxRecDepth 100000 in
set_option maxHeartbeats 4000000 in
theorem c_X10_noteValue (l : Launch) (D : va_G) (cA : Nat → ClassId) (ad : Nat → Nat) (bs : Nat) (X : State → Prop) (hAd : Ax ad bs) (hX : Stb bs X) (x0 : Nat) (x1 : Int32) (x2 : Int32) (I : MI) (L : ML) (R : MR) (r : Int32) (h : F_X10_noteValue x0 x1 x2 I L R = some (r)) : Cn l D cA ad bs X yX10_noteValue cX10_noteValue 4 (some .int) 0 0 [.ref (ad x0), .int x1, .int x2] I L R (some (.int r), I, L, R) := by
  refine Cn.ofV hAd hX [(0, .ref (ad x0)), (1, .int x1), (2, .int x2)] rfl (Nat.le_of_ble_eq_true rfl) (by decide) ?_
  intro G el eD ecA ead ebs eX erm eNL C0
  subst el eD ecA ead ebs eX
  unfold F_X10_noteValue at h
  obtain ⟨c_x0, h⟩ := ite_some h
  refine V_iconst C0 (v := (3 : Int32)) (by decide) dX10_noteValue_0 ?_
  refine V_iload_n C0 1 rfl rfl dX10_noteValue_1 ?_
  refine V_imul C0 dX10_noteValue_2 ?_
  refine V_iload_n C0 2 rfl rfl dX10_noteValue_3 ?_
  refine V_iadd C0 dX10_noteValue_4 ?_
  obtain ⟨u1, eu1, h⟩ := wr_some h
  rw [← eu1]
  refine V_istore_n C0 [(3, .int u1), (0, .ref (G.ad x0)), (1, .int x1), (2, .int x2)] rfl (by rw [eNL]; decide) rfl dX10_noteValue_5 ?_
  refine V_iload_n C0 0 rfl rfl dX10_noteValue_6 ?_
  refine V_if_lt C0 (tgt := 28) (by decide) dX10_noteValue_7 (fun c2 => ?_) (fun c2 => ?_)
  · have h := (if_pos c2).symm.trans h
    refine V_iconst C0 (v := (-1 : Int32)) (by decide) dX10_noteValue_28 ?_
    cases h
    exact V_iret C0 dX10_noteValue_29
  · have h := (if_neg c2).symm.trans h
    refine V_iload_n C0 0 rfl rfl dX10_noteValue_10 ?_
    refine V_aload_n C0 1 rfl rfl dX10_noteValue_11 ?_
    obtain ⟨a3, qa3, h⟩ := bnd_some h
    refine V_getR C0 9 2 fl_X10_22 c_x0.2 c_x0.1 rfl (rf_at qa3) dX10_noteValue_12 ?_
    refine V_alen C0 (v := Int32.ofNat (ln a3)) (rf_lt qa3) (by rw [(rf_kd qa3)]; decide) rfl dX10_noteValue_15 ?_
    refine V_icmp_ge C0 (tgt := 28) (by decide) dX10_noteValue_16 (fun c4 => ?_) (fun c4 => ?_)
    · have h := (if_pos c4).symm.trans h
      refine V_iconst C0 (v := (-1 : Int32)) (by decide) dX10_noteValue_28 ?_
      cases h
      exact V_iret C0 dX10_noteValue_29
    · have h := (if_neg c4).symm.trans h
      refine V_aload_n C0 1 rfl rfl dX10_noteValue_19 ?_
      refine V_getR C0 9 2 fl_X10_22 c_x0.2 c_x0.1 rfl (rf_at qa3) dX10_noteValue_20 ?_
      refine V_iload_n C0 0 rfl rfl dX10_noteValue_23 ?_
      obtain ⟨v5, qv5, h⟩ := bnd_some h
      refine V_ri C0 (rf_lt qa3) (rf_kd qa3) qv5 dX10_noteValue_24 ?_
      refine V_goto C0 (tgt := 29) (by decide) dX10_noteValue_25 ?_
      cases h
      exact V_iret C0 dX10_noteValue_29
theorem dX11_feed_0 : decode cX11_feed 0 = .ok (.aload_n 0, 1) := by decide +kernel
theorem dX11_feed_1 : decode cX11_feed 1 = .ok (.getfield 13, 3) := by decide +kernel
theorem dX11_feed_4 : decode cX11_feed 4 = .ok (.bipush 20, 2) := by decide +kernel
theorem dX11_feed_6 : decode cX11_feed 6 = .ok (.invokevirtual 46, 3) := by decide +kernel
theorem dX11_feed_9 : decode cX11_feed 9 = .ok (.ifCond .ne 5, 3) := by decide +kernel
theorem dX11_feed_12 : decode cX11_feed 12 = .ok (.iconst (-1), 1) := by decide +kernel
theorem dX11_feed_13 : decode cX11_feed 13 = .ok (.ireturn, 1) := by decide +kernel
theorem dX11_feed_14 : decode cX11_feed 14 = .ok (.aload_n 0, 1) := by decide +kernel
theorem dX11_feed_15 : decode cX11_feed 15 = .ok (.getfield 13, 3) := by decide +kernel
theorem dX11_feed_18 : decode cX11_feed 18 = .ok (.iload_n 1, 1) := by decide +kernel
theorem dX11_feed_19 : decode cX11_feed 19 = .ok (.invokevirtual 50, 3) := by decide +kernel
theorem dX11_feed_22 : decode cX11_feed 22 = .ok (.aload_n 0, 1) := by decide +kernel
theorem dX11_feed_23 : decode cX11_feed 23 = .ok (.getfield 13, 3) := by decide +kernel
theorem dX11_feed_26 : decode cX11_feed 26 = .ok (.iload_n 2, 1) := by decide +kernel
theorem dX11_feed_27 : decode cX11_feed 27 = .ok (.invokevirtual 50, 3) := by decide +kernel
theorem dX11_feed_30 : decode cX11_feed 30 = .ok (.aload_n 0, 1) := by decide +kernel
theorem dX11_feed_31 : decode cX11_feed 31 = .ok (.getfield 13, 3) := by decide +kernel
theorem dX11_feed_34 : decode cX11_feed 34 = .ok (.iload_n 3, 1) := by decide +kernel
theorem dX11_feed_35 : decode cX11_feed 35 = .ok (.invokevirtual 50, 3) := by decide +kernel
theorem dX11_feed_38 : decode cX11_feed 38 = .ok (.aload_n 0, 1) := by decide +kernel
theorem dX11_feed_39 : decode cX11_feed 39 = .ok (.getfield 13, 3) := by decide +kernel
theorem dX11_feed_42 : decode cX11_feed 42 = .ok (.iload 4, 2) := by decide +kernel
theorem dX11_feed_44 : decode cX11_feed 44 = .ok (.invokevirtual 50, 3) := by decide +kernel
theorem dX11_feed_47 : decode cX11_feed 47 = .ok (.aload_n 0, 1) := by decide +kernel
theorem dX11_feed_48 : decode cX11_feed 48 = .ok (.getfield 13, 3) := by decide +kernel
theorem dX11_feed_51 : decode cX11_feed 51 = .ok (.iload 5, 2) := by decide +kernel
theorem dX11_feed_53 : decode cX11_feed 53 = .ok (.invokevirtual 50, 3) := by decide +kernel
theorem dX11_feed_56 : decode cX11_feed 56 = .ok (.aload_n 0, 1) := by decide +kernel
theorem dX11_feed_57 : decode cX11_feed 57 = .ok (.getfield 13, 3) := by decide +kernel
theorem dX11_feed_60 : decode cX11_feed 60 = .ok (.invokevirtual 54, 3) := by decide +kernel
theorem dX11_feed_63 : decode cX11_feed 63 = .ok (.ireturn, 1) := by decide +kernel
def F_X11_feed (N : Nat) (x0 : Nat) (x1 : Int32) (x2 : Int32) (x3 : Int32) (x4 : Int32) (x5 : Int32) (I : MI) (L : ML) (R : MR) : Option (Int32 × MI) :=
  if kd x0 = 10 ∧ x0 < NN then
  (rf R x0 0 7).bind fun a1 =>
  bn1 (F_X8_hasPlaceFor a1 (20 : Int32) I L R) fun b2 =>
  if (b2i b2) = 0 then
    some ((-1 : Int32), I)
  else
    bn1 (F_X8_append N a1 x1 I L R) fun I5 =>
    bn1 (F_X8_append N a1 x2 I5 L R) fun I7 =>
    bn1 (F_X8_append N a1 x3 I7 L R) fun I9 =>
    bn1 (F_X8_append N a1 x4 I9 L R) fun I11 =>
    bn1 (F_X8_append N a1 x5 I11 L R) fun I13 =>
    bn1 (F_X8_size a1 I13 L R) fun v15 =>
    some (v15, I13)
  else none
set_option maxRecDepth 100000 in
set_option maxHeartbeats 4000000 in
theorem c_X11_feed (l : Launch) (D : va_G) (cA : Nat → ClassId) (ad : Nat → Nat) (bs : Nat) (X : State → Prop) (hAd : Ax ad bs) (hX : Stb bs X) (N : Nat) (x0 : Nat) (x1 : Int32) (x2 : Int32) (x3 : Int32) (x4 : Int32) (x5 : Int32) (I : MI) (L : ML) (R : MR) (r : Int32) (I' : MI) (h : F_X11_feed N x0 x1 x2 x3 x4 x5 I L R = some (r, I')) : Cn l D cA ad bs X yX11_feed cX11_feed 6 (some .int) 1 22 [.ref (ad x0), .int x1, .int x2, .int x3, .int x4, .int x5] I L R (some (.int r), I', L, R) := by
  refine Cn.ofV hAd hX [(0, .ref (ad x0)), (1, .int x1), (2, .int x2), (3, .int x3), (4, .int x4), (5, .int x5)] rfl (Nat.le_of_ble_eq_true rfl) (by decide) ?_
  intro G el eD ecA ead ebs eX erm eNL C0
  subst el eD ecA ead ebs eX
  unfold F_X11_feed at h
  obtain ⟨c_x0, h⟩ := ite_some h
  refine V_aload_n C0 0 rfl rfl dX11_feed_0 ?_
  obtain ⟨a1, qa1, h⟩ := bnd_some h
  refine V_getR C0 10 0 fl_X11_13 c_x0.2 c_x0.1 rfl (rf_at qa1) dX11_feed_1 ?_
  refine V_bipush C0 (v := (20 : Int32)) (by decide) dX11_feed_4 ?_
  obtain ⟨b2, q3, h⟩ := bn1_some h
  refine V_callV C0 (st := []) (As := [.int (20 : Int32)]) 7 (c_X8_hasPlaceFor G.l G.D G.cA G.ad G.bs G.X C0.2.2.2.2.2.2.2.2.2.1 C0.2.2.2.2.2.2.2.2.2.2.2.2 a1 (20 : Int32) I L R b2 q3) lc_X8_hasPlaceFor lk_X11_46 (rf_lt qa1) (rf_kd qa1) ⟨_, rfl, rfl⟩ rfl (by rw [erm]; decide) (Nat.le_of_ble_eq_true rfl) dX11_feed_6 ?_
  show V G _ 9 [(0, .ref (G.ad x0)), (1, .int x1), (2, .int x2), (3, .int x3), (4, .int x4), (5, .int x5)] [.int (b2i b2)] I L R
  refine V_if_ne C0 (tgt := 14) (by decide) dX11_feed_9 (fun c4 => ?_) (fun c4 => ?_)
  · have h := (if_neg c4).symm.trans h
    refine V_aload_n C0 0 rfl rfl dX11_feed_14 ?_
    refine V_getR C0 10 0 fl_X11_13 c_x0.2 c_x0.1 rfl (rf_at qa1) dX11_feed_15 ?_
    refine V_iload_n C0 1 rfl rfl dX11_feed_18 ?_
    obtain ⟨I5, q6, h⟩ := bn1_some h
    refine V_callV C0 (st := []) (As := [.int x1]) 7 (c_X8_append G.l G.D G.cA G.ad G.bs G.X C0.2.2.2.2.2.2.2.2.2.1 C0.2.2.2.2.2.2.2.2.2.2.2.2 N a1 x1 I L R I5 q6) lc_X8_append lk_X11_50 (rf_lt qa1) (rf_kd qa1) ⟨_, rfl, rfl⟩ rfl (by rw [erm]; decide) (Nat.le_of_ble_eq_true rfl) dX11_feed_19 ?_
    show V G _ 22 [(0, .ref (G.ad x0)), (1, .int x1), (2, .int x2), (3, .int x3), (4, .int x4), (5, .int x5)] [] I5 L R
    refine V_aload_n C0 0 rfl rfl dX11_feed_22 ?_
    refine V_getR C0 10 0 fl_X11_13 c_x0.2 c_x0.1 rfl (rf_at qa1) dX11_feed_23 ?_
    refine V_iload_n C0 2 rfl rfl dX11_feed_26 ?_
    obtain ⟨I7, q8, h⟩ := bn1_some h
    refine V_callV C0 (st := []) (As := [.int x2]) 7 (c_X8_append G.l G.D G.cA G.ad G.bs G.X C0.2.2.2.2.2.2.2.2.2.1 C0.2.2.2.2.2.2.2.2.2.2.2.2 N a1 x2 I5 L R I7 q8) lc_X8_append lk_X11_50 (rf_lt qa1) (rf_kd qa1) ⟨_, rfl, rfl⟩ rfl (by rw [erm]; decide) (Nat.le_of_ble_eq_true rfl) dX11_feed_27 ?_
    show V G _ 30 [(0, .ref (G.ad x0)), (1, .int x1), (2, .int x2), (3, .int x3), (4, .int x4), (5, .int x5)] [] I7 L R
    refine V_aload_n C0 0 rfl rfl dX11_feed_30 ?_
    refine V_getR C0 10 0 fl_X11_13 c_x0.2 c_x0.1 rfl (rf_at qa1) dX11_feed_31 ?_
    refine V_iload_n C0 3 rfl rfl dX11_feed_34 ?_
    obtain ⟨I9, q10, h⟩ := bn1_some h
    refine V_callV C0 (st := []) (As := [.int x3]) 7 (c_X8_append G.l G.D G.cA G.ad G.bs G.X C0.2.2.2.2.2.2.2.2.2.1 C0.2.2.2.2.2.2.2.2.2.2.2.2 N a1 x3 I7 L R I9 q10) lc_X8_append lk_X11_50 (rf_lt qa1) (rf_kd qa1) ⟨_, rfl, rfl⟩ rfl (by rw [erm]; decide) (Nat.le_of_ble_eq_true rfl) dX11_feed_35 ?_
    show V G _ 38 [(0, .ref (G.ad x0)), (1, .int x1), (2, .int x2), (3, .int x3), (4, .int x4), (5, .int x5)] [] I9 L R
    refine V_aload_n C0 0 rfl rfl dX11_feed_38 ?_
    refine V_getR C0 10 0 fl_X11_13 c_x0.2 c_x0.1 rfl (rf_at qa1) dX11_feed_39 ?_
    refine V_iload C0 4 rfl dX11_feed_42 ?_
    obtain ⟨I11, q12, h⟩ := bn1_some h
    refine V_callV C0 (st := []) (As := [.int x4]) 7 (c_X8_append G.l G.D G.cA G.ad G.bs G.X C0.2.2.2.2.2.2.2.2.2.1 C0.2.2.2.2.2.2.2.2.2.2.2.2 N a1 x4 I9 L R I11 q12) lc_X8_append lk_X11_50 (rf_lt qa1) (rf_kd qa1) ⟨_, rfl, rfl⟩ rfl (by rw [erm]; decide) (Nat.le_of_ble_eq_true rfl) dX11_feed_44 ?_
    show V G _ 47 [(0, .ref (G.ad x0)), (1, .int x1), (2, .int x2), (3, .int x3), (4, .int x4), (5, .int x5)] [] I11 L R
    refine V_aload_n C0 0 rfl rfl dX11_feed_47 ?_
    refine V_getR C0 10 0 fl_X11_13 c_x0.2 c_x0.1 rfl (rf_at qa1) dX11_feed_48 ?_
    refine V_iload C0 5 rfl dX11_feed_51 ?_
    obtain ⟨I13, q14, h⟩ := bn1_some h
    refine V_callV C0 (st := []) (As := [.int x5]) 7 (c_X8_append G.l G.D G.cA G.ad G.bs G.X C0.2.2.2.2.2.2.2.2.2.1 C0.2.2.2.2.2.2.2.2.2.2.2.2 N a1 x5 I11 L R I13 q14) lc_X8_append lk_X11_50 (rf_lt qa1) (rf_kd qa1) ⟨_, rfl, rfl⟩ rfl (by rw [erm]; decide) (Nat.le_of_ble_eq_true rfl) dX11_feed_53 ?_
    show V G _ 56 [(0, .ref (G.ad x0)), (1, .int x1), (2, .int x2), (3, .int x3), (4, .int x4), (5, .int x5)] [] I13 L R
    refine V_aload_n C0 0 rfl rfl dX11_feed_56 ?_
    refine V_getR C0 10 0 fl_X11_13 c_x0.2 c_x0.1 rfl (rf_at qa1) dX11_feed_57 ?_
    obtain ⟨v15, q16, h⟩ := bn1_some h
    refine V_callV C0 (st := []) (As := []) 7 (c_X8_size G.l G.D G.cA G.ad G.bs G.X C0.2.2.2.2.2.2.2.2.2.1 C0.2.2.2.2.2.2.2.2.2.2.2.2 a1 I13 L R v15 q16) lc_X8_size lk_X11_54 (rf_lt qa1) (rf_kd qa1) ⟨_, rfl, rfl⟩ rfl (by rw [erm]; decide) (Nat.le_of_ble_eq_true rfl) dX11_feed_60 ?_
    show V G _ 63 [(0, .ref (G.ad x0)), (1, .int x1), (2, .int x2), (3, .int x3), (4, .int x4), (5, .int x5)] [.int v15] I13 L R
    cases h
    exact V_iret C0 dX11_feed_63
  · have h := (if_pos c4).symm.trans h
    refine V_iconst C0 (v := (-1 : Int32)) (by decide) dX11_feed_12 ?_
    cases h
    exact V_iret C0 dX11_feed_13
theorem dX11_fault_0 : decode cX11_fault 0 = .ok (.iload_n 1, 1) := by decide +kernel
theorem dX11_fault_1 : decode cX11_fault 1 = .ok (.ifCond .ne 11, 3) := by decide +kernel
theorem dX11_fault_4 : decode cX11_fault 4 = .ok (.aload_n 0, 1) := by decide +kernel
theorem dX11_fault_5 : decode cX11_fault 5 = .ok (.getfield 13, 3) := by decide +kernel
theorem dX11_fault_8 : decode cX11_fault 8 = .ok (.invokevirtual 94, 3) := by decide +kernel
theorem dX11_fault_11 : decode cX11_fault 11 = .ok (.ireturn, 1) := by decide +kernel
theorem dX11_fault_12 : decode cX11_fault 12 = .ok (.iload_n 1, 1) := by decide +kernel
theorem dX11_fault_13 : decode cX11_fault 13 = .ok (.iconst 1, 1) := by decide +kernel
theorem dX11_fault_14 : decode cX11_fault 14 = .ok (.if_icmp .ne 13, 3) := by decide +kernel
theorem dX11_fault_17 : decode cX11_fault 17 = .ok (.aload_n 0, 1) := by decide +kernel
theorem dX11_fault_18 : decode cX11_fault 18 = .ok (.getfield 13, 3) := by decide +kernel
theorem dX11_fault_21 : decode cX11_fault 21 = .ok (.invokevirtual 97, 3) := by decide +kernel
theorem dX11_fault_24 : decode cX11_fault 24 = .ok (.goto 4, 3) := by decide +kernel
theorem dX11_fault_27 : decode cX11_fault 27 = .ok (.iconst (-1), 1) := by decide +kernel
theorem dX11_fault_28 : decode cX11_fault 28 = .ok (.ireturn, 1) := by decide +kernel
def F_X11_fault (x0 : Nat) (x1 : Int32) (I : MI) (L : ML) (R : MR) : Option (Int32) :=
  if kd x0 = 10 ∧ x0 < NN then
  if x1 = 0 then
    (rf R x0 0 7).bind fun a6 =>
    bn1 (F_X8_faultCode a6 I L R) fun v7 =>
    some (v7)
  else
    if x1 = (1 : Int32) then
      (rf R x0 0 7).bind fun a3 =>
      bn1 (F_X8_faultPlace a3 I L R) fun v4 =>
      some (v4)
    else
      some ((-1 : Int32))
  else none
set_option maxRecDepth 100000 in
set_option maxHeartbeats 4000000 in
theorem c_X11_fault (l : Launch) (D : va_G) (cA : Nat → ClassId) (ad : Nat → Nat) (bs : Nat) (X : State → Prop) (hAd : Ax ad bs) (hX : Stb bs X) (x0 : Nat) (x1 : Int32) (I : MI) (L : ML) (R : MR) (r : Int32) (h : F_X11_fault x0 x1 I L R = some (r)) : Cn l D cA ad bs X yX11_fault cX11_fault 2 (some .int) 1 20 [.ref (ad x0), .int x1] I L R (some (.int r), I, L, R) := by
  refine Cn.ofV hAd hX [(0, .ref (ad x0)), (1, .int x1)] rfl (Nat.le_of_ble_eq_true rfl) (by decide) ?_
  intro G el eD ecA ead ebs eX erm eNL C0
  subst el eD ecA ead ebs eX
  unfold F_X11_fault at h
  obtain ⟨c_x0, h⟩ := ite_some h
  refine V_iload_n C0 1 rfl rfl dX11_fault_0 ?_
  refine V_if_ne C0 (tgt := 12) (by decide) dX11_fault_1 (fun c1 => ?_) (fun c1 => ?_)
  · have h := (if_neg c1).symm.trans h
    refine V_iload_n C0 1 rfl rfl dX11_fault_12 ?_
    refine V_iconst C0 (v := (1 : Int32)) (by decide) dX11_fault_13 ?_
    refine V_icmp_ne C0 (tgt := 27) (by decide) dX11_fault_14 (fun c2 => ?_) (fun c2 => ?_)
    · have h := (if_neg c2).symm.trans h
      refine V_iconst C0 (v := (-1 : Int32)) (by decide) dX11_fault_27 ?_
      cases h
      exact V_iret C0 dX11_fault_28
    · have h := (if_pos c2).symm.trans h
      refine V_aload_n C0 0 rfl rfl dX11_fault_17 ?_
      obtain ⟨a3, qa3, h⟩ := bnd_some h
      refine V_getR C0 10 0 fl_X11_13 c_x0.2 c_x0.1 rfl (rf_at qa3) dX11_fault_18 ?_
      obtain ⟨v4, q5, h⟩ := bn1_some h
      refine V_callV C0 (st := []) (As := []) 7 (c_X8_faultPlace G.l G.D G.cA G.ad G.bs G.X C0.2.2.2.2.2.2.2.2.2.1 C0.2.2.2.2.2.2.2.2.2.2.2.2 a3 I L R v4 q5) lc_X8_faultPlace lk_X11_97 (rf_lt qa3) (rf_kd qa3) ⟨_, rfl, rfl⟩ rfl (by rw [erm]; decide) (Nat.le_of_ble_eq_true rfl) dX11_fault_21 ?_
      show V G _ 24 [(0, .ref (G.ad x0)), (1, .int x1)] [.int v4] I L R
      refine V_goto C0 (tgt := 28) (by decide) dX11_fault_24 ?_
      cases h
      exact V_iret C0 dX11_fault_28
  · have h := (if_pos c1).symm.trans h
    refine V_aload_n C0 0 rfl rfl dX11_fault_4 ?_
    obtain ⟨a6, qa6, h⟩ := bnd_some h
    refine V_getR C0 10 0 fl_X11_13 c_x0.2 c_x0.1 rfl (rf_at qa6) dX11_fault_5 ?_
    obtain ⟨v7, q8, h⟩ := bn1_some h
    refine V_callV C0 (st := []) (As := []) 7 (c_X8_faultCode G.l G.D G.cA G.ad G.bs G.X C0.2.2.2.2.2.2.2.2.2.1 C0.2.2.2.2.2.2.2.2.2.2.2.2 a6 I L R v7 q8) lc_X8_faultCode lk_X11_94 (rf_lt qa6) (rf_kd qa6) ⟨_, rfl, rfl⟩ rfl (by rw [erm]; decide) (Nat.le_of_ble_eq_true rfl) dX11_fault_8 ?_
    show V G _ 11 [(0, .ref (G.ad x0)), (1, .int x1)] [.int v7] I L R
    cases h
    exact V_iret C0 dX11_fault_11
theorem dX11_isAct_0 : decode cX11_isAct 0 = .ok (.iload_n 1, 1) := by decide +kernel
theorem dX11_isAct_1 : decode cX11_isAct 1 = .ok (.tableswitch 125 0 6 #[43, 43, 84, 91, 43, 52, 117], 43) := by decide +kernel
theorem dX11_isAct_44 : decode cX11_isAct 44 = .ok (.aload_n 0, 1) := by decide +kernel
theorem dX11_isAct_45 : decode cX11_isAct 45 = .ok (.getfield 26, 3) := by decide +kernel
theorem dX11_isAct_48 : decode cX11_isAct 48 = .ok (.iload_n 2, 1) := by decide +kernel
theorem dX11_isAct_49 : decode cX11_isAct 49 = .ok (.invokevirtual 238, 3) := by decide +kernel
theorem dX11_isAct_52 : decode cX11_isAct 52 = .ok (.ireturn, 1) := by decide +kernel
theorem dX11_isAct_53 : decode cX11_isAct 53 = .ok (.aload_n 0, 1) := by decide +kernel
theorem dX11_isAct_54 : decode cX11_isAct 54 = .ok (.getfield 26, 3) := by decide +kernel
theorem dX11_isAct_57 : decode cX11_isAct 57 = .ok (.iload_n 2, 1) := by decide +kernel
theorem dX11_isAct_58 : decode cX11_isAct 58 = .ok (.invokevirtual 238, 3) := by decide +kernel
theorem dX11_isAct_61 : decode cX11_isAct 61 = .ok (.ifCond .eq 22, 3) := by decide +kernel
theorem dX11_isAct_64 : decode cX11_isAct 64 = .ok (.aload_n 0, 1) := by decide +kernel
theorem dX11_isAct_65 : decode cX11_isAct 65 = .ok (.getfield 26, 3) := by decide +kernel
theorem dX11_isAct_68 : decode cX11_isAct 68 = .ok (.iload_n 2, 1) := by decide +kernel
theorem dX11_isAct_69 : decode cX11_isAct 69 = .ok (.invokevirtual 125, 3) := by decide +kernel
theorem dX11_isAct_72 : decode cX11_isAct 72 = .ok (.iconst 5, 1) := by decide +kernel
theorem dX11_isAct_73 : decode cX11_isAct 73 = .ok (.invokevirtual 176, 3) := by decide +kernel
theorem dX11_isAct_76 : decode cX11_isAct 76 = .ok (.ifCond .eq 7, 3) := by decide +kernel
theorem dX11_isAct_79 : decode cX11_isAct 79 = .ok (.iconst 1, 1) := by decide +kernel
theorem dX11_isAct_80 : decode cX11_isAct 80 = .ok (.goto 4, 3) := by decide +kernel
theorem dX11_isAct_83 : decode cX11_isAct 83 = .ok (.iconst 0, 1) := by decide +kernel
theorem dX11_isAct_84 : decode cX11_isAct 84 = .ok (.ireturn, 1) := by decide +kernel
theorem dX11_isAct_85 : decode cX11_isAct 85 = .ok (.iload_n 2, 1) := by decide +kernel
theorem dX11_isAct_86 : decode cX11_isAct 86 = .ok (.iconst 0, 1) := by decide +kernel
theorem dX11_isAct_87 : decode cX11_isAct 87 = .ok (.iconst 3, 1) := by decide +kernel
theorem dX11_isAct_88 : decode cX11_isAct 88 = .ok (.invokestatic 243, 3) := by decide +kernel
theorem dX11_isAct_91 : decode cX11_isAct 91 = .ok (.ireturn, 1) := by decide +kernel
theorem dX11_isAct_92 : decode cX11_isAct 92 = .ok (.iload_n 2, 1) := by decide +kernel
theorem dX11_isAct_93 : decode cX11_isAct 93 = .ok (.iconst 0, 1) := by decide +kernel
theorem dX11_isAct_94 : decode cX11_isAct 94 = .ok (.iconst 2, 1) := by decide +kernel
theorem dX11_isAct_95 : decode cX11_isAct 95 = .ok (.invokestatic 243, 3) := by decide +kernel
theorem dX11_isAct_98 : decode cX11_isAct 98 = .ok (.ifCond .eq 18, 3) := by decide +kernel
theorem dX11_isAct_101 : decode cX11_isAct 101 = .ok (.iload_n 3, 1) := by decide +kernel
theorem dX11_isAct_102 : decode cX11_isAct 102 = .ok (.iconst 0, 1) := by decide +kernel
theorem dX11_isAct_103 : decode cX11_isAct 103 = .ok (.sipush 3599, 3) := by decide +kernel
theorem dX11_isAct_106 : decode cX11_isAct 106 = .ok (.invokestatic 243, 3) := by decide +kernel
theorem dX11_isAct_109 : decode cX11_isAct 109 = .ok (.ifCond .eq 7, 3) := by decide +kernel
theorem dX11_isAct_112 : decode cX11_isAct 112 = .ok (.iconst 1, 1) := by decide +kernel
theorem dX11_isAct_113 : decode cX11_isAct 113 = .ok (.goto 4, 3) := by decide +kernel
theorem dX11_isAct_116 : decode cX11_isAct 116 = .ok (.iconst 0, 1) := by decide +kernel
theorem dX11_isAct_117 : decode cX11_isAct 117 = .ok (.ireturn, 1) := by decide +kernel
theorem dX11_isAct_118 : decode cX11_isAct 118 = .ok (.iload_n 2, 1) := by decide +kernel
theorem dX11_isAct_119 : decode cX11_isAct 119 = .ok (.iconst 0, 1) := by decide +kernel
theorem dX11_isAct_120 : decode cX11_isAct 120 = .ok (.bipush 29, 2) := by decide +kernel
theorem dX11_isAct_122 : decode cX11_isAct 122 = .ok (.invokestatic 243, 3) := by decide +kernel
theorem dX11_isAct_125 : decode cX11_isAct 125 = .ok (.ireturn, 1) := by decide +kernel
theorem dX11_isAct_126 : decode cX11_isAct 126 = .ok (.iconst 0, 1) := by decide +kernel
theorem dX11_isAct_127 : decode cX11_isAct 127 = .ok (.ireturn, 1) := by decide +kernel
def F_X11_isAct (x0 : Nat) (x1 : Int32) (x2 : Int32) (x3 : Int32) (I : MI) (L : ML) (R : MR) : Option (Bool) :=
  if kd x0 = 10 ∧ x0 < NN then
  if x1 = (0 : Int32) then
    (rf R x0 2 9).bind fun a3 =>
    bn1 (F_X10_has a3 x2 I L R) fun b4 =>
    some (b4)
  else
    if x1 = (1 : Int32) then
      (rf R x0 2 9).bind fun a7 =>
      bn1 (F_X10_has a7 x2 I L R) fun b8 =>
      some (b8)
    else
      if x1 = (2 : Int32) then
        bn1 (F_X11_within x2 (0 : Int32) (3 : Int32) I L R) fun b11 =>
        some (b11)
      else
        if x1 = (3 : Int32) then
          bn1 (F_X11_within x2 (0 : Int32) (2 : Int32) I L R) fun b14 =>
          if (b2i b14) = 0 then
            some (false)
          else
            bn1 (F_X11_within x3 (0 : Int32) (3599 : Int32) I L R) fun b17 =>
            if (b2i b17) = 0 then
              some (false)
            else
              some (true)
        else
          if x1 = (4 : Int32) then
            (rf R x0 2 9).bind fun a21 =>
            bn1 (F_X10_has a21 x2 I L R) fun b22 =>
            some (b22)
          else
            if x1 = (5 : Int32) then
              (rf R x0 2 9).bind fun a25 =>
              bn1 (F_X10_has a25 x2 I L R) fun b26 =>
              if (b2i b26) = 0 then
                some (false)
              else
                bn1 (F_X10_unitAt a25 x2 I L R) fun a29 =>
                if kd a29 = 8 ∧ a29 < NN then
                bn1 (F_X9_is a29 (5 : Int32) I L R) fun b32 =>
                if (b2i b32) = 0 then
                  some (false)
                else
                  some (true)
                else none
            else
              if x1 = (6 : Int32) then
                bn1 (F_X11_within x2 (0 : Int32) (29 : Int32) I L R) fun b36 =>
                some (b36)
              else
                some (false)
  else none
set_option maxRecDepth 100000 in
set_option maxHeartbeats 4000000 in
theorem c_X11_isAct (l : Launch) (D : va_G) (cA : Nat → ClassId) (ad : Nat → Nat) (bs : Nat) (X : State → Prop) (hAd : Ax ad bs) (hX : Stb bs X) (x0 : Nat) (x1 : Int32) (x2 : Int32) (x3 : Int32) (I : MI) (L : ML) (R : MR) (r : Bool) (h : F_X11_isAct x0 x1 x2 x3 I L R = some (r)) : Cn l D cA ad bs X yX11_isAct cX11_isAct 4 (some .boolean) 2 42 [.ref (ad x0), .int x1, .int x2, .int x3] I L R (some (.int (b2i r)), I, L, R) := by
  refine Cn.ofV hAd hX [(0, .ref (ad x0)), (1, .int x1), (2, .int x2), (3, .int x3)] rfl (Nat.le_of_ble_eq_true rfl) (by decide) ?_
  intro G el eD ecA ead ebs eX erm eNL C0
  subst el eD ecA ead ebs eX
  unfold F_X11_isAct at h
  obtain ⟨c_x0, h⟩ := ite_some h
  refine V_iload_n C0 1 rfl rfl dX11_isAct_0 ?_
  have nd1 := nd_0 x1
  by_cases c2 : x1 = (0 : Int32)
  · have h := (if_pos c2).symm.trans h
    refine V_tableC C0 (tgt := 44) (v := (0 : Int32)) c2 (by decide) (by decide) dX11_isAct_1 ?_
    refine V_aload_n C0 0 rfl rfl dX11_isAct_44 ?_
    obtain ⟨a3, qa3, h⟩ := bnd_some h
    refine V_getR C0 10 2 fl_X11_26 c_x0.2 c_x0.1 rfl (rf_at qa3) dX11_isAct_45 ?_
    refine V_iload_n C0 2 rfl rfl dX11_isAct_48 ?_
    obtain ⟨b4, q5, h⟩ := bn1_some h
    refine V_callV C0 (st := []) (As := [.int x2]) 9 (c_X10_has G.l G.D G.cA G.ad G.bs G.X C0.2.2.2.2.2.2.2.2.2.1 C0.2.2.2.2.2.2.2.2.2.2.2.2 a3 x2 I L R b4 q5) lc_X10_has lk_X11_238 (rf_lt qa3) (rf_kd qa3) ⟨_, rfl, rfl⟩ rfl (by rw [erm]; decide) (Nat.le_of_ble_eq_true rfl) dX11_isAct_49 ?_
    show V G _ 52 [(0, .ref (G.ad x0)), (1, .int x1), (2, .int x2), (3, .int x3)] [.int (b2i b4)] I L R
    cases h
    exact V_zret C0 (b2i01 _) dX11_isAct_52
  · have h := (if_neg c2).symm.trans h
    have nd1 := nd_add nd1 c2
    by_cases c6 : x1 = (1 : Int32)
    · have h := (if_pos c6).symm.trans h
      refine V_tableC C0 (tgt := 44) (v := (1 : Int32)) c6 (by decide) (by decide) dX11_isAct_1 ?_
      refine V_aload_n C0 0 rfl rfl dX11_isAct_44 ?_
      obtain ⟨a7, qa7, h⟩ := bnd_some h
      refine V_getR C0 10 2 fl_X11_26 c_x0.2 c_x0.1 rfl (rf_at qa7) dX11_isAct_45 ?_
      refine V_iload_n C0 2 rfl rfl dX11_isAct_48 ?_
      obtain ⟨b8, q9, h⟩ := bn1_some h
      refine V_callV C0 (st := []) (As := [.int x2]) 9 (c_X10_has G.l G.D G.cA G.ad G.bs G.X C0.2.2.2.2.2.2.2.2.2.1 C0.2.2.2.2.2.2.2.2.2.2.2.2 a7 x2 I L R b8 q9) lc_X10_has lk_X11_238 (rf_lt qa7) (rf_kd qa7) ⟨_, rfl, rfl⟩ rfl (by rw [erm]; decide) (Nat.le_of_ble_eq_true rfl) dX11_isAct_49 ?_
      show V G _ 52 [(0, .ref (G.ad x0)), (1, .int x1), (2, .int x2), (3, .int x3)] [.int (b2i b8)] I L R
      cases h
      exact V_zret C0 (b2i01 _) dX11_isAct_52
    · have h := (if_neg c6).symm.trans h
      have nd1 := nd_add nd1 c6
      by_cases c10 : x1 = (2 : Int32)
      · have h := (if_pos c10).symm.trans h
        refine V_tableC C0 (tgt := 85) (v := (2 : Int32)) c10 (by decide) (by decide) dX11_isAct_1 ?_
        refine V_iload_n C0 2 rfl rfl dX11_isAct_85 ?_
        refine V_iconst C0 (v := (0 : Int32)) (by decide) dX11_isAct_86 ?_
        refine V_iconst C0 (v := (3 : Int32)) (by decide) dX11_isAct_87 ?_
        obtain ⟨b11, q12, h⟩ := bn1_some h
        refine V_callS C0 (st := []) (As := [.int x2, .int (0 : Int32), .int (3 : Int32)]) (c_X11_within G.l G.D G.cA G.ad G.bs G.X C0.2.2.2.2.2.2.2.2.2.1 C0.2.2.2.2.2.2.2.2.2.2.2.2 x2 (0 : Int32) (3 : Int32) I L R b11 q12) lc_X11_within lk_X11_243 rfl (by rw [erm]; decide) (Nat.le_of_ble_eq_true rfl) dX11_isAct_88 ?_
        show V G _ 91 [(0, .ref (G.ad x0)), (1, .int x1), (2, .int x2), (3, .int x3)] [.int (b2i b11)] I L R
        cases h
        exact V_zret C0 (b2i01 _) dX11_isAct_91
      · have h := (if_neg c10).symm.trans h
        have nd1 := nd_add nd1 c10
        by_cases c13 : x1 = (3 : Int32)
        · have h := (if_pos c13).symm.trans h
          refine V_tableC C0 (tgt := 92) (v := (3 : Int32)) c13 (by decide) (by decide) dX11_isAct_1 ?_
          refine V_iload_n C0 2 rfl rfl dX11_isAct_92 ?_
          refine V_iconst C0 (v := (0 : Int32)) (by decide) dX11_isAct_93 ?_
          refine V_iconst C0 (v := (2 : Int32)) (by decide) dX11_isAct_94 ?_
          obtain ⟨b14, q15, h⟩ := bn1_some h
          refine V_callS C0 (st := []) (As := [.int x2, .int (0 : Int32), .int (2 : Int32)]) (c_X11_within G.l G.D G.cA G.ad G.bs G.X C0.2.2.2.2.2.2.2.2.2.1 C0.2.2.2.2.2.2.2.2.2.2.2.2 x2 (0 : Int32) (2 : Int32) I L R b14 q15) lc_X11_within lk_X11_243 rfl (by rw [erm]; decide) (Nat.le_of_ble_eq_true rfl) dX11_isAct_95 ?_
          show V G _ 98 [(0, .ref (G.ad x0)), (1, .int x1), (2, .int x2), (3, .int x3)] [.int (b2i b14)] I L R
          refine V_if_eq C0 (tgt := 116) (by decide) dX11_isAct_98 (fun c16 => ?_) (fun c16 => ?_)
          · have h := (if_pos c16).symm.trans h
            refine V_iconst C0 (v := (0 : Int32)) (by decide) dX11_isAct_116 ?_
            cases h
            exact V_zret C0 (by decide) dX11_isAct_117
          · have h := (if_neg c16).symm.trans h
            refine V_iload_n C0 3 rfl rfl dX11_isAct_101 ?_
            refine V_iconst C0 (v := (0 : Int32)) (by decide) dX11_isAct_102 ?_
            refine V_sipush C0 (v := (3599 : Int32)) (by decide) dX11_isAct_103 ?_
            obtain ⟨b17, q18, h⟩ := bn1_some h
            refine V_callS C0 (st := []) (As := [.int x3, .int (0 : Int32), .int (3599 : Int32)]) (c_X11_within G.l G.D G.cA G.ad G.bs G.X C0.2.2.2.2.2.2.2.2.2.1 C0.2.2.2.2.2.2.2.2.2.2.2.2 x3 (0 : Int32) (3599 : Int32) I L R b17 q18) lc_X11_within lk_X11_243 rfl (by rw [erm]; decide) (Nat.le_of_ble_eq_true rfl) dX11_isAct_106 ?_
            show V G _ 109 [(0, .ref (G.ad x0)), (1, .int x1), (2, .int x2), (3, .int x3)] [.int (b2i b17)] I L R
            refine V_if_eq C0 (tgt := 116) (by decide) dX11_isAct_109 (fun c19 => ?_) (fun c19 => ?_)
            · have h := (if_pos c19).symm.trans h
              refine V_iconst C0 (v := (0 : Int32)) (by decide) dX11_isAct_116 ?_
              cases h
              exact V_zret C0 (by decide) dX11_isAct_117
            · have h := (if_neg c19).symm.trans h
              refine V_iconst C0 (v := (1 : Int32)) (by decide) dX11_isAct_112 ?_
              refine V_goto C0 (tgt := 117) (by decide) dX11_isAct_113 ?_
              cases h
              exact V_zret C0 (by decide) dX11_isAct_117
        · have h := (if_neg c13).symm.trans h
          have nd1 := nd_add nd1 c13
          by_cases c20 : x1 = (4 : Int32)
          · have h := (if_pos c20).symm.trans h
            refine V_tableC C0 (tgt := 44) (v := (4 : Int32)) c20 (by decide) (by decide) dX11_isAct_1 ?_
            refine V_aload_n C0 0 rfl rfl dX11_isAct_44 ?_
            obtain ⟨a21, qa21, h⟩ := bnd_some h
            refine V_getR C0 10 2 fl_X11_26 c_x0.2 c_x0.1 rfl (rf_at qa21) dX11_isAct_45 ?_
            refine V_iload_n C0 2 rfl rfl dX11_isAct_48 ?_
            obtain ⟨b22, q23, h⟩ := bn1_some h
            refine V_callV C0 (st := []) (As := [.int x2]) 9 (c_X10_has G.l G.D G.cA G.ad G.bs G.X C0.2.2.2.2.2.2.2.2.2.1 C0.2.2.2.2.2.2.2.2.2.2.2.2 a21 x2 I L R b22 q23) lc_X10_has lk_X11_238 (rf_lt qa21) (rf_kd qa21) ⟨_, rfl, rfl⟩ rfl (by rw [erm]; decide) (Nat.le_of_ble_eq_true rfl) dX11_isAct_49 ?_
            show V G _ 52 [(0, .ref (G.ad x0)), (1, .int x1), (2, .int x2), (3, .int x3)] [.int (b2i b22)] I L R
            cases h
            exact V_zret C0 (b2i01 _) dX11_isAct_52
          · have h := (if_neg c20).symm.trans h
            have nd1 := nd_add nd1 c20
            by_cases c24 : x1 = (5 : Int32)
            · have h := (if_pos c24).symm.trans h
              refine V_tableC C0 (tgt := 53) (v := (5 : Int32)) c24 (by decide) (by decide) dX11_isAct_1 ?_
              refine V_aload_n C0 0 rfl rfl dX11_isAct_53 ?_
              obtain ⟨a25, qa25, h⟩ := bnd_some h
              refine V_getR C0 10 2 fl_X11_26 c_x0.2 c_x0.1 rfl (rf_at qa25) dX11_isAct_54 ?_
              refine V_iload_n C0 2 rfl rfl dX11_isAct_57 ?_
              obtain ⟨b26, q27, h⟩ := bn1_some h
              refine V_callV C0 (st := []) (As := [.int x2]) 9 (c_X10_has G.l G.D G.cA G.ad G.bs G.X C0.2.2.2.2.2.2.2.2.2.1 C0.2.2.2.2.2.2.2.2.2.2.2.2 a25 x2 I L R b26 q27) lc_X10_has lk_X11_238 (rf_lt qa25) (rf_kd qa25) ⟨_, rfl, rfl⟩ rfl (by rw [erm]; decide) (Nat.le_of_ble_eq_true rfl) dX11_isAct_58 ?_
              show V G _ 61 [(0, .ref (G.ad x0)), (1, .int x1), (2, .int x2), (3, .int x3)] [.int (b2i b26)] I L R
              refine V_if_eq C0 (tgt := 83) (by decide) dX11_isAct_61 (fun c28 => ?_) (fun c28 => ?_)
              · have h := (if_pos c28).symm.trans h
                refine V_iconst C0 (v := (0 : Int32)) (by decide) dX11_isAct_83 ?_
                cases h
                exact V_zret C0 (by decide) dX11_isAct_84
              · have h := (if_neg c28).symm.trans h
                refine V_aload_n C0 0 rfl rfl dX11_isAct_64 ?_
                refine V_getR C0 10 2 fl_X11_26 c_x0.2 c_x0.1 rfl (rf_at qa25) dX11_isAct_65 ?_
                refine V_iload_n C0 2 rfl rfl dX11_isAct_68 ?_
                obtain ⟨a29, q30, h⟩ := bn1_some h
                refine V_callV C0 (st := []) (As := [.int x2]) 9 (c_X10_unitAt G.l G.D G.cA G.ad G.bs G.X C0.2.2.2.2.2.2.2.2.2.1 C0.2.2.2.2.2.2.2.2.2.2.2.2 a25 x2 I L R a29 q30) lc_X10_unitAt lk_X11_125 (rf_lt qa25) (rf_kd qa25) ⟨_, rfl, rfl⟩ rfl (by rw [erm]; decide) (Nat.le_of_ble_eq_true rfl) dX11_isAct_69 ?_
                show V G _ 72 [(0, .ref (G.ad x0)), (1, .int x1), (2, .int x2), (3, .int x3)] [.ref (G.ad a29)] I L R
                obtain ⟨c31, h⟩ := ite_some h
                refine V_iconst C0 (v := (5 : Int32)) (by decide) dX11_isAct_72 ?_
                obtain ⟨b32, q33, h⟩ := bn1_some h
                refine V_callV C0 (st := []) (As := [.int (5 : Int32)]) 8 (c_X9_is G.l G.D G.cA G.ad G.bs G.X C0.2.2.2.2.2.2.2.2.2.1 C0.2.2.2.2.2.2.2.2.2.2.2.2 a29 (5 : Int32) I L R b32 q33) lc_X9_is lk_X11_176 c31.2 c31.1 ⟨_, rfl, rfl⟩ rfl (by rw [erm]; decide) (Nat.le_of_ble_eq_true rfl) dX11_isAct_73 ?_
                show V G _ 76 [(0, .ref (G.ad x0)), (1, .int x1), (2, .int x2), (3, .int x3)] [.int (b2i b32)] I L R
                refine V_if_eq C0 (tgt := 83) (by decide) dX11_isAct_76 (fun c34 => ?_) (fun c34 => ?_)
                · have h := (if_pos c34).symm.trans h
                  refine V_iconst C0 (v := (0 : Int32)) (by decide) dX11_isAct_83 ?_
                  cases h
                  exact V_zret C0 (by decide) dX11_isAct_84
                · have h := (if_neg c34).symm.trans h
                  refine V_iconst C0 (v := (1 : Int32)) (by decide) dX11_isAct_79 ?_
                  refine V_goto C0 (tgt := 84) (by decide) dX11_isAct_80 ?_
                  cases h
                  exact V_zret C0 (by decide) dX11_isAct_84
            · have h := (if_neg c24).symm.trans h
              have nd1 := nd_add nd1 c24
              by_cases c35 : x1 = (6 : Int32)
              · have h := (if_pos c35).symm.trans h
                refine V_tableC C0 (tgt := 118) (v := (6 : Int32)) c35 (by decide) (by decide) dX11_isAct_1 ?_
                refine V_iload_n C0 2 rfl rfl dX11_isAct_118 ?_
                refine V_iconst C0 (v := (0 : Int32)) (by decide) dX11_isAct_119 ?_
                refine V_bipush C0 (v := (29 : Int32)) (by decide) dX11_isAct_120 ?_
                obtain ⟨b36, q37, h⟩ := bn1_some h
                refine V_callS C0 (st := []) (As := [.int x2, .int (0 : Int32), .int (29 : Int32)]) (c_X11_within G.l G.D G.cA G.ad G.bs G.X C0.2.2.2.2.2.2.2.2.2.1 C0.2.2.2.2.2.2.2.2.2.2.2.2 x2 (0 : Int32) (29 : Int32) I L R b36 q37) lc_X11_within lk_X11_243 rfl (by rw [erm]; decide) (Nat.le_of_ble_eq_true rfl) dX11_isAct_122 ?_
                show V G _ 125 [(0, .ref (G.ad x0)), (1, .int x1), (2, .int x2), (3, .int x3)] [.int (b2i b36)] I L R
                cases h
                exact V_zret C0 (b2i01 _) dX11_isAct_125
              · have h := (if_neg c35).symm.trans h
                have nd1 := nd_add nd1 c35
                refine V_tableN C0 (tgt := 126) nd1 (by decide) (by decide) dX11_isAct_1 ?_
                refine V_iconst C0 (v := (0 : Int32)) (by decide) dX11_isAct_126 ?_
                cases h
                exact V_zret C0 (by decide) dX11_isAct_127
theorem dX11_at_0 : decode cX11_at 0 = .ok (.aload_n 0, 1) := by decide +kernel
theorem dX11_at_1 : decode cX11_at 1 = .ok (.getfield 26, 3) := by decide +kernel
theorem dX11_at_4 : decode cX11_at 4 = .ok (.iload_n 1, 1) := by decide +kernel
theorem dX11_at_5 : decode cX11_at 5 = .ok (.invokevirtual 160, 3) := by decide +kernel
theorem dX11_at_8 : decode cX11_at 8 = .ok (.ireturn, 1) := by decide +kernel
def F_X11_at (N : Nat) (x0 : Nat) (x1 : Int32) (I : MI) (L : ML) (R : MR) : Option (Int32) :=
  if kd x0 = 10 ∧ x0 < NN then
  (rf R x0 2 9).bind fun a1 =>
  bn1 (F_X10_unitWithAddress N a1 x1 I L R) fun v2 =>
  some (v2)
  else none
set_option maxRecDepth 100000 in
set_option maxHeartbeats 4000000 in
theorem c_X11_at (l : Launch) (D : va_G) (cA : Nat → ClassId) (ad : Nat → Nat) (bs : Nat) (X : State → Prop) (hAd : Ax ad bs) (hX : Stb bs X) (N : Nat) (x0 : Nat) (x1 : Int32) (I : MI) (L : ML) (R : MR) (r : Int32) (h : F_X11_at N x0 x1 I L R = some (r)) : Cn l D cA ad bs X yX11_at cX11_at 2 (some .int) 3 67 [.ref (ad x0), .int x1] I L R (some (.int r), I, L, R) := by
  refine Cn.ofV hAd hX [(0, .ref (ad x0)), (1, .int x1)] rfl (Nat.le_of_ble_eq_true rfl) (by decide) ?_
  intro G el eD ecA ead ebs eX erm eNL C0
  subst el eD ecA ead ebs eX
  unfold F_X11_at at h
  obtain ⟨c_x0, h⟩ := ite_some h
  refine V_aload_n C0 0 rfl rfl dX11_at_0 ?_
  obtain ⟨a1, qa1, h⟩ := bnd_some h
  refine V_getR C0 10 2 fl_X11_26 c_x0.2 c_x0.1 rfl (rf_at qa1) dX11_at_1 ?_
  refine V_iload_n C0 1 rfl rfl dX11_at_4 ?_
  obtain ⟨v2, q3, h⟩ := bn1_some h
  refine V_callV C0 (st := []) (As := [.int x1]) 9 (c_X10_unitWithAddress G.l G.D G.cA G.ad G.bs G.X C0.2.2.2.2.2.2.2.2.2.1 C0.2.2.2.2.2.2.2.2.2.2.2.2 N a1 x1 I L R v2 q3) lc_X10_unitWithAddress lk_X11_160 (rf_lt qa1) (rf_kd qa1) ⟨_, rfl, rfl⟩ rfl (by rw [erm]; decide) (Nat.le_of_ble_eq_true rfl) dX11_at_5 ?_
  show V G _ 8 [(0, .ref (G.ad x0)), (1, .int x1)] [.int v2] I L R
  cases h
  exact V_iret C0 dX11_at_8
theorem dX11_down_0 : decode cX11_down 0 = .ok (.aload_n 0, 1) := by decide +kernel
theorem dX11_down_1 : decode cX11_down 1 = .ok (.getfield 35, 3) := by decide +kernel
theorem dX11_down_4 : decode cX11_down 4 = .ok (.invokevirtual 184, 3) := by decide +kernel
theorem dX11_down_7 : decode cX11_down 7 = .ok (.iload_n 1, 1) := by decide +kernel
theorem dX11_down_8 : decode cX11_down 8 = .ok (.invokevirtual 188, 3) := by decide +kernel
theorem dX11_down_11 : decode cX11_down 11 = .ok (.ireturn, 1) := by decide +kernel
def F_X11_down (x0 : Nat) (x1 : Int32) (I : MI) (L : ML) (R : MR) : Option (Int32) :=
  if kd x0 = 10 ∧ x0 < NN then
  (rf R x0 3 2).bind fun a1 =>
  bn1 (F_X2_downlink a1 I L R) fun a2 =>
  if kd a2 = 1 ∧ a2 < NN then
  bn1 (F_X1_latest a2 x1 I L R) fun v5 =>
  some (v5)
  else none
  else none
set_option maxRecDepth 100000 in
set_option maxHeartbeats 4000000 in
theorem c_X11_down (l : Launch) (D : va_G) (cA : Nat → ClassId) (ad : Nat → Nat) (bs : Nat) (X : State → Prop) (hAd : Ax ad bs) (hX : Stb bs X) (x0 : Nat) (x1 : Int32) (I : MI) (L : ML) (R : MR) (r : Int32) (h : F_X11_down x0 x1 I L R = some (r)) : Cn l D cA ad bs X yX11_down cX11_down 2 (some .int) 2 43 [.ref (ad x0), .int x1] I L R (some (.int r), I, L, R) := by
  refine Cn.ofV hAd hX [(0, .ref (ad x0)), (1, .int x1)] rfl (Nat.le_of_ble_eq_true rfl) (by decide) ?_
  intro G el eD ecA ead ebs eX erm eNL C0
  subst el eD ecA ead ebs eX
  unfold F_X11_down at h
  obtain ⟨c_x0, h⟩ := ite_some h
  refine V_aload_n C0 0 rfl rfl dX11_down_0 ?_
  obtain ⟨a1, qa1, h⟩ := bnd_some h
  refine V_getR C0 10 3 fl_X11_35 c_x0.2 c_x0.1 rfl (rf_at qa1) dX11_down_1 ?_
  obtain ⟨a2, q3, h⟩ := bn1_some h
  refine V_callV C0 (st := []) (As := []) 2 (c_X2_downlink G.l G.D G.cA G.ad G.bs G.X C0.2.2.2.2.2.2.2.2.2.1 C0.2.2.2.2.2.2.2.2.2.2.2.2 a1 I L R a2 q3) lc_X2_downlink lk_X11_184 (rf_lt qa1) (rf_kd qa1) ⟨_, rfl, rfl⟩ rfl (by rw [erm]; decide) (Nat.le_of_ble_eq_true rfl) dX11_down_4 ?_
  show V G _ 7 [(0, .ref (G.ad x0)), (1, .int x1)] [.ref (G.ad a2)] I L R
  obtain ⟨c4, h⟩ := ite_some h
  refine V_iload_n C0 1 rfl rfl dX11_down_7 ?_
  obtain ⟨v5, q6, h⟩ := bn1_some h
  refine V_callV C0 (st := []) (As := [.int x1]) 1 (c_X1_latest G.l G.D G.cA G.ad G.bs G.X C0.2.2.2.2.2.2.2.2.2.1 C0.2.2.2.2.2.2.2.2.2.2.2.2 a2 x1 I L R v5 q6) lc_X1_latest lk_X11_188 c4.2 c4.1 ⟨_, rfl, rfl⟩ rfl (by rw [erm]; decide) (Nat.le_of_ble_eq_true rfl) dX11_down_8 ?_
  show V G _ 11 [(0, .ref (G.ad x0)), (1, .int x1)] [.int v5] I L R
  cases h
  exact V_iret C0 dX11_down_11
theorem dX11_item_0 : decode cX11_item 0 = .ok (.aload_n 0, 1) := by decide +kernel
theorem dX11_item_1 : decode cX11_item 1 = .ok (.getfield 35, 3) := by decide +kernel
theorem dX11_item_4 : decode cX11_item 4 = .ok (.invokevirtual 89, 3) := by decide +kernel
theorem dX11_item_7 : decode cX11_item 7 = .ok (.astore_n 3, 1) := by decide +kernel
theorem dX11_item_8 : decode cX11_item 8 = .ok (.iload_n 1, 1) := by decide +kernel
theorem dX11_item_9 : decode cX11_item 9 = .ok (.ifCond .lt 11, 3) := by decide +kernel
theorem dX11_item_12 : decode cX11_item 12 = .ok (.iload_n 1, 1) := by decide +kernel
theorem dX11_item_13 : decode cX11_item 13 = .ok (.aload_n 3, 1) := by decide +kernel
theorem dX11_item_14 : decode cX11_item 14 = .ok (.invokevirtual 93, 3) := by decide +kernel
theorem dX11_item_17 : decode cX11_item 17 = .ok (.if_icmp .lt 5, 3) := by decide +kernel
theorem dX11_item_20 : decode cX11_item 20 = .ok (.iconst (-1), 1) := by decide +kernel
theorem dX11_item_21 : decode cX11_item 21 = .ok (.ireturn, 1) := by decide +kernel
theorem dX11_item_22 : decode cX11_item 22 = .ok (.aload_n 3, 1) := by decide +kernel
theorem dX11_item_23 : decode cX11_item 23 = .ok (.iload_n 1, 1) := by decide +kernel
theorem dX11_item_24 : decode cX11_item 24 = .ok (.invokevirtual 193, 3) := by decide +kernel
theorem dX11_item_27 : decode cX11_item 27 = .ok (.astore 4, 2) := by decide +kernel
theorem dX11_item_29 : decode cX11_item 29 = .ok (.iload_n 2, 1) := by decide +kernel
theorem dX11_item_30 : decode cX11_item 30 = .ok (.tableswitch 52 0 2 #[26, 32, 38], 26) := by decide +kernel
theorem dX11_item_56 : decode cX11_item 56 = .ok (.aload 4, 2) := by decide +kernel
theorem dX11_item_58 : decode cX11_item 58 = .ok (.getfield 197, 3) := by decide +kernel
theorem dX11_item_61 : decode cX11_item 61 = .ok (.ireturn, 1) := by decide +kernel
theorem dX11_item_62 : decode cX11_item 62 = .ok (.aload 4, 2) := by decide +kernel
theorem dX11_item_64 : decode cX11_item 64 = .ok (.getfield 203, 3) := by decide +kernel
theorem dX11_item_67 : decode cX11_item 67 = .ok (.ireturn, 1) := by decide +kernel
theorem dX11_item_68 : decode cX11_item 68 = .ok (.aload 4, 2) := by decide +kernel
theorem dX11_item_70 : decode cX11_item 70 = .ok (.getfield 206, 3) := by decide +kernel
theorem dX11_item_73 : decode cX11_item 73 = .ok (.ifCond .eq 7, 3) := by decide +kernel
theorem dX11_item_76 : decode cX11_item 76 = .ok (.iconst 1, 1) := by decide +kernel
theorem dX11_item_77 : decode cX11_item 77 = .ok (.goto 4, 3) := by decide +kernel
theorem dX11_item_80 : decode cX11_item 80 = .ok (.iconst 0, 1) := by decide +kernel
theorem dX11_item_81 : decode cX11_item 81 = .ok (.ireturn, 1) := by decide +kernel
theorem dX11_item_82 : decode cX11_item 82 = .ok (.iconst (-1), 1) := by decide +kernel
theorem dX11_item_83 : decode cX11_item 83 = .ok (.ireturn, 1) := by decide +kernel
def F_X11_item (x0 : Nat) (x1 : Int32) (x2 : Int32) (I : MI) (L : ML) (R : MR) : Option (Int32) :=
  if kd x0 = 10 ∧ x0 < NN then
  (rf R x0 3 2).bind fun a1 =>
  bn1 (F_X2_planned a1 I L R) fun a2 =>
  if kd a2 = 4 ∧ a2 < NN then
  if x1 < 0 then
    some ((-1 : Int32))
  else
    bn1 (F_X5_size a2 I L R) fun v6 =>
    if x1 < v6 then
      bn1 (F_X5_itemAt a2 x1 I L R) fun a9 =>
      if kd a9 = 3 ∧ a9 < NN then
      if x2 = (0 : Int32) then
        some ((I a9 7))
      else
        if x2 = (1 : Int32) then
          some ((I a9 8))
        else
          if x2 = (2 : Int32) then
            if (I a9 9) = 0 then
              some ((0 : Int32))
            else
              some ((1 : Int32))
          else
            some ((-1 : Int32))
      else none
    else
      some ((-1 : Int32))
  else none
  else none
set_option maxRecDepth 100000 in
set_option maxHeartbeats 4000000 in
theorem c_X11_item (l : Launch) (D : va_G) (cA : Nat → ClassId) (ad : Nat → Nat) (bs : Nat) (X : State → Prop) (hAd : Ax ad bs) (hX : Stb bs X) (x0 : Nat) (x1 : Int32) (x2 : Int32) (I : MI) (L : ML) (R : MR) (r : Int32) (h : F_X11_item x0 x1 x2 I L R = some (r)) : Cn l D cA ad bs X yX11_item cX11_item 5 (some .int) 1 21 [.ref (ad x0), .int x1, .int x2] I L R (some (.int r), I, L, R) := by
  refine Cn.ofV hAd hX [(0, .ref (ad x0)), (1, .int x1), (2, .int x2)] rfl (Nat.le_of_ble_eq_true rfl) (by decide) ?_
  intro G el eD ecA ead ebs eX erm eNL C0
  subst el eD ecA ead ebs eX
  unfold F_X11_item at h
  obtain ⟨c_x0, h⟩ := ite_some h
  refine V_aload_n C0 0 rfl rfl dX11_item_0 ?_
  obtain ⟨a1, qa1, h⟩ := bnd_some h
  refine V_getR C0 10 3 fl_X11_35 c_x0.2 c_x0.1 rfl (rf_at qa1) dX11_item_1 ?_
  obtain ⟨a2, q3, h⟩ := bn1_some h
  refine V_callV C0 (st := []) (As := []) 2 (c_X2_planned G.l G.D G.cA G.ad G.bs G.X C0.2.2.2.2.2.2.2.2.2.1 C0.2.2.2.2.2.2.2.2.2.2.2.2 a1 I L R a2 q3) lc_X2_planned lk_X11_89 (rf_lt qa1) (rf_kd qa1) ⟨_, rfl, rfl⟩ rfl (by rw [erm]; decide) (Nat.le_of_ble_eq_true rfl) dX11_item_4 ?_
  show V G _ 7 [(0, .ref (G.ad x0)), (1, .int x1), (2, .int x2)] [.ref (G.ad a2)] I L R
  obtain ⟨c4, h⟩ := ite_some h
  refine V_astore_n C0 [(3, .ref (G.ad a2)), (0, .ref (G.ad x0)), (1, .int x1), (2, .int x2)] rfl (by rw [eNL]; decide) rfl dX11_item_7 ?_
  refine V_iload_n C0 2 rfl rfl dX11_item_8 ?_
  refine V_if_lt C0 (tgt := 20) (by decide) dX11_item_9 (fun c5 => ?_) (fun c5 => ?_)
  · have h := (if_pos c5).symm.trans h
    refine V_iconst C0 (v := (-1 : Int32)) (by decide) dX11_item_20 ?_
    cases h
    exact V_iret C0 dX11_item_21
  · have h := (if_neg c5).symm.trans h
    refine V_iload_n C0 2 rfl rfl dX11_item_12 ?_
    refine V_aload_n C0 0 rfl rfl dX11_item_13 ?_
    obtain ⟨v6, q7, h⟩ := bn1_some h
    refine V_callV C0 (st := [.int x1]) (As := []) 4 (c_X5_size G.l G.D G.cA G.ad G.bs G.X C0.2.2.2.2.2.2.2.2.2.1 C0.2.2.2.2.2.2.2.2.2.2.2.2 a2 I L R v6 q7) lc_X5_size lk_X11_93 c4.2 c4.1 ⟨_, rfl, rfl⟩ rfl (by rw [erm]; decide) (Nat.le_of_ble_eq_true rfl) dX11_item_14 ?_
    show V G _ 17 [(3, .ref (G.ad a2)), (0, .ref (G.ad x0)), (1, .int x1), (2, .int x2)] [.int v6, .int x1] I L R
    refine V_icmp_lt C0 (tgt := 22) (by decide) dX11_item_17 (fun c8 => ?_) (fun c8 => ?_)
    · have h := (if_pos c8).symm.trans h
      refine V_aload_n C0 0 rfl rfl dX11_item_22 ?_
      refine V_iload_n C0 2 rfl rfl dX11_item_23 ?_
      obtain ⟨a9, q10, h⟩ := bn1_some h
      refine V_callV C0 (st := []) (As := [.int x1]) 4 (c_X5_itemAt G.l G.D G.cA G.ad G.bs G.X C0.2.2.2.2.2.2.2.2.2.1 C0.2.2.2.2.2.2.2.2.2.2.2.2 a2 x1 I L R a9 q10) lc_X5_itemAt lk_X11_193 c4.2 c4.1 ⟨_, rfl, rfl⟩ rfl (by rw [erm]; decide) (Nat.le_of_ble_eq_true rfl) dX11_item_24 ?_
      show V G _ 27 [(3, .ref (G.ad a2)), (0, .ref (G.ad x0)), (1, .int x1), (2, .int x2)] [.ref (G.ad a9)] I L R
      obtain ⟨c11, h⟩ := ite_some h
      refine V_astore C0 [(4, .ref (G.ad a9)), (3, .ref (G.ad a2)), (0, .ref (G.ad x0)), (1, .int x1), (2, .int x2)] (by rw [eNL]; decide) rfl dX11_item_27 ?_
      refine V_iload_n C0 4 rfl rfl dX11_item_29 ?_
      have nd12 := nd_0 x2
      by_cases c13 : x2 = (0 : Int32)
      · have h := (if_pos c13).symm.trans h
        refine V_tableC C0 (tgt := 56) (v := (0 : Int32)) c13 (by decide) (by decide) dX11_item_30 ?_
        refine V_aload C0 0 rfl dX11_item_56 ?_
        refine V_getI C0 3 7 fl_X11_197 c11.2 c11.1 rfl dX11_item_58 ?_
        cases h
        exact V_iret C0 dX11_item_61
      · have h := (if_neg c13).symm.trans h
        have nd12 := nd_add nd12 c13
        by_cases c14 : x2 = (1 : Int32)
        · have h := (if_pos c14).symm.trans h
          refine V_tableC C0 (tgt := 62) (v := (1 : Int32)) c14 (by decide) (by decide) dX11_item_30 ?_
          refine V_aload C0 0 rfl dX11_item_62 ?_
          refine V_getI C0 3 8 fl_X11_203 c11.2 c11.1 rfl dX11_item_64 ?_
          cases h
          exact V_iret C0 dX11_item_67
        · have h := (if_neg c14).symm.trans h
          have nd12 := nd_add nd12 c14
          by_cases c15 : x2 = (2 : Int32)
          · have h := (if_pos c15).symm.trans h
            refine V_tableC C0 (tgt := 68) (v := (2 : Int32)) c15 (by decide) (by decide) dX11_item_30 ?_
            refine V_aload C0 0 rfl dX11_item_68 ?_
            refine V_getI C0 3 9 fl_X11_206 c11.2 c11.1 rfl dX11_item_70 ?_
            refine V_if_eq C0 (tgt := 80) (by decide) dX11_item_73 (fun c16 => ?_) (fun c16 => ?_)
            · have h := (if_pos c16).symm.trans h
              refine V_iconst C0 (v := (0 : Int32)) (by decide) dX11_item_80 ?_
              cases h
              exact V_iret C0 dX11_item_81
            · have h := (if_neg c16).symm.trans h
              refine V_iconst C0 (v := (1 : Int32)) (by decide) dX11_item_76 ?_
              refine V_goto C0 (tgt := 81) (by decide) dX11_item_77 ?_
              cases h
              exact V_iret C0 dX11_item_81
          · have h := (if_neg c15).symm.trans h
            have nd12 := nd_add nd12 c15
            refine V_tableN C0 (tgt := 82) nd12 (by decide) (by decide) dX11_item_30 ?_
            refine V_iconst C0 (v := (-1 : Int32)) (by decide) dX11_item_82 ?_
            cases h
            exact V_iret C0 dX11_item_83
    · have h := (if_neg c8).symm.trans h
      refine V_iconst C0 (v := (-1 : Int32)) (by decide) dX11_item_20 ?_
      cases h
      exact V_iret C0 dX11_item_21
theorem dX11_craft_0 : decode cX11_craft 0 = .ok (.iload_n 1, 1) := by decide +kernel
theorem dX11_craft_1 : decode cX11_craft 1 = .ok (.tableswitch 185 0 24 #[115, 185, 185, 185, 185, 185, 185, 185, 185, 185, 185, 185, 123, 131, 139, 147, 185, 185, 185, 185, 155, 185, 185, 166, 174], 115) := by decide +kernel
theorem dX11_craft_116 : decode cX11_craft 116 = .ok (.aload_n 0, 1) := by decide +kernel
theorem dX11_craft_117 : decode cX11_craft 117 = .ok (.getfield 26, 3) := by decide +kernel
theorem dX11_craft_120 : decode cX11_craft 120 = .ok (.invokevirtual 81, 3) := by decide +kernel
theorem dX11_craft_123 : decode cX11_craft 123 = .ok (.ireturn, 1) := by decide +kernel
theorem dX11_craft_124 : decode cX11_craft 124 = .ok (.aload_n 0, 1) := by decide +kernel
theorem dX11_craft_125 : decode cX11_craft 125 = .ok (.getfield 26, 3) := by decide +kernel
theorem dX11_craft_128 : decode cX11_craft 128 = .ok (.invokevirtual 210, 3) := by decide +kernel
theorem dX11_craft_131 : decode cX11_craft 131 = .ok (.ireturn, 1) := by decide +kernel
theorem dX11_craft_132 : decode cX11_craft 132 = .ok (.aload_n 0, 1) := by decide +kernel
theorem dX11_craft_133 : decode cX11_craft 133 = .ok (.getfield 26, 3) := by decide +kernel
theorem dX11_craft_136 : decode cX11_craft 136 = .ok (.invokevirtual 213, 3) := by decide +kernel
theorem dX11_craft_139 : decode cX11_craft 139 = .ok (.ireturn, 1) := by decide +kernel
theorem dX11_craft_140 : decode cX11_craft 140 = .ok (.aload_n 0, 1) := by decide +kernel
theorem dX11_craft_141 : decode cX11_craft 141 = .ok (.getfield 26, 3) := by decide +kernel
theorem dX11_craft_144 : decode cX11_craft 144 = .ok (.invokevirtual 216, 3) := by decide +kernel
theorem dX11_craft_147 : decode cX11_craft 147 = .ok (.ireturn, 1) := by decide +kernel
theorem dX11_craft_148 : decode cX11_craft 148 = .ok (.aload_n 0, 1) := by decide +kernel
theorem dX11_craft_149 : decode cX11_craft 149 = .ok (.getfield 26, 3) := by decide +kernel
theorem dX11_craft_152 : decode cX11_craft 152 = .ok (.invokevirtual 219, 3) := by decide +kernel
theorem dX11_craft_155 : decode cX11_craft 155 = .ok (.ireturn, 1) := by decide +kernel
theorem dX11_craft_156 : decode cX11_craft 156 = .ok (.aload_n 0, 1) := by decide +kernel
theorem dX11_craft_157 : decode cX11_craft 157 = .ok (.getfield 35, 3) := by decide +kernel
theorem dX11_craft_160 : decode cX11_craft 160 = .ok (.invokevirtual 184, 3) := by decide +kernel
theorem dX11_craft_163 : decode cX11_craft 163 = .ok (.invokevirtual 222, 3) := by decide +kernel
theorem dX11_craft_166 : decode cX11_craft 166 = .ok (.ireturn, 1) := by decide +kernel
theorem dX11_craft_167 : decode cX11_craft 167 = .ok (.aload_n 0, 1) := by decide +kernel
theorem dX11_craft_168 : decode cX11_craft 168 = .ok (.getfield 26, 3) := by decide +kernel
theorem dX11_craft_171 : decode cX11_craft 171 = .ok (.invokevirtual 225, 3) := by decide +kernel
theorem dX11_craft_174 : decode cX11_craft 174 = .ok (.ireturn, 1) := by decide +kernel
theorem dX11_craft_175 : decode cX11_craft 175 = .ok (.aload_n 0, 1) := by decide +kernel
theorem dX11_craft_176 : decode cX11_craft 176 = .ok (.getfield 35, 3) := by decide +kernel
theorem dX11_craft_179 : decode cX11_craft 179 = .ok (.invokevirtual 89, 3) := by decide +kernel
theorem dX11_craft_182 : decode cX11_craft 182 = .ok (.invokevirtual 93, 3) := by decide +kernel
theorem dX11_craft_185 : decode cX11_craft 185 = .ok (.ireturn, 1) := by decide +kernel
theorem dX11_craft_186 : decode cX11_craft 186 = .ok (.iload_n 1, 1) := by decide +kernel
theorem dX11_craft_187 : decode cX11_craft 187 = .ok (.iconst 3, 1) := by decide +kernel
theorem dX11_craft_188 : decode cX11_craft 188 = .ok (.if_icmp .lt 25, 3) := by decide +kernel
theorem dX11_craft_191 : decode cX11_craft 191 = .ok (.iload_n 1, 1) := by decide +kernel
theorem dX11_craft_192 : decode cX11_craft 192 = .ok (.bipush 11, 2) := by decide +kernel
theorem dX11_craft_194 : decode cX11_craft 194 = .ok (.if_icmp .gt 19, 3) := by decide +kernel
theorem dX11_craft_197 : decode cX11_craft 197 = .ok (.aload_n 0, 1) := by decide +kernel
theorem dX11_craft_198 : decode cX11_craft 198 = .ok (.getfield 35, 3) := by decide +kernel
theorem dX11_craft_201 : decode cX11_craft 201 = .ok (.invokevirtual 228, 3) := by decide +kernel
theorem dX11_craft_204 : decode cX11_craft 204 = .ok (.iload_n 1, 1) := by decide +kernel
theorem dX11_craft_205 : decode cX11_craft 205 = .ok (.iconst 3, 1) := by decide +kernel
theorem dX11_craft_206 : decode cX11_craft 206 = .ok (.isub, 1) := by decide +kernel
theorem dX11_craft_207 : decode cX11_craft 207 = .ok (.invokevirtual 232, 3) := by decide +kernel
theorem dX11_craft_210 : decode cX11_craft 210 = .ok (.goto 11, 3) := by decide +kernel
theorem dX11_craft_213 : decode cX11_craft 213 = .ok (.aload_n 0, 1) := by decide +kernel
theorem dX11_craft_214 : decode cX11_craft 214 = .ok (.getfield 35, 3) := by decide +kernel
theorem dX11_craft_217 : decode cX11_craft 217 = .ok (.iload_n 1, 1) := by decide +kernel
theorem dX11_craft_218 : decode cX11_craft 218 = .ok (.invokevirtual 235, 3) := by decide +kernel
theorem dX11_craft_221 : decode cX11_craft 221 = .ok (.ireturn, 1) := by decide +kernel
def F_X11_craft (x0 : Nat) (x1 : Int32) (I : MI) (L : ML) (R : MR) : Option (Int32) :=
  if kd x0 = 10 ∧ x0 < NN then
  if x1 = (0 : Int32) then
    (rf R x0 2 9).bind fun a3 =>
    bn1 (F_X10_size a3 I L R) fun v4 =>
    some (v4)
  else
    if x1 = (12 : Int32) then
      (rf R x0 2 9).bind fun a7 =>
      bn1 (F_X10_drawsTaken a7 I L R) fun v8 =>
      some (v8)
    else
      if x1 = (13 : Int32) then
        (rf R x0 2 9).bind fun a11 =>
        bn1 (F_X10_addressNow a11 I L R) fun v12 =>
        some (v12)
      else
        if x1 = (14 : Int32) then
          (rf R x0 2 9).bind fun a15 =>
          bn1 (F_X10_reserveNow a15 I L R) fun v16 =>
          some (v16)
        else
          if x1 = (15 : Int32) then
            (rf R x0 2 9).bind fun a19 =>
            bn1 (F_X10_notesTaken a19 I L R) fun v20 =>
            some (v20)
          else
            if x1 = (20 : Int32) then
              (rf R x0 3 2).bind fun a23 =>
              bn1 (F_X2_downlink a23 I L R) fun a24 =>
              if kd a24 = 1 ∧ a24 < NN then
              bn1 (F_X1_byteCount a24 I L R) fun v27 =>
              some (v27)
              else none
            else
              if x1 = (23 : Int32) then
                (rf R x0 2 9).bind fun a30 =>
                bn1 (F_X10_restartsDone a30 I L R) fun v31 =>
                some (v31)
              else
                if x1 = (24 : Int32) then
                  (rf R x0 3 2).bind fun a34 =>
                  bn1 (F_X2_planned a34 I L R) fun a35 =>
                  if kd a35 = 4 ∧ a35 < NN then
                  bn1 (F_X5_size a35 I L R) fun v38 =>
                  some (v38)
                  else none
                else
                  if x1 < (3 : Int32) then
                    (rf R x0 3 2).bind fun a41 =>
                    bn1 (F_X2_gauge a41 x1 I L R) fun v42 =>
                    some (v42)
                  else
                    if (11 : Int32) < x1 then
                      (rf R x0 3 2).bind fun a45 =>
                      bn1 (F_X2_gauge a45 x1 I L R) fun v46 =>
                      some (v46)
                    else
                      (rf R x0 3 2).bind fun a48 =>
                      bn1 (F_X2_steering a48 I L R) fun a49 =>
                      if kd a49 = 6 ∧ a49 < NN then
                      bn1 (F_X7_value a49 (x1 - (3 : Int32)) I L R) fun v52 =>
                      some (v52)
                      else none
  else none
set_option maxRecDepth 100000 in
set_option maxHeartbeats 4000000 in
theorem c_X11_craft (l : Launch) (D : va_G) (cA : Nat → ClassId) (ad : Nat → Nat) (bs : Nat) (X : State → Prop) (hAd : Ax ad bs) (hX : Stb bs X) (x0 : Nat) (x1 : Int32) (I : MI) (L : ML) (R : MR) (r : Int32) (h : F_X11_craft x0 x1 I L R = some (r)) : Cn l D cA ad bs X yX11_craft cX11_craft 2 (some .int) 2 42 [.ref (ad x0), .int x1] I L R (some (.int r), I, L, R) := by
  refine Cn.ofV hAd hX [(0, .ref (ad x0)), (1, .int x1)] rfl (Nat.le_of_ble_eq_true rfl) (by decide) ?_
  intro G el eD ecA ead ebs eX erm eNL C0
  subst el eD ecA ead ebs eX
  unfold F_X11_craft at h
  obtain ⟨c_x0, h⟩ := ite_some h
  refine V_iload_n C0 1 rfl rfl dX11_craft_0 ?_
  have nd1 := nd_0 x1
  by_cases c2 : x1 = (0 : Int32)
  · have h := (if_pos c2).symm.trans h
    refine V_tableC C0 (tgt := 116) (v := (0 : Int32)) c2 (by decide) (by decide) dX11_craft_1 ?_
    refine V_aload_n C0 0 rfl rfl dX11_craft_116 ?_
    obtain ⟨a3, qa3, h⟩ := bnd_some h
    refine V_getR C0 10 2 fl_X11_26 c_x0.2 c_x0.1 rfl (rf_at qa3) dX11_craft_117 ?_
    obtain ⟨v4, q5, h⟩ := bn1_some h
    refine V_callV C0 (st := []) (As := []) 9 (c_X10_size G.l G.D G.cA G.ad G.bs G.X C0.2.2.2.2.2.2.2.2.2.1 C0.2.2.2.2.2.2.2.2.2.2.2.2 a3 I L R v4 q5) lc_X10_size lk_X11_81 (rf_lt qa3) (rf_kd qa3) ⟨_, rfl, rfl⟩ rfl (by rw [erm]; decide) (Nat.le_of_ble_eq_true rfl) dX11_craft_120 ?_
    show V G _ 123 [(0, .ref (G.ad x0)), (1, .int x1)] [.int v4] I L R
    cases h
    exact V_iret C0 dX11_craft_123
  · have h := (if_neg c2).symm.trans h
    have nd1 := nd_add nd1 c2
    by_cases c6 : x1 = (12 : Int32)
    · have h := (if_pos c6).symm.trans h
      refine V_tableC C0 (tgt := 124) (v := (12 : Int32)) c6 (by decide) (by decide) dX11_craft_1 ?_
      refine V_aload_n C0 0 rfl rfl dX11_craft_124 ?_
      obtain ⟨a7, qa7, h⟩ := bnd_some h
      refine V_getR C0 10 2 fl_X11_26 c_x0.2 c_x0.1 rfl (rf_at qa7) dX11_craft_125 ?_
      obtain ⟨v8, q9, h⟩ := bn1_some h
      refine V_callV C0 (st := []) (As := []) 9 (c_X10_drawsTaken G.l G.D G.cA G.ad G.bs G.X C0.2.2.2.2.2.2.2.2.2.1 C0.2.2.2.2.2.2.2.2.2.2.2.2 a7 I L R v8 q9) lc_X10_drawsTaken lk_X11_210 (rf_lt qa7) (rf_kd qa7) ⟨_, rfl, rfl⟩ rfl (by rw [erm]; decide) (Nat.le_of_ble_eq_true rfl) dX11_craft_128 ?_
      show V G _ 131 [(0, .ref (G.ad x0)), (1, .int x1)] [.int v8] I L R
      cases h
      exact V_iret C0 dX11_craft_131
    · have h := (if_neg c6).symm.trans h
      have nd1 := nd_add nd1 c6
      by_cases c10 : x1 = (13 : Int32)
      · have h := (if_pos c10).symm.trans h
        refine V_tableC C0 (tgt := 132) (v := (13 : Int32)) c10 (by decide) (by decide) dX11_craft_1 ?_
        refine V_aload_n C0 0 rfl rfl dX11_craft_132 ?_
        obtain ⟨a11, qa11, h⟩ := bnd_some h
        refine V_getR C0 10 2 fl_X11_26 c_x0.2 c_x0.1 rfl (rf_at qa11) dX11_craft_133 ?_
        obtain ⟨v12, q13, h⟩ := bn1_some h
        refine V_callV C0 (st := []) (As := []) 9 (c_X10_addressNow G.l G.D G.cA G.ad G.bs G.X C0.2.2.2.2.2.2.2.2.2.1 C0.2.2.2.2.2.2.2.2.2.2.2.2 a11 I L R v12 q13) lc_X10_addressNow lk_X11_213 (rf_lt qa11) (rf_kd qa11) ⟨_, rfl, rfl⟩ rfl (by rw [erm]; decide) (Nat.le_of_ble_eq_true rfl) dX11_craft_136 ?_
        show V G _ 139 [(0, .ref (G.ad x0)), (1, .int x1)] [.int v12] I L R
        cases h
        exact V_iret C0 dX11_craft_139
      · have h := (if_neg c10).symm.trans h
        have nd1 := nd_add nd1 c10
        by_cases c14 : x1 = (14 : Int32)
        · have h := (if_pos c14).symm.trans h
          refine V_tableC C0 (tgt := 140) (v := (14 : Int32)) c14 (by decide) (by decide) dX11_craft_1 ?_
          refine V_aload_n C0 0 rfl rfl dX11_craft_140 ?_
          obtain ⟨a15, qa15, h⟩ := bnd_some h
          refine V_getR C0 10 2 fl_X11_26 c_x0.2 c_x0.1 rfl (rf_at qa15) dX11_craft_141 ?_
          obtain ⟨v16, q17, h⟩ := bn1_some h
          refine V_callV C0 (st := []) (As := []) 9 (c_X10_reserveNow G.l G.D G.cA G.ad G.bs G.X C0.2.2.2.2.2.2.2.2.2.1 C0.2.2.2.2.2.2.2.2.2.2.2.2 a15 I L R v16 q17) lc_X10_reserveNow lk_X11_216 (rf_lt qa15) (rf_kd qa15) ⟨_, rfl, rfl⟩ rfl (by rw [erm]; decide) (Nat.le_of_ble_eq_true rfl) dX11_craft_144 ?_
          show V G _ 147 [(0, .ref (G.ad x0)), (1, .int x1)] [.int v16] I L R
          cases h
          exact V_iret C0 dX11_craft_147
        · have h := (if_neg c14).symm.trans h
          have nd1 := nd_add nd1 c14
          by_cases c18 : x1 = (15 : Int32)
          · have h := (if_pos c18).symm.trans h
            refine V_tableC C0 (tgt := 148) (v := (15 : Int32)) c18 (by decide) (by decide) dX11_craft_1 ?_
            refine V_aload_n C0 0 rfl rfl dX11_craft_148 ?_
            obtain ⟨a19, qa19, h⟩ := bnd_some h
            refine V_getR C0 10 2 fl_X11_26 c_x0.2 c_x0.1 rfl (rf_at qa19) dX11_craft_149 ?_
            obtain ⟨v20, q21, h⟩ := bn1_some h
            refine V_callV C0 (st := []) (As := []) 9 (c_X10_notesTaken G.l G.D G.cA G.ad G.bs G.X C0.2.2.2.2.2.2.2.2.2.1 C0.2.2.2.2.2.2.2.2.2.2.2.2 a19 I L R v20 q21) lc_X10_notesTaken lk_X11_219 (rf_lt qa19) (rf_kd qa19) ⟨_, rfl, rfl⟩ rfl (by rw [erm]; decide) (Nat.le_of_ble_eq_true rfl) dX11_craft_152 ?_
            show V G _ 155 [(0, .ref (G.ad x0)), (1, .int x1)] [.int v20] I L R
            cases h
            exact V_iret C0 dX11_craft_155
          · have h := (if_neg c18).symm.trans h
            have nd1 := nd_add nd1 c18
            by_cases c22 : x1 = (20 : Int32)
            · have h := (if_pos c22).symm.trans h
              refine V_tableC C0 (tgt := 156) (v := (20 : Int32)) c22 (by decide) (by decide) dX11_craft_1 ?_
              refine V_aload_n C0 0 rfl rfl dX11_craft_156 ?_
              obtain ⟨a23, qa23, h⟩ := bnd_some h
              refine V_getR C0 10 3 fl_X11_35 c_x0.2 c_x0.1 rfl (rf_at qa23) dX11_craft_157 ?_
              obtain ⟨a24, q25, h⟩ := bn1_some h
              refine V_callV C0 (st := []) (As := []) 2 (c_X2_downlink G.l G.D G.cA G.ad G.bs G.X C0.2.2.2.2.2.2.2.2.2.1 C0.2.2.2.2.2.2.2.2.2.2.2.2 a23 I L R a24 q25) lc_X2_downlink lk_X11_184 (rf_lt qa23) (rf_kd qa23) ⟨_, rfl, rfl⟩ rfl (by rw [erm]; decide) (Nat.le_of_ble_eq_true rfl) dX11_craft_160 ?_
              show V G _ 163 [(0, .ref (G.ad x0)), (1, .int x1)] [.ref (G.ad a24)] I L R
              obtain ⟨c26, h⟩ := ite_some h
              obtain ⟨v27, q28, h⟩ := bn1_some h
              refine V_callV C0 (st := []) (As := []) 1 (c_X1_byteCount G.l G.D G.cA G.ad G.bs G.X C0.2.2.2.2.2.2.2.2.2.1 C0.2.2.2.2.2.2.2.2.2.2.2.2 a24 I L R v27 q28) lc_X1_byteCount lk_X11_222 c26.2 c26.1 ⟨_, rfl, rfl⟩ rfl (by rw [erm]; decide) (Nat.le_of_ble_eq_true rfl) dX11_craft_163 ?_
              show V G _ 166 [(0, .ref (G.ad x0)), (1, .int x1)] [.int v27] I L R
              cases h
              exact V_iret C0 dX11_craft_166
            · have h := (if_neg c22).symm.trans h
              have nd1 := nd_add nd1 c22
              by_cases c29 : x1 = (23 : Int32)
              · have h := (if_pos c29).symm.trans h
                refine V_tableC C0 (tgt := 167) (v := (23 : Int32)) c29 (by decide) (by decide) dX11_craft_1 ?_
                refine V_aload_n C0 0 rfl rfl dX11_craft_167 ?_
                obtain ⟨a30, qa30, h⟩ := bnd_some h
                refine V_getR C0 10 2 fl_X11_26 c_x0.2 c_x0.1 rfl (rf_at qa30) dX11_craft_168 ?_
                obtain ⟨v31, q32, h⟩ := bn1_some h
                refine V_callV C0 (st := []) (As := []) 9 (c_X10_restartsDone G.l G.D G.cA G.ad G.bs G.X C0.2.2.2.2.2.2.2.2.2.1 C0.2.2.2.2.2.2.2.2.2.2.2.2 a30 I L R v31 q32) lc_X10_restartsDone lk_X11_225 (rf_lt qa30) (rf_kd qa30) ⟨_, rfl, rfl⟩ rfl (by rw [erm]; decide) (Nat.le_of_ble_eq_true rfl) dX11_craft_171 ?_
                show V G _ 174 [(0, .ref (G.ad x0)), (1, .int x1)] [.int v31] I L R
                cases h
                exact V_iret C0 dX11_craft_174
              · have h := (if_neg c29).symm.trans h
                have nd1 := nd_add nd1 c29
                by_cases c33 : x1 = (24 : Int32)
                · have h := (if_pos c33).symm.trans h
                  refine V_tableC C0 (tgt := 175) (v := (24 : Int32)) c33 (by decide) (by decide) dX11_craft_1 ?_
                  refine V_aload_n C0 0 rfl rfl dX11_craft_175 ?_
                  obtain ⟨a34, qa34, h⟩ := bnd_some h
                  refine V_getR C0 10 3 fl_X11_35 c_x0.2 c_x0.1 rfl (rf_at qa34) dX11_craft_176 ?_
                  obtain ⟨a35, q36, h⟩ := bn1_some h
                  refine V_callV C0 (st := []) (As := []) 2 (c_X2_planned G.l G.D G.cA G.ad G.bs G.X C0.2.2.2.2.2.2.2.2.2.1 C0.2.2.2.2.2.2.2.2.2.2.2.2 a34 I L R a35 q36) lc_X2_planned lk_X11_89 (rf_lt qa34) (rf_kd qa34) ⟨_, rfl, rfl⟩ rfl (by rw [erm]; decide) (Nat.le_of_ble_eq_true rfl) dX11_craft_179 ?_
                  show V G _ 182 [(0, .ref (G.ad x0)), (1, .int x1)] [.ref (G.ad a35)] I L R
                  obtain ⟨c37, h⟩ := ite_some h
                  obtain ⟨v38, q39, h⟩ := bn1_some h
                  refine V_callV C0 (st := []) (As := []) 4 (c_X5_size G.l G.D G.cA G.ad G.bs G.X C0.2.2.2.2.2.2.2.2.2.1 C0.2.2.2.2.2.2.2.2.2.2.2.2 a35 I L R v38 q39) lc_X5_size lk_X11_93 c37.2 c37.1 ⟨_, rfl, rfl⟩ rfl (by rw [erm]; decide) (Nat.le_of_ble_eq_true rfl) dX11_craft_182 ?_
                  show V G _ 185 [(0, .ref (G.ad x0)), (1, .int x1)] [.int v38] I L R
                  cases h
                  exact V_iret C0 dX11_craft_185
                · have h := (if_neg c33).symm.trans h
                  have nd1 := nd_add nd1 c33
                  refine V_tableN C0 (tgt := 186) nd1 (by decide) (by decide) dX11_craft_1 ?_
                  refine V_iload_n C0 1 rfl rfl dX11_craft_186 ?_
                  refine V_iconst C0 (v := (3 : Int32)) (by decide) dX11_craft_187 ?_
                  refine V_icmp_lt C0 (tgt := 213) (by decide) dX11_craft_188 (fun c40 => ?_) (fun c40 => ?_)
                  · have h := (if_pos c40).symm.trans h
                    refine V_aload_n C0 0 rfl rfl dX11_craft_213 ?_
                    obtain ⟨a41, qa41, h⟩ := bnd_some h
                    refine V_getR C0 10 3 fl_X11_35 c_x0.2 c_x0.1 rfl (rf_at qa41) dX11_craft_214 ?_
                    refine V_iload_n C0 1 rfl rfl dX11_craft_217 ?_
                    obtain ⟨v42, q43, h⟩ := bn1_some h
                    refine V_callV C0 (st := []) (As := [.int x1]) 2 (c_X2_gauge G.l G.D G.cA G.ad G.bs G.X C0.2.2.2.2.2.2.2.2.2.1 C0.2.2.2.2.2.2.2.2.2.2.2.2 a41 x1 I L R v42 q43) lc_X2_gauge lk_X11_235 (rf_lt qa41) (rf_kd qa41) ⟨_, rfl, rfl⟩ rfl (by rw [erm]; decide) (Nat.le_of_ble_eq_true rfl) dX11_craft_218 ?_
                    show V G _ 221 [(0, .ref (G.ad x0)), (1, .int x1)] [.int v42] I L R
                    cases h
                    exact V_iret C0 dX11_craft_221
                  · have h := (if_neg c40).symm.trans h
                    refine V_iload_n C0 1 rfl rfl dX11_craft_191 ?_
                    refine V_bipush C0 (v := (11 : Int32)) (by decide) dX11_craft_192 ?_
                    refine V_icmp_gt C0 (tgt := 213) (by decide) dX11_craft_194 (fun c44 => ?_) (fun c44 => ?_)
                    · have h := (if_pos c44).symm.trans h
                      refine V_aload_n C0 0 rfl rfl dX11_craft_213 ?_
                      obtain ⟨a45, qa45, h⟩ := bnd_some h
                      refine V_getR C0 10 3 fl_X11_35 c_x0.2 c_x0.1 rfl (rf_at qa45) dX11_craft_214 ?_
                      refine V_iload_n C0 1 rfl rfl dX11_craft_217 ?_
                      obtain ⟨v46, q47, h⟩ := bn1_some h
                      refine V_callV C0 (st := []) (As := [.int x1]) 2 (c_X2_gauge G.l G.D G.cA G.ad G.bs G.X C0.2.2.2.2.2.2.2.2.2.1 C0.2.2.2.2.2.2.2.2.2.2.2.2 a45 x1 I L R v46 q47) lc_X2_gauge lk_X11_235 (rf_lt qa45) (rf_kd qa45) ⟨_, rfl, rfl⟩ rfl (by rw [erm]; decide) (Nat.le_of_ble_eq_true rfl) dX11_craft_218 ?_
                      show V G _ 221 [(0, .ref (G.ad x0)), (1, .int x1)] [.int v46] I L R
                      cases h
                      exact V_iret C0 dX11_craft_221
                    · have h := (if_neg c44).symm.trans h
                      refine V_aload_n C0 0 rfl rfl dX11_craft_197 ?_
                      obtain ⟨a48, qa48, h⟩ := bnd_some h
                      refine V_getR C0 10 3 fl_X11_35 c_x0.2 c_x0.1 rfl (rf_at qa48) dX11_craft_198 ?_
                      obtain ⟨a49, q50, h⟩ := bn1_some h
                      refine V_callV C0 (st := []) (As := []) 2 (c_X2_steering G.l G.D G.cA G.ad G.bs G.X C0.2.2.2.2.2.2.2.2.2.1 C0.2.2.2.2.2.2.2.2.2.2.2.2 a48 I L R a49 q50) lc_X2_steering lk_X11_228 (rf_lt qa48) (rf_kd qa48) ⟨_, rfl, rfl⟩ rfl (by rw [erm]; decide) (Nat.le_of_ble_eq_true rfl) dX11_craft_201 ?_
                      show V G _ 204 [(0, .ref (G.ad x0)), (1, .int x1)] [.ref (G.ad a49)] I L R
                      obtain ⟨c51, h⟩ := ite_some h
                      refine V_iload_n C0 1 rfl rfl dX11_craft_204 ?_
                      refine V_iconst C0 (v := (3 : Int32)) (by decide) dX11_craft_205 ?_
                      refine V_isub C0 dX11_craft_206 ?_
                      obtain ⟨v52, q53, h⟩ := bn1_some h
                      refine V_callV C0 (st := []) (As := [.int (x1 - (3 : Int32))]) 6 (c_X7_value G.l G.D G.cA G.ad G.bs G.X C0.2.2.2.2.2.2.2.2.2.1 C0.2.2.2.2.2.2.2.2.2.2.2.2 a49 (x1 - (3 : Int32)) I L R v52 q53) lc_X7_value lk_X11_232 c51.2 c51.1 ⟨_, rfl, rfl⟩ rfl (by rw [erm]; decide) (Nat.le_of_ble_eq_true rfl) dX11_craft_207 ?_
                      show V G _ 210 [(0, .ref (G.ad x0)), (1, .int x1)] [.int v52] I L R
                      refine V_goto C0 (tgt := 221) (by decide) dX11_craft_210 ?_
                      cases h
                      exact V_iret C0 dX11_craft_221
theorem dX12_thrown_0 : decode cX12_thrown 0 = .ok (.aload_n 0, 1) := by decide +kernel
theorem dX12_thrown_1 : decode cX12_thrown 1 = .ok (.getfield 112, 3) := by decide +kernel
theorem dX12_thrown_4 : decode cX12_thrown 4 = .ok (.ireturn, 1) := by decide +kernel
def F_X12_thrown (x0 : Nat) (I : MI) (L : ML) (R : MR) : Option (Int32) :=
  if kd x0 = 11 ∧ x0 < NN then
  some ((I x0 5))
  else none
set_option maxRecDepth 100000 in
set_option maxHeartbeats 4000000 in
theorem c_X12_thrown (l : Launch) (D : va_G) (cA : Nat → ClassId) (ad : Nat → Nat) (bs : Nat) (X : State → Prop) (hAd : Ax ad bs) (hX : Stb bs X) (x0 : Nat) (I : MI) (L : ML) (R : MR) (r : Int32) (h : F_X12_thrown x0 I L R = some (r)) : Cn l D cA ad bs X yX12_thrown cX12_thrown 1 (some .int) 0 0 [.ref (ad x0)] I L R (some (.int r), I, L, R) := by
  refine Cn.ofV hAd hX [(0, .ref (ad x0))] rfl (Nat.le_of_ble_eq_true rfl) (by decide) ?_
  intro G el eD ecA ead ebs eX erm eNL C0
  subst el eD ecA ead ebs eX
  unfold F_X12_thrown at h
  obtain ⟨c_x0, h⟩ := ite_some h
  refine V_aload_n C0 0 rfl rfl dX12_thrown_0 ?_
  refine V_getI C0 11 5 fl_X12_112 c_x0.2 c_x0.1 rfl dX12_thrown_1 ?_
  cases h
  exact V_iret C0 dX12_thrown_4
theorem dX12_fail_0 : decode cX12_fail 0 = .ok (.aload_n 0, 1) := by decide +kernel
theorem dX12_fail_1 : decode cX12_fail 1 = .ok (.iload_n 1, 1) := by decide +kernel
theorem dX12_fail_2 : decode cX12_fail 2 = .ok (.putfield 112, 3) := by decide +kernel
theorem dX12_fail_5 : decode cX12_fail 5 = .ok (.iconst 0, 1) := by decide +kernel
theorem dX12_fail_6 : decode cX12_fail 6 = .ok (.ireturn, 1) := by decide +kernel
def F_X12_fail (x0 : Nat) (x1 : Int32) (I : MI) (L : ML) (R : MR) : Option (Int32 × MI) :=
  if kd x0 = 11 ∧ x0 < NN then
  wr (uI I x0 5 x1) fun (I1 : MI) =>
  some ((0 : Int32), I1)
  else none
set_option maxRecDepth 100000 in
set_option maxHeartbeats 4000000 in
theorem c_X12_fail (l : Launch) (D : va_G) (cA : Nat → ClassId) (ad : Nat → Nat) (bs : Nat) (X : State → Prop) (hAd : Ax ad bs) (hX : Stb bs X) (x0 : Nat) (x1 : Int32) (I : MI) (L : ML) (R : MR) (r : Int32) (I' : MI) (h : F_X12_fail x0 x1 I L R = some (r, I')) : Cn l D cA ad bs X yX12_fail cX12_fail 2 (some .int) 0 0 [.ref (ad x0), .int x1] I L R (some (.int r), I', L, R) := by
  refine Cn.ofV hAd hX [(0, .ref (ad x0)), (1, .int x1)] rfl (Nat.le_of_ble_eq_true rfl) (by decide) ?_
  intro G el eD ecA ead ebs eX erm eNL C0
  subst el eD ecA ead ebs eX
  unfold F_X12_fail at h
  obtain ⟨c_x0, h⟩ := ite_some h
  refine V_aload_n C0 0 rfl rfl dX12_fail_0 ?_
  refine V_iload_n C0 1 rfl rfl dX12_fail_1 ?_
  obtain ⟨I1, eI1, h⟩ := wr_some h
  refine V_putI C0 11 5 fp_X12_112 c_x0.2 c_x0.1 rfl dX12_fail_2 ?_
  rw [← eI1]
  refine V_iconst C0 (v := (0 : Int32)) (by decide) dX12_fail_5 ?_
  cases h
  exact V_iret C0 dX12_fail_6
theorem dX12_mod_0 : decode cX12_mod 0 = .ok (.iload_n 0, 1) := by decide +kernel
theorem dX12_mod_1 : decode cX12_mod 1 = .ok (.iload_n 1, 1) := by decide +kernel
theorem dX12_mod_2 : decode cX12_mod 2 = .ok (.irem, 1) := by decide +kernel
theorem dX12_mod_3 : decode cX12_mod 3 = .ok (.istore_n 2, 1) := by decide +kernel
theorem dX12_mod_4 : decode cX12_mod 4 = .ok (.iload_n 2, 1) := by decide +kernel
theorem dX12_mod_5 : decode cX12_mod 5 = .ok (.ifCond .ge 9, 3) := by decide +kernel
theorem dX12_mod_8 : decode cX12_mod 8 = .ok (.iload_n 2, 1) := by decide +kernel
theorem dX12_mod_9 : decode cX12_mod 9 = .ok (.iload_n 1, 1) := by decide +kernel
theorem dX12_mod_10 : decode cX12_mod 10 = .ok (.iadd, 1) := by decide +kernel
theorem dX12_mod_11 : decode cX12_mod 11 = .ok (.goto 4, 3) := by decide +kernel
theorem dX12_mod_14 : decode cX12_mod 14 = .ok (.iload_n 2, 1) := by decide +kernel
theorem dX12_mod_15 : decode cX12_mod 15 = .ok (.ireturn, 1) := by decide +kernel
def F_X12_mod (x0 : Int32) (x1 : Int32) (I : MI) (L : ML) (R : MR) : Option (Int32) :=
  if x1 = 0 then none else
  wr (iR x0 x1) fun (u2 : Int32) =>
  if 0 ≤ u2 then
    some (u2)
  else
    some ((u2 + x1))
set_option maxRecDepth 100000 in
set_option maxHeartbeats 4000000 in
theorem c_X12_mod (l : Launch) (D : va_G) (cA : Nat → ClassId) (ad : Nat → Nat) (bs : Nat) (X : State → Prop) (hAd : Ax ad bs) (hX : Stb bs X) (x0 : Int32) (x1 : Int32) (I : MI) (L : ML) (R : MR) (r : Int32) (h : F_X12_mod x0 x1 I L R = some (r)) : Cn l D cA ad bs X yX12_mod cX12_mod 3 (some .int) 0 0 [.int x0, .int x1] I L R (some (.int r), I, L, R) := by
  refine Cn.ofV hAd hX [(0, .int x0), (1, .int x1)] rfl (Nat.le_of_ble_eq_true rfl) (by decide) ?_
  intro G el eD ecA ead ebs eX erm eNL C0
  subst el eD ecA ead ebs eX
  unfold F_X12_mod at h
  refine V_iload_n C0 0 rfl rfl dX12_mod_0 ?_
  refine V_iload_n C0 1 rfl rfl dX12_mod_1 ?_
  obtain ⟨c1, h⟩ := ite_none h
  refine V_irem C0 c1 dX12_mod_2 ?_
  obtain ⟨u2, eu2, h⟩ := wr_some h
  rw [← eu2]
  refine V_istore_n C0 [(2, .int u2), (0, .int x0), (1, .int x1)] rfl (by rw [eNL]; decide) rfl dX12_mod_3 ?_
  refine V_iload_n C0 0 rfl rfl dX12_mod_4 ?_
  refine V_if_ge C0 (tgt := 14) (by decide) dX12_mod_5 (fun c3 => ?_) (fun c3 => ?_)
  · have h := (if_pos c3).symm.trans h
    refine V_iload_n C0 0 rfl rfl dX12_mod_14 ?_
    cases h
    exact V_iret C0 dX12_mod_15
  · have h := (if_neg c3).symm.trans h
    refine V_iload_n C0 0 rfl rfl dX12_mod_8 ?_
    refine V_iload_n C0 2 rfl rfl dX12_mod_9 ?_
    refine V_iadd C0 dX12_mod_10 ?_
    refine V_goto C0 (tgt := 15) (by decide) dX12_mod_11 ?_
    cases h
    exact V_iret C0 dX12_mod_15
theorem dX12_limit_0 : decode cX12_limit 0 = .ok (.iload_n 0, 1) := by decide +kernel
theorem dX12_limit_1 : decode cX12_limit 1 = .ok (.iload_n 1, 1) := by decide +kernel
theorem dX12_limit_2 : decode cX12_limit 2 = .ok (.if_icmp .ge 7, 3) := by decide +kernel
theorem dX12_limit_5 : decode cX12_limit 5 = .ok (.iload_n 1, 1) := by decide +kernel
theorem dX12_limit_6 : decode cX12_limit 6 = .ok (.goto 13, 3) := by decide +kernel
theorem dX12_limit_9 : decode cX12_limit 9 = .ok (.iload_n 0, 1) := by decide +kernel
theorem dX12_limit_10 : decode cX12_limit 10 = .ok (.iload_n 2, 1) := by decide +kernel
theorem dX12_limit_11 : decode cX12_limit 11 = .ok (.if_icmp .le 7, 3) := by decide +kernel
theorem dX12_limit_14 : decode cX12_limit 14 = .ok (.iload_n 2, 1) := by decide +kernel
theorem dX12_limit_15 : decode cX12_limit 15 = .ok (.goto 4, 3) := by decide +kernel
theorem dX12_limit_18 : decode cX12_limit 18 = .ok (.iload_n 0, 1) := by decide +kernel
theorem dX12_limit_19 : decode cX12_limit 19 = .ok (.ireturn, 1) := by decide +kernel
def F_X12_limit (x0 : Int32) (x1 : Int32) (x2 : Int32) (I : MI) (L : ML) (R : MR) : Option (Int32) :=
  if x1 ≤ x0 then
    if x0 ≤ x2 then
      some (x0)
    else
      some (x2)
  else
    some (x1)
set_option maxRecDepth 100000 in
set_option maxHeartbeats 4000000 in
theorem c_X12_limit (l : Launch) (D : va_G) (cA : Nat → ClassId) (ad : Nat → Nat) (bs : Nat) (X : State → Prop) (hAd : Ax ad bs) (hX : Stb bs X) (x0 : Int32) (x1 : Int32) (x2 : Int32) (I : MI) (L : ML) (R : MR) (r : Int32) (h : F_X12_limit x0 x1 x2 I L R = some (r)) : Cn l D cA ad bs X yX12_limit cX12_limit 3 (some .int) 0 0 [.int x0, .int x1, .int x2] I L R (some (.int r), I, L, R) := by
  refine Cn.ofV hAd hX [(0, .int x0), (1, .int x1), (2, .int x2)] rfl (Nat.le_of_ble_eq_true rfl) (by decide) ?_
  intro G el eD ecA ead ebs eX erm eNL C0
  subst el eD ecA ead ebs eX
  unfold F_X12_limit at h
  refine V_iload_n C0 0 rfl rfl dX12_limit_0 ?_
  refine V_iload_n C0 1 rfl rfl dX12_limit_1 ?_
  refine V_icmp_ge C0 (tgt := 9) (by decide) dX12_limit_2 (fun c1 => ?_) (fun c1 => ?_)
  · have h := (if_pos c1).symm.trans h
    refine V_iload_n C0 0 rfl rfl dX12_limit_9 ?_
    refine V_iload_n C0 2 rfl rfl dX12_limit_10 ?_
    refine V_icmp_le C0 (tgt := 18) (by decide) dX12_limit_11 (fun c2 => ?_) (fun c2 => ?_)
    · have h := (if_pos c2).symm.trans h
      refine V_iload_n C0 0 rfl rfl dX12_limit_18 ?_
      cases h
      exact V_iret C0 dX12_limit_19
    · have h := (if_neg c2).symm.trans h
      refine V_iload_n C0 2 rfl rfl dX12_limit_14 ?_
      refine V_goto C0 (tgt := 19) (by decide) dX12_limit_15 ?_
      cases h
      exact V_iret C0 dX12_limit_19
  · have h := (if_neg c1).symm.trans h
    refine V_iload_n C0 1 rfl rfl dX12_limit_5 ?_
    refine V_goto C0 (tgt := 19) (by decide) dX12_limit_6 ?_
    cases h
    exact V_iret C0 dX12_limit_19
theorem dX12_amount_0 : decode cX12_amount 0 = .ok (.iload_n 0, 1) := by decide +kernel
theorem dX12_amount_1 : decode cX12_amount 1 = .ok (.ifCond .ge 8, 3) := by decide +kernel
theorem dX12_amount_4 : decode cX12_amount 4 = .ok (.iload_n 0, 1) := by decide +kernel
theorem dX12_amount_5 : decode cX12_amount 5 = .ok (.ineg, 1) := by decide +kernel
theorem dX12_amount_6 : decode cX12_amount 6 = .ok (.goto 4, 3) := by decide +kernel
theorem dX12_amount_9 : decode cX12_amount 9 = .ok (.iload_n 0, 1) := by decide +kernel
theorem dX12_amount_10 : decode cX12_amount 10 = .ok (.ireturn, 1) := by decide +kernel
def F_X12_amount (x0 : Int32) (I : MI) (L : ML) (R : MR) : Option (Int32) :=
  if 0 ≤ x0 then
    some (x0)
  else
    some ((-x0))
set_option maxRecDepth 100000 in
set_option maxHeartbeats 4000000 in
theorem c_X12_amount (l : Launch) (D : va_G) (cA : Nat → ClassId) (ad : Nat → Nat) (bs : Nat) (X : State → Prop) (hAd : Ax ad bs) (hX : Stb bs X) (x0 : Int32) (I : MI) (L : ML) (R : MR) (r : Int32) (h : F_X12_amount x0 I L R = some (r)) : Cn l D cA ad bs X yX12_amount cX12_amount 1 (some .int) 0 0 [.int x0] I L R (some (.int r), I, L, R) := by
  refine Cn.ofV hAd hX [(0, .int x0)] rfl (Nat.le_of_ble_eq_true rfl) (by decide) ?_
  intro G el eD ecA ead ebs eX erm eNL C0
  subst el eD ecA ead ebs eX
  unfold F_X12_amount at h
  refine V_iload_n C0 0 rfl rfl dX12_amount_0 ?_
  refine V_if_ge C0 (tgt := 9) (by decide) dX12_amount_1 (fun c1 => ?_) (fun c1 => ?_)
  · have h := (if_pos c1).symm.trans h
    refine V_iload_n C0 0 rfl rfl dX12_amount_9 ?_
    cases h
    exact V_iret C0 dX12_amount_10
  · have h := (if_neg c1).symm.trans h
    refine V_iload_n C0 0 rfl rfl dX12_amount_4 ?_
    refine V_ineg C0 dX12_amount_5 ?_
    refine V_goto C0 (tgt := 10) (by decide) dX12_amount_6 ?_
    cases h
    exact V_iret C0 dX12_amount_10
theorem dX12_least_0 : decode cX12_least 0 = .ok (.iload_n 0, 1) := by decide +kernel
theorem dX12_least_1 : decode cX12_least 1 = .ok (.iload_n 1, 1) := by decide +kernel
theorem dX12_least_2 : decode cX12_least 2 = .ok (.if_icmp .ge 7, 3) := by decide +kernel
theorem dX12_least_5 : decode cX12_least 5 = .ok (.iload_n 0, 1) := by decide +kernel
theorem dX12_least_6 : decode cX12_least 6 = .ok (.goto 4, 3) := by decide +kernel
theorem dX12_least_9 : decode cX12_least 9 = .ok (.iload_n 1, 1) := by decide +kernel
theorem dX12_least_10 : decode cX12_least 10 = .ok (.ireturn, 1) := by decide +kernel
def F_X12_least (x0 : Int32) (x1 : Int32) (I : MI) (L : ML) (R : MR) : Option (Int32) :=
  if x1 ≤ x0 then
    some (x1)
  else
    some (x0)
set_option maxRecDepth 100000 in
set_option maxHeartbeats 4000000 in
theorem c_X12_least (l : Launch) (D : va_G) (cA : Nat → ClassId) (ad : Nat → Nat) (bs : Nat) (X : State → Prop) (hAd : Ax ad bs) (hX : Stb bs X) (x0 : Int32) (x1 : Int32) (I : MI) (L : ML) (R : MR) (r : Int32) (h : F_X12_least x0 x1 I L R = some (r)) : Cn l D cA ad bs X yX12_least cX12_least 2 (some .int) 0 0 [.int x0, .int x1] I L R (some (.int r), I, L, R) := by
  refine Cn.ofV hAd hX [(0, .int x0), (1, .int x1)] rfl (Nat.le_of_ble_eq_true rfl) (by decide) ?_
  intro G el eD ecA ead ebs eX erm eNL C0
  subst el eD ecA ead ebs eX
  unfold F_X12_least at h
  refine V_iload_n C0 0 rfl rfl dX12_least_0 ?_
  refine V_iload_n C0 1 rfl rfl dX12_least_1 ?_
  refine V_icmp_ge C0 (tgt := 9) (by decide) dX12_least_2 (fun c1 => ?_) (fun c1 => ?_)
  · have h := (if_pos c1).symm.trans h
    refine V_iload_n C0 1 rfl rfl dX12_least_9 ?_
    cases h
    exact V_iret C0 dX12_least_10
  · have h := (if_neg c1).symm.trans h
    refine V_iload_n C0 0 rfl rfl dX12_least_5 ?_
    refine V_goto C0 (tgt := 10) (by decide) dX12_least_6 ?_
    cases h
    exact V_iret C0 dX12_least_10
theorem dX12_off_0 : decode cX12_off 0 = .ok (.iload_n 1, 1) := by decide +kernel
theorem dX12_off_1 : decode cX12_off 1 = .ok (.iload_n 0, 1) := by decide +kernel
theorem dX12_off_2 : decode cX12_off 2 = .ok (.isub, 1) := by decide +kernel
theorem dX12_off_3 : decode cX12_off 3 = .ok (.sipush 1800, 3) := by decide +kernel
theorem dX12_off_6 : decode cX12_off 6 = .ok (.iadd, 1) := by decide +kernel
theorem dX12_off_7 : decode cX12_off 7 = .ok (.sipush 3600, 3) := by decide +kernel
theorem dX12_off_10 : decode cX12_off 10 = .ok (.invokestatic 115, 3) := by decide +kernel
theorem dX12_off_13 : decode cX12_off 13 = .ok (.sipush 1800, 3) := by decide +kernel
theorem dX12_off_16 : decode cX12_off 16 = .ok (.isub, 1) := by decide +kernel
theorem dX12_off_17 : decode cX12_off 17 = .ok (.ireturn, 1) := by decide +kernel
def F_X12_off (x0 : Int32) (x1 : Int32) (I : MI) (L : ML) (R : MR) : Option (Int32) :=
  bn1 (F_X12_mod ((x1 - x0) + (1800 : Int32)) (3600 : Int32) I L R) fun v1 =>
  some ((v1 - (1800 : Int32)))
set_option maxRecDepth 100000 in
set_option maxHeartbeats 4000000 in
theorem c_X12_off (l : Launch) (D : va_G) (cA : Nat → ClassId) (ad : Nat → Nat) (bs : Nat) (X : State → Prop) (hAd : Ax ad bs) (hX : Stb bs X) (x0 : Int32) (x1 : Int32) (I : MI) (L : ML) (R : MR) (r : Int32) (h : F_X12_off x0 x1 I L R = some (r)) : Cn l D cA ad bs X yX12_off cX12_off 2 (some .int) 1 22 [.int x0, .int x1] I L R (some (.int r), I, L, R) := by
  refine Cn.ofV hAd hX [(0, .int x0), (1, .int x1)] rfl (Nat.le_of_ble_eq_true rfl) (by decide) ?_
  intro G el eD ecA ead ebs eX erm eNL C0
  subst el eD ecA ead ebs eX
  unfold F_X12_off at h
  refine V_iload_n C0 1 rfl rfl dX12_off_0 ?_
  refine V_iload_n C0 0 rfl rfl dX12_off_1 ?_
  refine V_isub C0 dX12_off_2 ?_
  refine V_sipush C0 (v := (1800 : Int32)) (by decide) dX12_off_3 ?_
  refine V_iadd C0 dX12_off_6 ?_
  refine V_sipush C0 (v := (3600 : Int32)) (by decide) dX12_off_7 ?_
  obtain ⟨v1, q2, h⟩ := bn1_some h
  refine V_callS C0 (st := []) (As := [.int ((x1 - x0) + (1800 : Int32)), .int (3600 : Int32)]) (c_X12_mod G.l G.D G.cA G.ad G.bs G.X C0.2.2.2.2.2.2.2.2.2.1 C0.2.2.2.2.2.2.2.2.2.2.2.2 ((x1 - x0) + (1800 : Int32)) (3600 : Int32) I L R v1 q2) lc_X12_mod lk_X12_115 rfl (by rw [erm]; decide) (Nat.le_of_ble_eq_true rfl) dX12_off_10 ?_
  show V G _ 13 [(0, .int x0), (1, .int x1)] [.int v1] I L R
  refine V_sipush C0 (v := (1800 : Int32)) (by decide) dX12_off_13 ?_
  refine V_isub C0 dX12_off_16 ?_
  cases h
  exact V_iret C0 dX12_off_17
theorem dX12_feed_0 : decode cX12_feed 0 = .ok (.aload_n 0, 1) := by decide +kernel
theorem dX12_feed_1 : decode cX12_feed 1 = .ok (.iconst 0, 1) := by decide +kernel
theorem dX12_feed_2 : decode cX12_feed 2 = .ok (.putfield 112, 3) := by decide +kernel
theorem dX12_feed_5 : decode cX12_feed 5 = .ok (.aload_n 0, 1) := by decide +kernel
theorem dX12_feed_6 : decode cX12_feed 6 = .ok (.getfield 119, 3) := by decide +kernel
theorem dX12_feed_9 : decode cX12_feed 9 = .ok (.bipush 20, 2) := by decide +kernel
theorem dX12_feed_11 : decode cX12_feed 11 = .ok (.iadd, 1) := by decide +kernel
theorem dX12_feed_12 : decode cX12_feed 12 = .ok (.sipush 4000, 3) := by decide +kernel
theorem dX12_feed_15 : decode cX12_feed 15 = .ok (.if_icmp .le 5, 3) := by decide +kernel
theorem dX12_feed_18 : decode cX12_feed 18 = .ok (.iconst (-1), 1) := by decide +kernel
theorem dX12_feed_19 : decode cX12_feed 19 = .ok (.ireturn, 1) := by decide +kernel
theorem dX12_feed_20 : decode cX12_feed 20 = .ok (.iconst 0, 1) := by decide +kernel
theorem dX12_feed_21 : decode cX12_feed 21 = .ok (.istore 6, 2) := by decide +kernel
theorem dX12_feed_23 : decode cX12_feed 23 = .ok (.iload 6, 2) := by decide +kernel
theorem dX12_feed_25 : decode cX12_feed 25 = .ok (.iconst 4, 1) := by decide +kernel
theorem dX12_feed_26 : decode cX12_feed 26 = .ok (.if_icmp .ge 132, 3) := by decide +kernel
theorem dX12_feed_29 : decode cX12_feed 29 = .ok (.bipush 24, 2) := by decide +kernel
theorem dX12_feed_31 : decode cX12_feed 31 = .ok (.bipush 8, 2) := by decide +kernel
theorem dX12_feed_33 : decode cX12_feed 33 = .ok (.iload 6, 2) := by decide +kernel
theorem dX12_feed_35 : decode cX12_feed 35 = .ok (.imul, 1) := by decide +kernel
theorem dX12_feed_36 : decode cX12_feed 36 = .ok (.isub, 1) := by decide +kernel
theorem dX12_feed_37 : decode cX12_feed 37 = .ok (.istore 7, 2) := by decide +kernel
theorem dX12_feed_39 : decode cX12_feed 39 = .ok (.aload_n 0, 1) := by decide +kernel
theorem dX12_feed_40 : decode cX12_feed 40 = .ok (.getfield 25, 3) := by decide +kernel
theorem dX12_feed_43 : decode cX12_feed 43 = .ok (.aload_n 0, 1) := by decide +kernel
theorem dX12_feed_44 : decode cX12_feed 44 = .ok (.getfield 119, 3) := by decide +kernel
theorem dX12_feed_47 : decode cX12_feed 47 = .ok (.iload 6, 2) := by decide +kernel
theorem dX12_feed_49 : decode cX12_feed 49 = .ok (.iadd, 1) := by decide +kernel
theorem dX12_feed_50 : decode cX12_feed 50 = .ok (.iload_n 1, 1) := by decide +kernel
theorem dX12_feed_51 : decode cX12_feed 51 = .ok (.iload 7, 2) := by decide +kernel
theorem dX12_feed_53 : decode cX12_feed 53 = .ok (.ishr, 1) := by decide +kernel
theorem dX12_feed_54 : decode cX12_feed 54 = .ok (.sipush 255, 3) := by decide +kernel
theorem dX12_feed_57 : decode cX12_feed 57 = .ok (.iand, 1) := by decide +kernel
theorem dX12_feed_58 : decode cX12_feed 58 = .ok (.iastore, 1) := by decide +kernel
theorem dX12_feed_59 : decode cX12_feed 59 = .ok (.aload_n 0, 1) := by decide +kernel
theorem dX12_feed_60 : decode cX12_feed 60 = .ok (.getfield 25, 3) := by decide +kernel
theorem dX12_feed_63 : decode cX12_feed 63 = .ok (.aload_n 0, 1) := by decide +kernel
theorem dX12_feed_64 : decode cX12_feed 64 = .ok (.getfield 119, 3) := by decide +kernel
theorem dX12_feed_67 : decode cX12_feed 67 = .ok (.iconst 4, 1) := by decide +kernel
theorem dX12_feed_68 : decode cX12_feed 68 = .ok (.iadd, 1) := by decide +kernel
theorem dX12_feed_69 : decode cX12_feed 69 = .ok (.iload 6, 2) := by decide +kernel
theorem dX12_feed_71 : decode cX12_feed 71 = .ok (.iadd, 1) := by decide +kernel
theorem dX12_feed_72 : decode cX12_feed 72 = .ok (.iload_n 2, 1) := by decide +kernel
theorem dX12_feed_73 : decode cX12_feed 73 = .ok (.iload 7, 2) := by decide +kernel
theorem dX12_feed_75 : decode cX12_feed 75 = .ok (.ishr, 1) := by decide +kernel
theorem dX12_feed_76 : decode cX12_feed 76 = .ok (.sipush 255, 3) := by decide +kernel
theorem dX12_feed_79 : decode cX12_feed 79 = .ok (.iand, 1) := by decide +kernel
theorem dX12_feed_80 : decode cX12_feed 80 = .ok (.iastore, 1) := by decide +kernel
theorem dX12_feed_81 : decode cX12_feed 81 = .ok (.aload_n 0, 1) := by decide +kernel
theorem dX12_feed_82 : decode cX12_feed 82 = .ok (.getfield 25, 3) := by decide +kernel
theorem dX12_feed_85 : decode cX12_feed 85 = .ok (.aload_n 0, 1) := by decide +kernel
theorem dX12_feed_86 : decode cX12_feed 86 = .ok (.getfield 119, 3) := by decide +kernel
theorem dX12_feed_89 : decode cX12_feed 89 = .ok (.bipush 8, 2) := by decide +kernel
theorem dX12_feed_91 : decode cX12_feed 91 = .ok (.iadd, 1) := by decide +kernel
theorem dX12_feed_92 : decode cX12_feed 92 = .ok (.iload 6, 2) := by decide +kernel
theorem dX12_feed_94 : decode cX12_feed 94 = .ok (.iadd, 1) := by decide +kernel
theorem dX12_feed_95 : decode cX12_feed 95 = .ok (.iload_n 3, 1) := by decide +kernel
theorem dX12_feed_96 : decode cX12_feed 96 = .ok (.iload 7, 2) := by decide +kernel
theorem dX12_feed_98 : decode cX12_feed 98 = .ok (.ishr, 1) := by decide +kernel
theorem dX12_feed_99 : decode cX12_feed 99 = .ok (.sipush 255, 3) := by decide +kernel
theorem dX12_feed_102 : decode cX12_feed 102 = .ok (.iand, 1) := by decide +kernel
theorem dX12_feed_103 : decode cX12_feed 103 = .ok (.iastore, 1) := by decide +kernel
theorem dX12_feed_104 : decode cX12_feed 104 = .ok (.aload_n 0, 1) := by decide +kernel
theorem dX12_feed_105 : decode cX12_feed 105 = .ok (.getfield 25, 3) := by decide +kernel
theorem dX12_feed_108 : decode cX12_feed 108 = .ok (.aload_n 0, 1) := by decide +kernel
theorem dX12_feed_109 : decode cX12_feed 109 = .ok (.getfield 119, 3) := by decide +kernel
theorem dX12_feed_112 : decode cX12_feed 112 = .ok (.bipush 12, 2) := by decide +kernel
theorem dX12_feed_114 : decode cX12_feed 114 = .ok (.iadd, 1) := by decide +kernel
theorem dX12_feed_115 : decode cX12_feed 115 = .ok (.iload 6, 2) := by decide +kernel
theorem dX12_feed_117 : decode cX12_feed 117 = .ok (.iadd, 1) := by decide +kernel
theorem dX12_feed_118 : decode cX12_feed 118 = .ok (.iload 4, 2) := by decide +kernel
theorem dX12_feed_120 : decode cX12_feed 120 = .ok (.iload 7, 2) := by decide +kernel
theorem dX12_feed_122 : decode cX12_feed 122 = .ok (.ishr, 1) := by decide +kernel
theorem dX12_feed_123 : decode cX12_feed 123 = .ok (.sipush 255, 3) := by decide +kernel
theorem dX12_feed_126 : decode cX12_feed 126 = .ok (.iand, 1) := by decide +kernel
theorem dX12_feed_127 : decode cX12_feed 127 = .ok (.iastore, 1) := by decide +kernel
theorem dX12_feed_128 : decode cX12_feed 128 = .ok (.aload_n 0, 1) := by decide +kernel
theorem dX12_feed_129 : decode cX12_feed 129 = .ok (.getfield 25, 3) := by decide +kernel
theorem dX12_feed_132 : decode cX12_feed 132 = .ok (.aload_n 0, 1) := by decide +kernel
theorem dX12_feed_133 : decode cX12_feed 133 = .ok (.getfield 119, 3) := by decide +kernel
theorem dX12_feed_136 : decode cX12_feed 136 = .ok (.bipush 16, 2) := by decide +kernel
theorem dX12_feed_138 : decode cX12_feed 138 = .ok (.iadd, 1) := by decide +kernel
theorem dX12_feed_139 : decode cX12_feed 139 = .ok (.iload 6, 2) := by decide +kernel
theorem dX12_feed_141 : decode cX12_feed 141 = .ok (.iadd, 1) := by decide +kernel
theorem dX12_feed_142 : decode cX12_feed 142 = .ok (.iload 5, 2) := by decide +kernel
theorem dX12_feed_144 : decode cX12_feed 144 = .ok (.iload 7, 2) := by decide +kernel
theorem dX12_feed_146 : decode cX12_feed 146 = .ok (.ishr, 1) := by decide +kernel
theorem dX12_feed_147 : decode cX12_feed 147 = .ok (.sipush 255, 3) := by decide +kernel
theorem dX12_feed_150 : decode cX12_feed 150 = .ok (.iand, 1) := by decide +kernel
theorem dX12_feed_151 : decode cX12_feed 151 = .ok (.iastore, 1) := by decide +kernel
theorem dX12_feed_152 : decode cX12_feed 152 = .ok (.iinc 6 1, 3) := by decide +kernel
theorem dX12_feed_155 : decode cX12_feed 155 = .ok (.goto (-132), 3) := by decide +kernel
theorem dX12_feed_158 : decode cX12_feed 158 = .ok (.aload_n 0, 1) := by decide +kernel
theorem dX12_feed_159 : decode cX12_feed 159 = .ok (.dup, 1) := by decide +kernel
theorem dX12_feed_160 : decode cX12_feed 160 = .ok (.getfield 119, 3) := by decide +kernel
theorem dX12_feed_163 : decode cX12_feed 163 = .ok (.bipush 20, 2) := by decide +kernel
theorem dX12_feed_165 : decode cX12_feed 165 = .ok (.iadd, 1) := by decide +kernel
theorem dX12_feed_166 : decode cX12_feed 166 = .ok (.putfield 119, 3) := by decide +kernel
theorem dX12_feed_169 : decode cX12_feed 169 = .ok (.aload_n 0, 1) := by decide +kernel
theorem dX12_feed_170 : decode cX12_feed 170 = .ok (.getfield 119, 3) := by decide +kernel
theorem dX12_feed_173 : decode cX12_feed 173 = .ok (.ireturn, 1) := by decide +kernel
def LF_X12_feed_23 (N : Nat) : Nat → Nat → Int32 → Int32 → Int32 → Int32 → Int32 → Int32 → MI → ML → MR → Option (MI)
  | 0, _, _, _, _, _, _, _, _, _, _ => none
  | k + 1, y0, y1, y2, y3, y4, y5, y6, I, L, R =>
    if (4 : Int32) ≤ y6 then
      some (I)
    else
      wr ((24 : Int32) - ((8 : Int32) * y6)) fun (u4 : Int32) =>
      (rf R y0 6 20).bind fun a5 =>
      (wi I a5 ((I y0 7) + y6) ((iA y1 u4) &&& (255 : Int32))).bind fun I6 =>
      (wi I6 a5 (((I6 y0 7) + (4 : Int32)) + y6) ((iA y2 u4) &&& (255 : Int32))).bind fun I7 =>
      (wi I7 a5 (((I7 y0 7) + (8 : Int32)) + y6) ((iA y3 u4) &&& (255 : Int32))).bind fun I8 =>
      (wi I8 a5 (((I8 y0 7) + (12 : Int32)) + y6) ((iA y4 u4) &&& (255 : Int32))).bind fun I9 =>
      (wi I9 a5 (((I9 y0 7) + (16 : Int32)) + y6) ((iA y5 u4) &&& (255 : Int32))).bind fun I10 =>
      wr (y6 + (1 : Int32)) fun (u11 : Int32) =>
      LF_X12_feed_23 N k y0 y1 y2 y3 y4 y5 u11 I10 L R
def F_X12_feed (N : Nat) (x0 : Nat) (x1 : Int32) (x2 : Int32) (x3 : Int32) (x4 : Int32) (x5 : Int32) (I : MI) (L : ML) (R : MR) : Option (Int32 × MI) :=
  if kd x0 = 11 ∧ x0 < NN then
  wr (uI I x0 5 (0 : Int32)) fun (I1 : MI) =>
  if ((I1 x0 7) + (20 : Int32)) ≤ (4000 : Int32) then
    bn1 (LF_X12_feed_23 N N x0 x1 x2 x3 x4 x5 (0 : Int32) I1 L R) fun z12 =>
    wr (uI z12 x0 7 ((z12 x0 7) + (20 : Int32))) fun (I14 : MI) =>
    some ((I14 x0 7), I14)
  else
    some ((-1 : Int32), I1)
  else none
set_option maxRecDepth 100000 in
set_option maxHeartbeats 4000000 in
theorem lp_X12_feed_23 {G : Gm} (C0 : Cx G (yX12_feed.cls) cX12_feed (some .int)) (eNL : G.nL = 8) (erm : G.rm = ({ frames := 0, cells := 0, slots := 0, locals := 0 } : Room)) (N : Nat) : ∀ (k : Nat) (y0 : Nat) (y1 : Int32) (y2 : Int32) (y3 : Int32) (y4 : Int32) (y5 : Int32) (y6 : Int32) (I : MI) (L : ML) (R : MR) (z : MI) (hk0 : kd y0 = 11) (ho0 : y0 < NN), LF_X12_feed_23 N k y0 y1 y2 y3 y4 y5 y6 I L R = some z → ∀ f : State → Prop, V G f 158 [(0, .ref (G.ad y0))] [] z L R → V G f 23 [(0, .ref (G.ad y0)), (1, .int y1), (2, .int y2), (3, .int y3), (4, .int y4), (5, .int y5), (6, .int y6)] [] I L R := by
  intro k
  induction k with
  | zero =>
    intro y0 y1 y2 y3 y4 y5 y6 I L R q hk0 ho0 h
    exact absurd h (by simp [LF_X12_feed_23])
  | succ k ih =>
    intro y0 y1 y2 y3 y4 y5 y6 I L R q hk0 ho0 h f kx
    rw [LF_X12_feed_23] at h
    refine V_iload C0 6 rfl dX12_feed_23 ?_
    refine V_iconst C0 (v := (4 : Int32)) (by decide) dX12_feed_25 ?_
    refine V_icmp_ge C0 (tgt := 158) (by decide) dX12_feed_26 (fun c3 => ?_) (fun c3 => ?_)
    · have h := (if_pos c3).symm.trans h
      cases h
      exact V_sub [0] rfl kx
    · have h := (if_neg c3).symm.trans h
      refine V_bipush C0 (v := (24 : Int32)) (by decide) dX12_feed_29 ?_
      refine V_bipush C0 (v := (8 : Int32)) (by decide) dX12_feed_31 ?_
      refine V_iload C0 6 rfl dX12_feed_33 ?_
      refine V_imul C0 dX12_feed_35 ?_
      refine V_isub C0 dX12_feed_36 ?_
      obtain ⟨u4, eu4, h⟩ := wr_some h
      rw [← eu4]
      refine V_istore C0 [(7, .int u4), (0, .ref (G.ad y0)), (1, .int y1), (2, .int y2), (3, .int y3), (4, .int y4), (5, .int y5), (6, .int y6)] (by rw [eNL]; decide) rfl dX12_feed_37 ?_
      refine V_aload_n C0 1 rfl rfl dX12_feed_39 ?_
      obtain ⟨a5, qa5, h⟩ := bnd_some h
      refine V_getR C0 11 6 fl_X12_25 ho0 hk0 rfl (rf_at qa5) dX12_feed_40 ?_
      refine V_aload_n C0 1 rfl rfl dX12_feed_43 ?_
      refine V_getI C0 11 7 fl_X12_119 ho0 hk0 rfl dX12_feed_44 ?_
      refine V_iload C0 7 rfl dX12_feed_47 ?_
      refine V_iadd C0 dX12_feed_49 ?_
      refine V_iload_n C0 2 rfl rfl dX12_feed_50 ?_
      refine V_iload C0 0 rfl dX12_feed_51 ?_
      refine V_ishr C0 dX12_feed_53 ?_
      refine V_sipush C0 (v := (255 : Int32)) (by decide) dX12_feed_54 ?_
      refine V_iand C0 dX12_feed_57 ?_
      obtain ⟨I6, qI6, h⟩ := bnd_some h
      refine V_wi C0 (rf_lt qa5) (rf_kd qa5) qI6 dX12_feed_58 ?_
      refine V_aload_n C0 1 rfl rfl dX12_feed_59 ?_
      refine V_getR C0 11 6 fl_X12_25 ho0 hk0 rfl (rf_at qa5) dX12_feed_60 ?_
      refine V_aload_n C0 1 rfl rfl dX12_feed_63 ?_
      refine V_getI C0 11 7 fl_X12_119 ho0 hk0 rfl dX12_feed_64 ?_
      refine V_iconst C0 (v := (4 : Int32)) (by decide) dX12_feed_67 ?_
      refine V_iadd C0 dX12_feed_68 ?_
      refine V_iload C0 7 rfl dX12_feed_69 ?_
      refine V_iadd C0 dX12_feed_71 ?_
      refine V_iload_n C0 3 rfl rfl dX12_feed_72 ?_
      refine V_iload C0 0 rfl dX12_feed_73 ?_
      refine V_ishr C0 dX12_feed_75 ?_
      refine V_sipush C0 (v := (255 : Int32)) (by decide) dX12_feed_76 ?_
      refine V_iand C0 dX12_feed_79 ?_
      obtain ⟨I7, qI7, h⟩ := bnd_some h
      refine V_wi C0 (rf_lt qa5) (rf_kd qa5) qI7 dX12_feed_80 ?_
      refine V_aload_n C0 1 rfl rfl dX12_feed_81 ?_
      refine V_getR C0 11 6 fl_X12_25 ho0 hk0 rfl (rf_at qa5) dX12_feed_82 ?_
      refine V_aload_n C0 1 rfl rfl dX12_feed_85 ?_
      refine V_getI C0 11 7 fl_X12_119 ho0 hk0 rfl dX12_feed_86 ?_
      refine V_bipush C0 (v := (8 : Int32)) (by decide) dX12_feed_89 ?_
      refine V_iadd C0 dX12_feed_91 ?_
      refine V_iload C0 7 rfl dX12_feed_92 ?_
      refine V_iadd C0 dX12_feed_94 ?_
      refine V_iload_n C0 4 rfl rfl dX12_feed_95 ?_
      refine V_iload C0 0 rfl dX12_feed_96 ?_
      refine V_ishr C0 dX12_feed_98 ?_
      refine V_sipush C0 (v := (255 : Int32)) (by decide) dX12_feed_99 ?_
      refine V_iand C0 dX12_feed_102 ?_
      obtain ⟨I8, qI8, h⟩ := bnd_some h
      refine V_wi C0 (rf_lt qa5) (rf_kd qa5) qI8 dX12_feed_103 ?_
      refine V_aload_n C0 1 rfl rfl dX12_feed_104 ?_
      refine V_getR C0 11 6 fl_X12_25 ho0 hk0 rfl (rf_at qa5) dX12_feed_105 ?_
      refine V_aload_n C0 1 rfl rfl dX12_feed_108 ?_
      refine V_getI C0 11 7 fl_X12_119 ho0 hk0 rfl dX12_feed_109 ?_
      refine V_bipush C0 (v := (12 : Int32)) (by decide) dX12_feed_112 ?_
      refine V_iadd C0 dX12_feed_114 ?_
      refine V_iload C0 7 rfl dX12_feed_115 ?_
      refine V_iadd C0 dX12_feed_117 ?_
      refine V_iload C0 5 rfl dX12_feed_118 ?_
      refine V_iload C0 0 rfl dX12_feed_120 ?_
      refine V_ishr C0 dX12_feed_122 ?_
      refine V_sipush C0 (v := (255 : Int32)) (by decide) dX12_feed_123 ?_
      refine V_iand C0 dX12_feed_126 ?_
      obtain ⟨I9, qI9, h⟩ := bnd_some h
      refine V_wi C0 (rf_lt qa5) (rf_kd qa5) qI9 dX12_feed_127 ?_
      refine V_aload_n C0 1 rfl rfl dX12_feed_128 ?_
      refine V_getR C0 11 6 fl_X12_25 ho0 hk0 rfl (rf_at qa5) dX12_feed_129 ?_
      refine V_aload_n C0 1 rfl rfl dX12_feed_132 ?_
      refine V_getI C0 11 7 fl_X12_119 ho0 hk0 rfl dX12_feed_133 ?_
      refine V_bipush C0 (v := (16 : Int32)) (by decide) dX12_feed_136 ?_
      refine V_iadd C0 dX12_feed_138 ?_
      refine V_iload C0 7 rfl dX12_feed_139 ?_
      refine V_iadd C0 dX12_feed_141 ?_
      refine V_iload C0 6 rfl dX12_feed_142 ?_
      refine V_iload C0 0 rfl dX12_feed_144 ?_
      refine V_ishr C0 dX12_feed_146 ?_
      refine V_sipush C0 (v := (255 : Int32)) (by decide) dX12_feed_147 ?_
      refine V_iand C0 dX12_feed_150 ?_
      obtain ⟨I10, qI10, h⟩ := bnd_some h
      refine V_wi C0 (rf_lt qa5) (rf_kd qa5) qI10 dX12_feed_151 ?_
      obtain ⟨u11, eu11, h⟩ := wr_some h
      refine V_iinc C0 7 [(6, .int u11), (7, .int u4), (0, .ref (G.ad y0)), (1, .int y1), (2, .int y2), (3, .int y3), (4, .int y4), (5, .int y5)] rfl (n := 1) (by rw [eu11]; rfl) (by rw [eNL]; decide) rfl dX12_feed_152 ?_
      refine V_goto C0 (tgt := 23) (by decide) dX12_feed_155 ?_
      exact V_sub [2, 3, 4, 5, 6, 7, 0] rfl (ih y0 y1 y2 y3 y4 y5 u11 I10 L R _ hk0 ho0 h f kx)
set_option maxRecDepth 100000 in
set_option maxHeartbeats 4000000 in
theorem c_X12_feed (l : Launch) (D : va_G) (cA : Nat → ClassId) (ad : Nat → Nat) (bs : Nat) (X : State → Prop) (hAd : Ax ad bs) (hX : Stb bs X) (N : Nat) (x0 : Nat) (x1 : Int32) (x2 : Int32) (x3 : Int32) (x4 : Int32) (x5 : Int32) (I : MI) (L : ML) (R : MR) (r : Int32) (I' : MI) (h : F_X12_feed N x0 x1 x2 x3 x4 x5 I L R = some (r, I')) : Cn l D cA ad bs X yX12_feed cX12_feed 8 (some .int) 0 0 [.ref (ad x0), .int x1, .int x2, .int x3, .int x4, .int x5] I L R (some (.int r), I', L, R) := by
  refine Cn.ofV hAd hX [(0, .ref (ad x0)), (1, .int x1), (2, .int x2), (3, .int x3), (4, .int x4), (5, .int x5)] rfl (Nat.le_of_ble_eq_true rfl) (by decide) ?_
  intro G el eD ecA ead ebs eX erm eNL C0
  subst el eD ecA ead ebs eX
  unfold F_X12_feed at h
  obtain ⟨c_x0, h⟩ := ite_some h
  refine V_aload_n C0 0 rfl rfl dX12_feed_0 ?_
  refine V_iconst C0 (v := (0 : Int32)) (by decide) dX12_feed_1 ?_
  obtain ⟨I1, eI1, h⟩ := wr_some h
  refine V_putI C0 11 5 fp_X12_112 c_x0.2 c_x0.1 rfl dX12_feed_2 ?_
  rw [← eI1]
  refine V_aload_n C0 0 rfl rfl dX12_feed_5 ?_
  refine V_getI C0 11 7 fl_X12_119 c_x0.2 c_x0.1 rfl dX12_feed_6 ?_
  refine V_bipush C0 (v := (20 : Int32)) (by decide) dX12_feed_9 ?_
  refine V_iadd C0 dX12_feed_11 ?_
  refine V_sipush C0 (v := (4000 : Int32)) (by decide) dX12_feed_12 ?_
  refine V_icmp_le C0 (tgt := 20) (by decide) dX12_feed_15 (fun c2 => ?_) (fun c2 => ?_)
  · have h := (if_pos c2).symm.trans h
    refine V_iconst C0 (v := (0 : Int32)) (by decide) dX12_feed_20 ?_
    refine V_istore C0 [(6, .int (0 : Int32)), (0, .ref (G.ad x0)), (1, .int x1), (2, .int x2), (3, .int x3), (4, .int x4), (5, .int x5)] (by rw [eNL]; decide) rfl dX12_feed_21 ?_
    obtain ⟨z12, q13, h⟩ := bn1_some h
    refine V_sub [1, 2, 3, 4, 5, 6, 0] rfl (lp_X12_feed_23 C0 eNL erm N N x0 x1 x2 x3 x4 x5 (0 : Int32) I1 L R _ c_x0.1 c_x0.2 q13 _ ?_)
    show V G _ 158 [(0, .ref (G.ad x0))] [] z12 L R
    refine V_aload_n C0 0 rfl rfl dX12_feed_158 ?_
    refine V_dup C0 rfl dX12_feed_159 ?_
    refine V_getI C0 11 7 fl_X12_119 c_x0.2 c_x0.1 rfl dX12_feed_160 ?_
    refine V_bipush C0 (v := (20 : Int32)) (by decide) dX12_feed_163 ?_
    refine V_iadd C0 dX12_feed_165 ?_
    obtain ⟨I14, eI14, h⟩ := wr_some h
    refine V_putI C0 11 7 fp_X12_119 c_x0.2 c_x0.1 rfl dX12_feed_166 ?_
    rw [← eI14]
    refine V_aload_n C0 0 rfl rfl dX12_feed_169 ?_
    refine V_getI C0 11 7 fl_X12_119 c_x0.2 c_x0.1 rfl dX12_feed_170 ?_
    cases h
    exact V_iret C0 dX12_feed_173
  · have h := (if_neg c2).symm.trans h
    refine V_iconst C0 (v := (-1 : Int32)) (by decide) dX12_feed_18 ?_
    cases h
    exact V_iret C0 dX12_feed_19
theorem dX12_begins_0 : decode cX12_begins 0 = .ok (.iload_n 1, 1) := by decide +kernel
theorem dX12_begins_1 : decode cX12_begins 1 = .ok (.ifCond .lt 11, 3) := by decide +kernel
theorem dX12_begins_4 : decode cX12_begins 4 = .ok (.iload_n 1, 1) := by decide +kernel
theorem dX12_begins_5 : decode cX12_begins 5 = .ok (.aload_n 0, 1) := by decide +kernel
theorem dX12_begins_6 : decode cX12_begins 6 = .ok (.getfield 119, 3) := by decide +kernel
theorem dX12_begins_9 : decode cX12_begins 9 = .ok (.if_icmp .le 10, 3) := by decide +kernel
theorem dX12_begins_12 : decode cX12_begins 12 = .ok (.aload_n 0, 1) := by decide +kernel
theorem dX12_begins_13 : decode cX12_begins 13 = .ok (.iconst 1, 1) := by decide +kernel
theorem dX12_begins_14 : decode cX12_begins 14 = .ok (.putfield 112, 3) := by decide +kernel
theorem dX12_begins_17 : decode cX12_begins 17 = .ok (.iconst 0, 1) := by decide +kernel
theorem dX12_begins_18 : decode cX12_begins 18 = .ok (.ireturn, 1) := by decide +kernel
theorem dX12_begins_19 : decode cX12_begins 19 = .ok (.iconst 0, 1) := by decide +kernel
theorem dX12_begins_20 : decode cX12_begins 20 = .ok (.istore_n 2, 1) := by decide +kernel
theorem dX12_begins_21 : decode cX12_begins 21 = .ok (.iload_n 2, 1) := by decide +kernel
theorem dX12_begins_22 : decode cX12_begins 22 = .ok (.iload_n 1, 1) := by decide +kernel
theorem dX12_begins_23 : decode cX12_begins 23 = .ok (.if_icmp .ge 21, 3) := by decide +kernel
theorem dX12_begins_26 : decode cX12_begins 26 = .ok (.aload_n 0, 1) := by decide +kernel
theorem dX12_begins_27 : decode cX12_begins 27 = .ok (.getfield 28, 3) := by decide +kernel
theorem dX12_begins_30 : decode cX12_begins 30 = .ok (.iload_n 2, 1) := by decide +kernel
theorem dX12_begins_31 : decode cX12_begins 31 = .ok (.aload_n 0, 1) := by decide +kernel
theorem dX12_begins_32 : decode cX12_begins 32 = .ok (.getfield 25, 3) := by decide +kernel
theorem dX12_begins_35 : decode cX12_begins 35 = .ok (.iload_n 2, 1) := by decide +kernel
theorem dX12_begins_36 : decode cX12_begins 36 = .ok (.iaload, 1) := by decide +kernel
theorem dX12_begins_37 : decode cX12_begins 37 = .ok (.iastore, 1) := by decide +kernel
theorem dX12_begins_38 : decode cX12_begins 38 = .ok (.iinc 2 1, 3) := by decide +kernel
theorem dX12_begins_41 : decode cX12_begins 41 = .ok (.goto (-20), 3) := by decide +kernel
theorem dX12_begins_44 : decode cX12_begins 44 = .ok (.aload_n 0, 1) := by decide +kernel
theorem dX12_begins_45 : decode cX12_begins 45 = .ok (.iload_n 1, 1) := by decide +kernel
theorem dX12_begins_46 : decode cX12_begins 46 = .ok (.putfield 122, 3) := by decide +kernel
theorem dX12_begins_49 : decode cX12_begins 49 = .ok (.aload_n 0, 1) := by decide +kernel
theorem dX12_begins_50 : decode cX12_begins 50 = .ok (.iconst 0, 1) := by decide +kernel
theorem dX12_begins_51 : decode cX12_begins 51 = .ok (.putfield 119, 3) := by decide +kernel
theorem dX12_begins_54 : decode cX12_begins 54 = .ok (.aload_n 0, 1) := by decide +kernel
theorem dX12_begins_55 : decode cX12_begins 55 = .ok (.iconst 0, 1) := by decide +kernel
theorem dX12_begins_56 : decode cX12_begins 56 = .ok (.putfield 125, 3) := by decide +kernel
theorem dX12_begins_59 : decode cX12_begins 59 = .ok (.aload_n 0, 1) := by decide +kernel
theorem dX12_begins_60 : decode cX12_begins 60 = .ok (.iconst 0, 1) := by decide +kernel
theorem dX12_begins_61 : decode cX12_begins 61 = .ok (.putfield 128, 3) := by decide +kernel
theorem dX12_begins_64 : decode cX12_begins 64 = .ok (.aload_n 0, 1) := by decide +kernel
theorem dX12_begins_65 : decode cX12_begins 65 = .ok (.iconst (-1), 1) := by decide +kernel
theorem dX12_begins_66 : decode cX12_begins 66 = .ok (.putfield 31, 3) := by decide +kernel
theorem dX12_begins_69 : decode cX12_begins 69 = .ok (.iconst 1, 1) := by decide +kernel
theorem dX12_begins_70 : decode cX12_begins 70 = .ok (.ireturn, 1) := by decide +kernel
def LF_X12_begins_21 (N : Nat) : Nat → Nat → Int32 → Int32 → MI → ML → MR → Option (MI)
  | 0, _, _, _, _, _, _ => none
  | k + 1, y0, y1, y2, I, L, R =>
    if y1 ≤ y2 then
      some (I)
    else
      (rf R y0 8 20).bind fun a5 =>
      (rf R y0 6 20).bind fun a6 =>
      (ri I a6 y2).bind fun v7 =>
      (wi I a5 y2 v7).bind fun I8 =>
      wr (y2 + (1 : Int32)) fun (u9 : Int32) =>
      LF_X12_begins_21 N k y0 y1 u9 I8 L R
def F_X12_begins (N : Nat) (x0 : Nat) (x1 : Int32) (I : MI) (L : ML) (R : MR) : Option (Bool × MI) :=
  if kd x0 = 11 ∧ x0 < NN then
  if x1 < 0 then
    wr (uI I x0 5 (1 : Int32)) fun (I2 : MI) =>
    some (false, I2)
  else
    if x1 ≤ (I x0 7) then
      bn1 (LF_X12_begins_21 N N x0 x1 (0 : Int32) I L R) fun z10 =>
      wr (uI z10 x0 9 x1) fun (I12 : MI) =>
      wr (uI I12 x0 7 (0 : Int32)) fun (I13 : MI) =>
      wr (uI I13 x0 10 (0 : Int32)) fun (I14 : MI) =>
      wr (uI I14 x0 15 (0 : Int32)) fun (I15 : MI) =>
      wr (uI I15 x0 16 (-1 : Int32)) fun (I16 : MI) =>
      some (true, I16)
    else
      wr (uI I x0 5 (1 : Int32)) fun (I17 : MI) =>
      some (false, I17)
  else none
set_option maxRecDepth 100000 in
set_option maxHeartbeats 4000000 in
theorem lp_X12_begins_21 {G : Gm} (C0 : Cx G (yX12_begins.cls) cX12_begins (some .boolean)) (eNL : G.nL = 3) (erm : G.rm = ({ frames := 0, cells := 0, slots := 0, locals := 0 } : Room)) (N : Nat) : ∀ (k : Nat) (y0 : Nat) (y1 : Int32) (y2 : Int32) (I : MI) (L : ML) (R : MR) (z : MI) (hk0 : kd y0 = 11) (ho0 : y0 < NN), LF_X12_begins_21 N k y0 y1 y2 I L R = some z → ∀ f : State → Prop, V G f 44 [(0, .ref (G.ad y0)), (1, .int y1)] [] z L R → V G f 21 [(0, .ref (G.ad y0)), (1, .int y1), (2, .int y2)] [] I L R := by
  intro k
  induction k with
  | zero =>
    intro y0 y1 y2 I L R q hk0 ho0 h
    exact absurd h (by simp [LF_X12_begins_21])
  | succ k ih =>
    intro y0 y1 y2 I L R q hk0 ho0 h f kx
    rw [LF_X12_begins_21] at h
    refine V_iload_n C0 2 rfl rfl dX12_begins_21 ?_
    refine V_iload_n C0 1 rfl rfl dX12_begins_22 ?_
    refine V_icmp_ge C0 (tgt := 44) (by decide) dX12_begins_23 (fun c4 => ?_) (fun c4 => ?_)
    · have h := (if_pos c4).symm.trans h
      cases h
      exact V_sub [0, 1] rfl kx
    · have h := (if_neg c4).symm.trans h
      refine V_aload_n C0 0 rfl rfl dX12_begins_26 ?_
      obtain ⟨a5, qa5, h⟩ := bnd_some h
      refine V_getR C0 11 8 fl_X12_28 ho0 hk0 rfl (rf_at qa5) dX12_begins_27 ?_
      refine V_iload_n C0 2 rfl rfl dX12_begins_30 ?_
      refine V_aload_n C0 0 rfl rfl dX12_begins_31 ?_
      obtain ⟨a6, qa6, h⟩ := bnd_some h
      refine V_getR C0 11 6 fl_X12_25 ho0 hk0 rfl (rf_at qa6) dX12_begins_32 ?_
      refine V_iload_n C0 2 rfl rfl dX12_begins_35 ?_
      obtain ⟨v7, qv7, h⟩ := bnd_some h
      refine V_ri C0 (rf_lt qa6) (rf_kd qa6) qv7 dX12_begins_36 ?_
      obtain ⟨I8, qI8, h⟩ := bnd_some h
      refine V_wi C0 (rf_lt qa5) (rf_kd qa5) qI8 dX12_begins_37 ?_
      obtain ⟨u9, eu9, h⟩ := wr_some h
      refine V_iinc C0 2 [(2, .int u9), (0, .ref (G.ad y0)), (1, .int y1)] rfl (n := 1) (by rw [eu9]; rfl) (by rw [eNL]; decide) rfl dX12_begins_38 ?_
      refine V_goto C0 (tgt := 21) (by decide) dX12_begins_41 ?_
      exact V_sub [1, 2, 0] rfl (ih y0 y1 u9 I8 L R _ hk0 ho0 h f kx)
set_option maxRecDepth 100000 in
set_option maxHeartbeats 4000000 in
theorem c_X12_begins (l : Launch) (D : va_G) (cA : Nat → ClassId) (ad : Nat → Nat) (bs : Nat) (X : State → Prop) (hAd : Ax ad bs) (hX : Stb bs X) (N : Nat) (x0 : Nat) (x1 : Int32) (I : MI) (L : ML) (R : MR) (r : Bool) (I' : MI) (h : F_X12_begins N x0 x1 I L R = some (r, I')) : Cn l D cA ad bs X yX12_begins cX12_begins 3 (some .boolean) 0 0 [.ref (ad x0), .int x1] I L R (some (.int (b2i r)), I', L, R) := by
  refine Cn.ofV hAd hX [(0, .ref (ad x0)), (1, .int x1)] rfl (Nat.le_of_ble_eq_true rfl) (by decide) ?_
  intro G el eD ecA ead ebs eX erm eNL C0
  subst el eD ecA ead ebs eX
  unfold F_X12_begins at h
  obtain ⟨c_x0, h⟩ := ite_some h
  refine V_iload_n C0 1 rfl rfl dX12_begins_0 ?_
  refine V_if_lt C0 (tgt := 12) (by decide) dX12_begins_1 (fun c1 => ?_) (fun c1 => ?_)
  · have h := (if_pos c1).symm.trans h
    refine V_aload_n C0 0 rfl rfl dX12_begins_12 ?_
    refine V_iconst C0 (v := (1 : Int32)) (by decide) dX12_begins_13 ?_
    obtain ⟨I2, eI2, h⟩ := wr_some h
    refine V_putI C0 11 5 fp_X12_112 c_x0.2 c_x0.1 rfl dX12_begins_14 ?_
    rw [← eI2]
    refine V_iconst C0 (v := (0 : Int32)) (by decide) dX12_begins_17 ?_
    cases h
    exact V_zret C0 (by decide) dX12_begins_18
  · have h := (if_neg c1).symm.trans h
    refine V_iload_n C0 1 rfl rfl dX12_begins_4 ?_
    refine V_aload_n C0 0 rfl rfl dX12_begins_5 ?_
    refine V_getI C0 11 7 fl_X12_119 c_x0.2 c_x0.1 rfl dX12_begins_6 ?_
    refine V_icmp_le C0 (tgt := 19) (by decide) dX12_begins_9 (fun c3 => ?_) (fun c3 => ?_)
    · have h := (if_pos c3).symm.trans h
      refine V_iconst C0 (v := (0 : Int32)) (by decide) dX12_begins_19 ?_
      refine V_istore_n C0 [(2, .int (0 : Int32)), (0, .ref (G.ad x0)), (1, .int x1)] rfl (by rw [eNL]; decide) rfl dX12_begins_20 ?_
      obtain ⟨z10, q11, h⟩ := bn1_some h
      refine V_sub [1, 2, 0] rfl (lp_X12_begins_21 C0 eNL erm N N x0 x1 (0 : Int32) I L R _ c_x0.1 c_x0.2 q11 _ ?_)
      show V G _ 44 [(0, .ref (G.ad x0)), (1, .int x1)] [] z10 L R
      refine V_aload_n C0 0 rfl rfl dX12_begins_44 ?_
      refine V_iload_n C0 1 rfl rfl dX12_begins_45 ?_
      obtain ⟨I12, eI12, h⟩ := wr_some h
      refine V_putI C0 11 9 fp_X12_122 c_x0.2 c_x0.1 rfl dX12_begins_46 ?_
      rw [← eI12]
      refine V_aload_n C0 0 rfl rfl dX12_begins_49 ?_
      refine V_iconst C0 (v := (0 : Int32)) (by decide) dX12_begins_50 ?_
      obtain ⟨I13, eI13, h⟩ := wr_some h
      refine V_putI C0 11 7 fp_X12_119 c_x0.2 c_x0.1 rfl dX12_begins_51 ?_
      rw [← eI13]
      refine V_aload_n C0 0 rfl rfl dX12_begins_54 ?_
      refine V_iconst C0 (v := (0 : Int32)) (by decide) dX12_begins_55 ?_
      obtain ⟨I14, eI14, h⟩ := wr_some h
      refine V_putI C0 11 10 fp_X12_125 c_x0.2 c_x0.1 rfl dX12_begins_56 ?_
      rw [← eI14]
      refine V_aload_n C0 0 rfl rfl dX12_begins_59 ?_
      refine V_iconst C0 (v := (0 : Int32)) (by decide) dX12_begins_60 ?_
      obtain ⟨I15, eI15, h⟩ := wr_some h
      refine V_putI C0 11 15 fp_X12_128 c_x0.2 c_x0.1 rfl dX12_begins_61 ?_
      rw [← eI15]
      refine V_aload_n C0 0 rfl rfl dX12_begins_64 ?_
      refine V_iconst C0 (v := (-1 : Int32)) (by decide) dX12_begins_65 ?_
      obtain ⟨I16, eI16, h⟩ := wr_some h
      refine V_putI C0 11 16 fp_X12_31 c_x0.2 c_x0.1 rfl dX12_begins_66 ?_
      rw [← eI16]
      refine V_iconst C0 (v := (1 : Int32)) (by decide) dX12_begins_69 ?_
      cases h
      exact V_zret C0 (by decide) dX12_begins_70
    · have h := (if_neg c3).symm.trans h
      refine V_aload_n C0 0 rfl rfl dX12_begins_12 ?_
      refine V_iconst C0 (v := (1 : Int32)) (by decide) dX12_begins_13 ?_
      obtain ⟨I17, eI17, h⟩ := wr_some h
      refine V_putI C0 11 5 fp_X12_112 c_x0.2 c_x0.1 rfl dX12_begins_14 ?_
      rw [← eI17]
      refine V_iconst C0 (v := (0 : Int32)) (by decide) dX12_begins_17 ?_
      cases h
      exact V_zret C0 (by decide) dX12_begins_18
theorem dX12_wrong_0 : decode cX12_wrong 0 = .ok (.aload_n 0, 1) := by decide +kernel
theorem dX12_wrong_1 : decode cX12_wrong 1 = .ok (.getfield 128, 3) := by decide +kernel
theorem dX12_wrong_4 : decode cX12_wrong 4 = .ok (.ifCond .ne 13, 3) := by decide +kernel
theorem dX12_wrong_7 : decode cX12_wrong 7 = .ok (.aload_n 0, 1) := by decide +kernel
theorem dX12_wrong_8 : decode cX12_wrong 8 = .ok (.iload_n 1, 1) := by decide +kernel
theorem dX12_wrong_9 : decode cX12_wrong 9 = .ok (.putfield 128, 3) := by decide +kernel
theorem dX12_wrong_12 : decode cX12_wrong 12 = .ok (.aload_n 0, 1) := by decide +kernel
theorem dX12_wrong_13 : decode cX12_wrong 13 = .ok (.iload_n 2, 1) := by decide +kernel
theorem dX12_wrong_14 : decode cX12_wrong 14 = .ok (.putfield 31, 3) := by decide +kernel
theorem dX12_wrong_17 : decode cX12_wrong 17 = .ok (.return_, 1) := by decide +kernel
def F_X12_wrong (x0 : Nat) (x1 : Int32) (x2 : Int32) (I : MI) (L : ML) (R : MR) : Option (MI) :=
  if kd x0 = 11 ∧ x0 < NN then
  if (I x0 15) = 0 then
    wr (uI I x0 15 x1) fun (I2 : MI) =>
    wr (uI I2 x0 16 x2) fun (I3 : MI) =>
    some (I3)
  else
    some (I)
  else none
set_option maxRecDepth 100000 in
set_option maxHeartbeats 4000000 in
theorem c_X12_wrong (l : Launch) (D : va_G) (cA : Nat → ClassId) (ad : Nat → Nat) (bs : Nat) (X : State → Prop) (hAd : Ax ad bs) (hX : Stb bs X) (x0 : Nat) (x1 : Int32) (x2 : Int32) (I : MI) (L : ML) (R : MR) (I' : MI) (h : F_X12_wrong x0 x1 x2 I L R = some (I')) : Cn l D cA ad bs X yX12_wrong cX12_wrong 3 none 0 0 [.ref (ad x0), .int x1, .int x2] I L R (none, I', L, R) := by
  refine Cn.ofV hAd hX [(0, .ref (ad x0)), (1, .int x1), (2, .int x2)] rfl (Nat.le_of_ble_eq_true rfl) (by decide) ?_
  intro G el eD ecA ead ebs eX erm eNL C0
  subst el eD ecA ead ebs eX
  unfold F_X12_wrong at h
  obtain ⟨c_x0, h⟩ := ite_some h
  refine V_aload_n C0 0 rfl rfl dX12_wrong_0 ?_
  refine V_getI C0 11 15 fl_X12_128 c_x0.2 c_x0.1 rfl dX12_wrong_1 ?_
  refine V_if_ne C0 (tgt := 17) (by decide) dX12_wrong_4 (fun c1 => ?_) (fun c1 => ?_)
  · have h := (if_neg c1).symm.trans h
    cases h
    exact V_vret C0 dX12_wrong_17
  · have h := (if_pos c1).symm.trans h
    refine V_aload_n C0 0 rfl rfl dX12_wrong_7 ?_
    refine V_iload_n C0 1 rfl rfl dX12_wrong_8 ?_
    obtain ⟨I2, eI2, h⟩ := wr_some h
    refine V_putI C0 11 15 fp_X12_128 c_x0.2 c_x0.1 rfl dX12_wrong_9 ?_
    rw [← eI2]
    refine V_aload_n C0 0 rfl rfl dX12_wrong_12 ?_
    refine V_iload_n C0 2 rfl rfl dX12_wrong_13 ?_
    obtain ⟨I3, eI3, h⟩ := wr_some h
    refine V_putI C0 11 16 fp_X12_31 c_x0.2 c_x0.1 rfl dX12_wrong_14 ?_
    rw [← eI3]
    cases h
    exact V_vret C0 dX12_wrong_17
theorem dX12_byteAt_0 : decode cX12_byteAt 0 = .ok (.iload_n 1, 1) := by decide +kernel
theorem dX12_byteAt_1 : decode cX12_byteAt 1 = .ok (.aload_n 0, 1) := by decide +kernel
theorem dX12_byteAt_2 : decode cX12_byteAt 2 = .ok (.getfield 122, 3) := by decide +kernel
theorem dX12_byteAt_5 : decode cX12_byteAt 5 = .ok (.if_icmp .ge 12, 3) := by decide +kernel
theorem dX12_byteAt_8 : decode cX12_byteAt 8 = .ok (.aload_n 0, 1) := by decide +kernel
theorem dX12_byteAt_9 : decode cX12_byteAt 9 = .ok (.getfield 28, 3) := by decide +kernel
theorem dX12_byteAt_12 : decode cX12_byteAt 12 = .ok (.iload_n 1, 1) := by decide +kernel
theorem dX12_byteAt_13 : decode cX12_byteAt 13 = .ok (.iaload, 1) := by decide +kernel
theorem dX12_byteAt_14 : decode cX12_byteAt 14 = .ok (.goto 4, 3) := by decide +kernel
theorem dX12_byteAt_17 : decode cX12_byteAt 17 = .ok (.iconst (-1), 1) := by decide +kernel
theorem dX12_byteAt_18 : decode cX12_byteAt 18 = .ok (.ireturn, 1) := by decide +kernel
def F_X12_byteAt (x0 : Nat) (x1 : Int32) (I : MI) (L : ML) (R : MR) : Option (Int32) :=
  if kd x0 = 11 ∧ x0 < NN then
  if (I x0 9) ≤ x1 then
    some ((-1 : Int32))
  else
    (rf R x0 8 20).bind fun a2 =>
    (ri I a2 x1).bind fun v3 =>
    some (v3)
  else none
set_option maxRecDepth 100000 in
set_option maxHeartbeats 4000000 in
theorem c_X12_byteAt (l : Launch) (D : va_G) (cA : Nat → ClassId) (ad : Nat → Nat) (bs : Nat) (X : State → Prop) (hAd : Ax ad bs) (hX : Stb bs X) (x0 : Nat) (x1 : Int32) (I : MI) (L : ML) (R : MR) (r : Int32) (h : F_X12_byteAt x0 x1 I L R = some (r)) : Cn l D cA ad bs X yX12_byteAt cX12_byteAt 2 (some .int) 0 0 [.ref (ad x0), .int x1] I L R (some (.int r), I, L, R) := by
  refine Cn.ofV hAd hX [(0, .ref (ad x0)), (1, .int x1)] rfl (Nat.le_of_ble_eq_true rfl) (by decide) ?_
  intro G el eD ecA ead ebs eX erm eNL C0
  subst el eD ecA ead ebs eX
  unfold F_X12_byteAt at h
  obtain ⟨c_x0, h⟩ := ite_some h
  refine V_iload_n C0 1 rfl rfl dX12_byteAt_0 ?_
  refine V_aload_n C0 0 rfl rfl dX12_byteAt_1 ?_
  refine V_getI C0 11 9 fl_X12_122 c_x0.2 c_x0.1 rfl dX12_byteAt_2 ?_
  refine V_icmp_ge C0 (tgt := 17) (by decide) dX12_byteAt_5 (fun c1 => ?_) (fun c1 => ?_)
  · have h := (if_pos c1).symm.trans h
    refine V_iconst C0 (v := (-1 : Int32)) (by decide) dX12_byteAt_17 ?_
    cases h
    exact V_iret C0 dX12_byteAt_18
  · have h := (if_neg c1).symm.trans h
    refine V_aload_n C0 0 rfl rfl dX12_byteAt_8 ?_
    obtain ⟨a2, qa2, h⟩ := bnd_some h
    refine V_getR C0 11 8 fl_X12_28 c_x0.2 c_x0.1 rfl (rf_at qa2) dX12_byteAt_9 ?_
    refine V_iload_n C0 1 rfl rfl dX12_byteAt_12 ?_
    obtain ⟨v3, qv3, h⟩ := bnd_some h
    refine V_ri C0 (rf_lt qa2) (rf_kd qa2) qv3 dX12_byteAt_13 ?_
    refine V_goto C0 (tgt := 18) (by decide) dX12_byteAt_14 ?_
    cases h
    exact V_iret C0 dX12_byteAt_18
theorem dX12_isLetter_0 : decode cX12_isLetter 0 = .ok (.iload_n 0, 1) := by decide +kernel
theorem dX12_isLetter_1 : decode cX12_isLetter 1 = .ok (.bipush 97, 2) := by decide +kernel
theorem dX12_isLetter_3 : decode cX12_isLetter 3 = .ok (.if_icmp .lt 13, 3) := by decide +kernel
theorem dX12_isLetter_6 : decode cX12_isLetter 6 = .ok (.iload_n 0, 1) := by decide +kernel
theorem dX12_isLetter_7 : decode cX12_isLetter 7 = .ok (.bipush 122, 2) := by decide +kernel
theorem dX12_isLetter_9 : decode cX12_isLetter 9 = .ok (.if_icmp .gt 7, 3) := by decide +kernel
theorem dX12_isLetter_12 : decode cX12_isLetter 12 = .ok (.iconst 1, 1) := by decide +kernel
theorem dX12_isLetter_13 : decode cX12_isLetter 13 = .ok (.goto 4, 3) := by decide +kernel
theorem dX12_isLetter_16 : decode cX12_isLetter 16 = .ok (.iconst 0, 1) := by decide +kernel
theorem dX12_isLetter_17 : decode cX12_isLetter 17 = .ok (.ireturn, 1) := by decide +kernel
def F_X12_isLetter (x0 : Int32) (I : MI) (L : ML) (R : MR) : Option (Bool) :=
  if x0 < (97 : Int32) then
    some (false)
  else
    if (122 : Int32) < x0 then
      some (false)
    else
      some (true)
set_option maxRecDepth 100000 in
set_option maxHeartbeats 4000000 in
theorem c_X12_isLetter (l : Launch) (D : va_G) (cA : Nat → ClassId) (ad : Nat → Nat) (bs : Nat) (X : State → Prop) (hAd : Ax ad bs) (hX : Stb bs X) (x0 : Int32) (I : MI) (L : ML) (R : MR) (r : Bool) (h : F_X12_isLetter x0 I L R = some (r)) : Cn l D cA ad bs X yX12_isLetter cX12_isLetter 1 (some .boolean) 0 0 [.int x0] I L R (some (.int (b2i r)), I, L, R) := by
  refine Cn.ofV hAd hX [(0, .int x0)] rfl (Nat.le_of_ble_eq_true rfl) (by decide) ?_
  intro G el eD ecA ead ebs eX erm eNL C0
  subst el eD ecA ead ebs eX
  unfold F_X12_isLetter at h
  refine V_iload_n C0 0 rfl rfl dX12_isLetter_0 ?_
  refine V_bipush C0 (v := (97 : Int32)) (by decide) dX12_isLetter_1 ?_
  refine V_icmp_lt C0 (tgt := 16) (by decide) dX12_isLetter_3 (fun c1 => ?_) (fun c1 => ?_)
  · have h := (if_pos c1).symm.trans h
    refine V_iconst C0 (v := (0 : Int32)) (by decide) dX12_isLetter_16 ?_
    cases h
    exact V_zret C0 (by decide) dX12_isLetter_17
  · have h := (if_neg c1).symm.trans h
    refine V_iload_n C0 0 rfl rfl dX12_isLetter_6 ?_
    refine V_bipush C0 (v := (122 : Int32)) (by decide) dX12_isLetter_7 ?_
    refine V_icmp_gt C0 (tgt := 16) (by decide) dX12_isLetter_9 (fun c2 => ?_) (fun c2 => ?_)
    · have h := (if_pos c2).symm.trans h
      refine V_iconst C0 (v := (0 : Int32)) (by decide) dX12_isLetter_16 ?_
      cases h
      exact V_zret C0 (by decide) dX12_isLetter_17
    · have h := (if_neg c2).symm.trans h
      refine V_iconst C0 (v := (1 : Int32)) (by decide) dX12_isLetter_12 ?_
      refine V_goto C0 (tgt := 17) (by decide) dX12_isLetter_13 ?_
      cases h
      exact V_zret C0 (by decide) dX12_isLetter_17
theorem dX12_isDigit_0 : decode cX12_isDigit 0 = .ok (.iload_n 0, 1) := by decide +kernel
theorem dX12_isDigit_1 : decode cX12_isDigit 1 = .ok (.bipush 48, 2) := by decide +kernel
theorem dX12_isDigit_3 : decode cX12_isDigit 3 = .ok (.if_icmp .lt 13, 3) := by decide +kernel
theorem dX12_isDigit_6 : decode cX12_isDigit 6 = .ok (.iload_n 0, 1) := by decide +kernel
theorem dX12_isDigit_7 : decode cX12_isDigit 7 = .ok (.bipush 57, 2) := by decide +kernel
theorem dX12_isDigit_9 : decode cX12_isDigit 9 = .ok (.if_icmp .gt 7, 3) := by decide +kernel
theorem dX12_isDigit_12 : decode cX12_isDigit 12 = .ok (.iconst 1, 1) := by decide +kernel
theorem dX12_isDigit_13 : decode cX12_isDigit 13 = .ok (.goto 4, 3) := by decide +kernel
theorem dX12_isDigit_16 : decode cX12_isDigit 16 = .ok (.iconst 0, 1) := by decide +kernel
theorem dX12_isDigit_17 : decode cX12_isDigit 17 = .ok (.ireturn, 1) := by decide +kernel
def F_X12_isDigit (x0 : Int32) (I : MI) (L : ML) (R : MR) : Option (Bool) :=
  if x0 < (48 : Int32) then
    some (false)
  else
    if (57 : Int32) < x0 then
      some (false)
    else
      some (true)
set_option maxRecDepth 100000 in
set_option maxHeartbeats 4000000 in
theorem c_X12_isDigit (l : Launch) (D : va_G) (cA : Nat → ClassId) (ad : Nat → Nat) (bs : Nat) (X : State → Prop) (hAd : Ax ad bs) (hX : Stb bs X) (x0 : Int32) (I : MI) (L : ML) (R : MR) (r : Bool) (h : F_X12_isDigit x0 I L R = some (r)) : Cn l D cA ad bs X yX12_isDigit cX12_isDigit 1 (some .boolean) 0 0 [.int x0] I L R (some (.int (b2i r)), I, L, R) := by
  refine Cn.ofV hAd hX [(0, .int x0)] rfl (Nat.le_of_ble_eq_true rfl) (by decide) ?_
  intro G el eD ecA ead ebs eX erm eNL C0
  subst el eD ecA ead ebs eX
  unfold F_X12_isDigit at h
  refine V_iload_n C0 0 rfl rfl dX12_isDigit_0 ?_
  refine V_bipush C0 (v := (48 : Int32)) (by decide) dX12_isDigit_1 ?_
  refine V_icmp_lt C0 (tgt := 16) (by decide) dX12_isDigit_3 (fun c1 => ?_) (fun c1 => ?_)
  · have h := (if_pos c1).symm.trans h
    refine V_iconst C0 (v := (0 : Int32)) (by decide) dX12_isDigit_16 ?_
    cases h
    exact V_zret C0 (by decide) dX12_isDigit_17
  · have h := (if_neg c1).symm.trans h
    refine V_iload_n C0 0 rfl rfl dX12_isDigit_6 ?_
    refine V_bipush C0 (v := (57 : Int32)) (by decide) dX12_isDigit_7 ?_
    refine V_icmp_gt C0 (tgt := 16) (by decide) dX12_isDigit_9 (fun c2 => ?_) (fun c2 => ?_)
    · have h := (if_pos c2).symm.trans h
      refine V_iconst C0 (v := (0 : Int32)) (by decide) dX12_isDigit_16 ?_
      cases h
      exact V_zret C0 (by decide) dX12_isDigit_17
    · have h := (if_neg c2).symm.trans h
      refine V_iconst C0 (v := (1 : Int32)) (by decide) dX12_isDigit_12 ?_
      refine V_goto C0 (tgt := 17) (by decide) dX12_isDigit_13 ?_
      cases h
      exact V_zret C0 (by decide) dX12_isDigit_17
theorem dX12_takeWord_0 : decode cX12_takeWord 0 = .ok (.aload_n 0, 1) := by decide +kernel
theorem dX12_takeWord_1 : decode cX12_takeWord 1 = .ok (.iconst 1, 1) := by decide +kernel
theorem dX12_takeWord_2 : decode cX12_takeWord 2 = .ok (.putfield 138, 3) := by decide +kernel
theorem dX12_takeWord_5 : decode cX12_takeWord 5 = .ok (.aload_n 0, 1) := by decide +kernel
theorem dX12_takeWord_6 : decode cX12_takeWord 6 = .ok (.iconst 0, 1) := by decide +kernel
theorem dX12_takeWord_7 : decode cX12_takeWord 7 = .ok (.putfield 161, 3) := by decide +kernel
theorem dX12_takeWord_10 : decode cX12_takeWord 10 = .ok (.aload_n 0, 1) := by decide +kernel
theorem dX12_takeWord_11 : decode cX12_takeWord 11 = .ok (.aload_n 0, 1) := by decide +kernel
theorem dX12_takeWord_12 : decode cX12_takeWord 12 = .ok (.getfield 125, 3) := by decide +kernel
theorem dX12_takeWord_15 : decode cX12_takeWord 15 = .ok (.invokevirtual 131, 3) := by decide +kernel
theorem dX12_takeWord_18 : decode cX12_takeWord 18 = .ok (.invokestatic 141, 3) := by decide +kernel
theorem dX12_takeWord_21 : decode cX12_takeWord 21 = .ok (.ifCond .ne 17, 3) := by decide +kernel
theorem dX12_takeWord_24 : decode cX12_takeWord 24 = .ok (.aload_n 0, 1) := by decide +kernel
theorem dX12_takeWord_25 : decode cX12_takeWord 25 = .ok (.aload_n 0, 1) := by decide +kernel
theorem dX12_takeWord_26 : decode cX12_takeWord 26 = .ok (.getfield 125, 3) := by decide +kernel
theorem dX12_takeWord_29 : decode cX12_takeWord 29 = .ok (.invokevirtual 131, 3) := by decide +kernel
theorem dX12_takeWord_32 : decode cX12_takeWord 32 = .ok (.invokestatic 148, 3) := by decide +kernel
theorem dX12_takeWord_35 : decode cX12_takeWord 35 = .ok (.ifCond .eq 45, 3) := by decide +kernel
theorem dX12_takeWord_38 : decode cX12_takeWord 38 = .ok (.aload_n 0, 1) := by decide +kernel
theorem dX12_takeWord_39 : decode cX12_takeWord 39 = .ok (.getfield 161, 3) := by decide +kernel
theorem dX12_takeWord_42 : decode cX12_takeWord 42 = .ok (.bipush 8, 2) := by decide +kernel
theorem dX12_takeWord_44 : decode cX12_takeWord 44 = .ok (.if_icmp .ne 13, 3) := by decide +kernel
theorem dX12_takeWord_47 : decode cX12_takeWord 47 = .ok (.aload_n 0, 1) := by decide +kernel
theorem dX12_takeWord_48 : decode cX12_takeWord 48 = .ok (.iconst 1, 1) := by decide +kernel
theorem dX12_takeWord_49 : decode cX12_takeWord 49 = .ok (.aload_n 0, 1) := by decide +kernel
theorem dX12_takeWord_50 : decode cX12_takeWord 50 = .ok (.getfield 125, 3) := by decide +kernel
theorem dX12_takeWord_53 : decode cX12_takeWord 53 = .ok (.invokevirtual 157, 3) := by decide +kernel
theorem dX12_takeWord_56 : decode cX12_takeWord 56 = .ok (.return_, 1) := by decide +kernel
theorem dX12_takeWord_57 : decode cX12_takeWord 57 = .ok (.aload_n 0, 1) := by decide +kernel
theorem dX12_takeWord_58 : decode cX12_takeWord 58 = .ok (.dup, 1) := by decide +kernel
theorem dX12_takeWord_59 : decode cX12_takeWord 59 = .ok (.getfield 161, 3) := by decide +kernel
theorem dX12_takeWord_62 : decode cX12_takeWord 62 = .ok (.iconst 1, 1) := by decide +kernel
theorem dX12_takeWord_63 : decode cX12_takeWord 63 = .ok (.iadd, 1) := by decide +kernel
theorem dX12_takeWord_64 : decode cX12_takeWord 64 = .ok (.putfield 161, 3) := by decide +kernel
theorem dX12_takeWord_67 : decode cX12_takeWord 67 = .ok (.aload_n 0, 1) := by decide +kernel
theorem dX12_takeWord_68 : decode cX12_takeWord 68 = .ok (.dup, 1) := by decide +kernel
theorem dX12_takeWord_69 : decode cX12_takeWord 69 = .ok (.getfield 125, 3) := by decide +kernel
theorem dX12_takeWord_72 : decode cX12_takeWord 72 = .ok (.iconst 1, 1) := by decide +kernel
theorem dX12_takeWord_73 : decode cX12_takeWord 73 = .ok (.iadd, 1) := by decide +kernel
theorem dX12_takeWord_74 : decode cX12_takeWord 74 = .ok (.putfield 125, 3) := by decide +kernel
theorem dX12_takeWord_77 : decode cX12_takeWord 77 = .ok (.goto (-67), 3) := by decide +kernel
theorem dX12_takeWord_80 : decode cX12_takeWord 80 = .ok (.return_, 1) := by decide +kernel
def LF_X12_takeWord_10 (N : Nat) : Nat → Nat → MI → ML → MR → Option (Sum (MI) (MI))
  | 0, _, _, _, _ => none
  | k + 1, y0, I, L, R =>
    bn1 (F_X12_byteAt y0 (I y0 10) I L R) fun v3 =>
    bn1 (F_X12_isLetter v3 I L R) fun b5 =>
    if (b2i b5) = 0 then
      bn1 (F_X12_byteAt y0 (I y0 10) I L R) fun v13 =>
      bn1 (F_X12_isDigit v13 I L R) fun b15 =>
      if (b2i b15) = 0 then
        some (.inr (I))
      else
        if (I y0 13) = (8 : Int32) then
          bn1 (F_X12_wrong y0 (1 : Int32) (I y0 10) I L R) fun I21 =>
          some (.inl (I21))
        else
          wr (uI I y0 13 ((I y0 13) + (1 : Int32))) fun (I19 : MI) =>
          wr (uI I19 y0 10 ((I19 y0 10) + (1 : Int32))) fun (I20 : MI) =>
          LF_X12_takeWord_10 N k y0 I20 L R
    else
      if (I y0 13) = (8 : Int32) then
        bn1 (F_X12_wrong y0 (1 : Int32) (I y0 10) I L R) fun I11 =>
        some (.inl (I11))
      else
        wr (uI I y0 13 ((I y0 13) + (1 : Int32))) fun (I9 : MI) =>
        wr (uI I9 y0 10 ((I9 y0 10) + (1 : Int32))) fun (I10 : MI) =>
        LF_X12_takeWord_10 N k y0 I10 L R
def F_X12_takeWord (N : Nat) (x0 : Nat) (I : MI) (L : ML) (R : MR) : Option (MI) :=
  if kd x0 = 11 ∧ x0 < NN then
  wr (uI I x0 11 (1 : Int32)) fun (I1 : MI) =>
  wr (uI I1 x0 13 (0 : Int32)) fun (I2 : MI) =>
  bsm (LF_X12_takeWord_10 N N x0 I2 L R) (fun z23 => some z23) fun z23 =>
  some (z23)
  else none
set_option maxRecDepth 100000 in
set_option maxHeartbeats 4000000 in
theorem lp_X12_takeWord_10 {G : Gm} (C0 : Cx G (yX12_takeWord.cls) cX12_takeWord none) (eNL : G.nL = 1) (erm : G.rm = ({ frames := 1, cells := 0, slots := 0, locals := 22 } : Room)) (N : Nat) : ∀ (k : Nat) (y0 : Nat) (I : MI) (L : ML) (R : MR) (q : Sum (MI) (MI)) (hk0 : kd y0 = 11) (ho0 : y0 < NN), LF_X12_takeWord_10 N k y0 I L R = some q → ∀ f : State → Prop, (∀ w, q = .inl w → f = qf G (none, w, L, R)) → (∀ z, q = .inr z → V G f 80 [] [] z L R) → V G f 10 [(0, .ref (G.ad y0))] [] I L R := by
  intro k
  induction k with
  | zero =>
    intro y0 I L R q hk0 ho0 h
    exact absurd h (by simp [LF_X12_takeWord_10])
  | succ k ih =>
    intro y0 I L R q hk0 ho0 h f kr kx
    rw [LF_X12_takeWord_10] at h
    refine V_aload_n C0 0 rfl rfl dX12_takeWord_10 ?_
    refine V_aload_n C0 0 rfl rfl dX12_takeWord_11 ?_
    refine V_getI C0 11 10 fl_X12_125 ho0 hk0 rfl dX12_takeWord_12 ?_
    obtain ⟨v3, q4, h⟩ := bn1_some h
    refine V_callV C0 (st := []) (As := [.int (I y0 10)]) 11 (c_X12_byteAt G.l G.D G.cA G.ad G.bs G.X C0.2.2.2.2.2.2.2.2.2.1 C0.2.2.2.2.2.2.2.2.2.2.2.2 y0 (I y0 10) I L R v3 q4) lc_X12_byteAt lk_X12_131 ho0 hk0 ⟨_, rfl, rfl⟩ rfl (by rw [erm]; decide) (Nat.le_of_ble_eq_true rfl) dX12_takeWord_15 ?_
    show V G _ 18 [(0, .ref (G.ad y0))] [.int v3] I L R
    obtain ⟨b5, q6, h⟩ := bn1_some h
    refine V_callS C0 (st := []) (As := [.int v3]) (c_X12_isLetter G.l G.D G.cA G.ad G.bs G.X C0.2.2.2.2.2.2.2.2.2.1 C0.2.2.2.2.2.2.2.2.2.2.2.2 v3 I L R b5 q6) lc_X12_isLetter lk_X12_141 rfl (by rw [erm]; decide) (Nat.le_of_ble_eq_true rfl) dX12_takeWord_18 ?_
    show V G _ 21 [(0, .ref (G.ad y0))] [.int (b2i b5)] I L R
    refine V_if_ne C0 (tgt := 38) (by decide) dX12_takeWord_21 (fun c7 => ?_) (fun c7 => ?_)
    · have h := (if_neg c7).symm.trans h
      refine V_aload_n C0 0 rfl rfl dX12_takeWord_38 ?_
      refine V_getI C0 11 13 fl_X12_161 ho0 hk0 rfl dX12_takeWord_39 ?_
      refine V_bipush C0 (v := (8 : Int32)) (by decide) dX12_takeWord_42 ?_
      refine V_icmp_ne C0 (tgt := 57) (by decide) dX12_takeWord_44 (fun c8 => ?_) (fun c8 => ?_)
      · have h := (if_neg c8).symm.trans h
        refine V_aload_n C0 0 rfl rfl dX12_takeWord_57 ?_
        refine V_dup C0 rfl dX12_takeWord_58 ?_
        refine V_getI C0 11 13 fl_X12_161 ho0 hk0 rfl dX12_takeWord_59 ?_
        refine V_iconst C0 (v := (1 : Int32)) (by decide) dX12_takeWord_62 ?_
        refine V_iadd C0 dX12_takeWord_63 ?_
        obtain ⟨I9, eI9, h⟩ := wr_some h
        refine V_putI C0 11 13 fp_X12_161 ho0 hk0 rfl dX12_takeWord_64 ?_
        rw [← eI9]
        refine V_aload_n C0 0 rfl rfl dX12_takeWord_67 ?_
        refine V_dup C0 rfl dX12_takeWord_68 ?_
        refine V_getI C0 11 10 fl_X12_125 ho0 hk0 rfl dX12_takeWord_69 ?_
        refine V_iconst C0 (v := (1 : Int32)) (by decide) dX12_takeWord_72 ?_
        refine V_iadd C0 dX12_takeWord_73 ?_
        obtain ⟨I10, eI10, h⟩ := wr_some h
        refine V_putI C0 11 10 fp_X12_125 ho0 hk0 rfl dX12_takeWord_74 ?_
        rw [← eI10]
        refine V_goto C0 (tgt := 10) (by decide) dX12_takeWord_77 ?_
        exact V_sub [0] rfl (ih y0 I10 L R _ hk0 ho0 h f kr kx)
      · have h := (if_pos c8).symm.trans h
        refine V_aload_n C0 0 rfl rfl dX12_takeWord_47 ?_
        refine V_iconst C0 (v := (1 : Int32)) (by decide) dX12_takeWord_48 ?_
        refine V_aload_n C0 0 rfl rfl dX12_takeWord_49 ?_
        refine V_getI C0 11 10 fl_X12_125 ho0 hk0 rfl dX12_takeWord_50 ?_
        obtain ⟨I11, q12, h⟩ := bn1_some h
        refine V_callV C0 (st := []) (As := [.int (1 : Int32), .int (I y0 10)]) 11 (c_X12_wrong G.l G.D G.cA G.ad G.bs G.X C0.2.2.2.2.2.2.2.2.2.1 C0.2.2.2.2.2.2.2.2.2.2.2.2 y0 (1 : Int32) (I y0 10) I L R I11 q12) lc_X12_wrong lk_X12_157 ho0 hk0 ⟨_, rfl, rfl⟩ rfl (by rw [erm]; decide) (Nat.le_of_ble_eq_true rfl) dX12_takeWord_53 ?_
        show V G _ 56 [(0, .ref (G.ad y0))] [] I11 L R
        cases h
        rw [kr _ rfl]
        exact V_vret C0 dX12_takeWord_56
    · have h := (if_pos c7).symm.trans h
      refine V_aload_n C0 0 rfl rfl dX12_takeWord_24 ?_
      refine V_aload_n C0 0 rfl rfl dX12_takeWord_25 ?_
      refine V_getI C0 11 10 fl_X12_125 ho0 hk0 rfl dX12_takeWord_26 ?_
      obtain ⟨v13, q14, h⟩ := bn1_some h
      refine V_callV C0 (st := []) (As := [.int (I y0 10)]) 11 (c_X12_byteAt G.l G.D G.cA G.ad G.bs G.X C0.2.2.2.2.2.2.2.2.2.1 C0.2.2.2.2.2.2.2.2.2.2.2.2 y0 (I y0 10) I L R v13 q14) lc_X12_byteAt lk_X12_131 ho0 hk0 ⟨_, rfl, rfl⟩ rfl (by rw [erm]; decide) (Nat.le_of_ble_eq_true rfl) dX12_takeWord_29 ?_
      show V G _ 32 [(0, .ref (G.ad y0))] [.int v13] I L R
      obtain ⟨b15, q16, h⟩ := bn1_some h
      refine V_callS C0 (st := []) (As := [.int v13]) (c_X12_isDigit G.l G.D G.cA G.ad G.bs G.X C0.2.2.2.2.2.2.2.2.2.1 C0.2.2.2.2.2.2.2.2.2.2.2.2 v13 I L R b15 q16) lc_X12_isDigit lk_X12_148 rfl (by rw [erm]; decide) (Nat.le_of_ble_eq_true rfl) dX12_takeWord_32 ?_
      show V G _ 35 [(0, .ref (G.ad y0))] [.int (b2i b15)] I L R
      refine V_if_eq C0 (tgt := 80) (by decide) dX12_takeWord_35 (fun c17 => ?_) (fun c17 => ?_)
      · have h := (if_pos c17).symm.trans h
        cases h
        exact V_sub [] rfl (kx _ rfl)
      · have h := (if_neg c17).symm.trans h
        refine V_aload_n C0 0 rfl rfl dX12_takeWord_38 ?_
        refine V_getI C0 11 13 fl_X12_161 ho0 hk0 rfl dX12_takeWord_39 ?_
        refine V_bipush C0 (v := (8 : Int32)) (by decide) dX12_takeWord_42 ?_
        refine V_icmp_ne C0 (tgt := 57) (by decide) dX12_takeWord_44 (fun c18 => ?_) (fun c18 => ?_)
        · have h := (if_neg c18).symm.trans h
          refine V_aload_n C0 0 rfl rfl dX12_takeWord_57 ?_
          refine V_dup C0 rfl dX12_takeWord_58 ?_
          refine V_getI C0 11 13 fl_X12_161 ho0 hk0 rfl dX12_takeWord_59 ?_
          refine V_iconst C0 (v := (1 : Int32)) (by decide) dX12_takeWord_62 ?_
          refine V_iadd C0 dX12_takeWord_63 ?_
          obtain ⟨I19, eI19, h⟩ := wr_some h
          refine V_putI C0 11 13 fp_X12_161 ho0 hk0 rfl dX12_takeWord_64 ?_
          rw [← eI19]
          refine V_aload_n C0 0 rfl rfl dX12_takeWord_67 ?_
          refine V_dup C0 rfl dX12_takeWord_68 ?_
          refine V_getI C0 11 10 fl_X12_125 ho0 hk0 rfl dX12_takeWord_69 ?_
          refine V_iconst C0 (v := (1 : Int32)) (by decide) dX12_takeWord_72 ?_
          refine V_iadd C0 dX12_takeWord_73 ?_
          obtain ⟨I20, eI20, h⟩ := wr_some h
          refine V_putI C0 11 10 fp_X12_125 ho0 hk0 rfl dX12_takeWord_74 ?_
          rw [← eI20]
          refine V_goto C0 (tgt := 10) (by decide) dX12_takeWord_77 ?_
          exact V_sub [0] rfl (ih y0 I20 L R _ hk0 ho0 h f kr kx)
        · have h := (if_pos c18).symm.trans h
          refine V_aload_n C0 0 rfl rfl dX12_takeWord_47 ?_
          refine V_iconst C0 (v := (1 : Int32)) (by decide) dX12_takeWord_48 ?_
          refine V_aload_n C0 0 rfl rfl dX12_takeWord_49 ?_
          refine V_getI C0 11 10 fl_X12_125 ho0 hk0 rfl dX12_takeWord_50 ?_
          obtain ⟨I21, q22, h⟩ := bn1_some h
          refine V_callV C0 (st := []) (As := [.int (1 : Int32), .int (I y0 10)]) 11 (c_X12_wrong G.l G.D G.cA G.ad G.bs G.X C0.2.2.2.2.2.2.2.2.2.1 C0.2.2.2.2.2.2.2.2.2.2.2.2 y0 (1 : Int32) (I y0 10) I L R I21 q22) lc_X12_wrong lk_X12_157 ho0 hk0 ⟨_, rfl, rfl⟩ rfl (by rw [erm]; decide) (Nat.le_of_ble_eq_true rfl) dX12_takeWord_53 ?_
          show V G _ 56 [(0, .ref (G.ad y0))] [] I21 L R
          cases h
          rw [kr _ rfl]
          exact V_vret C0 dX12_takeWord_56
set_option maxRecDepth 100000 in
set_option maxHeartbeats 4000000 in
theorem c_X12_takeWord (l : Launch) (D : va_G) (cA : Nat → ClassId) (ad : Nat → Nat) (bs : Nat) (X : State → Prop) (hAd : Ax ad bs) (hX : Stb bs X) (N : Nat) (x0 : Nat) (I : MI) (L : ML) (R : MR) (I' : MI) (h : F_X12_takeWord N x0 I L R = some (I')) : Cn l D cA ad bs X yX12_takeWord cX12_takeWord 1 none 1 22 [.ref (ad x0)] I L R (none, I', L, R) := by
  refine Cn.ofV hAd hX [(0, .ref (ad x0))] rfl (Nat.le_of_ble_eq_true rfl) (by decide) ?_
  intro G el eD ecA ead ebs eX erm eNL C0
  subst el eD ecA ead ebs eX
  unfold F_X12_takeWord at h
  obtain ⟨c_x0, h⟩ := ite_some h
  refine V_aload_n C0 0 rfl rfl dX12_takeWord_0 ?_
  refine V_iconst C0 (v := (1 : Int32)) (by decide) dX12_takeWord_1 ?_
  obtain ⟨I1, eI1, h⟩ := wr_some h
  refine V_putI C0 11 11 fp_X12_138 c_x0.2 c_x0.1 rfl dX12_takeWord_2 ?_
  rw [← eI1]
  refine V_aload_n C0 0 rfl rfl dX12_takeWord_5 ?_
  refine V_iconst C0 (v := (0 : Int32)) (by decide) dX12_takeWord_6 ?_
  obtain ⟨I2, eI2, h⟩ := wr_some h
  refine V_putI C0 11 13 fp_X12_161 c_x0.2 c_x0.1 rfl dX12_takeWord_7 ?_
  rw [← eI2]
  rcases bsm_some h with ⟨z23, q24, h⟩ | ⟨z23, q24, h⟩
  · refine V_sub [0] rfl (lp_X12_takeWord_10 C0 eNL erm N N x0 I2 L R _ c_x0.1 c_x0.2 q24 _ (fun w e => ?_) (fun _ e => by cases e))
    cases e
    cases h
    rfl
  · refine V_sub [0] rfl (lp_X12_takeWord_10 C0 eNL erm N N x0 I2 L R _ c_x0.1 c_x0.2 q24 _ (fun _ e => by cases e) (fun w e => ?_))
    cases e
    show V G _ 80 [] [] z23 L R
    cases h
    exact V_vret C0 dX12_takeWord_80
theorem dX12_takeNumber_0 : decode cX12_takeNumber 0 = .ok (.aload_n 0, 1) := by decide +kernel
theorem dX12_takeNumber_1 : decode cX12_takeNumber 1 = .ok (.iconst 2, 1) := by decide +kernel
theorem dX12_takeNumber_2 : decode cX12_takeNumber 2 = .ok (.putfield 138, 3) := by decide +kernel
theorem dX12_takeNumber_5 : decode cX12_takeNumber 5 = .ok (.aload_n 0, 1) := by decide +kernel
theorem dX12_takeNumber_6 : decode cX12_takeNumber 6 = .ok (.aload_n 0, 1) := by decide +kernel
theorem dX12_takeNumber_7 : decode cX12_takeNumber 7 = .ok (.getfield 125, 3) := by decide +kernel
theorem dX12_takeNumber_10 : decode cX12_takeNumber 10 = .ok (.invokevirtual 131, 3) := by decide +kernel
theorem dX12_takeNumber_13 : decode cX12_takeNumber 13 = .ok (.bipush 45, 2) := by decide +kernel
theorem dX12_takeNumber_15 : decode cX12_takeNumber 15 = .ok (.if_icmp .ne 7, 3) := by decide +kernel
theorem dX12_takeNumber_18 : decode cX12_takeNumber 18 = .ok (.iconst 1, 1) := by decide +kernel
theorem dX12_takeNumber_19 : decode cX12_takeNumber 19 = .ok (.goto 4, 3) := by decide +kernel
theorem dX12_takeNumber_22 : decode cX12_takeNumber 22 = .ok (.iconst 0, 1) := by decide +kernel
theorem dX12_takeNumber_23 : decode cX12_takeNumber 23 = .ok (.istore_n 1, 1) := by decide +kernel
theorem dX12_takeNumber_24 : decode cX12_takeNumber 24 = .ok (.aload_n 0, 1) := by decide +kernel
theorem dX12_takeNumber_25 : decode cX12_takeNumber 25 = .ok (.dup, 1) := by decide +kernel
theorem dX12_takeNumber_26 : decode cX12_takeNumber 26 = .ok (.getfield 125, 3) := by decide +kernel
theorem dX12_takeNumber_29 : decode cX12_takeNumber 29 = .ok (.iload_n 1, 1) := by decide +kernel
theorem dX12_takeNumber_30 : decode cX12_takeNumber 30 = .ok (.ifCond .eq 7, 3) := by decide +kernel
theorem dX12_takeNumber_33 : decode cX12_takeNumber 33 = .ok (.iconst 1, 1) := by decide +kernel
theorem dX12_takeNumber_34 : decode cX12_takeNumber 34 = .ok (.goto 4, 3) := by decide +kernel
theorem dX12_takeNumber_37 : decode cX12_takeNumber 37 = .ok (.iconst 0, 1) := by decide +kernel
theorem dX12_takeNumber_38 : decode cX12_takeNumber 38 = .ok (.iadd, 1) := by decide +kernel
theorem dX12_takeNumber_39 : decode cX12_takeNumber 39 = .ok (.putfield 125, 3) := by decide +kernel
theorem dX12_takeNumber_42 : decode cX12_takeNumber 42 = .ok (.aload_n 0, 1) := by decide +kernel
theorem dX12_takeNumber_43 : decode cX12_takeNumber 43 = .ok (.aload_n 0, 1) := by decide +kernel
theorem dX12_takeNumber_44 : decode cX12_takeNumber 44 = .ok (.getfield 125, 3) := by decide +kernel
theorem dX12_takeNumber_47 : decode cX12_takeNumber 47 = .ok (.invokevirtual 131, 3) := by decide +kernel
theorem dX12_takeNumber_50 : decode cX12_takeNumber 50 = .ok (.invokestatic 148, 3) := by decide +kernel
theorem dX12_takeNumber_53 : decode cX12_takeNumber 53 = .ok (.ifCond .ne 13, 3) := by decide +kernel
theorem dX12_takeNumber_56 : decode cX12_takeNumber 56 = .ok (.aload_n 0, 1) := by decide +kernel
theorem dX12_takeNumber_57 : decode cX12_takeNumber 57 = .ok (.iconst 1, 1) := by decide +kernel
theorem dX12_takeNumber_58 : decode cX12_takeNumber 58 = .ok (.aload_n 0, 1) := by decide +kernel
theorem dX12_takeNumber_59 : decode cX12_takeNumber 59 = .ok (.getfield 125, 3) := by decide +kernel
theorem dX12_takeNumber_62 : decode cX12_takeNumber 62 = .ok (.invokevirtual 157, 3) := by decide +kernel
theorem dX12_takeNumber_65 : decode cX12_takeNumber 65 = .ok (.return_, 1) := by decide +kernel
theorem dX12_takeNumber_66 : decode cX12_takeNumber 66 = .ok (.aload_n 0, 1) := by decide +kernel
theorem dX12_takeNumber_67 : decode cX12_takeNumber 67 = .ok (.iconst 0, 1) := by decide +kernel
theorem dX12_takeNumber_68 : decode cX12_takeNumber 68 = .ok (.putfield 154, 3) := by decide +kernel
theorem dX12_takeNumber_71 : decode cX12_takeNumber 71 = .ok (.iconst 0, 1) := by decide +kernel
theorem dX12_takeNumber_72 : decode cX12_takeNumber 72 = .ok (.istore_n 2, 1) := by decide +kernel
theorem dX12_takeNumber_73 : decode cX12_takeNumber 73 = .ok (.aload_n 0, 1) := by decide +kernel
theorem dX12_takeNumber_74 : decode cX12_takeNumber 74 = .ok (.aload_n 0, 1) := by decide +kernel
theorem dX12_takeNumber_75 : decode cX12_takeNumber 75 = .ok (.getfield 125, 3) := by decide +kernel
theorem dX12_takeNumber_78 : decode cX12_takeNumber 78 = .ok (.invokevirtual 131, 3) := by decide +kernel
theorem dX12_takeNumber_81 : decode cX12_takeNumber 81 = .ok (.invokestatic 148, 3) := by decide +kernel
theorem dX12_takeNumber_84 : decode cX12_takeNumber 84 = .ok (.ifCond .eq 57, 3) := by decide +kernel
theorem dX12_takeNumber_87 : decode cX12_takeNumber 87 = .ok (.iload_n 2, 1) := by decide +kernel
theorem dX12_takeNumber_88 : decode cX12_takeNumber 88 = .ok (.iconst 5, 1) := by decide +kernel
theorem dX12_takeNumber_89 : decode cX12_takeNumber 89 = .ok (.if_icmp .ne 13, 3) := by decide +kernel
theorem dX12_takeNumber_92 : decode cX12_takeNumber 92 = .ok (.aload_n 0, 1) := by decide +kernel
theorem dX12_takeNumber_93 : decode cX12_takeNumber 93 = .ok (.iconst 1, 1) := by decide +kernel
theorem dX12_takeNumber_94 : decode cX12_takeNumber 94 = .ok (.aload_n 0, 1) := by decide +kernel
theorem dX12_takeNumber_95 : decode cX12_takeNumber 95 = .ok (.getfield 125, 3) := by decide +kernel
theorem dX12_takeNumber_98 : decode cX12_takeNumber 98 = .ok (.invokevirtual 157, 3) := by decide +kernel
theorem dX12_takeNumber_101 : decode cX12_takeNumber 101 = .ok (.return_, 1) := by decide +kernel
theorem dX12_takeNumber_102 : decode cX12_takeNumber 102 = .ok (.aload_n 0, 1) := by decide +kernel
theorem dX12_takeNumber_103 : decode cX12_takeNumber 103 = .ok (.bipush 10, 2) := by decide +kernel
theorem dX12_takeNumber_105 : decode cX12_takeNumber 105 = .ok (.aload_n 0, 1) := by decide +kernel
theorem dX12_takeNumber_106 : decode cX12_takeNumber 106 = .ok (.getfield 154, 3) := by decide +kernel
theorem dX12_takeNumber_109 : decode cX12_takeNumber 109 = .ok (.imul, 1) := by decide +kernel
theorem dX12_takeNumber_110 : decode cX12_takeNumber 110 = .ok (.aload_n 0, 1) := by decide +kernel
theorem dX12_takeNumber_111 : decode cX12_takeNumber 111 = .ok (.aload_n 0, 1) := by decide +kernel
theorem dX12_takeNumber_112 : decode cX12_takeNumber 112 = .ok (.getfield 125, 3) := by decide +kernel
theorem dX12_takeNumber_115 : decode cX12_takeNumber 115 = .ok (.invokevirtual 131, 3) := by decide +kernel
theorem dX12_takeNumber_118 : decode cX12_takeNumber 118 = .ok (.iadd, 1) := by decide +kernel
theorem dX12_takeNumber_119 : decode cX12_takeNumber 119 = .ok (.bipush 48, 2) := by decide +kernel
theorem dX12_takeNumber_121 : decode cX12_takeNumber 121 = .ok (.isub, 1) := by decide +kernel
theorem dX12_takeNumber_122 : decode cX12_takeNumber 122 = .ok (.putfield 154, 3) := by decide +kernel
theorem dX12_takeNumber_125 : decode cX12_takeNumber 125 = .ok (.iinc 2 1, 3) := by decide +kernel
theorem dX12_takeNumber_128 : decode cX12_takeNumber 128 = .ok (.aload_n 0, 1) := by decide +kernel
theorem dX12_takeNumber_129 : decode cX12_takeNumber 129 = .ok (.dup, 1) := by decide +kernel
theorem dX12_takeNumber_130 : decode cX12_takeNumber 130 = .ok (.getfield 125, 3) := by decide +kernel
theorem dX12_takeNumber_133 : decode cX12_takeNumber 133 = .ok (.iconst 1, 1) := by decide +kernel
theorem dX12_takeNumber_134 : decode cX12_takeNumber 134 = .ok (.iadd, 1) := by decide +kernel
theorem dX12_takeNumber_135 : decode cX12_takeNumber 135 = .ok (.putfield 125, 3) := by decide +kernel
theorem dX12_takeNumber_138 : decode cX12_takeNumber 138 = .ok (.goto (-65), 3) := by decide +kernel
theorem dX12_takeNumber_141 : decode cX12_takeNumber 141 = .ok (.aload_n 0, 1) := by decide +kernel
theorem dX12_takeNumber_142 : decode cX12_takeNumber 142 = .ok (.iload_n 1, 1) := by decide +kernel
theorem dX12_takeNumber_143 : decode cX12_takeNumber 143 = .ok (.ifCond .eq 11, 3) := by decide +kernel
theorem dX12_takeNumber_146 : decode cX12_takeNumber 146 = .ok (.aload_n 0, 1) := by decide +kernel
theorem dX12_takeNumber_147 : decode cX12_takeNumber 147 = .ok (.getfield 154, 3) := by decide +kernel
theorem dX12_takeNumber_150 : decode cX12_takeNumber 150 = .ok (.ineg, 1) := by decide +kernel
theorem dX12_takeNumber_151 : decode cX12_takeNumber 151 = .ok (.goto 7, 3) := by decide +kernel
theorem dX12_takeNumber_154 : decode cX12_takeNumber 154 = .ok (.aload_n 0, 1) := by decide +kernel
theorem dX12_takeNumber_155 : decode cX12_takeNumber 155 = .ok (.getfield 154, 3) := by decide +kernel
theorem dX12_takeNumber_158 : decode cX12_takeNumber 158 = .ok (.putfield 154, 3) := by decide +kernel
theorem dX12_takeNumber_161 : decode cX12_takeNumber 161 = .ok (.return_, 1) := by decide +kernel
def LF_X12_takeNumber_73 (N : Nat) : Nat → Nat → Int32 → Int32 → MI → ML → MR → Option (Sum (MI) (MI))
  | 0, _, _, _, _, _, _ => none
  | k + 1, y0, y1, y2, I, L, R =>
    bn1 (F_X12_byteAt y0 (I y0 10) I L R) fun v19 =>
    bn1 (F_X12_isDigit v19 I L R) fun b21 =>
    if (b2i b21) = 0 then
      some (.inr (I))
    else
      if y2 = (5 : Int32) then
        bn1 (F_X12_wrong y0 (1 : Int32) (I y0 10) I L R) fun I30 =>
        some (.inl (I30))
      else
        bn1 (F_X12_byteAt y0 (I y0 10) I L R) fun v25 =>
        wr (uI I y0 14 ((((10 : Int32) * (I y0 14)) + v25) - (48 : Int32))) fun (I27 : MI) =>
        wr (y2 + (1 : Int32)) fun (u28 : Int32) =>
        wr (uI I27 y0 10 ((I27 y0 10) + (1 : Int32))) fun (I29 : MI) =>
        LF_X12_takeNumber_73 N k y0 y1 u28 I29 L R
def F_X12_takeNumber (N : Nat) (x0 : Nat) (I : MI) (L : ML) (R : MR) : Option (MI) :=
  if kd x0 = 11 ∧ x0 < NN then
  wr (uI I x0 11 (2 : Int32)) fun (I1 : MI) =>
  bn1 (F_X12_byteAt x0 (I1 x0 10) I1 L R) fun v2 =>
  bn1 (
    if v2 = (45 : Int32) then
      some ((1 : Int32))
    else
      some ((0 : Int32))
  ) fun (s4 : Int32) =>
  bn1 (
    if s4 = 0 then
      some ((0 : Int32))
    else
      some ((1 : Int32))
  ) fun (s8 : Int32) =>
  wr (uI I1 x0 10 ((I1 x0 10) + s8)) fun (I12 : MI) =>
  bn1 (F_X12_byteAt x0 (I12 x0 10) I12 L R) fun v13 =>
  bn1 (F_X12_isDigit v13 I12 L R) fun b15 =>
  if (b2i b15) = 0 then
    bn1 (F_X12_wrong x0 (1 : Int32) (I12 x0 10) I12 L R) fun I39 =>
    some (I39)
  else
    wr (uI I12 x0 14 (0 : Int32)) fun (I18 : MI) =>
    bsm (LF_X12_takeNumber_73 N N x0 s4 (0 : Int32) I18 L R) (fun z32 => some z32) fun z32 =>
    bn1 (
      if s4 = 0 then
        some ((z32 x0 14))
      else
        some ((-(z32 x0 14)))
    ) fun (s34 : Int32) =>
    wr (uI z32 x0 14 s34) fun (I38 : MI) =>
    some (I38)
  else none
set_option maxRecDepth 100000 in
set_option maxHeartbeats 4000000 in
theorem lp_X12_takeNumber_73 {G : Gm} (C0 : Cx G (yX12_takeNumber.cls) cX12_takeNumber none) (eNL : G.nL = 3) (erm : G.rm = ({ frames := 1, cells := 0, slots := 0, locals := 22 } : Room)) (N : Nat) : ∀ (k : Nat) (y0 : Nat) (y1 : Int32) (y2 : Int32) (I : MI) (L : ML) (R : MR) (q : Sum (MI) (MI)) (hk0 : kd y0 = 11) (ho0 : y0 < NN), LF_X12_takeNumber_73 N k y0 y1 y2 I L R = some q → ∀ f : State → Prop, (∀ w, q = .inl w → f = qf G (none, w, L, R)) → (∀ z, q = .inr z → V G f 141 [(0, .ref (G.ad y0)), (1, .int y1)] [] z L R) → V G f 73 [(0, .ref (G.ad y0)), (1, .int y1), (2, .int y2)] [] I L R := by
  intro k
  induction k with
  | zero =>
    intro y0 y1 y2 I L R q hk0 ho0 h
    exact absurd h (by simp [LF_X12_takeNumber_73])
  | succ k ih =>
    intro y0 y1 y2 I L R q hk0 ho0 h f kr kx
    rw [LF_X12_takeNumber_73] at h
    refine V_aload_n C0 0 rfl rfl dX12_takeNumber_73 ?_
    refine V_aload_n C0 0 rfl rfl dX12_takeNumber_74 ?_
    refine V_getI C0 11 10 fl_X12_125 ho0 hk0 rfl dX12_takeNumber_75 ?_
    obtain ⟨v19, q20, h⟩ := bn1_some h
    refine V_callV C0 (st := []) (As := [.int (I y0 10)]) 11 (c_X12_byteAt G.l G.D G.cA G.ad G.bs G.X C0.2.2.2.2.2.2.2.2.2.1 C0.2.2.2.2.2.2.2.2.2.2.2.2 y0 (I y0 10) I L R v19 q20) lc_X12_byteAt lk_X12_131 ho0 hk0 ⟨_, rfl, rfl⟩ rfl (by rw [erm]; decide) (Nat.le_of_ble_eq_true rfl) dX12_takeNumber_78 ?_
    show V G _ 81 [(0, .ref (G.ad y0)), (1, .int y1), (2, .int y2)] [.int v19] I L R
    obtain ⟨b21, q22, h⟩ := bn1_some h
    refine V_callS C0 (st := []) (As := [.int v19]) (c_X12_isDigit G.l G.D G.cA G.ad G.bs G.X C0.2.2.2.2.2.2.2.2.2.1 C0.2.2.2.2.2.2.2.2.2.2.2.2 v19 I L R b21 q22) lc_X12_isDigit lk_X12_148 rfl (by rw [erm]; decide) (Nat.le_of_ble_eq_true rfl) dX12_takeNumber_81 ?_
    show V G _ 84 [(0, .ref (G.ad y0)), (1, .int y1), (2, .int y2)] [.int (b2i b21)] I L R
    refine V_if_eq C0 (tgt := 141) (by decide) dX12_takeNumber_84 (fun c23 => ?_) (fun c23 => ?_)
    · have h := (if_pos c23).symm.trans h
      cases h
      exact V_sub [0, 1] rfl (kx _ rfl)
    · have h := (if_neg c23).symm.trans h
      refine V_iload_n C0 2 rfl rfl dX12_takeNumber_87 ?_
      refine V_iconst C0 (v := (5 : Int32)) (by decide) dX12_takeNumber_88 ?_
      refine V_icmp_ne C0 (tgt := 102) (by decide) dX12_takeNumber_89 (fun c24 => ?_) (fun c24 => ?_)
      · have h := (if_neg c24).symm.trans h
        refine V_aload_n C0 0 rfl rfl dX12_takeNumber_102 ?_
        refine V_bipush C0 (v := (10 : Int32)) (by decide) dX12_takeNumber_103 ?_
        refine V_aload_n C0 0 rfl rfl dX12_takeNumber_105 ?_
        refine V_getI C0 11 14 fl_X12_154 ho0 hk0 rfl dX12_takeNumber_106 ?_
        refine V_imul C0 dX12_takeNumber_109 ?_
        refine V_aload_n C0 0 rfl rfl dX12_takeNumber_110 ?_
        refine V_aload_n C0 0 rfl rfl dX12_takeNumber_111 ?_
        refine V_getI C0 11 10 fl_X12_125 ho0 hk0 rfl dX12_takeNumber_112 ?_
        obtain ⟨v25, q26, h⟩ := bn1_some h
        refine V_callV C0 (st := [.int ((10 : Int32) * (I y0 14)), .ref (G.ad y0)]) (As := [.int (I y0 10)]) 11 (c_X12_byteAt G.l G.D G.cA G.ad G.bs G.X C0.2.2.2.2.2.2.2.2.2.1 C0.2.2.2.2.2.2.2.2.2.2.2.2 y0 (I y0 10) I L R v25 q26) lc_X12_byteAt lk_X12_131 ho0 hk0 ⟨_, rfl, rfl⟩ rfl (by rw [erm]; decide) (Nat.le_of_ble_eq_true rfl) dX12_takeNumber_115 ?_
        show V G _ 118 [(0, .ref (G.ad y0)), (1, .int y1), (2, .int y2)] [.int v25, .int ((10 : Int32) * (I y0 14)), .ref (G.ad y0)] I L R
        refine V_iadd C0 dX12_takeNumber_118 ?_
        refine V_bipush C0 (v := (48 : Int32)) (by decide) dX12_takeNumber_119 ?_
        refine V_isub C0 dX12_takeNumber_121 ?_
        obtain ⟨I27, eI27, h⟩ := wr_some h
        refine V_putI C0 11 14 fp_X12_154 ho0 hk0 rfl dX12_takeNumber_122 ?_
        rw [← eI27]
        obtain ⟨u28, eu28, h⟩ := wr_some h
        refine V_iinc C0 2 [(2, .int u28), (0, .ref (G.ad y0)), (1, .int y1)] rfl (n := 1) (by rw [eu28]; rfl) (by rw [eNL]; decide) rfl dX12_takeNumber_125 ?_
        refine V_aload_n C0 1 rfl rfl dX12_takeNumber_128 ?_
        refine V_dup C0 rfl dX12_takeNumber_129 ?_
        refine V_getI C0 11 10 fl_X12_125 ho0 hk0 rfl dX12_takeNumber_130 ?_
        refine V_iconst C0 (v := (1 : Int32)) (by decide) dX12_takeNumber_133 ?_
        refine V_iadd C0 dX12_takeNumber_134 ?_
        obtain ⟨I29, eI29, h⟩ := wr_some h
        refine V_putI C0 11 10 fp_X12_125 ho0 hk0 rfl dX12_takeNumber_135 ?_
        rw [← eI29]
        refine V_goto C0 (tgt := 73) (by decide) dX12_takeNumber_138 ?_
        exact V_sub [1, 2, 0] rfl (ih y0 y1 u28 I29 L R _ hk0 ho0 h f kr kx)
      · have h := (if_pos c24).symm.trans h
        refine V_aload_n C0 0 rfl rfl dX12_takeNumber_92 ?_
        refine V_iconst C0 (v := (1 : Int32)) (by decide) dX12_takeNumber_93 ?_
        refine V_aload_n C0 0 rfl rfl dX12_takeNumber_94 ?_
        refine V_getI C0 11 10 fl_X12_125 ho0 hk0 rfl dX12_takeNumber_95 ?_
        obtain ⟨I30, q31, h⟩ := bn1_some h
        refine V_callV C0 (st := []) (As := [.int (1 : Int32), .int (I y0 10)]) 11 (c_X12_wrong G.l G.D G.cA G.ad G.bs G.X C0.2.2.2.2.2.2.2.2.2.1 C0.2.2.2.2.2.2.2.2.2.2.2.2 y0 (1 : Int32) (I y0 10) I L R I30 q31) lc_X12_wrong lk_X12_157 ho0 hk0 ⟨_, rfl, rfl⟩ rfl (by rw [erm]; decide) (Nat.le_of_ble_eq_true rfl) dX12_takeNumber_98 ?_
        show V G _ 101 [(0, .ref (G.ad y0)), (1, .int y1), (2, .int y2)] [] I30 L R
        cases h
        rw [kr _ rfl]
        exact V_vret C0 dX12_takeNumber_101
set_option maxRecDepth 100000 in
set_option maxHeartbeats 4000000 in
theorem c_X12_takeNumber (l : Launch) (D : va_G) (cA : Nat → ClassId) (ad : Nat → Nat) (bs : Nat) (X : State → Prop) (hAd : Ax ad bs) (hX : Stb bs X) (N : Nat) (x0 : Nat) (I : MI) (L : ML) (R : MR) (I' : MI) (h : F_X12_takeNumber N x0 I L R = some (I')) : Cn l D cA ad bs X yX12_takeNumber cX12_takeNumber 3 none 1 22 [.ref (ad x0)] I L R (none, I', L, R) := by
  refine Cn.ofV hAd hX [(0, .ref (ad x0))] rfl (Nat.le_of_ble_eq_true rfl) (by decide) ?_
  intro G el eD ecA ead ebs eX erm eNL C0
  subst el eD ecA ead ebs eX
  unfold F_X12_takeNumber at h
  obtain ⟨c_x0, h⟩ := ite_some h
  refine V_aload_n C0 0 rfl rfl dX12_takeNumber_0 ?_
  refine V_iconst C0 (v := (2 : Int32)) (by decide) dX12_takeNumber_1 ?_
  obtain ⟨I1, eI1, h⟩ := wr_some h
  refine V_putI C0 11 11 fp_X12_138 c_x0.2 c_x0.1 rfl dX12_takeNumber_2 ?_
  rw [← eI1]
  refine V_aload_n C0 0 rfl rfl dX12_takeNumber_5 ?_
  refine V_aload_n C0 0 rfl rfl dX12_takeNumber_6 ?_
  refine V_getI C0 11 10 fl_X12_125 c_x0.2 c_x0.1 rfl dX12_takeNumber_7 ?_
  obtain ⟨v2, q3, h⟩ := bn1_some h
  refine V_callV C0 (st := []) (As := [.int (I1 x0 10)]) 11 (c_X12_byteAt G.l G.D G.cA G.ad G.bs G.X C0.2.2.2.2.2.2.2.2.2.1 C0.2.2.2.2.2.2.2.2.2.2.2.2 x0 (I1 x0 10) I1 L R v2 q3) lc_X12_byteAt lk_X12_131 c_x0.2 c_x0.1 ⟨_, rfl, rfl⟩ rfl (by rw [erm]; decide) (Nat.le_of_ble_eq_true rfl) dX12_takeNumber_10 ?_
  show V G _ 13 [(0, .ref (G.ad x0))] [.int v2] I1 L R
  refine V_bipush C0 (v := (45 : Int32)) (by decide) dX12_takeNumber_13 ?_
  obtain ⟨s4, q5, h⟩ := bn1_some h
  have k6 : V G (qf G (none, I', L, R)) 23 [(0, .ref (G.ad x0))] [.int s4] I1 L R := by
    refine V_istore_n C0 [(1, .int s4), (0, .ref (G.ad x0))] rfl (by rw [eNL]; decide) rfl dX12_takeNumber_23 ?_
    refine V_aload_n C0 1 rfl rfl dX12_takeNumber_24 ?_
    refine V_dup C0 rfl dX12_takeNumber_25 ?_
    refine V_getI C0 11 10 fl_X12_125 c_x0.2 c_x0.1 rfl dX12_takeNumber_26 ?_
    refine V_iload_n C0 0 rfl rfl dX12_takeNumber_29 ?_
    obtain ⟨s8, q9, h⟩ := bn1_some h
    have k10 : V G (qf G (none, I', L, R)) 38 [(0, .ref (G.ad x0)), (1, .int s4)] [.int s8, .int (I1 x0 10), .ref (G.ad x0)] I1 L R := by
      refine V_iadd C0 dX12_takeNumber_38 ?_
      obtain ⟨I12, eI12, h⟩ := wr_some h
      refine V_putI C0 11 10 fp_X12_125 c_x0.2 c_x0.1 rfl dX12_takeNumber_39 ?_
      rw [← eI12]
      refine V_aload_n C0 0 rfl rfl dX12_takeNumber_42 ?_
      refine V_aload_n C0 0 rfl rfl dX12_takeNumber_43 ?_
      refine V_getI C0 11 10 fl_X12_125 c_x0.2 c_x0.1 rfl dX12_takeNumber_44 ?_
      obtain ⟨v13, q14, h⟩ := bn1_some h
      refine V_callV C0 (st := []) (As := [.int (I12 x0 10)]) 11 (c_X12_byteAt G.l G.D G.cA G.ad G.bs G.X C0.2.2.2.2.2.2.2.2.2.1 C0.2.2.2.2.2.2.2.2.2.2.2.2 x0 (I12 x0 10) I12 L R v13 q14) lc_X12_byteAt lk_X12_131 c_x0.2 c_x0.1 ⟨_, rfl, rfl⟩ rfl (by rw [erm]; decide) (Nat.le_of_ble_eq_true rfl) dX12_takeNumber_47 ?_
      show V G _ 50 [(0, .ref (G.ad x0)), (1, .int s4)] [.int v13] I12 L R
      obtain ⟨b15, q16, h⟩ := bn1_some h
      refine V_callS C0 (st := []) (As := [.int v13]) (c_X12_isDigit G.l G.D G.cA G.ad G.bs G.X C0.2.2.2.2.2.2.2.2.2.1 C0.2.2.2.2.2.2.2.2.2.2.2.2 v13 I12 L R b15 q16) lc_X12_isDigit lk_X12_148 rfl (by rw [erm]; decide) (Nat.le_of_ble_eq_true rfl) dX12_takeNumber_50 ?_
      show V G _ 53 [(0, .ref (G.ad x0)), (1, .int s4)] [.int (b2i b15)] I12 L R
      refine V_if_ne C0 (tgt := 66) (by decide) dX12_takeNumber_53 (fun c17 => ?_) (fun c17 => ?_)
      · have h := (if_neg c17).symm.trans h
        refine V_aload_n C0 0 rfl rfl dX12_takeNumber_66 ?_
        refine V_iconst C0 (v := (0 : Int32)) (by decide) dX12_takeNumber_67 ?_
        obtain ⟨I18, eI18, h⟩ := wr_some h
        refine V_putI C0 11 14 fp_X12_154 c_x0.2 c_x0.1 rfl dX12_takeNumber_68 ?_
        rw [← eI18]
        refine V_iconst C0 (v := (0 : Int32)) (by decide) dX12_takeNumber_71 ?_
        refine V_istore_n C0 [(2, .int (0 : Int32)), (0, .ref (G.ad x0)), (1, .int s4)] rfl (by rw [eNL]; decide) rfl dX12_takeNumber_72 ?_
        rcases bsm_some h with ⟨z32, q33, h⟩ | ⟨z32, q33, h⟩
        · refine V_sub [1, 2, 0] rfl (lp_X12_takeNumber_73 C0 eNL erm N N x0 s4 (0 : Int32) I18 L R _ c_x0.1 c_x0.2 q33 _ (fun w e => ?_) (fun _ e => by cases e))
          cases e
          cases h
          rfl
        · refine V_sub [1, 2, 0] rfl (lp_X12_takeNumber_73 C0 eNL erm N N x0 s4 (0 : Int32) I18 L R _ c_x0.1 c_x0.2 q33 _ (fun _ e => by cases e) (fun w e => ?_))
          cases e
          show V G _ 141 [(0, .ref (G.ad x0)), (1, .int s4)] [] z32 L R
          refine V_aload_n C0 0 rfl rfl dX12_takeNumber_141 ?_
          refine V_iload_n C0 1 rfl rfl dX12_takeNumber_142 ?_
          obtain ⟨s34, q35, h⟩ := bn1_some h
          have k36 : V G (qf G (none, I', L, R)) 158 [] [.int s34, .ref (G.ad x0)] z32 L R := by
            obtain ⟨I38, eI38, h⟩ := wr_some h
            refine V_putI C0 11 14 fp_X12_154 c_x0.2 c_x0.1 rfl dX12_takeNumber_158 ?_
            rw [← eI38]
            cases h
            exact V_vret C0 dX12_takeNumber_161
          refine V_if_eq C0 (tgt := 154) (by decide) dX12_takeNumber_143 (fun c37 => ?_) (fun c37 => ?_)
          · have q35 := (if_pos c37).symm.trans q35
            refine V_aload_n C0 0 rfl rfl dX12_takeNumber_154 ?_
            refine V_getI C0 11 14 fl_X12_154 c_x0.2 c_x0.1 rfl dX12_takeNumber_155 ?_
            cases q35
            exact V_sub [] rfl k36
          · have q35 := (if_neg c37).symm.trans q35
            refine V_aload_n C0 0 rfl rfl dX12_takeNumber_146 ?_
            refine V_getI C0 11 14 fl_X12_154 c_x0.2 c_x0.1 rfl dX12_takeNumber_147 ?_
            refine V_ineg C0 dX12_takeNumber_150 ?_
            refine V_goto C0 (tgt := 158) (by decide) dX12_takeNumber_151 ?_
            cases q35
            exact V_sub [] rfl k36
      · have h := (if_pos c17).symm.trans h
        refine V_aload_n C0 0 rfl rfl dX12_takeNumber_56 ?_
        refine V_iconst C0 (v := (1 : Int32)) (by decide) dX12_takeNumber_57 ?_
        refine V_aload_n C0 0 rfl rfl dX12_takeNumber_58 ?_
        refine V_getI C0 11 10 fl_X12_125 c_x0.2 c_x0.1 rfl dX12_takeNumber_59 ?_
        obtain ⟨I39, q40, h⟩ := bn1_some h
        refine V_callV C0 (st := []) (As := [.int (1 : Int32), .int (I12 x0 10)]) 11 (c_X12_wrong G.l G.D G.cA G.ad G.bs G.X C0.2.2.2.2.2.2.2.2.2.1 C0.2.2.2.2.2.2.2.2.2.2.2.2 x0 (1 : Int32) (I12 x0 10) I12 L R I39 q40) lc_X12_wrong lk_X12_157 c_x0.2 c_x0.1 ⟨_, rfl, rfl⟩ rfl (by rw [erm]; decide) (Nat.le_of_ble_eq_true rfl) dX12_takeNumber_62 ?_
        show V G _ 65 [(0, .ref (G.ad x0)), (1, .int s4)] [] I39 L R
        cases h
        exact V_vret C0 dX12_takeNumber_65
    refine V_if_eq C0 (tgt := 37) (by decide) dX12_takeNumber_30 (fun c11 => ?_) (fun c11 => ?_)
    · have q9 := (if_pos c11).symm.trans q9
      refine V_iconst C0 (v := (0 : Int32)) (by decide) dX12_takeNumber_37 ?_
      cases q9
      exact V_sub [1, 0] rfl k10
    · have q9 := (if_neg c11).symm.trans q9
      refine V_iconst C0 (v := (1 : Int32)) (by decide) dX12_takeNumber_33 ?_
      refine V_goto C0 (tgt := 38) (by decide) dX12_takeNumber_34 ?_
      cases q9
      exact V_sub [1, 0] rfl k10
  refine V_icmp_ne C0 (tgt := 22) (by decide) dX12_takeNumber_15 (fun c7 => ?_) (fun c7 => ?_)
  · have q5 := (if_neg c7).symm.trans q5
    refine V_iconst C0 (v := (0 : Int32)) (by decide) dX12_takeNumber_22 ?_
    cases q5
    exact V_sub [0] rfl k6
  · have q5 := (if_pos c7).symm.trans q5
    refine V_iconst C0 (v := (1 : Int32)) (by decide) dX12_takeNumber_18 ?_
    refine V_goto C0 (tgt := 23) (by decide) dX12_takeNumber_19 ?_
    cases q5
    exact V_sub [0] rfl k6
