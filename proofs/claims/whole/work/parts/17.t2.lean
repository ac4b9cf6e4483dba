theorem dX12_unitNext_0 : decode cX12_unitNext 0 = .ok (.aload_n 0, 1) := by decide +kernel
theorem dX12_unitNext_1 : decode cX12_unitNext 1 = .ok (.invokevirtual 164, 3) := by decide +kernel
theorem dX12_unitNext_4 : decode cX12_unitNext 4 = .ok (.ifCond .ne 5, 3) := by decide +kernel
theorem dX12_unitNext_7 : decode cX12_unitNext 7 = .ok (.iconst 0, 1) := by decide +kernel
theorem dX12_unitNext_8 : decode cX12_unitNext 8 = .ok (.ireturn, 1) := by decide +kernel
theorem dX12_unitNext_9 : decode cX12_unitNext 9 = .ok (.aload_n 0, 1) := by decide +kernel
theorem dX12_unitNext_10 : decode cX12_unitNext 10 = .ok (.getfield 138, 3) := by decide +kernel
theorem dX12_unitNext_13 : decode cX12_unitNext 13 = .ok (.iconst 1, 1) := by decide +kernel
theorem dX12_unitNext_14 : decode cX12_unitNext 14 = .ok (.if_icmp .eq 14, 3) := by decide +kernel
theorem dX12_unitNext_17 : decode cX12_unitNext 17 = .ok (.aload_n 0, 1) := by decide +kernel
theorem dX12_unitNext_18 : decode cX12_unitNext 18 = .ok (.iconst 2, 1) := by decide +kernel
theorem dX12_unitNext_19 : decode cX12_unitNext 19 = .ok (.aload_n 0, 1) := by decide +kernel
theorem dX12_unitNext_20 : decode cX12_unitNext 20 = .ok (.getfield 135, 3) := by decide +kernel
theorem dX12_unitNext_23 : decode cX12_unitNext 23 = .ok (.invokevirtual 157, 3) := by decide +kernel
theorem dX12_unitNext_26 : decode cX12_unitNext 26 = .ok (.iconst 0, 1) := by decide +kernel
theorem dX12_unitNext_27 : decode cX12_unitNext 27 = .ok (.ireturn, 1) := by decide +kernel
theorem dX12_unitNext_28 : decode cX12_unitNext 28 = .ok (.aload_n 0, 1) := by decide +kernel
theorem dX12_unitNext_29 : decode cX12_unitNext 29 = .ok (.aload_n 0, 1) := by decide +kernel
theorem dX12_unitNext_30 : decode cX12_unitNext 30 = .ok (.getfield 44, 3) := by decide +kernel
theorem dX12_unitNext_33 : decode cX12_unitNext 33 = .ok (.aload_n 0, 1) := by decide +kernel
theorem dX12_unitNext_34 : decode cX12_unitNext 34 = .ok (.getfield 297, 3) := by decide +kernel
theorem dX12_unitNext_37 : decode cX12_unitNext 37 = .ok (.invokevirtual 186, 3) := by decide +kernel
theorem dX12_unitNext_40 : decode cX12_unitNext 40 = .ok (.istore_n 2, 1) := by decide +kernel
theorem dX12_unitNext_41 : decode cX12_unitNext 41 = .ok (.iload_n 2, 1) := by decide +kernel
theorem dX12_unitNext_42 : decode cX12_unitNext 42 = .ok (.iconst (-1), 1) := by decide +kernel
theorem dX12_unitNext_43 : decode cX12_unitNext 43 = .ok (.if_icmp .eq 12, 3) := by decide +kernel
theorem dX12_unitNext_46 : decode cX12_unitNext 46 = .ok (.aload_n 0, 1) := by decide +kernel
theorem dX12_unitNext_47 : decode cX12_unitNext 47 = .ok (.iload_n 2, 1) := by decide +kernel
theorem dX12_unitNext_48 : decode cX12_unitNext 48 = .ok (.iload_n 1, 1) := by decide +kernel
theorem dX12_unitNext_49 : decode cX12_unitNext 49 = .ok (.invokevirtual 217, 3) := by decide +kernel
theorem dX12_unitNext_52 : decode cX12_unitNext 52 = .ok (.ifCond .ne 12, 3) := by decide +kernel
theorem dX12_unitNext_55 : decode cX12_unitNext 55 = .ok (.aload_n 0, 1) := by decide +kernel
theorem dX12_unitNext_56 : decode cX12_unitNext 56 = .ok (.iconst 3, 1) := by decide +kernel
theorem dX12_unitNext_57 : decode cX12_unitNext 57 = .ok (.aload_n 0, 1) := by decide +kernel
theorem dX12_unitNext_58 : decode cX12_unitNext 58 = .ok (.getfield 135, 3) := by decide +kernel
theorem dX12_unitNext_61 : decode cX12_unitNext 61 = .ok (.invokevirtual 157, 3) := by decide +kernel
theorem dX12_unitNext_64 : decode cX12_unitNext 64 = .ok (.iload_n 2, 1) := by decide +kernel
theorem dX12_unitNext_65 : decode cX12_unitNext 65 = .ok (.ireturn, 1) := by decide +kernel
def F_X12_unitNext (N : Nat) (x0 : Nat) (x1 : Int32) (I : MI) (L : ML) (R : MR) : Option (Int32 × MI) :=
  if kd x0 = 11 ∧ x0 < NN then
  bn2 (F_X12_next N x0 I L R) fun b1 I2 =>
  if (b2i b1) = 0 then
    some ((0 : Int32), I2)
  else
    if (I2 x0 11) = (1 : Int32) then
      (rf R x0 22 20).bind fun a6 =>
      bn1 (F_X12_named N x0 a6 (I2 x0 21) I2 L R) fun v7 =>
      bn1 (
        if v7 = (-1 : Int32) then
          bn1 (F_X12_wrong x0 (3 : Int32) (I2 x0 12) I2 L R) fun I13 =>
          some (I13)
        else
          bn1 (F_X12_isA N x0 v7 x1 I2 L R) fun b15 =>
          bn1 (
            if (b2i b15) = 0 then
              bn1 (F_X12_wrong x0 (3 : Int32) (I2 x0 12) I2 L R) fun I21 =>
              some (I21)
            else
              some (I2)
          ) fun (I17 : MI) =>
          some (I17)
      ) fun (I9 : MI) =>
      some (v7, I9)
    else
      bn1 (F_X12_wrong x0 (2 : Int32) (I2 x0 12) I2 L R) fun I23 =>
      some ((0 : Int32), I23)
  else none
set_option maxRecDepth 100000 in
set_option maxHeartbeats 4000000 in
theorem c_X12_unitNext (l : Launch) (D : va_G) (cA : Nat → ClassId) (ad : Nat → Nat) (bs : Nat) (X : State → Prop) (hAd : Ax ad bs) (hX : Stb bs X) (N : Nat) (x0 : Nat) (x1 : Int32) (I : MI) (L : ML) (R : MR) (r : Int32) (I' : MI) (h : F_X12_unitNext N x0 x1 I L R = some (r, I')) : Cn l D cA ad bs X yX12_unitNext cX12_unitNext 3 (some .int) 3 65 [.ref (ad x0), .int x1] I L R (some (.int r), I', L, R) := by
  refine Cn.ofV hAd hX [(0, .ref (ad x0)), (1, .int x1)] rfl (Nat.le_of_ble_eq_true rfl) (by decide) ?_
  intro G el eD ecA ead ebs eX erm eNL C0
  subst el eD ecA ead ebs eX
  unfold F_X12_unitNext at h
  obtain ⟨c_x0, h⟩ := ite_some h
  refine V_aload_n C0 0 rfl rfl dX12_unitNext_0 ?_
  obtain ⟨b1, I2, q3, h⟩ := bn2_some h
  refine V_callV C0 (st := []) (As := []) 11 (c_X12_next G.l G.D G.cA G.ad G.bs G.X C0.2.2.2.2.2.2.2.2.2.1 C0.2.2.2.2.2.2.2.2.2.2.2.2 N x0 I L R b1 I2 q3) lc_X12_next lk_X12_164 c_x0.2 c_x0.1 ⟨_, rfl, rfl⟩ rfl (by rw [erm]; decide) (Nat.le_of_ble_eq_true rfl) dX12_unitNext_1 ?_
  show V G _ 4 [(0, .ref (G.ad x0)), (1, .int x1)] [.int (b2i b1)] I2 L R
  refine V_if_ne C0 (tgt := 9) (by decide) dX12_unitNext_4 (fun c4 => ?_) (fun c4 => ?_)
  · have h := (if_neg c4).symm.trans h
    refine V_aload_n C0 0 rfl rfl dX12_unitNext_9 ?_
    refine V_getI C0 11 11 fl_X12_138 c_x0.2 c_x0.1 rfl dX12_unitNext_10 ?_
    refine V_iconst C0 (v := (1 : Int32)) (by decide) dX12_unitNext_13 ?_
    refine V_icmp_eq C0 (tgt := 28) (by decide) dX12_unitNext_14 (fun c5 => ?_) (fun c5 => ?_)
    · have h := (if_pos c5).symm.trans h
      refine V_aload_n C0 0 rfl rfl dX12_unitNext_28 ?_
      refine V_aload_n C0 0 rfl rfl dX12_unitNext_29 ?_
      obtain ⟨a6, qa6, h⟩ := bnd_some h
      refine V_getR C0 11 22 fl_X12_44 c_x0.2 c_x0.1 rfl (rf_at qa6) dX12_unitNext_30 ?_
      refine V_aload_n C0 0 rfl rfl dX12_unitNext_33 ?_
      refine V_getI C0 11 21 fl_X12_297 c_x0.2 c_x0.1 rfl dX12_unitNext_34 ?_
      obtain ⟨v7, q8, h⟩ := bn1_some h
      refine V_callV C0 (st := []) (As := [.ref (G.ad a6), .int (I2 x0 21)]) 11 (c_X12_named G.l G.D G.cA G.ad G.bs G.X C0.2.2.2.2.2.2.2.2.2.1 C0.2.2.2.2.2.2.2.2.2.2.2.2 N x0 a6 (I2 x0 21) I2 L R v7 q8) lc_X12_named lk_X12_186 c_x0.2 c_x0.1 ⟨_, rfl, rfl⟩ rfl (by rw [erm]; decide) (Nat.le_of_ble_eq_true rfl) dX12_unitNext_37 ?_
      show V G _ 40 [(0, .ref (G.ad x0)), (1, .int x1)] [.int v7] I2 L R
      refine V_istore_n C0 [(2, .int v7), (0, .ref (G.ad x0)), (1, .int x1)] rfl (by rw [eNL]; decide) rfl dX12_unitNext_40 ?_
      refine V_iload_n C0 0 rfl rfl dX12_unitNext_41 ?_
      refine V_iconst C0 (v := (-1 : Int32)) (by decide) dX12_unitNext_42 ?_
      obtain ⟨I9, q10, h⟩ := bn1_some h
      have k11 : V G (qf G (some (.int r), I', L, R)) 64 [(2, .int v7)] [] I9 L R := by
        refine V_iload_n C0 0 rfl rfl dX12_unitNext_64 ?_
        cases h
        exact V_iret C0 dX12_unitNext_65
      refine V_icmp_eq C0 (tgt := 55) (by decide) dX12_unitNext_43 (fun c12 => ?_) (fun c12 => ?_)
      · have q10 := (if_pos c12).symm.trans q10
        refine V_aload_n C0 1 rfl rfl dX12_unitNext_55 ?_
        refine V_iconst C0 (v := (3 : Int32)) (by decide) dX12_unitNext_56 ?_
        refine V_aload_n C0 1 rfl rfl dX12_unitNext_57 ?_
        refine V_getI C0 11 12 fl_X12_135 c_x0.2 c_x0.1 rfl dX12_unitNext_58 ?_
        obtain ⟨I13, q14, q10⟩ := bn1_some q10
        refine V_callV C0 (st := []) (As := [.int (3 : Int32), .int (I2 x0 12)]) 11 (c_X12_wrong G.l G.D G.cA G.ad G.bs G.X C0.2.2.2.2.2.2.2.2.2.1 C0.2.2.2.2.2.2.2.2.2.2.2.2 x0 (3 : Int32) (I2 x0 12) I2 L R I13 q14) lc_X12_wrong lk_X12_157 c_x0.2 c_x0.1 ⟨_, rfl, rfl⟩ rfl (by rw [erm]; decide) (Nat.le_of_ble_eq_true rfl) dX12_unitNext_61 ?_
        show V G _ 64 [(2, .int v7), (0, .ref (G.ad x0)), (1, .int x1)] [] I13 L R
        cases q10
        exact V_sub [0] rfl k11
      · have q10 := (if_neg c12).symm.trans q10
        refine V_aload_n C0 1 rfl rfl dX12_unitNext_46 ?_
        refine V_iload_n C0 0 rfl rfl dX12_unitNext_47 ?_
        refine V_iload_n C0 2 rfl rfl dX12_unitNext_48 ?_
        obtain ⟨b15, q16, q10⟩ := bn1_some q10
        refine V_callV C0 (st := []) (As := [.int v7, .int x1]) 11 (c_X12_isA G.l G.D G.cA G.ad G.bs G.X C0.2.2.2.2.2.2.2.2.2.1 C0.2.2.2.2.2.2.2.2.2.2.2.2 N x0 v7 x1 I2 L R b15 q16) lc_X12_isA lk_X12_217 c_x0.2 c_x0.1 ⟨_, rfl, rfl⟩ rfl (by rw [erm]; decide) (Nat.le_of_ble_eq_true rfl) dX12_unitNext_49 ?_
        show V G _ 52 [(2, .int v7), (0, .ref (G.ad x0)), (1, .int x1)] [.int (b2i b15)] I2 L R
        obtain ⟨I17, q18, q10⟩ := bn1_some q10
        have k19 : V G (qf G (some (.int r), I', L, R)) 64 [(2, .int v7)] [] I17 L R := by
          cases q10
          exact V_sub [0] rfl k11
        refine V_if_ne C0 (tgt := 64) (by decide) dX12_unitNext_52 (fun c20 => ?_) (fun c20 => ?_)
        · have q18 := (if_neg c20).symm.trans q18
          cases q18
          exact V_sub [0] rfl k19
        · have q18 := (if_pos c20).symm.trans q18
          refine V_aload_n C0 1 rfl rfl dX12_unitNext_55 ?_
          refine V_iconst C0 (v := (3 : Int32)) (by decide) dX12_unitNext_56 ?_
          refine V_aload_n C0 1 rfl rfl dX12_unitNext_57 ?_
          refine V_getI C0 11 12 fl_X12_135 c_x0.2 c_x0.1 rfl dX12_unitNext_58 ?_
          obtain ⟨I21, q22, q18⟩ := bn1_some q18
          refine V_callV C0 (st := []) (As := [.int (3 : Int32), .int (I2 x0 12)]) 11 (c_X12_wrong G.l G.D G.cA G.ad G.bs G.X C0.2.2.2.2.2.2.2.2.2.1 C0.2.2.2.2.2.2.2.2.2.2.2.2 x0 (3 : Int32) (I2 x0 12) I2 L R I21 q22) lc_X12_wrong lk_X12_157 c_x0.2 c_x0.1 ⟨_, rfl, rfl⟩ rfl (by rw [erm]; decide) (Nat.le_of_ble_eq_true rfl) dX12_unitNext_61 ?_
          show V G _ 64 [(2, .int v7), (0, .ref (G.ad x0)), (1, .int x1)] [] I21 L R
          cases q18
          exact V_sub [0] rfl k19
    · have h := (if_neg c5).symm.trans h
      refine V_aload_n C0 0 rfl rfl dX12_unitNext_17 ?_
      refine V_iconst C0 (v := (2 : Int32)) (by decide) dX12_unitNext_18 ?_
      refine V_aload_n C0 0 rfl rfl dX12_unitNext_19 ?_
      refine V_getI C0 11 12 fl_X12_135 c_x0.2 c_x0.1 rfl dX12_unitNext_20 ?_
      obtain ⟨I23, q24, h⟩ := bn1_some h
      refine V_callV C0 (st := []) (As := [.int (2 : Int32), .int (I2 x0 12)]) 11 (c_X12_wrong G.l G.D G.cA G.ad G.bs G.X C0.2.2.2.2.2.2.2.2.2.1 C0.2.2.2.2.2.2.2.2.2.2.2.2 x0 (2 : Int32) (I2 x0 12) I2 L R I23 q24) lc_X12_wrong lk_X12_157 c_x0.2 c_x0.1 ⟨_, rfl, rfl⟩ rfl (by rw [erm]; decide) (Nat.le_of_ble_eq_true rfl) dX12_unitNext_23 ?_
      show V G _ 26 [(0, .ref (G.ad x0)), (1, .int x1)] [] I23 L R
      refine V_iconst C0 (v := (0 : Int32)) (by decide) dX12_unitNext_26 ?_
      cases h
      exact V_iret C0 dX12_unitNext_27
  · have h := (if_pos c4).symm.trans h
    refine V_iconst C0 (v := (0 : Int32)) (by decide) dX12_unitNext_7 ?_
    cases h
    exact V_iret C0 dX12_unitNext_8
theorem dX12_planWord_0 : decode cX12_planWord 0 = .ok (.aload_n 0, 1) := by decide +kernel
theorem dX12_planWord_1 : decode cX12_planWord 1 = .ok (.getfield 138, 3) := by decide +kernel
theorem dX12_planWord_4 : decode cX12_planWord 4 = .ok (.iconst 1, 1) := by decide +kernel
theorem dX12_planWord_5 : decode cX12_planWord 5 = .ok (.if_icmp .ne 18, 3) := by decide +kernel
theorem dX12_planWord_8 : decode cX12_planWord 8 = .ok (.aload_n 0, 1) := by decide +kernel
theorem dX12_planWord_9 : decode cX12_planWord 9 = .ok (.aload_n 0, 1) := by decide +kernel
theorem dX12_planWord_10 : decode cX12_planWord 10 = .ok (.getfield 22, 3) := by decide +kernel
theorem dX12_planWord_13 : decode cX12_planWord 13 = .ok (.iload_n 1, 1) := by decide +kernel
theorem dX12_planWord_14 : decode cX12_planWord 14 = .ok (.iload_n 2, 1) := by decide +kernel
theorem dX12_planWord_15 : decode cX12_planWord 15 = .ok (.iconst 1, 1) := by decide +kernel
theorem dX12_planWord_16 : decode cX12_planWord 16 = .ok (.iadd, 1) := by decide +kernel
theorem dX12_planWord_17 : decode cX12_planWord 17 = .ok (.invokevirtual 182, 3) := by decide +kernel
theorem dX12_planWord_20 : decode cX12_planWord 20 = .ok (.goto 4, 3) := by decide +kernel
theorem dX12_planWord_23 : decode cX12_planWord 23 = .ok (.iconst (-1), 1) := by decide +kernel
theorem dX12_planWord_24 : decode cX12_planWord 24 = .ok (.istore_n 3, 1) := by decide +kernel
theorem dX12_planWord_25 : decode cX12_planWord 25 = .ok (.iload_n 3, 1) := by decide +kernel
theorem dX12_planWord_26 : decode cX12_planWord 26 = .ok (.iconst (-1), 1) := by decide +kernel
theorem dX12_planWord_27 : decode cX12_planWord 27 = .ok (.if_icmp .ne 12, 3) := by decide +kernel
theorem dX12_planWord_30 : decode cX12_planWord 30 = .ok (.aload_n 0, 1) := by decide +kernel
theorem dX12_planWord_31 : decode cX12_planWord 31 = .ok (.iconst 2, 1) := by decide +kernel
theorem dX12_planWord_32 : decode cX12_planWord 32 = .ok (.aload_n 0, 1) := by decide +kernel
theorem dX12_planWord_33 : decode cX12_planWord 33 = .ok (.getfield 135, 3) := by decide +kernel
theorem dX12_planWord_36 : decode cX12_planWord 36 = .ok (.invokevirtual 157, 3) := by decide +kernel
theorem dX12_planWord_39 : decode cX12_planWord 39 = .ok (.iload_n 3, 1) := by decide +kernel
theorem dX12_planWord_40 : decode cX12_planWord 40 = .ok (.ireturn, 1) := by decide +kernel
def F_X12_planWord (N : Nat) (x0 : Nat) (x1 : Int32) (x2 : Int32) (I : MI) (L : ML) (R : MR) : Option (Int32 × MI) :=
  if kd x0 = 11 ∧ x0 < NN then
  bn1 (
    if (I x0 11) = (1 : Int32) then
      (rf R x0 4 20).bind fun a5 =>
      bn1 (F_X12_wordOf N x0 a5 x1 (x2 + (1 : Int32)) I L R) fun v6 =>
      some (v6)
    else
      some ((-1 : Int32))
  ) fun (s1 : Int32) =>
  bn1 (
    if s1 = (-1 : Int32) then
      bn1 (F_X12_wrong x0 (2 : Int32) (I x0 12) I L R) fun I12 =>
      some (I12)
    else
      some (I)
  ) fun (I8 : MI) =>
  some (s1, I8)
  else none
set_option maxRecDepth 100000 in
set_option maxHeartbeats 4000000 in
theorem c_X12_planWord (l : Launch) (D : va_G) (cA : Nat → ClassId) (ad : Nat → Nat) (bs : Nat) (X : State → Prop) (hAd : Ax ad bs) (hX : Stb bs X) (N : Nat) (x0 : Nat) (x1 : Int32) (x2 : Int32) (I : MI) (L : ML) (R : MR) (r : Int32) (I' : MI) (h : F_X12_planWord N x0 x1 x2 I L R = some (r, I')) : Cn l D cA ad bs X yX12_planWord cX12_planWord 4 (some .int) 1 28 [.ref (ad x0), .int x1, .int x2] I L R (some (.int r), I', L, R) := by
  refine Cn.ofV hAd hX [(0, .ref (ad x0)), (1, .int x1), (2, .int x2)] rfl (Nat.le_of_ble_eq_true rfl) (by decide) ?_
  intro G el eD ecA ead ebs eX erm eNL C0
  subst el eD ecA ead ebs eX
  unfold F_X12_planWord at h
  obtain ⟨c_x0, h⟩ := ite_some h
  refine V_aload_n C0 0 rfl rfl dX12_planWord_0 ?_
  refine V_getI C0 11 11 fl_X12_138 c_x0.2 c_x0.1 rfl dX12_planWord_1 ?_
  refine V_iconst C0 (v := (1 : Int32)) (by decide) dX12_planWord_4 ?_
  obtain ⟨s1, q2, h⟩ := bn1_some h
  have k3 : V G (qf G (some (.int r), I', L, R)) 24 [(0, .ref (G.ad x0))] [.int s1] I L R := by
    refine V_istore_n C0 [(3, .int s1), (0, .ref (G.ad x0))] rfl (by rw [eNL]; decide) rfl dX12_planWord_24 ?_
    refine V_iload_n C0 0 rfl rfl dX12_planWord_25 ?_
    refine V_iconst C0 (v := (-1 : Int32)) (by decide) dX12_planWord_26 ?_
    obtain ⟨I8, q9, h⟩ := bn1_some h
    have k10 : V G (qf G (some (.int r), I', L, R)) 39 [(3, .int s1)] [] I8 L R := by
      refine V_iload_n C0 0 rfl rfl dX12_planWord_39 ?_
      cases h
      exact V_iret C0 dX12_planWord_40
    refine V_icmp_ne C0 (tgt := 39) (by decide) dX12_planWord_27 (fun c11 => ?_) (fun c11 => ?_)
    · have q9 := (if_neg c11).symm.trans q9
      cases q9
      exact V_sub [0] rfl k10
    · have q9 := (if_pos c11).symm.trans q9
      refine V_aload_n C0 1 rfl rfl dX12_planWord_30 ?_
      refine V_iconst C0 (v := (2 : Int32)) (by decide) dX12_planWord_31 ?_
      refine V_aload_n C0 1 rfl rfl dX12_planWord_32 ?_
      refine V_getI C0 11 12 fl_X12_135 c_x0.2 c_x0.1 rfl dX12_planWord_33 ?_
      obtain ⟨I12, q13, q9⟩ := bn1_some q9
      refine V_callV C0 (st := []) (As := [.int (2 : Int32), .int (I x0 12)]) 11 (c_X12_wrong G.l G.D G.cA G.ad G.bs G.X C0.2.2.2.2.2.2.2.2.2.1 C0.2.2.2.2.2.2.2.2.2.2.2.2 x0 (2 : Int32) (I x0 12) I L R I12 q13) lc_X12_wrong lk_X12_157 c_x0.2 c_x0.1 ⟨_, rfl, rfl⟩ rfl (by rw [erm]; decide) (Nat.le_of_ble_eq_true rfl) dX12_planWord_36 ?_
      show V G _ 39 [(3, .int s1), (0, .ref (G.ad x0))] [] I12 L R
      cases q9
      exact V_sub [0] rfl k10
  refine V_icmp_ne C0 (tgt := 23) (by decide) dX12_planWord_5 (fun c4 => ?_) (fun c4 => ?_)
  · have q2 := (if_neg c4).symm.trans q2
    refine V_iconst C0 (v := (-1 : Int32)) (by decide) dX12_planWord_23 ?_
    cases q2
    exact V_sub [0] rfl k3
  · have q2 := (if_pos c4).symm.trans q2
    refine V_aload_n C0 0 rfl rfl dX12_planWord_8 ?_
    refine V_aload_n C0 0 rfl rfl dX12_planWord_9 ?_
    obtain ⟨a5, qa5, q2⟩ := bnd_some q2
    refine V_getR C0 11 4 fl_X12_22 c_x0.2 c_x0.1 rfl (rf_at qa5) dX12_planWord_10 ?_
    refine V_iload_n C0 1 rfl rfl dX12_planWord_13 ?_
    refine V_iload_n C0 2 rfl rfl dX12_planWord_14 ?_
    refine V_iconst C0 (v := (1 : Int32)) (by decide) dX12_planWord_15 ?_
    refine V_iadd C0 dX12_planWord_16 ?_
    obtain ⟨v6, q7, q2⟩ := bn1_some q2
    refine V_callV C0 (st := []) (As := [.ref (G.ad a5), .int x1, .int (x2 + (1 : Int32))]) 11 (c_X12_wordOf G.l G.D G.cA G.ad G.bs G.X C0.2.2.2.2.2.2.2.2.2.1 C0.2.2.2.2.2.2.2.2.2.2.2.2 N x0 a5 x1 (x2 + (1 : Int32)) I L R v6 q7) lc_X12_wordOf lk_X12_182 c_x0.2 c_x0.1 ⟨_, rfl, rfl⟩ rfl (by rw [erm]; decide) (Nat.le_of_ble_eq_true rfl) dX12_planWord_17 ?_
    show V G _ 20 [(0, .ref (G.ad x0)), (1, .int x1), (2, .int x2)] [.int v6] I L R
    refine V_goto C0 (tgt := 24) (by decide) dX12_planWord_20 ?_
    cases q2
    exact V_sub [0] rfl k3
theorem dX12_readTerm_0 : decode cX12_readTerm 0 = .ok (.aload_n 0, 1) := by decide +kernel
theorem dX12_readTerm_1 : decode cX12_readTerm 1 = .ok (.invokevirtual 164, 3) := by decide +kernel
theorem dX12_readTerm_4 : decode cX12_readTerm 4 = .ok (.ifCond .ne 4, 3) := by decide +kernel
theorem dX12_readTerm_7 : decode cX12_readTerm 7 = .ok (.return_, 1) := by decide +kernel
theorem dX12_readTerm_8 : decode cX12_readTerm 8 = .ok (.aload_n 0, 1) := by decide +kernel
theorem dX12_readTerm_9 : decode cX12_readTerm 9 = .ok (.iconst 3, 1) := by decide +kernel
theorem dX12_readTerm_10 : decode cX12_readTerm 10 = .ok (.bipush 9, 2) := by decide +kernel
theorem dX12_readTerm_12 : decode cX12_readTerm 12 = .ok (.invokevirtual 348, 3) := by decide +kernel
theorem dX12_readTerm_15 : decode cX12_readTerm 15 = .ok (.istore_n 2, 1) := by decide +kernel
theorem dX12_readTerm_16 : decode cX12_readTerm 16 = .ok (.aload_n 0, 1) := by decide +kernel
theorem dX12_readTerm_17 : decode cX12_readTerm 17 = .ok (.getfield 128, 3) := by decide +kernel
theorem dX12_readTerm_20 : decode cX12_readTerm 20 = .ok (.ifCond .le 4, 3) := by decide +kernel
theorem dX12_readTerm_23 : decode cX12_readTerm 23 = .ok (.return_, 1) := by decide +kernel
theorem dX12_readTerm_24 : decode cX12_readTerm 24 = .ok (.aload_n 0, 1) := by decide +kernel
theorem dX12_readTerm_25 : decode cX12_readTerm 25 = .ok (.getfield 84, 3) := by decide +kernel
theorem dX12_readTerm_28 : decode cX12_readTerm 28 = .ok (.iload_n 1, 1) := by decide +kernel
theorem dX12_readTerm_29 : decode cX12_readTerm 29 = .ok (.iconst 2, 1) := by decide +kernel
theorem dX12_readTerm_30 : decode cX12_readTerm 30 = .ok (.iadd, 1) := by decide +kernel
theorem dX12_readTerm_31 : decode cX12_readTerm 31 = .ok (.iload_n 2, 1) := by decide +kernel
theorem dX12_readTerm_32 : decode cX12_readTerm 32 = .ok (.iastore, 1) := by decide +kernel
theorem dX12_readTerm_33 : decode cX12_readTerm 33 = .ok (.iload_n 2, 1) := by decide +kernel
theorem dX12_readTerm_34 : decode cX12_readTerm 34 = .ok (.iconst 3, 1) := by decide +kernel
theorem dX12_readTerm_35 : decode cX12_readTerm 35 = .ok (.if_icmp .ne 19, 3) := by decide +kernel
theorem dX12_readTerm_38 : decode cX12_readTerm 38 = .ok (.aload_n 0, 1) := by decide +kernel
theorem dX12_readTerm_39 : decode cX12_readTerm 39 = .ok (.getfield 84, 3) := by decide +kernel
theorem dX12_readTerm_42 : decode cX12_readTerm 42 = .ok (.iload_n 1, 1) := by decide +kernel
theorem dX12_readTerm_43 : decode cX12_readTerm 43 = .ok (.iconst 3, 1) := by decide +kernel
theorem dX12_readTerm_44 : decode cX12_readTerm 44 = .ok (.iadd, 1) := by decide +kernel
theorem dX12_readTerm_45 : decode cX12_readTerm 45 = .ok (.aload_n 0, 1) := by decide +kernel
theorem dX12_readTerm_46 : decode cX12_readTerm 46 = .ok (.iconst 1, 1) := by decide +kernel
theorem dX12_readTerm_47 : decode cX12_readTerm 47 = .ok (.invokevirtual 351, 3) := by decide +kernel
theorem dX12_readTerm_50 : decode cX12_readTerm 50 = .ok (.iastore, 1) := by decide +kernel
theorem dX12_readTerm_51 : decode cX12_readTerm 51 = .ok (.goto 89, 3) := by decide +kernel
theorem dX12_readTerm_54 : decode cX12_readTerm 54 = .ok (.iload_n 2, 1) := by decide +kernel
theorem dX12_readTerm_55 : decode cX12_readTerm 55 = .ok (.iconst 4, 1) := by decide +kernel
theorem dX12_readTerm_56 : decode cX12_readTerm 56 = .ok (.if_icmp .ne 19, 3) := by decide +kernel
theorem dX12_readTerm_59 : decode cX12_readTerm 59 = .ok (.aload_n 0, 1) := by decide +kernel
theorem dX12_readTerm_60 : decode cX12_readTerm 60 = .ok (.getfield 84, 3) := by decide +kernel
theorem dX12_readTerm_63 : decode cX12_readTerm 63 = .ok (.iload_n 1, 1) := by decide +kernel
theorem dX12_readTerm_64 : decode cX12_readTerm 64 = .ok (.iconst 3, 1) := by decide +kernel
theorem dX12_readTerm_65 : decode cX12_readTerm 65 = .ok (.iadd, 1) := by decide +kernel
theorem dX12_readTerm_66 : decode cX12_readTerm 66 = .ok (.aload_n 0, 1) := by decide +kernel
theorem dX12_readTerm_67 : decode cX12_readTerm 67 = .ok (.iconst 0, 1) := by decide +kernel
theorem dX12_readTerm_68 : decode cX12_readTerm 68 = .ok (.invokevirtual 351, 3) := by decide +kernel
theorem dX12_readTerm_71 : decode cX12_readTerm 71 = .ok (.iastore, 1) := by decide +kernel
theorem dX12_readTerm_72 : decode cX12_readTerm 72 = .ok (.goto 68, 3) := by decide +kernel
theorem dX12_readTerm_75 : decode cX12_readTerm 75 = .ok (.iload_n 2, 1) := by decide +kernel
theorem dX12_readTerm_76 : decode cX12_readTerm 76 = .ok (.iconst 5, 1) := by decide +kernel
theorem dX12_readTerm_77 : decode cX12_readTerm 77 = .ok (.if_icmp .ne 20, 3) := by decide +kernel
theorem dX12_readTerm_80 : decode cX12_readTerm 80 = .ok (.aload_n 0, 1) := by decide +kernel
theorem dX12_readTerm_81 : decode cX12_readTerm 81 = .ok (.getfield 84, 3) := by decide +kernel
theorem dX12_readTerm_84 : decode cX12_readTerm 84 = .ok (.iload_n 1, 1) := by decide +kernel
theorem dX12_readTerm_85 : decode cX12_readTerm 85 = .ok (.iconst 3, 1) := by decide +kernel
theorem dX12_readTerm_86 : decode cX12_readTerm 86 = .ok (.iadd, 1) := by decide +kernel
theorem dX12_readTerm_87 : decode cX12_readTerm 87 = .ok (.aload_n 0, 1) := by decide +kernel
theorem dX12_readTerm_88 : decode cX12_readTerm 88 = .ok (.bipush 16, 2) := by decide +kernel
theorem dX12_readTerm_90 : decode cX12_readTerm 90 = .ok (.invokevirtual 351, 3) := by decide +kernel
theorem dX12_readTerm_93 : decode cX12_readTerm 93 = .ok (.iastore, 1) := by decide +kernel
theorem dX12_readTerm_94 : decode cX12_readTerm 94 = .ok (.goto 46, 3) := by decide +kernel
theorem dX12_readTerm_97 : decode cX12_readTerm 97 = .ok (.iload_n 2, 1) := by decide +kernel
theorem dX12_readTerm_98 : decode cX12_readTerm 98 = .ok (.bipush 6, 2) := by decide +kernel
theorem dX12_readTerm_100 : decode cX12_readTerm 100 = .ok (.if_icmp .ne 20, 3) := by decide +kernel
theorem dX12_readTerm_103 : decode cX12_readTerm 103 = .ok (.aload_n 0, 1) := by decide +kernel
theorem dX12_readTerm_104 : decode cX12_readTerm 104 = .ok (.getfield 84, 3) := by decide +kernel
theorem dX12_readTerm_107 : decode cX12_readTerm 107 = .ok (.iload_n 1, 1) := by decide +kernel
theorem dX12_readTerm_108 : decode cX12_readTerm 108 = .ok (.iconst 3, 1) := by decide +kernel
theorem dX12_readTerm_109 : decode cX12_readTerm 109 = .ok (.iadd, 1) := by decide +kernel
theorem dX12_readTerm_110 : decode cX12_readTerm 110 = .ok (.aload_n 0, 1) := by decide +kernel
theorem dX12_readTerm_111 : decode cX12_readTerm 111 = .ok (.bipush 9, 2) := by decide +kernel
theorem dX12_readTerm_113 : decode cX12_readTerm 113 = .ok (.invokevirtual 351, 3) := by decide +kernel
theorem dX12_readTerm_116 : decode cX12_readTerm 116 = .ok (.iastore, 1) := by decide +kernel
theorem dX12_readTerm_117 : decode cX12_readTerm 117 = .ok (.goto 23, 3) := by decide +kernel
theorem dX12_readTerm_120 : decode cX12_readTerm 120 = .ok (.iload_n 2, 1) := by decide +kernel
theorem dX12_readTerm_121 : decode cX12_readTerm 121 = .ok (.bipush 7, 2) := by decide +kernel
theorem dX12_readTerm_123 : decode cX12_readTerm 123 = .ok (.if_icmp .eq 17, 3) := by decide +kernel
theorem dX12_readTerm_126 : decode cX12_readTerm 126 = .ok (.aload_n 0, 1) := by decide +kernel
theorem dX12_readTerm_127 : decode cX12_readTerm 127 = .ok (.getfield 84, 3) := by decide +kernel
theorem dX12_readTerm_130 : decode cX12_readTerm 130 = .ok (.iload_n 1, 1) := by decide +kernel
theorem dX12_readTerm_131 : decode cX12_readTerm 131 = .ok (.iconst 3, 1) := by decide +kernel
theorem dX12_readTerm_132 : decode cX12_readTerm 132 = .ok (.iadd, 1) := by decide +kernel
theorem dX12_readTerm_133 : decode cX12_readTerm 133 = .ok (.aload_n 0, 1) := by decide +kernel
theorem dX12_readTerm_134 : decode cX12_readTerm 134 = .ok (.iconst 0, 1) := by decide +kernel
theorem dX12_readTerm_135 : decode cX12_readTerm 135 = .ok (.iconst 2, 1) := by decide +kernel
theorem dX12_readTerm_136 : decode cX12_readTerm 136 = .ok (.invokevirtual 195, 3) := by decide +kernel
theorem dX12_readTerm_139 : decode cX12_readTerm 139 = .ok (.iastore, 1) := by decide +kernel
theorem dX12_readTerm_140 : decode cX12_readTerm 140 = .ok (.aload_n 0, 1) := by decide +kernel
theorem dX12_readTerm_141 : decode cX12_readTerm 141 = .ok (.invokevirtual 164, 3) := by decide +kernel
theorem dX12_readTerm_144 : decode cX12_readTerm 144 = .ok (.ifCond .ne 4, 3) := by decide +kernel
theorem dX12_readTerm_147 : decode cX12_readTerm 147 = .ok (.return_, 1) := by decide +kernel
theorem dX12_readTerm_148 : decode cX12_readTerm 148 = .ok (.aload_n 0, 1) := by decide +kernel
theorem dX12_readTerm_149 : decode cX12_readTerm 149 = .ok (.getfield 138, 3) := by decide +kernel
theorem dX12_readTerm_152 : decode cX12_readTerm 152 = .ok (.iconst 3, 1) := by decide +kernel
theorem dX12_readTerm_153 : decode cX12_readTerm 153 = .ok (.if_icmp .ne 12, 3) := by decide +kernel
theorem dX12_readTerm_156 : decode cX12_readTerm 156 = .ok (.aload_n 0, 1) := by decide +kernel
theorem dX12_readTerm_157 : decode cX12_readTerm 157 = .ok (.getfield 154, 3) := by decide +kernel
theorem dX12_readTerm_160 : decode cX12_readTerm 160 = .ok (.bipush 59, 2) := by decide +kernel
theorem dX12_readTerm_162 : decode cX12_readTerm 162 = .ok (.if_icmp .ne 13, 3) := by decide +kernel
theorem dX12_readTerm_165 : decode cX12_readTerm 165 = .ok (.aload_n 0, 1) := by decide +kernel
theorem dX12_readTerm_166 : decode cX12_readTerm 166 = .ok (.iconst 2, 1) := by decide +kernel
theorem dX12_readTerm_167 : decode cX12_readTerm 167 = .ok (.aload_n 0, 1) := by decide +kernel
theorem dX12_readTerm_168 : decode cX12_readTerm 168 = .ok (.getfield 135, 3) := by decide +kernel
theorem dX12_readTerm_171 : decode cX12_readTerm 171 = .ok (.invokevirtual 157, 3) := by decide +kernel
theorem dX12_readTerm_174 : decode cX12_readTerm 174 = .ok (.return_, 1) := by decide +kernel
theorem dX12_readTerm_175 : decode cX12_readTerm 175 = .ok (.aload_n 0, 1) := by decide +kernel
theorem dX12_readTerm_176 : decode cX12_readTerm 176 = .ok (.getfield 84, 3) := by decide +kernel
theorem dX12_readTerm_179 : decode cX12_readTerm 179 = .ok (.iload_n 1, 1) := by decide +kernel
theorem dX12_readTerm_180 : decode cX12_readTerm 180 = .ok (.iconst 4, 1) := by decide +kernel
theorem dX12_readTerm_181 : decode cX12_readTerm 181 = .ok (.iadd, 1) := by decide +kernel
theorem dX12_readTerm_182 : decode cX12_readTerm 182 = .ok (.aload_n 0, 1) := by decide +kernel
theorem dX12_readTerm_183 : decode cX12_readTerm 183 = .ok (.getfield 154, 3) := by decide +kernel
theorem dX12_readTerm_186 : decode cX12_readTerm 186 = .ok (.bipush 62, 2) := by decide +kernel
theorem dX12_readTerm_188 : decode cX12_readTerm 188 = .ok (.if_icmp .ne 7, 3) := by decide +kernel
theorem dX12_readTerm_191 : decode cX12_readTerm 191 = .ok (.iconst 1, 1) := by decide +kernel
theorem dX12_readTerm_192 : decode cX12_readTerm 192 = .ok (.goto 4, 3) := by decide +kernel
theorem dX12_readTerm_195 : decode cX12_readTerm 195 = .ok (.iconst 0, 1) := by decide +kernel
theorem dX12_readTerm_196 : decode cX12_readTerm 196 = .ok (.iastore, 1) := by decide +kernel
theorem dX12_readTerm_197 : decode cX12_readTerm 197 = .ok (.aload_n 0, 1) := by decide +kernel
theorem dX12_readTerm_198 : decode cX12_readTerm 198 = .ok (.getfield 84, 3) := by decide +kernel
theorem dX12_readTerm_201 : decode cX12_readTerm 201 = .ok (.iload_n 1, 1) := by decide +kernel
theorem dX12_readTerm_202 : decode cX12_readTerm 202 = .ok (.iconst 1, 1) := by decide +kernel
theorem dX12_readTerm_203 : decode cX12_readTerm 203 = .ok (.iadd, 1) := by decide +kernel
theorem dX12_readTerm_204 : decode cX12_readTerm 204 = .ok (.aload_n 0, 1) := by decide +kernel
theorem dX12_readTerm_205 : decode cX12_readTerm 205 = .ok (.ldc 193, 2) := by decide +kernel
theorem dX12_readTerm_207 : decode cX12_readTerm 207 = .ok (.ldc 194, 2) := by decide +kernel
theorem dX12_readTerm_209 : decode cX12_readTerm 209 = .ok (.invokevirtual 195, 3) := by decide +kernel
theorem dX12_readTerm_212 : decode cX12_readTerm 212 = .ok (.iastore, 1) := by decide +kernel
theorem dX12_readTerm_213 : decode cX12_readTerm 213 = .ok (.return_, 1) := by decide +kernel
def F_X12_readTerm (N : Nat) (x0 : Nat) (x1 : Int32) (I : MI) (L : ML) (R : MR) : Option (MI) :=
  if kd x0 = 11 ∧ x0 < NN then
  bn2 (F_X12_next N x0 I L R) fun b1 I2 =>
  if (b2i b1) = 0 then
    some (I2)
  else
    bn2 (F_X12_planWord N x0 (3 : Int32) (9 : Int32) I2 L R) fun v5 I6 =>
    if (I6 x0 15) ≤ 0 then
      (rf R x0 55 20).bind fun a9 =>
      (wi I6 a9 (x1 + (2 : Int32)) v5).bind fun I10 =>
      bn1 (
        if v5 = (3 : Int32) then
          bn2 (F_X12_unitNext N x0 (1 : Int32) I10 L R) fun v47 I48 =>
          (wi I48 a9 (x1 + (3 : Int32)) v47).bind fun I50 =>
          some (I50)
        else
          bn1 (
            if v5 = (4 : Int32) then
              bn2 (F_X12_unitNext N x0 (0 : Int32) I10 L R) fun v43 I44 =>
              (wi I44 a9 (x1 + (3 : Int32)) v43).bind fun I46 =>
              some (I46)
            else
              bn1 (
                if v5 = (5 : Int32) then
                  bn2 (F_X12_unitNext N x0 (16 : Int32) I10 L R) fun v39 I40 =>
                  (wi I40 a9 (x1 + (3 : Int32)) v39).bind fun I42 =>
                  some (I42)
                else
                  bn1 (
                    if v5 = (6 : Int32) then
                      bn2 (F_X12_unitNext N x0 (9 : Int32) I10 L R) fun v35 I36 =>
                      (wi I36 a9 (x1 + (3 : Int32)) v35).bind fun I38 =>
                      some (I38)
                    else
                      bn1 (
                        if v5 = (7 : Int32) then
                          some (I10)
                        else
                          bn2 (F_X12_number N x0 (0 : Int32) (2 : Int32) I10 L R) fun v31 I32 =>
                          (wi I32 a9 (x1 + (3 : Int32)) v31).bind fun I34 =>
                          some (I34)
                      ) fun (I27 : MI) =>
                      some (I27)
                  ) fun (I23 : MI) =>
                  some (I23)
              ) fun (I19 : MI) =>
              some (I19)
          ) fun (I15 : MI) =>
          some (I15)
      ) fun (I11 : MI) =>
      bn2 (F_X12_next N x0 I11 L R) fun b51 I52 =>
      if (b2i b51) = 0 then
        some (I52)
      else
        if (I52 x0 11) = (3 : Int32) then
          if (I52 x0 14) = (59 : Int32) then
            bn1 (F_X12_wrong x0 (2 : Int32) (I52 x0 12) I52 L R) fun I68 =>
            some (I68)
          else
            bn1 (
              if (I52 x0 14) = (62 : Int32) then
                some ((1 : Int32))
              else
                some ((0 : Int32))
            ) fun (s59 : Int32) =>
            (wi I52 a9 (x1 + (4 : Int32)) s59).bind fun I63 =>
            bn2 (F_X12_number N x0 (-99999 : Int32) (99999 : Int32) I63 L R) fun v64 I65 =>
            (wi I65 a9 (x1 + (1 : Int32)) v64).bind fun I67 =>
            some (I67)
        else
          bn1 (F_X12_wrong x0 (2 : Int32) (I52 x0 12) I52 L R) fun I56 =>
          some (I56)
    else
      some (I6)
  else none
set_option maxRecDepth 100000 in
set_option maxHeartbeats 4000000 in
theorem c_X12_readTerm (l : Launch) (D : va_G) (cA : Nat → ClassId) (ad : Nat → Nat) (bs : Nat) (X : State → Prop) (hAd : Ax ad bs) (hX : Stb bs X) (N : Nat) (x0 : Nat) (x1 : Int32) (I : MI) (L : ML) (R : MR) (I' : MI) (h : F_X12_readTerm N x0 x1 I L R = some (I')) : Cn l D cA ad bs X yX12_readTerm cX12_readTerm 3 none 4 87 [.ref (ad x0), .int x1] I L R (none, I', L, R) := by
  refine Cn.ofV hAd hX [(0, .ref (ad x0)), (1, .int x1)] rfl (Nat.le_of_ble_eq_true rfl) (by decide) ?_
  intro G el eD ecA ead ebs eX erm eNL C0
  subst el eD ecA ead ebs eX
  unfold F_X12_readTerm at h
  obtain ⟨c_x0, h⟩ := ite_some h
  refine V_aload_n C0 0 rfl rfl dX12_readTerm_0 ?_
  obtain ⟨b1, I2, q3, h⟩ := bn2_some h
  refine V_callV C0 (st := []) (As := []) 11 (c_X12_next G.l G.D G.cA G.ad G.bs G.X C0.2.2.2.2.2.2.2.2.2.1 C0.2.2.2.2.2.2.2.2.2.2.2.2 N x0 I L R b1 I2 q3) lc_X12_next lk_X12_164 c_x0.2 c_x0.1 ⟨_, rfl, rfl⟩ rfl (by rw [erm]; decide) (Nat.le_of_ble_eq_true rfl) dX12_readTerm_1 ?_
  show V G _ 4 [(0, .ref (G.ad x0)), (1, .int x1)] [.int (b2i b1)] I2 L R
  refine V_if_ne C0 (tgt := 8) (by decide) dX12_readTerm_4 (fun c4 => ?_) (fun c4 => ?_)
  · have h := (if_neg c4).symm.trans h
    refine V_aload_n C0 0 rfl rfl dX12_readTerm_8 ?_
    refine V_iconst C0 (v := (3 : Int32)) (by decide) dX12_readTerm_9 ?_
    refine V_bipush C0 (v := (9 : Int32)) (by decide) dX12_readTerm_10 ?_
    obtain ⟨v5, I6, q7, h⟩ := bn2_some h
    refine V_callV C0 (st := []) (As := [.int (3 : Int32), .int (9 : Int32)]) 11 (c_X12_planWord G.l G.D G.cA G.ad G.bs G.X C0.2.2.2.2.2.2.2.2.2.1 C0.2.2.2.2.2.2.2.2.2.2.2.2 N x0 (3 : Int32) (9 : Int32) I2 L R v5 I6 q7) lc_X12_planWord lk_X12_348 c_x0.2 c_x0.1 ⟨_, rfl, rfl⟩ rfl (by rw [erm]; decide) (Nat.le_of_ble_eq_true rfl) dX12_readTerm_12 ?_
    show V G _ 15 [(0, .ref (G.ad x0)), (1, .int x1)] [.int v5] I6 L R
    refine V_istore_n C0 [(2, .int v5), (0, .ref (G.ad x0)), (1, .int x1)] rfl (by rw [eNL]; decide) rfl dX12_readTerm_15 ?_
    refine V_aload_n C0 1 rfl rfl dX12_readTerm_16 ?_
    refine V_getI C0 11 15 fl_X12_128 c_x0.2 c_x0.1 rfl dX12_readTerm_17 ?_
    refine V_if_le C0 (tgt := 24) (by decide) dX12_readTerm_20 (fun c8 => ?_) (fun c8 => ?_)
    · have h := (if_pos c8).symm.trans h
      refine V_aload_n C0 1 rfl rfl dX12_readTerm_24 ?_
      obtain ⟨a9, qa9, h⟩ := bnd_some h
      refine V_getR C0 11 55 fl_X12_84 c_x0.2 c_x0.1 rfl (rf_at qa9) dX12_readTerm_25 ?_
      refine V_iload_n C0 2 rfl rfl dX12_readTerm_28 ?_
      refine V_iconst C0 (v := (2 : Int32)) (by decide) dX12_readTerm_29 ?_
      refine V_iadd C0 dX12_readTerm_30 ?_
      refine V_iload_n C0 0 rfl rfl dX12_readTerm_31 ?_
      obtain ⟨I10, qI10, h⟩ := bnd_some h
      refine V_wi C0 (rf_lt qa9) (rf_kd qa9) qI10 dX12_readTerm_32 ?_
      refine V_iload_n C0 0 rfl rfl dX12_readTerm_33 ?_
      refine V_iconst C0 (v := (3 : Int32)) (by decide) dX12_readTerm_34 ?_
      obtain ⟨I11, q12, h⟩ := bn1_some h
      have k13 : V G (qf G (none, I', L, R)) 140 [(0, .ref (G.ad x0)), (1, .int x1)] [] I11 L R := by
        refine V_aload_n C0 0 rfl rfl dX12_readTerm_140 ?_
        obtain ⟨b51, I52, q53, h⟩ := bn2_some h
        refine V_callV C0 (st := []) (As := []) 11 (c_X12_next G.l G.D G.cA G.ad G.bs G.X C0.2.2.2.2.2.2.2.2.2.1 C0.2.2.2.2.2.2.2.2.2.2.2.2 N x0 I11 L R b51 I52 q53) lc_X12_next lk_X12_164 c_x0.2 c_x0.1 ⟨_, rfl, rfl⟩ rfl (by rw [erm]; decide) (Nat.le_of_ble_eq_true rfl) dX12_readTerm_141 ?_
        show V G _ 144 [(0, .ref (G.ad x0)), (1, .int x1)] [.int (b2i b51)] I52 L R
        refine V_if_ne C0 (tgt := 148) (by decide) dX12_readTerm_144 (fun c54 => ?_) (fun c54 => ?_)
        · have h := (if_neg c54).symm.trans h
          refine V_aload_n C0 0 rfl rfl dX12_readTerm_148 ?_
          refine V_getI C0 11 11 fl_X12_138 c_x0.2 c_x0.1 rfl dX12_readTerm_149 ?_
          refine V_iconst C0 (v := (3 : Int32)) (by decide) dX12_readTerm_152 ?_
          refine V_icmp_ne C0 (tgt := 165) (by decide) dX12_readTerm_153 (fun c55 => ?_) (fun c55 => ?_)
          · have h := (if_neg c55).symm.trans h
            refine V_aload_n C0 0 rfl rfl dX12_readTerm_165 ?_
            refine V_iconst C0 (v := (2 : Int32)) (by decide) dX12_readTerm_166 ?_
            refine V_aload_n C0 0 rfl rfl dX12_readTerm_167 ?_
            refine V_getI C0 11 12 fl_X12_135 c_x0.2 c_x0.1 rfl dX12_readTerm_168 ?_
            obtain ⟨I56, q57, h⟩ := bn1_some h
            refine V_callV C0 (st := []) (As := [.int (2 : Int32), .int (I52 x0 12)]) 11 (c_X12_wrong G.l G.D G.cA G.ad G.bs G.X C0.2.2.2.2.2.2.2.2.2.1 C0.2.2.2.2.2.2.2.2.2.2.2.2 x0 (2 : Int32) (I52 x0 12) I52 L R I56 q57) lc_X12_wrong lk_X12_157 c_x0.2 c_x0.1 ⟨_, rfl, rfl⟩ rfl (by rw [erm]; decide) (Nat.le_of_ble_eq_true rfl) dX12_readTerm_171 ?_
            show V G _ 174 [(0, .ref (G.ad x0)), (1, .int x1)] [] I56 L R
            cases h
            exact V_vret C0 dX12_readTerm_174
          · have h := (if_pos c55).symm.trans h
            refine V_aload_n C0 0 rfl rfl dX12_readTerm_156 ?_
            refine V_getI C0 11 14 fl_X12_154 c_x0.2 c_x0.1 rfl dX12_readTerm_157 ?_
            refine V_bipush C0 (v := (59 : Int32)) (by decide) dX12_readTerm_160 ?_
            refine V_icmp_ne C0 (tgt := 175) (by decide) dX12_readTerm_162 (fun c58 => ?_) (fun c58 => ?_)
            · have h := (if_neg c58).symm.trans h
              refine V_aload_n C0 0 rfl rfl dX12_readTerm_175 ?_
              refine V_getR C0 11 55 fl_X12_84 c_x0.2 c_x0.1 rfl (rf_at qa9) dX12_readTerm_176 ?_
              refine V_iload_n C0 1 rfl rfl dX12_readTerm_179 ?_
              refine V_iconst C0 (v := (4 : Int32)) (by decide) dX12_readTerm_180 ?_
              refine V_iadd C0 dX12_readTerm_181 ?_
              refine V_aload_n C0 0 rfl rfl dX12_readTerm_182 ?_
              refine V_getI C0 11 14 fl_X12_154 c_x0.2 c_x0.1 rfl dX12_readTerm_183 ?_
              refine V_bipush C0 (v := (62 : Int32)) (by decide) dX12_readTerm_186 ?_
              obtain ⟨s59, q60, h⟩ := bn1_some h
              have k61 : V G (qf G (none, I', L, R)) 196 [(0, .ref (G.ad x0)), (1, .int x1)] [.int s59, .int (x1 + (4 : Int32)), .ref (G.ad a9)] I52 L R := by
                obtain ⟨I63, qI63, h⟩ := bnd_some h
                refine V_wi C0 (rf_lt qa9) (rf_kd qa9) qI63 dX12_readTerm_196 ?_
                refine V_aload_n C0 0 rfl rfl dX12_readTerm_197 ?_
                refine V_getR C0 11 55 fl_X12_84 c_x0.2 c_x0.1 rfl (rf_at qa9) dX12_readTerm_198 ?_
                refine V_iload_n C0 1 rfl rfl dX12_readTerm_201 ?_
                refine V_iconst C0 (v := (1 : Int32)) (by decide) dX12_readTerm_202 ?_
                refine V_iadd C0 dX12_readTerm_203 ?_
                refine V_aload_n C0 0 rfl rfl dX12_readTerm_204 ?_
                refine V_ldc C0 (v := (-99999 : Int32)) (gW_in _ (tb_8 _ (List.mem_of_getElem? (i := 79) rfl)) rfl) dX12_readTerm_205 ?_
                refine V_ldc C0 (v := (99999 : Int32)) (gW_in _ (tb_8 _ (List.mem_of_getElem? (i := 80) rfl)) rfl) dX12_readTerm_207 ?_
                obtain ⟨v64, I65, q66, h⟩ := bn2_some h
                refine V_callV C0 (st := [.int (x1 + (1 : Int32)), .ref (G.ad a9)]) (As := [.int (-99999 : Int32), .int (99999 : Int32)]) 11 (c_X12_number G.l G.D G.cA G.ad G.bs G.X C0.2.2.2.2.2.2.2.2.2.1 C0.2.2.2.2.2.2.2.2.2.2.2.2 N x0 (-99999 : Int32) (99999 : Int32) I63 L R v64 I65 q66) lc_X12_number lk_X12_195 c_x0.2 c_x0.1 ⟨_, rfl, rfl⟩ rfl (by rw [erm]; decide) (Nat.le_of_ble_eq_true rfl) dX12_readTerm_209 ?_
                show V G _ 212 [(0, .ref (G.ad x0)), (1, .int x1)] [.int v64, .int (x1 + (1 : Int32)), .ref (G.ad a9)] I65 L R
                obtain ⟨I67, qI67, h⟩ := bnd_some h
                refine V_wi C0 (rf_lt qa9) (rf_kd qa9) qI67 dX12_readTerm_212 ?_
                cases h
                exact V_vret C0 dX12_readTerm_213
              refine V_icmp_ne C0 (tgt := 195) (by decide) dX12_readTerm_188 (fun c62 => ?_) (fun c62 => ?_)
              · have q60 := (if_neg c62).symm.trans q60
                refine V_iconst C0 (v := (0 : Int32)) (by decide) dX12_readTerm_195 ?_
                cases q60
                exact V_sub [0, 1] rfl k61
              · have q60 := (if_pos c62).symm.trans q60
                refine V_iconst C0 (v := (1 : Int32)) (by decide) dX12_readTerm_191 ?_
                refine V_goto C0 (tgt := 196) (by decide) dX12_readTerm_192 ?_
                cases q60
                exact V_sub [0, 1] rfl k61
            · have h := (if_pos c58).symm.trans h
              refine V_aload_n C0 0 rfl rfl dX12_readTerm_165 ?_
              refine V_iconst C0 (v := (2 : Int32)) (by decide) dX12_readTerm_166 ?_
              refine V_aload_n C0 0 rfl rfl dX12_readTerm_167 ?_
              refine V_getI C0 11 12 fl_X12_135 c_x0.2 c_x0.1 rfl dX12_readTerm_168 ?_
              obtain ⟨I68, q69, h⟩ := bn1_some h
              refine V_callV C0 (st := []) (As := [.int (2 : Int32), .int (I52 x0 12)]) 11 (c_X12_wrong G.l G.D G.cA G.ad G.bs G.X C0.2.2.2.2.2.2.2.2.2.1 C0.2.2.2.2.2.2.2.2.2.2.2.2 x0 (2 : Int32) (I52 x0 12) I52 L R I68 q69) lc_X12_wrong lk_X12_157 c_x0.2 c_x0.1 ⟨_, rfl, rfl⟩ rfl (by rw [erm]; decide) (Nat.le_of_ble_eq_true rfl) dX12_readTerm_171 ?_
              show V G _ 174 [(0, .ref (G.ad x0)), (1, .int x1)] [] I68 L R
              cases h
              exact V_vret C0 dX12_readTerm_174
        · have h := (if_pos c54).symm.trans h
          cases h
          exact V_vret C0 dX12_readTerm_147
      refine V_icmp_ne C0 (tgt := 54) (by decide) dX12_readTerm_35 (fun c14 => ?_) (fun c14 => ?_)
      · have q12 := (if_neg c14).symm.trans q12
        refine V_iload_n C0 0 rfl rfl dX12_readTerm_54 ?_
        refine V_iconst C0 (v := (4 : Int32)) (by decide) dX12_readTerm_55 ?_
        obtain ⟨I15, q16, q12⟩ := bn1_some q12
        have k17 : V G (qf G (none, I', L, R)) 140 [(0, .ref (G.ad x0)), (1, .int x1)] [] I15 L R := by
          cases q12
          exact V_sub [0, 1] rfl k13
        refine V_icmp_ne C0 (tgt := 75) (by decide) dX12_readTerm_56 (fun c18 => ?_) (fun c18 => ?_)
        · have q16 := (if_neg c18).symm.trans q16
          refine V_iload_n C0 0 rfl rfl dX12_readTerm_75 ?_
          refine V_iconst C0 (v := (5 : Int32)) (by decide) dX12_readTerm_76 ?_
          obtain ⟨I19, q20, q16⟩ := bn1_some q16
          have k21 : V G (qf G (none, I', L, R)) 140 [(0, .ref (G.ad x0)), (1, .int x1)] [] I19 L R := by
            cases q16
            exact V_sub [0, 1] rfl k17
          refine V_icmp_ne C0 (tgt := 97) (by decide) dX12_readTerm_77 (fun c22 => ?_) (fun c22 => ?_)
          · have q20 := (if_neg c22).symm.trans q20
            refine V_iload_n C0 0 rfl rfl dX12_readTerm_97 ?_
            refine V_bipush C0 (v := (6 : Int32)) (by decide) dX12_readTerm_98 ?_
            obtain ⟨I23, q24, q20⟩ := bn1_some q20
            have k25 : V G (qf G (none, I', L, R)) 140 [(0, .ref (G.ad x0)), (1, .int x1)] [] I23 L R := by
              cases q20
              exact V_sub [0, 1] rfl k21
            refine V_icmp_ne C0 (tgt := 120) (by decide) dX12_readTerm_100 (fun c26 => ?_) (fun c26 => ?_)
            · have q24 := (if_neg c26).symm.trans q24
              refine V_iload_n C0 0 rfl rfl dX12_readTerm_120 ?_
              refine V_bipush C0 (v := (7 : Int32)) (by decide) dX12_readTerm_121 ?_
              obtain ⟨I27, q28, q24⟩ := bn1_some q24
              have k29 : V G (qf G (none, I', L, R)) 140 [(0, .ref (G.ad x0)), (1, .int x1)] [] I27 L R := by
                cases q24
                exact V_sub [0, 1] rfl k25
              refine V_icmp_eq C0 (tgt := 140) (by decide) dX12_readTerm_123 (fun c30 => ?_) (fun c30 => ?_)
              · have q28 := (if_pos c30).symm.trans q28
                cases q28
                exact V_sub [1, 2] rfl k29
              · have q28 := (if_neg c30).symm.trans q28
                refine V_aload_n C0 1 rfl rfl dX12_readTerm_126 ?_
                refine V_getR C0 11 55 fl_X12_84 c_x0.2 c_x0.1 rfl (rf_at qa9) dX12_readTerm_127 ?_
                refine V_iload_n C0 2 rfl rfl dX12_readTerm_130 ?_
                refine V_iconst C0 (v := (3 : Int32)) (by decide) dX12_readTerm_131 ?_
                refine V_iadd C0 dX12_readTerm_132 ?_
                refine V_aload_n C0 1 rfl rfl dX12_readTerm_133 ?_
                refine V_iconst C0 (v := (0 : Int32)) (by decide) dX12_readTerm_134 ?_
                refine V_iconst C0 (v := (2 : Int32)) (by decide) dX12_readTerm_135 ?_
                obtain ⟨v31, I32, q33, q28⟩ := bn2_some q28
                refine V_callV C0 (st := [.int (x1 + (3 : Int32)), .ref (G.ad a9)]) (As := [.int (0 : Int32), .int (2 : Int32)]) 11 (c_X12_number G.l G.D G.cA G.ad G.bs G.X C0.2.2.2.2.2.2.2.2.2.1 C0.2.2.2.2.2.2.2.2.2.2.2.2 N x0 (0 : Int32) (2 : Int32) I10 L R v31 I32 q33) lc_X12_number lk_X12_195 c_x0.2 c_x0.1 ⟨_, rfl, rfl⟩ rfl (by rw [erm]; decide) (Nat.le_of_ble_eq_true rfl) dX12_readTerm_136 ?_
                show V G _ 139 [(2, .int v5), (0, .ref (G.ad x0)), (1, .int x1)] [.int v31, .int (x1 + (3 : Int32)), .ref (G.ad a9)] I32 L R
                obtain ⟨I34, qI34, q28⟩ := bnd_some q28
                refine V_wi C0 (rf_lt qa9) (rf_kd qa9) qI34 dX12_readTerm_139 ?_
                cases q28
                exact V_sub [1, 2] rfl k29
            · have q24 := (if_pos c26).symm.trans q24
              refine V_aload_n C0 1 rfl rfl dX12_readTerm_103 ?_
              refine V_getR C0 11 55 fl_X12_84 c_x0.2 c_x0.1 rfl (rf_at qa9) dX12_readTerm_104 ?_
              refine V_iload_n C0 2 rfl rfl dX12_readTerm_107 ?_
              refine V_iconst C0 (v := (3 : Int32)) (by decide) dX12_readTerm_108 ?_
              refine V_iadd C0 dX12_readTerm_109 ?_
              refine V_aload_n C0 1 rfl rfl dX12_readTerm_110 ?_
              refine V_bipush C0 (v := (9 : Int32)) (by decide) dX12_readTerm_111 ?_
              obtain ⟨v35, I36, q37, q24⟩ := bn2_some q24
              refine V_callV C0 (st := [.int (x1 + (3 : Int32)), .ref (G.ad a9)]) (As := [.int (9 : Int32)]) 11 (c_X12_unitNext G.l G.D G.cA G.ad G.bs G.X C0.2.2.2.2.2.2.2.2.2.1 C0.2.2.2.2.2.2.2.2.2.2.2.2 N x0 (9 : Int32) I10 L R v35 I36 q37) lc_X12_unitNext lk_X12_351 c_x0.2 c_x0.1 ⟨_, rfl, rfl⟩ rfl (by rw [erm]; decide) (Nat.le_of_ble_eq_true rfl) dX12_readTerm_113 ?_
              show V G _ 116 [(2, .int v5), (0, .ref (G.ad x0)), (1, .int x1)] [.int v35, .int (x1 + (3 : Int32)), .ref (G.ad a9)] I36 L R
              obtain ⟨I38, qI38, q24⟩ := bnd_some q24
              refine V_wi C0 (rf_lt qa9) (rf_kd qa9) qI38 dX12_readTerm_116 ?_
              refine V_goto C0 (tgt := 140) (by decide) dX12_readTerm_117 ?_
              cases q24
              exact V_sub [1, 2] rfl k25
          · have q20 := (if_pos c22).symm.trans q20
            refine V_aload_n C0 1 rfl rfl dX12_readTerm_80 ?_
            refine V_getR C0 11 55 fl_X12_84 c_x0.2 c_x0.1 rfl (rf_at qa9) dX12_readTerm_81 ?_
            refine V_iload_n C0 2 rfl rfl dX12_readTerm_84 ?_
            refine V_iconst C0 (v := (3 : Int32)) (by decide) dX12_readTerm_85 ?_
            refine V_iadd C0 dX12_readTerm_86 ?_
            refine V_aload_n C0 1 rfl rfl dX12_readTerm_87 ?_
            refine V_bipush C0 (v := (16 : Int32)) (by decide) dX12_readTerm_88 ?_
            obtain ⟨v39, I40, q41, q20⟩ := bn2_some q20
            refine V_callV C0 (st := [.int (x1 + (3 : Int32)), .ref (G.ad a9)]) (As := [.int (16 : Int32)]) 11 (c_X12_unitNext G.l G.D G.cA G.ad G.bs G.X C0.2.2.2.2.2.2.2.2.2.1 C0.2.2.2.2.2.2.2.2.2.2.2.2 N x0 (16 : Int32) I10 L R v39 I40 q41) lc_X12_unitNext lk_X12_351 c_x0.2 c_x0.1 ⟨_, rfl, rfl⟩ rfl (by rw [erm]; decide) (Nat.le_of_ble_eq_true rfl) dX12_readTerm_90 ?_
            show V G _ 93 [(2, .int v5), (0, .ref (G.ad x0)), (1, .int x1)] [.int v39, .int (x1 + (3 : Int32)), .ref (G.ad a9)] I40 L R
            obtain ⟨I42, qI42, q20⟩ := bnd_some q20
            refine V_wi C0 (rf_lt qa9) (rf_kd qa9) qI42 dX12_readTerm_93 ?_
            refine V_goto C0 (tgt := 140) (by decide) dX12_readTerm_94 ?_
            cases q20
            exact V_sub [1, 2] rfl k21
        · have q16 := (if_pos c18).symm.trans q16
          refine V_aload_n C0 1 rfl rfl dX12_readTerm_59 ?_
          refine V_getR C0 11 55 fl_X12_84 c_x0.2 c_x0.1 rfl (rf_at qa9) dX12_readTerm_60 ?_
          refine V_iload_n C0 2 rfl rfl dX12_readTerm_63 ?_
          refine V_iconst C0 (v := (3 : Int32)) (by decide) dX12_readTerm_64 ?_
          refine V_iadd C0 dX12_readTerm_65 ?_
          refine V_aload_n C0 1 rfl rfl dX12_readTerm_66 ?_
          refine V_iconst C0 (v := (0 : Int32)) (by decide) dX12_readTerm_67 ?_
          obtain ⟨v43, I44, q45, q16⟩ := bn2_some q16
          refine V_callV C0 (st := [.int (x1 + (3 : Int32)), .ref (G.ad a9)]) (As := [.int (0 : Int32)]) 11 (c_X12_unitNext G.l G.D G.cA G.ad G.bs G.X C0.2.2.2.2.2.2.2.2.2.1 C0.2.2.2.2.2.2.2.2.2.2.2.2 N x0 (0 : Int32) I10 L R v43 I44 q45) lc_X12_unitNext lk_X12_351 c_x0.2 c_x0.1 ⟨_, rfl, rfl⟩ rfl (by rw [erm]; decide) (Nat.le_of_ble_eq_true rfl) dX12_readTerm_68 ?_
          show V G _ 71 [(2, .int v5), (0, .ref (G.ad x0)), (1, .int x1)] [.int v43, .int (x1 + (3 : Int32)), .ref (G.ad a9)] I44 L R
          obtain ⟨I46, qI46, q16⟩ := bnd_some q16
          refine V_wi C0 (rf_lt qa9) (rf_kd qa9) qI46 dX12_readTerm_71 ?_
          refine V_goto C0 (tgt := 140) (by decide) dX12_readTerm_72 ?_
          cases q16
          exact V_sub [1, 2] rfl k17
      · have q12 := (if_pos c14).symm.trans q12
        refine V_aload_n C0 1 rfl rfl dX12_readTerm_38 ?_
        refine V_getR C0 11 55 fl_X12_84 c_x0.2 c_x0.1 rfl (rf_at qa9) dX12_readTerm_39 ?_
        refine V_iload_n C0 2 rfl rfl dX12_readTerm_42 ?_
        refine V_iconst C0 (v := (3 : Int32)) (by decide) dX12_readTerm_43 ?_
        refine V_iadd C0 dX12_readTerm_44 ?_
        refine V_aload_n C0 1 rfl rfl dX12_readTerm_45 ?_
        refine V_iconst C0 (v := (1 : Int32)) (by decide) dX12_readTerm_46 ?_
        obtain ⟨v47, I48, q49, q12⟩ := bn2_some q12
        refine V_callV C0 (st := [.int (x1 + (3 : Int32)), .ref (G.ad a9)]) (As := [.int (1 : Int32)]) 11 (c_X12_unitNext G.l G.D G.cA G.ad G.bs G.X C0.2.2.2.2.2.2.2.2.2.1 C0.2.2.2.2.2.2.2.2.2.2.2.2 N x0 (1 : Int32) I10 L R v47 I48 q49) lc_X12_unitNext lk_X12_351 c_x0.2 c_x0.1 ⟨_, rfl, rfl⟩ rfl (by rw [erm]; decide) (Nat.le_of_ble_eq_true rfl) dX12_readTerm_47 ?_
        show V G _ 50 [(2, .int v5), (0, .ref (G.ad x0)), (1, .int x1)] [.int v47, .int (x1 + (3 : Int32)), .ref (G.ad a9)] I48 L R
        obtain ⟨I50, qI50, q12⟩ := bnd_some q12
        refine V_wi C0 (rf_lt qa9) (rf_kd qa9) qI50 dX12_readTerm_50 ?_
        refine V_goto C0 (tgt := 140) (by decide) dX12_readTerm_51 ?_
        cases q12
        exact V_sub [1, 2] rfl k13
    · have h := (if_neg c8).symm.trans h
      cases h
      exact V_vret C0 dX12_readTerm_23
  · have h := (if_pos c4).symm.trans h
    cases h
    exact V_vret C0 dX12_readTerm_7
theorem dX12_readAct_0 : decode cX12_readAct 0 = .ok (.aload_n 0, 1) := by decide +kernel
theorem dX12_readAct_1 : decode cX12_readAct 1 = .ok (.invokevirtual 164, 3) := by decide +kernel
theorem dX12_readAct_4 : decode cX12_readAct 4 = .ok (.ifCond .ne 4, 3) := by decide +kernel
theorem dX12_readAct_7 : decode cX12_readAct 7 = .ok (.return_, 1) := by decide +kernel
theorem dX12_readAct_8 : decode cX12_readAct 8 = .ok (.aload_n 0, 1) := by decide +kernel
theorem dX12_readAct_9 : decode cX12_readAct 9 = .ok (.bipush 10, 2) := by decide +kernel
theorem dX12_readAct_11 : decode cX12_readAct 11 = .ok (.bipush 16, 2) := by decide +kernel
theorem dX12_readAct_13 : decode cX12_readAct 13 = .ok (.invokevirtual 348, 3) := by decide +kernel
theorem dX12_readAct_16 : decode cX12_readAct 16 = .ok (.istore_n 2, 1) := by decide +kernel
theorem dX12_readAct_17 : decode cX12_readAct 17 = .ok (.aload_n 0, 1) := by decide +kernel
theorem dX12_readAct_18 : decode cX12_readAct 18 = .ok (.getfield 128, 3) := by decide +kernel
theorem dX12_readAct_21 : decode cX12_readAct 21 = .ok (.ifCond .le 4, 3) := by decide +kernel
theorem dX12_readAct_24 : decode cX12_readAct 24 = .ok (.return_, 1) := by decide +kernel
theorem dX12_readAct_25 : decode cX12_readAct 25 = .ok (.aload_n 0, 1) := by decide +kernel
theorem dX12_readAct_26 : decode cX12_readAct 26 = .ok (.getfield 84, 3) := by decide +kernel
theorem dX12_readAct_29 : decode cX12_readAct 29 = .ok (.iload_n 1, 1) := by decide +kernel
theorem dX12_readAct_30 : decode cX12_readAct 30 = .ok (.iconst 5, 1) := by decide +kernel
theorem dX12_readAct_31 : decode cX12_readAct 31 = .ok (.iadd, 1) := by decide +kernel
theorem dX12_readAct_32 : decode cX12_readAct 32 = .ok (.iload_n 2, 1) := by decide +kernel
theorem dX12_readAct_33 : decode cX12_readAct 33 = .ok (.bipush 10, 2) := by decide +kernel
theorem dX12_readAct_35 : decode cX12_readAct 35 = .ok (.isub, 1) := by decide +kernel
theorem dX12_readAct_36 : decode cX12_readAct 36 = .ok (.iastore, 1) := by decide +kernel
theorem dX12_readAct_37 : decode cX12_readAct 37 = .ok (.iload_n 2, 1) := by decide +kernel
theorem dX12_readAct_38 : decode cX12_readAct 38 = .ok (.bipush 12, 2) := by decide +kernel
theorem dX12_readAct_40 : decode cX12_readAct 40 = .ok (.if_icmp .ne 21, 3) := by decide +kernel
theorem dX12_readAct_43 : decode cX12_readAct 43 = .ok (.aload_n 0, 1) := by decide +kernel
theorem dX12_readAct_44 : decode cX12_readAct 44 = .ok (.getfield 84, 3) := by decide +kernel
theorem dX12_readAct_47 : decode cX12_readAct 47 = .ok (.iload_n 1, 1) := by decide +kernel
theorem dX12_readAct_48 : decode cX12_readAct 48 = .ok (.bipush 6, 2) := by decide +kernel
theorem dX12_readAct_50 : decode cX12_readAct 50 = .ok (.iadd, 1) := by decide +kernel
theorem dX12_readAct_51 : decode cX12_readAct 51 = .ok (.aload_n 0, 1) := by decide +kernel
theorem dX12_readAct_52 : decode cX12_readAct 52 = .ok (.iconst 0, 1) := by decide +kernel
theorem dX12_readAct_53 : decode cX12_readAct 53 = .ok (.iconst 3, 1) := by decide +kernel
theorem dX12_readAct_54 : decode cX12_readAct 54 = .ok (.invokevirtual 195, 3) := by decide +kernel
theorem dX12_readAct_57 : decode cX12_readAct 57 = .ok (.iastore, 1) := by decide +kernel
theorem dX12_readAct_58 : decode cX12_readAct 58 = .ok (.goto 93, 3) := by decide +kernel
theorem dX12_readAct_61 : decode cX12_readAct 61 = .ok (.iload_n 2, 1) := by decide +kernel
theorem dX12_readAct_62 : decode cX12_readAct 62 = .ok (.bipush 13, 2) := by decide +kernel
theorem dX12_readAct_64 : decode cX12_readAct 64 = .ok (.if_icmp .ne 38, 3) := by decide +kernel
theorem dX12_readAct_67 : decode cX12_readAct 67 = .ok (.aload_n 0, 1) := by decide +kernel
theorem dX12_readAct_68 : decode cX12_readAct 68 = .ok (.getfield 84, 3) := by decide +kernel
theorem dX12_readAct_71 : decode cX12_readAct 71 = .ok (.iload_n 1, 1) := by decide +kernel
theorem dX12_readAct_72 : decode cX12_readAct 72 = .ok (.bipush 6, 2) := by decide +kernel
theorem dX12_readAct_74 : decode cX12_readAct 74 = .ok (.iadd, 1) := by decide +kernel
theorem dX12_readAct_75 : decode cX12_readAct 75 = .ok (.aload_n 0, 1) := by decide +kernel
theorem dX12_readAct_76 : decode cX12_readAct 76 = .ok (.iconst 0, 1) := by decide +kernel
theorem dX12_readAct_77 : decode cX12_readAct 77 = .ok (.iconst 2, 1) := by decide +kernel
theorem dX12_readAct_78 : decode cX12_readAct 78 = .ok (.invokevirtual 195, 3) := by decide +kernel
theorem dX12_readAct_81 : decode cX12_readAct 81 = .ok (.iastore, 1) := by decide +kernel
theorem dX12_readAct_82 : decode cX12_readAct 82 = .ok (.aload_n 0, 1) := by decide +kernel
theorem dX12_readAct_83 : decode cX12_readAct 83 = .ok (.getfield 84, 3) := by decide +kernel
theorem dX12_readAct_86 : decode cX12_readAct 86 = .ok (.iload_n 1, 1) := by decide +kernel
theorem dX12_readAct_87 : decode cX12_readAct 87 = .ok (.bipush 7, 2) := by decide +kernel
theorem dX12_readAct_89 : decode cX12_readAct 89 = .ok (.iadd, 1) := by decide +kernel
theorem dX12_readAct_90 : decode cX12_readAct 90 = .ok (.aload_n 0, 1) := by decide +kernel
theorem dX12_readAct_91 : decode cX12_readAct 91 = .ok (.iconst 0, 1) := by decide +kernel
theorem dX12_readAct_92 : decode cX12_readAct 92 = .ok (.sipush 3599, 3) := by decide +kernel
theorem dX12_readAct_95 : decode cX12_readAct 95 = .ok (.invokevirtual 195, 3) := by decide +kernel
theorem dX12_readAct_98 : decode cX12_readAct 98 = .ok (.iastore, 1) := by decide +kernel
theorem dX12_readAct_99 : decode cX12_readAct 99 = .ok (.goto 52, 3) := by decide +kernel
theorem dX12_readAct_102 : decode cX12_readAct 102 = .ok (.iload_n 2, 1) := by decide +kernel
theorem dX12_readAct_103 : decode cX12_readAct 103 = .ok (.bipush 16, 2) := by decide +kernel
theorem dX12_readAct_105 : decode cX12_readAct 105 = .ok (.if_icmp .ne 22, 3) := by decide +kernel
theorem dX12_readAct_108 : decode cX12_readAct 108 = .ok (.aload_n 0, 1) := by decide +kernel
theorem dX12_readAct_109 : decode cX12_readAct 109 = .ok (.getfield 84, 3) := by decide +kernel
theorem dX12_readAct_112 : decode cX12_readAct 112 = .ok (.iload_n 1, 1) := by decide +kernel
theorem dX12_readAct_113 : decode cX12_readAct 113 = .ok (.bipush 6, 2) := by decide +kernel
theorem dX12_readAct_115 : decode cX12_readAct 115 = .ok (.iadd, 1) := by decide +kernel
theorem dX12_readAct_116 : decode cX12_readAct 116 = .ok (.aload_n 0, 1) := by decide +kernel
theorem dX12_readAct_117 : decode cX12_readAct 117 = .ok (.iconst 0, 1) := by decide +kernel
theorem dX12_readAct_118 : decode cX12_readAct 118 = .ok (.bipush 29, 2) := by decide +kernel
theorem dX12_readAct_120 : decode cX12_readAct 120 = .ok (.invokevirtual 195, 3) := by decide +kernel
theorem dX12_readAct_123 : decode cX12_readAct 123 = .ok (.iastore, 1) := by decide +kernel
theorem dX12_readAct_124 : decode cX12_readAct 124 = .ok (.goto 27, 3) := by decide +kernel
theorem dX12_readAct_127 : decode cX12_readAct 127 = .ok (.aload_n 0, 1) := by decide +kernel
theorem dX12_readAct_128 : decode cX12_readAct 128 = .ok (.getfield 84, 3) := by decide +kernel
theorem dX12_readAct_131 : decode cX12_readAct 131 = .ok (.iload_n 1, 1) := by decide +kernel
theorem dX12_readAct_132 : decode cX12_readAct 132 = .ok (.bipush 6, 2) := by decide +kernel
theorem dX12_readAct_134 : decode cX12_readAct 134 = .ok (.iadd, 1) := by decide +kernel
theorem dX12_readAct_135 : decode cX12_readAct 135 = .ok (.aload_n 0, 1) := by decide +kernel
theorem dX12_readAct_136 : decode cX12_readAct 136 = .ok (.iload_n 2, 1) := by decide +kernel
theorem dX12_readAct_137 : decode cX12_readAct 137 = .ok (.bipush 15, 2) := by decide +kernel
theorem dX12_readAct_139 : decode cX12_readAct 139 = .ok (.if_icmp .ne 7, 3) := by decide +kernel
theorem dX12_readAct_142 : decode cX12_readAct 142 = .ok (.iconst 5, 1) := by decide +kernel
theorem dX12_readAct_143 : decode cX12_readAct 143 = .ok (.goto 4, 3) := by decide +kernel
theorem dX12_readAct_146 : decode cX12_readAct 146 = .ok (.iconst 0, 1) := by decide +kernel
theorem dX12_readAct_147 : decode cX12_readAct 147 = .ok (.invokevirtual 351, 3) := by decide +kernel
theorem dX12_readAct_150 : decode cX12_readAct 150 = .ok (.iastore, 1) := by decide +kernel
theorem dX12_readAct_151 : decode cX12_readAct 151 = .ok (.return_, 1) := by decide +kernel
def F_X12_readAct (N : Nat) (x0 : Nat) (x1 : Int32) (I : MI) (L : ML) (R : MR) : Option (MI) :=
  if kd x0 = 11 ∧ x0 < NN then
  bn2 (F_X12_next N x0 I L R) fun b1 I2 =>
  if (b2i b1) = 0 then
    some (I2)
  else
    bn2 (F_X12_planWord N x0 (10 : Int32) (16 : Int32) I2 L R) fun v5 I6 =>
    if (I6 x0 15) ≤ 0 then
      (rf R x0 55 20).bind fun a9 =>
      (wi I6 a9 (x1 + (5 : Int32)) (v5 - (10 : Int32))).bind fun I10 =>
      if v5 = (12 : Int32) then
        bn2 (F_X12_number N x0 (0 : Int32) (3 : Int32) I10 L R) fun v34 I35 =>
        (wi I35 a9 (x1 + (6 : Int32)) v34).bind fun I37 =>
        some (I37)
      else
        if v5 = (13 : Int32) then
          bn2 (F_X12_number N x0 (0 : Int32) (2 : Int32) I10 L R) fun v26 I27 =>
          (wi I27 a9 (x1 + (6 : Int32)) v26).bind fun I29 =>
          bn2 (F_X12_number N x0 (0 : Int32) (3599 : Int32) I29 L R) fun v30 I31 =>
          (wi I31 a9 (x1 + (7 : Int32)) v30).bind fun I33 =>
          some (I33)
        else
          if v5 = (16 : Int32) then
            bn2 (F_X12_number N x0 (0 : Int32) (29 : Int32) I10 L R) fun v22 I23 =>
            (wi I23 a9 (x1 + (6 : Int32)) v22).bind fun I25 =>
            some (I25)
          else
            bn1 (
              if v5 = (15 : Int32) then
                some ((5 : Int32))
              else
                some ((0 : Int32))
            ) fun (s14 : Int32) =>
            bn2 (F_X12_unitNext N x0 s14 I10 L R) fun v18 I19 =>
            (wi I19 a9 (x1 + (6 : Int32)) v18).bind fun I21 =>
            some (I21)
    else
      some (I6)
  else none
set_option maxRecDepth 100000 in
set_option maxHeartbeats 4000000 in
theorem c_X12_readAct (l : Launch) (D : va_G) (cA : Nat → ClassId) (ad : Nat → Nat) (bs : Nat) (X : State → Prop) (hAd : Ax ad bs) (hX : Stb bs X) (N : Nat) (x0 : Nat) (x1 : Int32) (I : MI) (L : ML) (R : MR) (I' : MI) (h : F_X12_readAct N x0 x1 I L R = some (I')) : Cn l D cA ad bs X yX12_readAct cX12_readAct 3 none 4 87 [.ref (ad x0), .int x1] I L R (none, I', L, R) := by
  refine Cn.ofV hAd hX [(0, .ref (ad x0)), (1, .int x1)] rfl (Nat.le_of_ble_eq_true rfl) (by decide) ?_
  intro G el eD ecA ead ebs eX erm eNL C0
  subst el eD ecA ead ebs eX
  unfold F_X12_readAct at h
  obtain ⟨c_x0, h⟩ := ite_some h
  refine V_aload_n C0 0 rfl rfl dX12_readAct_0 ?_
  obtain ⟨b1, I2, q3, h⟩ := bn2_some h
  refine V_callV C0 (st := []) (As := []) 11 (c_X12_next G.l G.D G.cA G.ad G.bs G.X C0.2.2.2.2.2.2.2.2.2.1 C0.2.2.2.2.2.2.2.2.2.2.2.2 N x0 I L R b1 I2 q3) lc_X12_next lk_X12_164 c_x0.2 c_x0.1 ⟨_, rfl, rfl⟩ rfl (by rw [erm]; decide) (Nat.le_of_ble_eq_true rfl) dX12_readAct_1 ?_
  show V G _ 4 [(0, .ref (G.ad x0)), (1, .int x1)] [.int (b2i b1)] I2 L R
  refine V_if_ne C0 (tgt := 8) (by decide) dX12_readAct_4 (fun c4 => ?_) (fun c4 => ?_)
  · have h := (if_neg c4).symm.trans h
    refine V_aload_n C0 0 rfl rfl dX12_readAct_8 ?_
    refine V_bipush C0 (v := (10 : Int32)) (by decide) dX12_readAct_9 ?_
    refine V_bipush C0 (v := (16 : Int32)) (by decide) dX12_readAct_11 ?_
    obtain ⟨v5, I6, q7, h⟩ := bn2_some h
    refine V_callV C0 (st := []) (As := [.int (10 : Int32), .int (16 : Int32)]) 11 (c_X12_planWord G.l G.D G.cA G.ad G.bs G.X C0.2.2.2.2.2.2.2.2.2.1 C0.2.2.2.2.2.2.2.2.2.2.2.2 N x0 (10 : Int32) (16 : Int32) I2 L R v5 I6 q7) lc_X12_planWord lk_X12_348 c_x0.2 c_x0.1 ⟨_, rfl, rfl⟩ rfl (by rw [erm]; decide) (Nat.le_of_ble_eq_true rfl) dX12_readAct_13 ?_
    show V G _ 16 [(0, .ref (G.ad x0)), (1, .int x1)] [.int v5] I6 L R
    refine V_istore_n C0 [(2, .int v5), (0, .ref (G.ad x0)), (1, .int x1)] rfl (by rw [eNL]; decide) rfl dX12_readAct_16 ?_
    refine V_aload_n C0 1 rfl rfl dX12_readAct_17 ?_
    refine V_getI C0 11 15 fl_X12_128 c_x0.2 c_x0.1 rfl dX12_readAct_18 ?_
    refine V_if_le C0 (tgt := 25) (by decide) dX12_readAct_21 (fun c8 => ?_) (fun c8 => ?_)
    · have h := (if_pos c8).symm.trans h
      refine V_aload_n C0 1 rfl rfl dX12_readAct_25 ?_
      obtain ⟨a9, qa9, h⟩ := bnd_some h
      refine V_getR C0 11 55 fl_X12_84 c_x0.2 c_x0.1 rfl (rf_at qa9) dX12_readAct_26 ?_
      refine V_iload_n C0 2 rfl rfl dX12_readAct_29 ?_
      refine V_iconst C0 (v := (5 : Int32)) (by decide) dX12_readAct_30 ?_
      refine V_iadd C0 dX12_readAct_31 ?_
      refine V_iload_n C0 0 rfl rfl dX12_readAct_32 ?_
      refine V_bipush C0 (v := (10 : Int32)) (by decide) dX12_readAct_33 ?_
      refine V_isub C0 dX12_readAct_35 ?_
      obtain ⟨I10, qI10, h⟩ := bnd_some h
      refine V_wi C0 (rf_lt qa9) (rf_kd qa9) qI10 dX12_readAct_36 ?_
      refine V_iload_n C0 0 rfl rfl dX12_readAct_37 ?_
      refine V_bipush C0 (v := (12 : Int32)) (by decide) dX12_readAct_38 ?_
      refine V_icmp_ne C0 (tgt := 61) (by decide) dX12_readAct_40 (fun c11 => ?_) (fun c11 => ?_)
      · have h := (if_neg c11).symm.trans h
        refine V_iload_n C0 0 rfl rfl dX12_readAct_61 ?_
        refine V_bipush C0 (v := (13 : Int32)) (by decide) dX12_readAct_62 ?_
        refine V_icmp_ne C0 (tgt := 102) (by decide) dX12_readAct_64 (fun c12 => ?_) (fun c12 => ?_)
        · have h := (if_neg c12).symm.trans h
          refine V_iload_n C0 0 rfl rfl dX12_readAct_102 ?_
          refine V_bipush C0 (v := (16 : Int32)) (by decide) dX12_readAct_103 ?_
          refine V_icmp_ne C0 (tgt := 127) (by decide) dX12_readAct_105 (fun c13 => ?_) (fun c13 => ?_)
          · have h := (if_neg c13).symm.trans h
            refine V_aload_n C0 1 rfl rfl dX12_readAct_127 ?_
            refine V_getR C0 11 55 fl_X12_84 c_x0.2 c_x0.1 rfl (rf_at qa9) dX12_readAct_128 ?_
            refine V_iload_n C0 2 rfl rfl dX12_readAct_131 ?_
            refine V_bipush C0 (v := (6 : Int32)) (by decide) dX12_readAct_132 ?_
            refine V_iadd C0 dX12_readAct_134 ?_
            refine V_aload_n C0 1 rfl rfl dX12_readAct_135 ?_
            refine V_iload_n C0 0 rfl rfl dX12_readAct_136 ?_
            refine V_bipush C0 (v := (15 : Int32)) (by decide) dX12_readAct_137 ?_
            obtain ⟨s14, q15, h⟩ := bn1_some h
            have k16 : V G (qf G (none, I', L, R)) 147 [] [.int s14, .ref (G.ad x0), .int (x1 + (6 : Int32)), .ref (G.ad a9)] I10 L R := by
              obtain ⟨v18, I19, q20, h⟩ := bn2_some h
              refine V_callV C0 (st := [.int (x1 + (6 : Int32)), .ref (G.ad a9)]) (As := [.int s14]) 11 (c_X12_unitNext G.l G.D G.cA G.ad G.bs G.X C0.2.2.2.2.2.2.2.2.2.1 C0.2.2.2.2.2.2.2.2.2.2.2.2 N x0 s14 I10 L R v18 I19 q20) lc_X12_unitNext lk_X12_351 c_x0.2 c_x0.1 ⟨_, rfl, rfl⟩ rfl (by rw [erm]; decide) (Nat.le_of_ble_eq_true rfl) dX12_readAct_147 ?_
              show V G _ 150 [] [.int v18, .int (x1 + (6 : Int32)), .ref (G.ad a9)] I19 L R
              obtain ⟨I21, qI21, h⟩ := bnd_some h
              refine V_wi C0 (rf_lt qa9) (rf_kd qa9) qI21 dX12_readAct_150 ?_
              cases h
              exact V_vret C0 dX12_readAct_151
            refine V_icmp_ne C0 (tgt := 146) (by decide) dX12_readAct_139 (fun c17 => ?_) (fun c17 => ?_)
            · have q15 := (if_neg c17).symm.trans q15
              refine V_iconst C0 (v := (0 : Int32)) (by decide) dX12_readAct_146 ?_
              cases q15
              exact V_sub [] rfl k16
            · have q15 := (if_pos c17).symm.trans q15
              refine V_iconst C0 (v := (5 : Int32)) (by decide) dX12_readAct_142 ?_
              refine V_goto C0 (tgt := 147) (by decide) dX12_readAct_143 ?_
              cases q15
              exact V_sub [] rfl k16
          · have h := (if_pos c13).symm.trans h
            refine V_aload_n C0 1 rfl rfl dX12_readAct_108 ?_
            refine V_getR C0 11 55 fl_X12_84 c_x0.2 c_x0.1 rfl (rf_at qa9) dX12_readAct_109 ?_
            refine V_iload_n C0 2 rfl rfl dX12_readAct_112 ?_
            refine V_bipush C0 (v := (6 : Int32)) (by decide) dX12_readAct_113 ?_
            refine V_iadd C0 dX12_readAct_115 ?_
            refine V_aload_n C0 1 rfl rfl dX12_readAct_116 ?_
            refine V_iconst C0 (v := (0 : Int32)) (by decide) dX12_readAct_117 ?_
            refine V_bipush C0 (v := (29 : Int32)) (by decide) dX12_readAct_118 ?_
            obtain ⟨v22, I23, q24, h⟩ := bn2_some h
            refine V_callV C0 (st := [.int (x1 + (6 : Int32)), .ref (G.ad a9)]) (As := [.int (0 : Int32), .int (29 : Int32)]) 11 (c_X12_number G.l G.D G.cA G.ad G.bs G.X C0.2.2.2.2.2.2.2.2.2.1 C0.2.2.2.2.2.2.2.2.2.2.2.2 N x0 (0 : Int32) (29 : Int32) I10 L R v22 I23 q24) lc_X12_number lk_X12_195 c_x0.2 c_x0.1 ⟨_, rfl, rfl⟩ rfl (by rw [erm]; decide) (Nat.le_of_ble_eq_true rfl) dX12_readAct_120 ?_
            show V G _ 123 [(2, .int v5), (0, .ref (G.ad x0)), (1, .int x1)] [.int v22, .int (x1 + (6 : Int32)), .ref (G.ad a9)] I23 L R
            obtain ⟨I25, qI25, h⟩ := bnd_some h
            refine V_wi C0 (rf_lt qa9) (rf_kd qa9) qI25 dX12_readAct_123 ?_
            refine V_goto C0 (tgt := 151) (by decide) dX12_readAct_124 ?_
            cases h
            exact V_vret C0 dX12_readAct_151
        · have h := (if_pos c12).symm.trans h
          refine V_aload_n C0 1 rfl rfl dX12_readAct_67 ?_
          refine V_getR C0 11 55 fl_X12_84 c_x0.2 c_x0.1 rfl (rf_at qa9) dX12_readAct_68 ?_
          refine V_iload_n C0 2 rfl rfl dX12_readAct_71 ?_
          refine V_bipush C0 (v := (6 : Int32)) (by decide) dX12_readAct_72 ?_
          refine V_iadd C0 dX12_readAct_74 ?_
          refine V_aload_n C0 1 rfl rfl dX12_readAct_75 ?_
          refine V_iconst C0 (v := (0 : Int32)) (by decide) dX12_readAct_76 ?_
          refine V_iconst C0 (v := (2 : Int32)) (by decide) dX12_readAct_77 ?_
          obtain ⟨v26, I27, q28, h⟩ := bn2_some h
          refine V_callV C0 (st := [.int (x1 + (6 : Int32)), .ref (G.ad a9)]) (As := [.int (0 : Int32), .int (2 : Int32)]) 11 (c_X12_number G.l G.D G.cA G.ad G.bs G.X C0.2.2.2.2.2.2.2.2.2.1 C0.2.2.2.2.2.2.2.2.2.2.2.2 N x0 (0 : Int32) (2 : Int32) I10 L R v26 I27 q28) lc_X12_number lk_X12_195 c_x0.2 c_x0.1 ⟨_, rfl, rfl⟩ rfl (by rw [erm]; decide) (Nat.le_of_ble_eq_true rfl) dX12_readAct_78 ?_
          show V G _ 81 [(2, .int v5), (0, .ref (G.ad x0)), (1, .int x1)] [.int v26, .int (x1 + (6 : Int32)), .ref (G.ad a9)] I27 L R
          obtain ⟨I29, qI29, h⟩ := bnd_some h
          refine V_wi C0 (rf_lt qa9) (rf_kd qa9) qI29 dX12_readAct_81 ?_
          refine V_aload_n C0 1 rfl rfl dX12_readAct_82 ?_
          refine V_getR C0 11 55 fl_X12_84 c_x0.2 c_x0.1 rfl (rf_at qa9) dX12_readAct_83 ?_
          refine V_iload_n C0 2 rfl rfl dX12_readAct_86 ?_
          refine V_bipush C0 (v := (7 : Int32)) (by decide) dX12_readAct_87 ?_
          refine V_iadd C0 dX12_readAct_89 ?_
          refine V_aload_n C0 1 rfl rfl dX12_readAct_90 ?_
          refine V_iconst C0 (v := (0 : Int32)) (by decide) dX12_readAct_91 ?_
          refine V_sipush C0 (v := (3599 : Int32)) (by decide) dX12_readAct_92 ?_
          obtain ⟨v30, I31, q32, h⟩ := bn2_some h
          refine V_callV C0 (st := [.int (x1 + (7 : Int32)), .ref (G.ad a9)]) (As := [.int (0 : Int32), .int (3599 : Int32)]) 11 (c_X12_number G.l G.D G.cA G.ad G.bs G.X C0.2.2.2.2.2.2.2.2.2.1 C0.2.2.2.2.2.2.2.2.2.2.2.2 N x0 (0 : Int32) (3599 : Int32) I29 L R v30 I31 q32) lc_X12_number lk_X12_195 c_x0.2 c_x0.1 ⟨_, rfl, rfl⟩ rfl (by rw [erm]; decide) (Nat.le_of_ble_eq_true rfl) dX12_readAct_95 ?_
          show V G _ 98 [(2, .int v5), (0, .ref (G.ad x0)), (1, .int x1)] [.int v30, .int (x1 + (7 : Int32)), .ref (G.ad a9)] I31 L R
          obtain ⟨I33, qI33, h⟩ := bnd_some h
          refine V_wi C0 (rf_lt qa9) (rf_kd qa9) qI33 dX12_readAct_98 ?_
          refine V_goto C0 (tgt := 151) (by decide) dX12_readAct_99 ?_
          cases h
          exact V_vret C0 dX12_readAct_151
      · have h := (if_pos c11).symm.trans h
        refine V_aload_n C0 1 rfl rfl dX12_readAct_43 ?_
        refine V_getR C0 11 55 fl_X12_84 c_x0.2 c_x0.1 rfl (rf_at qa9) dX12_readAct_44 ?_
        refine V_iload_n C0 2 rfl rfl dX12_readAct_47 ?_
        refine V_bipush C0 (v := (6 : Int32)) (by decide) dX12_readAct_48 ?_
        refine V_iadd C0 dX12_readAct_50 ?_
        refine V_aload_n C0 1 rfl rfl dX12_readAct_51 ?_
        refine V_iconst C0 (v := (0 : Int32)) (by decide) dX12_readAct_52 ?_
        refine V_iconst C0 (v := (3 : Int32)) (by decide) dX12_readAct_53 ?_
        obtain ⟨v34, I35, q36, h⟩ := bn2_some h
        refine V_callV C0 (st := [.int (x1 + (6 : Int32)), .ref (G.ad a9)]) (As := [.int (0 : Int32), .int (3 : Int32)]) 11 (c_X12_number G.l G.D G.cA G.ad G.bs G.X C0.2.2.2.2.2.2.2.2.2.1 C0.2.2.2.2.2.2.2.2.2.2.2.2 N x0 (0 : Int32) (3 : Int32) I10 L R v34 I35 q36) lc_X12_number lk_X12_195 c_x0.2 c_x0.1 ⟨_, rfl, rfl⟩ rfl (by rw [erm]; decide) (Nat.le_of_ble_eq_true rfl) dX12_readAct_54 ?_
        show V G _ 57 [(2, .int v5), (0, .ref (G.ad x0)), (1, .int x1)] [.int v34, .int (x1 + (6 : Int32)), .ref (G.ad a9)] I35 L R
        obtain ⟨I37, qI37, h⟩ := bnd_some h
        refine V_wi C0 (rf_lt qa9) (rf_kd qa9) qI37 dX12_readAct_57 ?_
        refine V_goto C0 (tgt := 151) (by decide) dX12_readAct_58 ?_
        cases h
        exact V_vret C0 dX12_readAct_151
    · have h := (if_neg c8).symm.trans h
      cases h
      exact V_vret C0 dX12_readAct_24
  · have h := (if_pos c4).symm.trans h
    cases h
    exact V_vret C0 dX12_readAct_7
theorem dX12_readItem_0 : decode cX12_readItem 0 = .ok (.aload_n 0, 1) := by decide +kernel
theorem dX12_readItem_1 : decode cX12_readItem 1 = .ok (.invokevirtual 164, 3) := by decide +kernel
theorem dX12_readItem_4 : decode cX12_readItem 4 = .ok (.ifCond .eq 10, 3) := by decide +kernel
theorem dX12_readItem_7 : decode cX12_readItem 7 = .ok (.aload_n 0, 1) := by decide +kernel
theorem dX12_readItem_8 : decode cX12_readItem 8 = .ok (.getfield 138, 3) := by decide +kernel
theorem dX12_readItem_11 : decode cX12_readItem 11 = .ok (.ifCond .ne 5, 3) := by decide +kernel
theorem dX12_readItem_14 : decode cX12_readItem 14 = .ok (.iconst 0, 1) := by decide +kernel
theorem dX12_readItem_15 : decode cX12_readItem 15 = .ok (.ireturn, 1) := by decide +kernel
theorem dX12_readItem_16 : decode cX12_readItem 16 = .ok (.aload_n 0, 1) := by decide +kernel
theorem dX12_readItem_17 : decode cX12_readItem 17 = .ok (.iconst 0, 1) := by decide +kernel
theorem dX12_readItem_18 : decode cX12_readItem 18 = .ok (.iconst 2, 1) := by decide +kernel
theorem dX12_readItem_19 : decode cX12_readItem 19 = .ok (.invokevirtual 348, 3) := by decide +kernel
theorem dX12_readItem_22 : decode cX12_readItem 22 = .ok (.istore_n 1, 1) := by decide +kernel
theorem dX12_readItem_23 : decode cX12_readItem 23 = .ok (.aload_n 0, 1) := by decide +kernel
theorem dX12_readItem_24 : decode cX12_readItem 24 = .ok (.getfield 128, 3) := by decide +kernel
theorem dX12_readItem_27 : decode cX12_readItem 27 = .ok (.ifCond .le 5, 3) := by decide +kernel
theorem dX12_readItem_30 : decode cX12_readItem 30 = .ok (.iconst 0, 1) := by decide +kernel
theorem dX12_readItem_31 : decode cX12_readItem 31 = .ok (.ireturn, 1) := by decide +kernel
theorem dX12_readItem_32 : decode cX12_readItem 32 = .ok (.aload_n 0, 1) := by decide +kernel
theorem dX12_readItem_33 : decode cX12_readItem 33 = .ok (.getfield 354, 3) := by decide +kernel
theorem dX12_readItem_36 : decode cX12_readItem 36 = .ok (.bipush 30, 2) := by decide +kernel
theorem dX12_readItem_38 : decode cX12_readItem 38 = .ok (.if_icmp .ne 14, 3) := by decide +kernel
theorem dX12_readItem_41 : decode cX12_readItem 41 = .ok (.aload_n 0, 1) := by decide +kernel
theorem dX12_readItem_42 : decode cX12_readItem 42 = .ok (.iconst 4, 1) := by decide +kernel
theorem dX12_readItem_43 : decode cX12_readItem 43 = .ok (.aload_n 0, 1) := by decide +kernel
theorem dX12_readItem_44 : decode cX12_readItem 44 = .ok (.getfield 135, 3) := by decide +kernel
theorem dX12_readItem_47 : decode cX12_readItem 47 = .ok (.invokevirtual 157, 3) := by decide +kernel
theorem dX12_readItem_50 : decode cX12_readItem 50 = .ok (.iconst 0, 1) := by decide +kernel
theorem dX12_readItem_51 : decode cX12_readItem 51 = .ok (.ireturn, 1) := by decide +kernel
theorem dX12_readItem_52 : decode cX12_readItem 52 = .ok (.bipush 8, 2) := by decide +kernel
theorem dX12_readItem_54 : decode cX12_readItem 54 = .ok (.aload_n 0, 1) := by decide +kernel
theorem dX12_readItem_55 : decode cX12_readItem 55 = .ok (.getfield 354, 3) := by decide +kernel
theorem dX12_readItem_58 : decode cX12_readItem 58 = .ok (.imul, 1) := by decide +kernel
theorem dX12_readItem_59 : decode cX12_readItem 59 = .ok (.istore_n 2, 1) := by decide +kernel
theorem dX12_readItem_60 : decode cX12_readItem 60 = .ok (.iconst 0, 1) := by decide +kernel
theorem dX12_readItem_61 : decode cX12_readItem 61 = .ok (.istore_n 3, 1) := by decide +kernel
theorem dX12_readItem_62 : decode cX12_readItem 62 = .ok (.iload_n 3, 1) := by decide +kernel
theorem dX12_readItem_63 : decode cX12_readItem 63 = .ok (.bipush 8, 2) := by decide +kernel
theorem dX12_readItem_65 : decode cX12_readItem 65 = .ok (.if_icmp .ge 18, 3) := by decide +kernel
theorem dX12_readItem_68 : decode cX12_readItem 68 = .ok (.aload_n 0, 1) := by decide +kernel
theorem dX12_readItem_69 : decode cX12_readItem 69 = .ok (.getfield 84, 3) := by decide +kernel
theorem dX12_readItem_72 : decode cX12_readItem 72 = .ok (.iload_n 2, 1) := by decide +kernel
theorem dX12_readItem_73 : decode cX12_readItem 73 = .ok (.iload_n 3, 1) := by decide +kernel
theorem dX12_readItem_74 : decode cX12_readItem 74 = .ok (.iadd, 1) := by decide +kernel
theorem dX12_readItem_75 : decode cX12_readItem 75 = .ok (.iconst 0, 1) := by decide +kernel
theorem dX12_readItem_76 : decode cX12_readItem 76 = .ok (.iastore, 1) := by decide +kernel
theorem dX12_readItem_77 : decode cX12_readItem 77 = .ok (.iinc 3 1, 3) := by decide +kernel
theorem dX12_readItem_80 : decode cX12_readItem 80 = .ok (.goto (-18), 3) := by decide +kernel
theorem dX12_readItem_83 : decode cX12_readItem 83 = .ok (.aload_n 0, 1) := by decide +kernel
theorem dX12_readItem_84 : decode cX12_readItem 84 = .ok (.getfield 84, 3) := by decide +kernel
theorem dX12_readItem_87 : decode cX12_readItem 87 = .ok (.iload_n 2, 1) := by decide +kernel
theorem dX12_readItem_88 : decode cX12_readItem 88 = .ok (.iload_n 1, 1) := by decide +kernel
theorem dX12_readItem_89 : decode cX12_readItem 89 = .ok (.iastore, 1) := by decide +kernel
theorem dX12_readItem_90 : decode cX12_readItem 90 = .ok (.iload_n 1, 1) := by decide +kernel
theorem dX12_readItem_91 : decode cX12_readItem 91 = .ok (.iconst 2, 1) := by decide +kernel
theorem dX12_readItem_92 : decode cX12_readItem 92 = .ok (.if_icmp .ne 11, 3) := by decide +kernel
theorem dX12_readItem_95 : decode cX12_readItem 95 = .ok (.aload_n 0, 1) := by decide +kernel
theorem dX12_readItem_96 : decode cX12_readItem 96 = .ok (.iload_n 2, 1) := by decide +kernel
theorem dX12_readItem_97 : decode cX12_readItem 97 = .ok (.invokevirtual 357, 3) := by decide +kernel
theorem dX12_readItem_100 : decode cX12_readItem 100 = .ok (.goto 19, 3) := by decide +kernel
theorem dX12_readItem_103 : decode cX12_readItem 103 = .ok (.aload_n 0, 1) := by decide +kernel
theorem dX12_readItem_104 : decode cX12_readItem 104 = .ok (.getfield 84, 3) := by decide +kernel
theorem dX12_readItem_107 : decode cX12_readItem 107 = .ok (.iload_n 2, 1) := by decide +kernel
theorem dX12_readItem_108 : decode cX12_readItem 108 = .ok (.iconst 1, 1) := by decide +kernel
theorem dX12_readItem_109 : decode cX12_readItem 109 = .ok (.iadd, 1) := by decide +kernel
theorem dX12_readItem_110 : decode cX12_readItem 110 = .ok (.aload_n 0, 1) := by decide +kernel
theorem dX12_readItem_111 : decode cX12_readItem 111 = .ok (.iload_n 1, 1) := by decide +kernel
theorem dX12_readItem_112 : decode cX12_readItem 112 = .ok (.sipush 9999, 3) := by decide +kernel
theorem dX12_readItem_115 : decode cX12_readItem 115 = .ok (.invokevirtual 195, 3) := by decide +kernel
theorem dX12_readItem_118 : decode cX12_readItem 118 = .ok (.iastore, 1) := by decide +kernel
theorem dX12_readItem_119 : decode cX12_readItem 119 = .ok (.aload_n 0, 1) := by decide +kernel
theorem dX12_readItem_120 : decode cX12_readItem 120 = .ok (.iload_n 2, 1) := by decide +kernel
theorem dX12_readItem_121 : decode cX12_readItem 121 = .ok (.invokevirtual 360, 3) := by decide +kernel
theorem dX12_readItem_124 : decode cX12_readItem 124 = .ok (.aload_n 0, 1) := by decide +kernel
theorem dX12_readItem_125 : decode cX12_readItem 125 = .ok (.bipush 59, 2) := by decide +kernel
theorem dX12_readItem_127 : decode cX12_readItem 127 = .ok (.invokevirtual 201, 3) := by decide +kernel
theorem dX12_readItem_130 : decode cX12_readItem 130 = .ok (.aload_n 0, 1) := by decide +kernel
theorem dX12_readItem_131 : decode cX12_readItem 131 = .ok (.dup, 1) := by decide +kernel
theorem dX12_readItem_132 : decode cX12_readItem 132 = .ok (.getfield 354, 3) := by decide +kernel
theorem dX12_readItem_135 : decode cX12_readItem 135 = .ok (.iconst 1, 1) := by decide +kernel
theorem dX12_readItem_136 : decode cX12_readItem 136 = .ok (.iadd, 1) := by decide +kernel
theorem dX12_readItem_137 : decode cX12_readItem 137 = .ok (.putfield 354, 3) := by decide +kernel
theorem dX12_readItem_140 : decode cX12_readItem 140 = .ok (.aload_n 0, 1) := by decide +kernel
theorem dX12_readItem_141 : decode cX12_readItem 141 = .ok (.getfield 128, 3) := by decide +kernel
theorem dX12_readItem_144 : decode cX12_readItem 144 = .ok (.ifCond .ne 7, 3) := by decide +kernel
theorem dX12_readItem_147 : decode cX12_readItem 147 = .ok (.iconst 1, 1) := by decide +kernel
theorem dX12_readItem_148 : decode cX12_readItem 148 = .ok (.goto 4, 3) := by decide +kernel
theorem dX12_readItem_151 : decode cX12_readItem 151 = .ok (.iconst 0, 1) := by decide +kernel
theorem dX12_readItem_152 : decode cX12_readItem 152 = .ok (.ireturn, 1) := by decide +kernel
def LF_X12_readItem_62 (N : Nat) : Nat → Nat → Int32 → Int32 → Int32 → MI → ML → MR → Option (MI)
  | 0, _, _, _, _, _, _, _ => none
  | k + 1, y0, y1, y2, y3, I, L, R =>
    if (8 : Int32) ≤ y3 then
      some (I)
    else
      (rf R y0 55 20).bind fun a13 =>
      (wi I a13 (y2 + y3) (0 : Int32)).bind fun I14 =>
      wr (y3 + (1 : Int32)) fun (u15 : Int32) =>
      LF_X12_readItem_62 N k y0 y1 y2 u15 I14 L R
def F_X12_readItem (N : Nat) (x0 : Nat) (I : MI) (L : ML) (R : MR) : Option (Bool × MI) :=
  if kd x0 = 11 ∧ x0 < NN then
  bn2 (F_X12_next N x0 I L R) fun b1 I2 =>
  if (b2i b1) = 0 then
    some (false, I2)
  else
    if (I2 x0 11) = 0 then
      some (false, I2)
    else
      bn2 (F_X12_planWord N x0 (0 : Int32) (2 : Int32) I2 L R) fun v6 I7 =>
      if (I7 x0 15) ≤ 0 then
        if (I7 x0 53) = (30 : Int32) then
          bn1 (F_X12_wrong x0 (4 : Int32) (I7 x0 12) I7 L R) fun I36 =>
          some (false, I36)
        else
          wr ((8 : Int32) * (I7 x0 53)) fun (u11 : Int32) =>
          bn1 (LF_X12_readItem_62 N N x0 v6 u11 (0 : Int32) I7 L R) fun z16 =>
          (rf R x0 55 20).bind fun a18 =>
          (wi z16 a18 u11 v6).bind fun I19 =>
          bn1 (
            if v6 = (2 : Int32) then
              bn1 (F_X12_readTerm N x0 u11 I19 L R) fun I28 =>
              some (I28)
            else
              bn2 (F_X12_number N x0 v6 (9999 : Int32) I19 L R) fun v24 I25 =>
              (wi I25 a18 (u11 + (1 : Int32)) v24).bind fun I27 =>
              some (I27)
          ) fun (I20 : MI) =>
          bn1 (F_X12_readAct N x0 u11 I20 L R) fun I30 =>
          bn1 (F_X12_sign N x0 (59 : Int32) I30 L R) fun I32 =>
          wr (uI I32 x0 53 ((I32 x0 53) + (1 : Int32))) fun (I34 : MI) =>
          if (I34 x0 15) = 0 then
            some (true, I34)
          else
            some (false, I34)
      else
        some (false, I7)
  else none
set_option maxRecDepth 100000 in
set_option maxHeartbeats 4000000 in
theorem lp_X12_readItem_62 {G : Gm} (C0 : Cx G (yX12_readItem.cls) cX12_readItem (some .boolean)) (eNL : G.nL = 4) (erm : G.rm = ({ frames := 5, cells := 0, slots := 0, locals := 109 } : Room)) (N : Nat) : ∀ (k : Nat) (y0 : Nat) (y1 : Int32) (y2 : Int32) (y3 : Int32) (I : MI) (L : ML) (R : MR) (z : MI) (hk0 : kd y0 = 11) (ho0 : y0 < NN), LF_X12_readItem_62 N k y0 y1 y2 y3 I L R = some z → ∀ f : State → Prop, V G f 83 [(0, .ref (G.ad y0)), (1, .int y1), (2, .int y2)] [] z L R → V G f 62 [(0, .ref (G.ad y0)), (1, .int y1), (2, .int y2), (3, .int y3)] [] I L R := by
  intro k
  induction k with
  | zero =>
    intro y0 y1 y2 y3 I L R q hk0 ho0 h
    exact absurd h (by simp [LF_X12_readItem_62])
  | succ k ih =>
    intro y0 y1 y2 y3 I L R q hk0 ho0 h f kx
    rw [LF_X12_readItem_62] at h
    refine V_iload_n C0 3 rfl rfl dX12_readItem_62 ?_
    refine V_bipush C0 (v := (8 : Int32)) (by decide) dX12_readItem_63 ?_
    refine V_icmp_ge C0 (tgt := 83) (by decide) dX12_readItem_65 (fun c12 => ?_) (fun c12 => ?_)
    · have h := (if_pos c12).symm.trans h
      cases h
      exact V_sub [0, 1, 2] rfl kx
    · have h := (if_neg c12).symm.trans h
      refine V_aload_n C0 0 rfl rfl dX12_readItem_68 ?_
      obtain ⟨a13, qa13, h⟩ := bnd_some h
      refine V_getR C0 11 55 fl_X12_84 ho0 hk0 rfl (rf_at qa13) dX12_readItem_69 ?_
      refine V_iload_n C0 2 rfl rfl dX12_readItem_72 ?_
      refine V_iload_n C0 3 rfl rfl dX12_readItem_73 ?_
      refine V_iadd C0 dX12_readItem_74 ?_
      refine V_iconst C0 (v := (0 : Int32)) (by decide) dX12_readItem_75 ?_
      obtain ⟨I14, qI14, h⟩ := bnd_some h
      refine V_wi C0 (rf_lt qa13) (rf_kd qa13) qI14 dX12_readItem_76 ?_
      obtain ⟨u15, eu15, h⟩ := wr_some h
      refine V_iinc C0 3 [(3, .int u15), (0, .ref (G.ad y0)), (1, .int y1), (2, .int y2)] rfl (n := 1) (by rw [eu15]; rfl) (by rw [eNL]; decide) rfl dX12_readItem_77 ?_
      refine V_goto C0 (tgt := 62) (by decide) dX12_readItem_80 ?_
      exact V_sub [1, 2, 3, 0] rfl (ih y0 y1 y2 u15 I14 L R _ hk0 ho0 h f kx)
set_option maxRecDepth 100000 in
set_option maxHeartbeats 4000000 in
theorem c_X12_readItem (l : Launch) (D : va_G) (cA : Nat → ClassId) (ad : Nat → Nat) (bs : Nat) (X : State → Prop) (hAd : Ax ad bs) (hX : Stb bs X) (N : Nat) (x0 : Nat) (I : MI) (L : ML) (R : MR) (r : Bool) (I' : MI) (h : F_X12_readItem N x0 I L R = some (r, I')) : Cn l D cA ad bs X yX12_readItem cX12_readItem 4 (some .boolean) 5 109 [.ref (ad x0)] I L R (some (.int (b2i r)), I', L, R) := by
  refine Cn.ofV hAd hX [(0, .ref (ad x0))] rfl (Nat.le_of_ble_eq_true rfl) (by decide) ?_
  intro G el eD ecA ead ebs eX erm eNL C0
  subst el eD ecA ead ebs eX
  unfold F_X12_readItem at h
  obtain ⟨c_x0, h⟩ := ite_some h
  refine V_aload_n C0 0 rfl rfl dX12_readItem_0 ?_
  obtain ⟨b1, I2, q3, h⟩ := bn2_some h
  refine V_callV C0 (st := []) (As := []) 11 (c_X12_next G.l G.D G.cA G.ad G.bs G.X C0.2.2.2.2.2.2.2.2.2.1 C0.2.2.2.2.2.2.2.2.2.2.2.2 N x0 I L R b1 I2 q3) lc_X12_next lk_X12_164 c_x0.2 c_x0.1 ⟨_, rfl, rfl⟩ rfl (by rw [erm]; decide) (Nat.le_of_ble_eq_true rfl) dX12_readItem_1 ?_
  show V G _ 4 [(0, .ref (G.ad x0))] [.int (b2i b1)] I2 L R
  refine V_if_eq C0 (tgt := 14) (by decide) dX12_readItem_4 (fun c4 => ?_) (fun c4 => ?_)
  · have h := (if_pos c4).symm.trans h
    refine V_iconst C0 (v := (0 : Int32)) (by decide) dX12_readItem_14 ?_
    cases h
    exact V_zret C0 (by decide) dX12_readItem_15
  · have h := (if_neg c4).symm.trans h
    refine V_aload_n C0 0 rfl rfl dX12_readItem_7 ?_
    refine V_getI C0 11 11 fl_X12_138 c_x0.2 c_x0.1 rfl dX12_readItem_8 ?_
    refine V_if_ne C0 (tgt := 16) (by decide) dX12_readItem_11 (fun c5 => ?_) (fun c5 => ?_)
    · have h := (if_neg c5).symm.trans h
      refine V_aload_n C0 0 rfl rfl dX12_readItem_16 ?_
      refine V_iconst C0 (v := (0 : Int32)) (by decide) dX12_readItem_17 ?_
      refine V_iconst C0 (v := (2 : Int32)) (by decide) dX12_readItem_18 ?_
      obtain ⟨v6, I7, q8, h⟩ := bn2_some h
      refine V_callV C0 (st := []) (As := [.int (0 : Int32), .int (2 : Int32)]) 11 (c_X12_planWord G.l G.D G.cA G.ad G.bs G.X C0.2.2.2.2.2.2.2.2.2.1 C0.2.2.2.2.2.2.2.2.2.2.2.2 N x0 (0 : Int32) (2 : Int32) I2 L R v6 I7 q8) lc_X12_planWord lk_X12_348 c_x0.2 c_x0.1 ⟨_, rfl, rfl⟩ rfl (by rw [erm]; decide) (Nat.le_of_ble_eq_true rfl) dX12_readItem_19 ?_
      show V G _ 22 [(0, .ref (G.ad x0))] [.int v6] I7 L R
      refine V_istore_n C0 [(1, .int v6), (0, .ref (G.ad x0))] rfl (by rw [eNL]; decide) rfl dX12_readItem_22 ?_
      refine V_aload_n C0 1 rfl rfl dX12_readItem_23 ?_
      refine V_getI C0 11 15 fl_X12_128 c_x0.2 c_x0.1 rfl dX12_readItem_24 ?_
      refine V_if_le C0 (tgt := 32) (by decide) dX12_readItem_27 (fun c9 => ?_) (fun c9 => ?_)
      · have h := (if_pos c9).symm.trans h
        refine V_aload_n C0 1 rfl rfl dX12_readItem_32 ?_
        refine V_getI C0 11 53 fl_X12_354 c_x0.2 c_x0.1 rfl dX12_readItem_33 ?_
        refine V_bipush C0 (v := (30 : Int32)) (by decide) dX12_readItem_36 ?_
        refine V_icmp_ne C0 (tgt := 52) (by decide) dX12_readItem_38 (fun c10 => ?_) (fun c10 => ?_)
        · have h := (if_neg c10).symm.trans h
          refine V_bipush C0 (v := (8 : Int32)) (by decide) dX12_readItem_52 ?_
          refine V_aload_n C0 1 rfl rfl dX12_readItem_54 ?_
          refine V_getI C0 11 53 fl_X12_354 c_x0.2 c_x0.1 rfl dX12_readItem_55 ?_
          refine V_imul C0 dX12_readItem_58 ?_
          obtain ⟨u11, eu11, h⟩ := wr_some h
          rw [← eu11]
          refine V_istore_n C0 [(2, .int u11), (1, .int v6), (0, .ref (G.ad x0))] rfl (by rw [eNL]; decide) rfl dX12_readItem_59 ?_
          refine V_iconst C0 (v := (0 : Int32)) (by decide) dX12_readItem_60 ?_
          refine V_istore_n C0 [(3, .int (0 : Int32)), (2, .int u11), (1, .int v6), (0, .ref (G.ad x0))] rfl (by rw [eNL]; decide) rfl dX12_readItem_61 ?_
          obtain ⟨z16, q17, h⟩ := bn1_some h
          refine V_sub [3, 2, 1, 0] rfl (lp_X12_readItem_62 C0 eNL erm N N x0 v6 u11 (0 : Int32) I7 L R _ c_x0.1 c_x0.2 q17 _ ?_)
          show V G _ 83 [(0, .ref (G.ad x0)), (1, .int v6), (2, .int u11)] [] z16 L R
          refine V_aload_n C0 0 rfl rfl dX12_readItem_83 ?_
          obtain ⟨a18, qa18, h⟩ := bnd_some h
          refine V_getR C0 11 55 fl_X12_84 c_x0.2 c_x0.1 rfl (rf_at qa18) dX12_readItem_84 ?_
          refine V_iload_n C0 2 rfl rfl dX12_readItem_87 ?_
          refine V_iload_n C0 1 rfl rfl dX12_readItem_88 ?_
          obtain ⟨I19, qI19, h⟩ := bnd_some h
          refine V_wi C0 (rf_lt qa18) (rf_kd qa18) qI19 dX12_readItem_89 ?_
          refine V_iload_n C0 1 rfl rfl dX12_readItem_90 ?_
          refine V_iconst C0 (v := (2 : Int32)) (by decide) dX12_readItem_91 ?_
          obtain ⟨I20, q21, h⟩ := bn1_some h
          have k22 : V G (qf G (some (.int (b2i r)), I', L, R)) 119 [(0, .ref (G.ad x0)), (2, .int u11)] [] I20 L R := by
            refine V_aload_n C0 0 rfl rfl dX12_readItem_119 ?_
            refine V_iload_n C0 1 rfl rfl dX12_readItem_120 ?_
            obtain ⟨I30, q31, h⟩ := bn1_some h
            refine V_callV C0 (st := []) (As := [.int u11]) 11 (c_X12_readAct G.l G.D G.cA G.ad G.bs G.X C0.2.2.2.2.2.2.2.2.2.1 C0.2.2.2.2.2.2.2.2.2.2.2.2 N x0 u11 I20 L R I30 q31) lc_X12_readAct lk_X12_360 c_x0.2 c_x0.1 ⟨_, rfl, rfl⟩ rfl (by rw [erm]; decide) (Nat.le_of_ble_eq_true rfl) dX12_readItem_121 ?_
            show V G _ 124 [(0, .ref (G.ad x0)), (2, .int u11)] [] I30 L R
            refine V_aload_n C0 0 rfl rfl dX12_readItem_124 ?_
            refine V_bipush C0 (v := (59 : Int32)) (by decide) dX12_readItem_125 ?_
            obtain ⟨I32, q33, h⟩ := bn1_some h
            refine V_callV C0 (st := []) (As := [.int (59 : Int32)]) 11 (c_X12_sign G.l G.D G.cA G.ad G.bs G.X C0.2.2.2.2.2.2.2.2.2.1 C0.2.2.2.2.2.2.2.2.2.2.2.2 N x0 (59 : Int32) I30 L R I32 q33) lc_X12_sign lk_X12_201 c_x0.2 c_x0.1 ⟨_, rfl, rfl⟩ rfl (by rw [erm]; decide) (Nat.le_of_ble_eq_true rfl) dX12_readItem_127 ?_
            show V G _ 130 [(0, .ref (G.ad x0)), (2, .int u11)] [] I32 L R
            refine V_aload_n C0 0 rfl rfl dX12_readItem_130 ?_
            refine V_dup C0 rfl dX12_readItem_131 ?_
            refine V_getI C0 11 53 fl_X12_354 c_x0.2 c_x0.1 rfl dX12_readItem_132 ?_
            refine V_iconst C0 (v := (1 : Int32)) (by decide) dX12_readItem_135 ?_
            refine V_iadd C0 dX12_readItem_136 ?_
            obtain ⟨I34, eI34, h⟩ := wr_some h
            refine V_putI C0 11 53 fp_X12_354 c_x0.2 c_x0.1 rfl dX12_readItem_137 ?_
            rw [← eI34]
            refine V_aload_n C0 0 rfl rfl dX12_readItem_140 ?_
            refine V_getI C0 11 15 fl_X12_128 c_x0.2 c_x0.1 rfl dX12_readItem_141 ?_
            refine V_if_ne C0 (tgt := 151) (by decide) dX12_readItem_144 (fun c35 => ?_) (fun c35 => ?_)
            · have h := (if_neg c35).symm.trans h
              refine V_iconst C0 (v := (0 : Int32)) (by decide) dX12_readItem_151 ?_
              cases h
              exact V_zret C0 (by decide) dX12_readItem_152
            · have h := (if_pos c35).symm.trans h
              refine V_iconst C0 (v := (1 : Int32)) (by decide) dX12_readItem_147 ?_
              refine V_goto C0 (tgt := 152) (by decide) dX12_readItem_148 ?_
              cases h
              exact V_zret C0 (by decide) dX12_readItem_152
          refine V_icmp_ne C0 (tgt := 103) (by decide) dX12_readItem_92 (fun c23 => ?_) (fun c23 => ?_)
          · have q21 := (if_neg c23).symm.trans q21
            refine V_aload_n C0 0 rfl rfl dX12_readItem_103 ?_
            refine V_getR C0 11 55 fl_X12_84 c_x0.2 c_x0.1 rfl (rf_at qa18) dX12_readItem_104 ?_
            refine V_iload_n C0 2 rfl rfl dX12_readItem_107 ?_
            refine V_iconst C0 (v := (1 : Int32)) (by decide) dX12_readItem_108 ?_
            refine V_iadd C0 dX12_readItem_109 ?_
            refine V_aload_n C0 0 rfl rfl dX12_readItem_110 ?_
            refine V_iload_n C0 1 rfl rfl dX12_readItem_111 ?_
            refine V_sipush C0 (v := (9999 : Int32)) (by decide) dX12_readItem_112 ?_
            obtain ⟨v24, I25, q26, q21⟩ := bn2_some q21
            refine V_callV C0 (st := [.int (u11 + (1 : Int32)), .ref (G.ad a18)]) (As := [.int v6, .int (9999 : Int32)]) 11 (c_X12_number G.l G.D G.cA G.ad G.bs G.X C0.2.2.2.2.2.2.2.2.2.1 C0.2.2.2.2.2.2.2.2.2.2.2.2 N x0 v6 (9999 : Int32) I19 L R v24 I25 q26) lc_X12_number lk_X12_195 c_x0.2 c_x0.1 ⟨_, rfl, rfl⟩ rfl (by rw [erm]; decide) (Nat.le_of_ble_eq_true rfl) dX12_readItem_115 ?_
            show V G _ 118 [(0, .ref (G.ad x0)), (1, .int v6), (2, .int u11)] [.int v24, .int (u11 + (1 : Int32)), .ref (G.ad a18)] I25 L R
            obtain ⟨I27, qI27, q21⟩ := bnd_some q21
            refine V_wi C0 (rf_lt qa18) (rf_kd qa18) qI27 dX12_readItem_118 ?_
            cases q21
            exact V_sub [0, 2] rfl k22
          · have q21 := (if_pos c23).symm.trans q21
            refine V_aload_n C0 0 rfl rfl dX12_readItem_95 ?_
            refine V_iload_n C0 2 rfl rfl dX12_readItem_96 ?_
            obtain ⟨I28, q29, q21⟩ := bn1_some q21
            refine V_callV C0 (st := []) (As := [.int u11]) 11 (c_X12_readTerm G.l G.D G.cA G.ad G.bs G.X C0.2.2.2.2.2.2.2.2.2.1 C0.2.2.2.2.2.2.2.2.2.2.2.2 N x0 u11 I19 L R I28 q29) lc_X12_readTerm lk_X12_357 c_x0.2 c_x0.1 ⟨_, rfl, rfl⟩ rfl (by rw [erm]; decide) (Nat.le_of_ble_eq_true rfl) dX12_readItem_97 ?_
            show V G _ 100 [(0, .ref (G.ad x0)), (1, .int v6), (2, .int u11)] [] I28 L R
            refine V_goto C0 (tgt := 119) (by decide) dX12_readItem_100 ?_
            cases q21
            exact V_sub [0, 2] rfl k22
        · have h := (if_pos c10).symm.trans h
          refine V_aload_n C0 1 rfl rfl dX12_readItem_41 ?_
          refine V_iconst C0 (v := (4 : Int32)) (by decide) dX12_readItem_42 ?_
          refine V_aload_n C0 1 rfl rfl dX12_readItem_43 ?_
          refine V_getI C0 11 12 fl_X12_135 c_x0.2 c_x0.1 rfl dX12_readItem_44 ?_
          obtain ⟨I36, q37, h⟩ := bn1_some h
          refine V_callV C0 (st := []) (As := [.int (4 : Int32), .int (I7 x0 12)]) 11 (c_X12_wrong G.l G.D G.cA G.ad G.bs G.X C0.2.2.2.2.2.2.2.2.2.1 C0.2.2.2.2.2.2.2.2.2.2.2.2 x0 (4 : Int32) (I7 x0 12) I7 L R I36 q37) lc_X12_wrong lk_X12_157 c_x0.2 c_x0.1 ⟨_, rfl, rfl⟩ rfl (by rw [erm]; decide) (Nat.le_of_ble_eq_true rfl) dX12_readItem_47 ?_
          show V G _ 50 [(1, .int v6), (0, .ref (G.ad x0))] [] I36 L R
          refine V_iconst C0 (v := (0 : Int32)) (by decide) dX12_readItem_50 ?_
          cases h
          exact V_zret C0 (by decide) dX12_readItem_51
      · have h := (if_neg c9).symm.trans h
        refine V_iconst C0 (v := (0 : Int32)) (by decide) dX12_readItem_30 ?_
        cases h
        exact V_zret C0 (by decide) dX12_readItem_31
    · have h := (if_pos c5).symm.trans h
      refine V_iconst C0 (v := (0 : Int32)) (by decide) dX12_readItem_14 ?_
      cases h
      exact V_zret C0 (by decide) dX12_readItem_15
theorem dX12_plan_0 : decode cX12_plan 0 = .ok (.aload_n 0, 1) := by decide +kernel
theorem dX12_plan_1 : decode cX12_plan 1 = .ok (.iconst 0, 1) := by decide +kernel
theorem dX12_plan_2 : decode cX12_plan 2 = .ok (.putfield 112, 3) := by decide +kernel
theorem dX12_plan_5 : decode cX12_plan 5 = .ok (.aload_n 0, 1) := by decide +kernel
theorem dX12_plan_6 : decode cX12_plan 6 = .ok (.iload_n 1, 1) := by decide +kernel
theorem dX12_plan_7 : decode cX12_plan 7 = .ok (.invokevirtual 291, 3) := by decide +kernel
theorem dX12_plan_10 : decode cX12_plan 10 = .ok (.ifCond .ne 5, 3) := by decide +kernel
theorem dX12_plan_13 : decode cX12_plan 13 = .ok (.iconst 0, 1) := by decide +kernel
theorem dX12_plan_14 : decode cX12_plan 14 = .ok (.ireturn, 1) := by decide +kernel
theorem dX12_plan_15 : decode cX12_plan 15 = .ok (.aload_n 0, 1) := by decide +kernel
theorem dX12_plan_16 : decode cX12_plan 16 = .ok (.iconst 0, 1) := by decide +kernel
theorem dX12_plan_17 : decode cX12_plan 17 = .ok (.putfield 354, 3) := by decide +kernel
theorem dX12_plan_20 : decode cX12_plan 20 = .ok (.iconst 1, 1) := by decide +kernel
theorem dX12_plan_21 : decode cX12_plan 21 = .ok (.istore_n 2, 1) := by decide +kernel
theorem dX12_plan_22 : decode cX12_plan 22 = .ok (.iload_n 2, 1) := by decide +kernel
theorem dX12_plan_23 : decode cX12_plan 23 = .ok (.ifCond .eq 11, 3) := by decide +kernel
theorem dX12_plan_26 : decode cX12_plan 26 = .ok (.aload_n 0, 1) := by decide +kernel
theorem dX12_plan_27 : decode cX12_plan 27 = .ok (.invokevirtual 363, 3) := by decide +kernel
theorem dX12_plan_30 : decode cX12_plan 30 = .ok (.istore_n 2, 1) := by decide +kernel
theorem dX12_plan_31 : decode cX12_plan 31 = .ok (.goto (-9), 3) := by decide +kernel
theorem dX12_plan_34 : decode cX12_plan 34 = .ok (.aload_n 0, 1) := by decide +kernel
theorem dX12_plan_35 : decode cX12_plan 35 = .ok (.getfield 128, 3) := by decide +kernel
theorem dX12_plan_38 : decode cX12_plan 38 = .ok (.ifCond .le 5, 3) := by decide +kernel
theorem dX12_plan_41 : decode cX12_plan 41 = .ok (.iconst (-1), 1) := by decide +kernel
theorem dX12_plan_42 : decode cX12_plan 42 = .ok (.ireturn, 1) := by decide +kernel
theorem dX12_plan_43 : decode cX12_plan 43 = .ok (.aload_n 0, 1) := by decide +kernel
theorem dX12_plan_44 : decode cX12_plan 44 = .ok (.aload_n 0, 1) := by decide +kernel
theorem dX12_plan_45 : decode cX12_plan 45 = .ok (.getfield 354, 3) := by decide +kernel
theorem dX12_plan_48 : decode cX12_plan 48 = .ok (.putfield 345, 3) := by decide +kernel
theorem dX12_plan_51 : decode cX12_plan 51 = .ok (.iconst 0, 1) := by decide +kernel
theorem dX12_plan_52 : decode cX12_plan 52 = .ok (.istore_n 3, 1) := by decide +kernel
theorem dX12_plan_53 : decode cX12_plan 53 = .ok (.iload_n 3, 1) := by decide +kernel
theorem dX12_plan_54 : decode cX12_plan 54 = .ok (.sipush 240, 3) := by decide +kernel
theorem dX12_plan_57 : decode cX12_plan 57 = .ok (.if_icmp .ge 21, 3) := by decide +kernel
theorem dX12_plan_60 : decode cX12_plan 60 = .ok (.aload_n 0, 1) := by decide +kernel
theorem dX12_plan_61 : decode cX12_plan 61 = .ok (.getfield 87, 3) := by decide +kernel
theorem dX12_plan_64 : decode cX12_plan 64 = .ok (.iload_n 3, 1) := by decide +kernel
theorem dX12_plan_65 : decode cX12_plan 65 = .ok (.aload_n 0, 1) := by decide +kernel
theorem dX12_plan_66 : decode cX12_plan 66 = .ok (.getfield 84, 3) := by decide +kernel
theorem dX12_plan_69 : decode cX12_plan 69 = .ok (.iload_n 3, 1) := by decide +kernel
theorem dX12_plan_70 : decode cX12_plan 70 = .ok (.iaload, 1) := by decide +kernel
theorem dX12_plan_71 : decode cX12_plan 71 = .ok (.iastore, 1) := by decide +kernel
theorem dX12_plan_72 : decode cX12_plan 72 = .ok (.iinc 3 1, 3) := by decide +kernel
theorem dX12_plan_75 : decode cX12_plan 75 = .ok (.goto (-22), 3) := by decide +kernel
theorem dX12_plan_78 : decode cX12_plan 78 = .ok (.iconst 0, 1) := by decide +kernel
theorem dX12_plan_79 : decode cX12_plan 79 = .ok (.istore_n 3, 1) := by decide +kernel
theorem dX12_plan_80 : decode cX12_plan 80 = .ok (.iload_n 3, 1) := by decide +kernel
theorem dX12_plan_81 : decode cX12_plan 81 = .ok (.bipush 30, 2) := by decide +kernel
theorem dX12_plan_83 : decode cX12_plan 83 = .ok (.if_icmp .ge 37, 3) := by decide +kernel
theorem dX12_plan_86 : decode cX12_plan 86 = .ok (.aload_n 0, 1) := by decide +kernel
theorem dX12_plan_87 : decode cX12_plan 87 = .ok (.getfield 90, 3) := by decide +kernel
theorem dX12_plan_90 : decode cX12_plan 90 = .ok (.iload_n 3, 1) := by decide +kernel
theorem dX12_plan_91 : decode cX12_plan 91 = .ok (.iconst 0, 1) := by decide +kernel
theorem dX12_plan_92 : decode cX12_plan 92 = .ok (.iastore, 1) := by decide +kernel
theorem dX12_plan_93 : decode cX12_plan 93 = .ok (.aload_n 0, 1) := by decide +kernel
theorem dX12_plan_94 : decode cX12_plan 94 = .ok (.getfield 93, 3) := by decide +kernel
theorem dX12_plan_97 : decode cX12_plan 97 = .ok (.iload_n 3, 1) := by decide +kernel
theorem dX12_plan_98 : decode cX12_plan 98 = .ok (.iconst 0, 1) := by decide +kernel
theorem dX12_plan_99 : decode cX12_plan 99 = .ok (.iastore, 1) := by decide +kernel
theorem dX12_plan_100 : decode cX12_plan 100 = .ok (.aload_n 0, 1) := by decide +kernel
theorem dX12_plan_101 : decode cX12_plan 101 = .ok (.getfield 96, 3) := by decide +kernel
theorem dX12_plan_104 : decode cX12_plan 104 = .ok (.iload_n 3, 1) := by decide +kernel
theorem dX12_plan_105 : decode cX12_plan 105 = .ok (.iconst 0, 1) := by decide +kernel
theorem dX12_plan_106 : decode cX12_plan 106 = .ok (.bastore, 1) := by decide +kernel
theorem dX12_plan_107 : decode cX12_plan 107 = .ok (.aload_n 0, 1) := by decide +kernel
theorem dX12_plan_108 : decode cX12_plan 108 = .ok (.getfield 100, 3) := by decide +kernel
theorem dX12_plan_111 : decode cX12_plan 111 = .ok (.iload_n 3, 1) := by decide +kernel
theorem dX12_plan_112 : decode cX12_plan 112 = .ok (.iconst 0, 1) := by decide +kernel
theorem dX12_plan_113 : decode cX12_plan 113 = .ok (.bastore, 1) := by decide +kernel
theorem dX12_plan_114 : decode cX12_plan 114 = .ok (.iinc 3 1, 3) := by decide +kernel
theorem dX12_plan_117 : decode cX12_plan 117 = .ok (.goto (-37), 3) := by decide +kernel
theorem dX12_plan_120 : decode cX12_plan 120 = .ok (.aload_n 0, 1) := by decide +kernel
theorem dX12_plan_121 : decode cX12_plan 121 = .ok (.getfield 345, 3) := by decide +kernel
theorem dX12_plan_124 : decode cX12_plan 124 = .ok (.ireturn, 1) := by decide +kernel
def LF_X12_plan_22 (N : Nat) : Nat → Nat → Int32 → MI → ML → MR → Option (MI)
  | 0, _, _, _, _, _ => none
  | k + 1, y0, y2, I, L, R =>
    if y2 = 0 then
      some (I)
    else
      bn2 (F_X12_readItem N y0 I L R) fun b8 I9 =>
      wr (b2i b8) fun (u11 : Int32) =>
      LF_X12_plan_22 N k y0 u11 I9 L R
def LF_X12_plan_53 (N : Nat) : Nat → Nat → Int32 → MI → ML → MR → Option (MI)
  | 0, _, _, _, _, _ => none
  | k + 1, y0, y3, I, L, R =>
    if (240 : Int32) ≤ y3 then
      some (I)
    else
      (rf R y0 56 20).bind fun a17 =>
      (rf R y0 55 20).bind fun a18 =>
      (ri I a18 y3).bind fun v19 =>
      (wi I a17 y3 v19).bind fun I20 =>
      wr (y3 + (1 : Int32)) fun (u21 : Int32) =>
      LF_X12_plan_53 N k y0 u21 I20 L R
def LF_X12_plan_80 (N : Nat) : Nat → Nat → Int32 → MI → ML → MR → Option (MI)
  | 0, _, _, _, _, _ => none
  | k + 1, y0, y3, I, L, R =>
    if (30 : Int32) ≤ y3 then
      some (I)
    else
      (rf R y0 57 20).bind fun a25 =>
      (wi I a25 y3 (0 : Int32)).bind fun I26 =>
      (rf R y0 58 20).bind fun a27 =>
      (wi I26 a27 y3 (0 : Int32)).bind fun I28 =>
      (rf R y0 59 22).bind fun a29 =>
      (wz I28 a29 y3 (0 : Int32)).bind fun I30 =>
      (rf R y0 60 22).bind fun a31 =>
      (wz I30 a31 y3 (0 : Int32)).bind fun I32 =>
      wr (y3 + (1 : Int32)) fun (u33 : Int32) =>
      LF_X12_plan_80 N k y0 u33 I32 L R
def F_X12_plan (N : Nat) (x0 : Nat) (x1 : Int32) (I : MI) (L : ML) (R : MR) : Option (Int32 × MI) :=
  if kd x0 = 11 ∧ x0 < NN then
  wr (uI I x0 5 (0 : Int32)) fun (I1 : MI) =>
  bn2 (F_X12_begins N x0 x1 I1 L R) fun b2 I3 =>
  if (b2i b2) = 0 then
    some ((0 : Int32), I3)
  else
    wr (uI I3 x0 53 (0 : Int32)) fun (I6 : MI) =>
    bn1 (LF_X12_plan_22 N N x0 (1 : Int32) I6 L R) fun z12 =>
    if (z12 x0 15) ≤ 0 then
      wr (uI z12 x0 54 (z12 x0 53)) fun (I15 : MI) =>
      bn1 (LF_X12_plan_53 N N x0 (0 : Int32) I15 L R) fun z22 =>
      bn1 (LF_X12_plan_80 N N x0 (0 : Int32) z22 L R) fun z34 =>
      some ((z34 x0 54), z34)
    else
      some ((-1 : Int32), z12)
  else none
set_option maxRecDepth 100000 in
set_option maxHeartbeats 4000000 in
theorem lp_X12_plan_22 {G : Gm} (C0 : Cx G (yX12_plan.cls) cX12_plan (some .int)) (eNL : G.nL = 4) (erm : G.rm = ({ frames := 6, cells := 0, slots := 0, locals := 132 } : Room)) (N : Nat) : ∀ (k : Nat) (y0 : Nat) (y2 : Int32) (I : MI) (L : ML) (R : MR) (z : MI) (hk0 : kd y0 = 11) (ho0 : y0 < NN), LF_X12_plan_22 N k y0 y2 I L R = some z → ∀ f : State → Prop, V G f 34 [(0, .ref (G.ad y0))] [] z L R → V G f 22 [(0, .ref (G.ad y0)), (2, .int y2)] [] I L R := by
  intro k
  induction k with
  | zero =>
    intro y0 y2 I L R q hk0 ho0 h
    exact absurd h (by simp [LF_X12_plan_22])
  | succ k ih =>
    intro y0 y2 I L R q hk0 ho0 h f kx
    rw [LF_X12_plan_22] at h
    refine V_iload_n C0 1 rfl rfl dX12_plan_22 ?_
    refine V_if_eq C0 (tgt := 34) (by decide) dX12_plan_23 (fun c7 => ?_) (fun c7 => ?_)
    · have h := (if_pos c7).symm.trans h
      cases h
      exact V_sub [0] rfl kx
    · have h := (if_neg c7).symm.trans h
      refine V_aload_n C0 0 rfl rfl dX12_plan_26 ?_
      obtain ⟨b8, I9, q10, h⟩ := bn2_some h
      refine V_callV C0 (st := []) (As := []) 11 (c_X12_readItem G.l G.D G.cA G.ad G.bs G.X C0.2.2.2.2.2.2.2.2.2.1 C0.2.2.2.2.2.2.2.2.2.2.2.2 N y0 I L R b8 I9 q10) lc_X12_readItem lk_X12_363 ho0 hk0 ⟨_, rfl, rfl⟩ rfl (by rw [erm]; decide) (Nat.le_of_ble_eq_true rfl) dX12_plan_27 ?_
      show V G _ 30 [(0, .ref (G.ad y0)), (2, .int y2)] [.int (b2i b8)] I9 L R
      obtain ⟨u11, eu11, h⟩ := wr_some h
      rw [← eu11]
      refine V_istore_n C0 [(2, .int u11), (0, .ref (G.ad y0))] rfl (by rw [eNL]; decide) rfl dX12_plan_30 ?_
      refine V_goto C0 (tgt := 22) (by decide) dX12_plan_31 ?_
      exact V_sub [1, 0] rfl (ih y0 u11 I9 L R _ hk0 ho0 h f kx)
set_option maxRecDepth 100000 in
set_option maxHeartbeats 4000000 in
theorem lp_X12_plan_53 {G : Gm} (C0 : Cx G (yX12_plan.cls) cX12_plan (some .int)) (eNL : G.nL = 4) (erm : G.rm = ({ frames := 6, cells := 0, slots := 0, locals := 132 } : Room)) (N : Nat) : ∀ (k : Nat) (y0 : Nat) (y3 : Int32) (I : MI) (L : ML) (R : MR) (z : MI) (hk0 : kd y0 = 11) (ho0 : y0 < NN), LF_X12_plan_53 N k y0 y3 I L R = some z → ∀ f : State → Prop, V G f 78 [(0, .ref (G.ad y0))] [] z L R → V G f 53 [(0, .ref (G.ad y0)), (3, .int y3)] [] I L R := by
  intro k
  induction k with
  | zero =>
    intro y0 y3 I L R q hk0 ho0 h
    exact absurd h (by simp [LF_X12_plan_53])
  | succ k ih =>
    intro y0 y3 I L R q hk0 ho0 h f kx
    rw [LF_X12_plan_53] at h
    refine V_iload_n C0 1 rfl rfl dX12_plan_53 ?_
    refine V_sipush C0 (v := (240 : Int32)) (by decide) dX12_plan_54 ?_
    refine V_icmp_ge C0 (tgt := 78) (by decide) dX12_plan_57 (fun c16 => ?_) (fun c16 => ?_)
    · have h := (if_pos c16).symm.trans h
      cases h
      exact V_sub [0] rfl kx
    · have h := (if_neg c16).symm.trans h
      refine V_aload_n C0 0 rfl rfl dX12_plan_60 ?_
      obtain ⟨a17, qa17, h⟩ := bnd_some h
      refine V_getR C0 11 56 fl_X12_87 ho0 hk0 rfl (rf_at qa17) dX12_plan_61 ?_
      refine V_iload_n C0 1 rfl rfl dX12_plan_64 ?_
      refine V_aload_n C0 0 rfl rfl dX12_plan_65 ?_
      obtain ⟨a18, qa18, h⟩ := bnd_some h
      refine V_getR C0 11 55 fl_X12_84 ho0 hk0 rfl (rf_at qa18) dX12_plan_66 ?_
      refine V_iload_n C0 1 rfl rfl dX12_plan_69 ?_
      obtain ⟨v19, qv19, h⟩ := bnd_some h
      refine V_ri C0 (rf_lt qa18) (rf_kd qa18) qv19 dX12_plan_70 ?_
      obtain ⟨I20, qI20, h⟩ := bnd_some h
      refine V_wi C0 (rf_lt qa17) (rf_kd qa17) qI20 dX12_plan_71 ?_
      obtain ⟨u21, eu21, h⟩ := wr_some h
      refine V_iinc C0 1 [(3, .int u21), (0, .ref (G.ad y0))] rfl (n := 1) (by rw [eu21]; rfl) (by rw [eNL]; decide) rfl dX12_plan_72 ?_
      refine V_goto C0 (tgt := 53) (by decide) dX12_plan_75 ?_
      exact V_sub [1, 0] rfl (ih y0 u21 I20 L R _ hk0 ho0 h f kx)
set_option maxRecDepth 100000 in
set_option maxHeartbeats 4000000 in
theorem lp_X12_plan_80 {G : Gm} (C0 : Cx G (yX12_plan.cls) cX12_plan (some .int)) (eNL : G.nL = 4) (erm : G.rm = ({ frames := 6, cells := 0, slots := 0, locals := 132 } : Room)) (N : Nat) : ∀ (k : Nat) (y0 : Nat) (y3 : Int32) (I : MI) (L : ML) (R : MR) (z : MI) (hk0 : kd y0 = 11) (ho0 : y0 < NN), LF_X12_plan_80 N k y0 y3 I L R = some z → ∀ f : State → Prop, V G f 120 [(0, .ref (G.ad y0))] [] z L R → V G f 80 [(0, .ref (G.ad y0)), (3, .int y3)] [] I L R := by
  intro k
  induction k with
  | zero =>
    intro y0 y3 I L R q hk0 ho0 h
    exact absurd h (by simp [LF_X12_plan_80])
  | succ k ih =>
    intro y0 y3 I L R q hk0 ho0 h f kx
    rw [LF_X12_plan_80] at h
    refine V_iload_n C0 1 rfl rfl dX12_plan_80 ?_
    refine V_bipush C0 (v := (30 : Int32)) (by decide) dX12_plan_81 ?_
    refine V_icmp_ge C0 (tgt := 120) (by decide) dX12_plan_83 (fun c24 => ?_) (fun c24 => ?_)
    · have h := (if_pos c24).symm.trans h
      cases h
      exact V_sub [0] rfl kx
    · have h := (if_neg c24).symm.trans h
      refine V_aload_n C0 0 rfl rfl dX12_plan_86 ?_
      obtain ⟨a25, qa25, h⟩ := bnd_some h
      refine V_getR C0 11 57 fl_X12_90 ho0 hk0 rfl (rf_at qa25) dX12_plan_87 ?_
      refine V_iload_n C0 1 rfl rfl dX12_plan_90 ?_
      refine V_iconst C0 (v := (0 : Int32)) (by decide) dX12_plan_91 ?_
      obtain ⟨I26, qI26, h⟩ := bnd_some h
      refine V_wi C0 (rf_lt qa25) (rf_kd qa25) qI26 dX12_plan_92 ?_
      refine V_aload_n C0 0 rfl rfl dX12_plan_93 ?_
      obtain ⟨a27, qa27, h⟩ := bnd_some h
      refine V_getR C0 11 58 fl_X12_93 ho0 hk0 rfl (rf_at qa27) dX12_plan_94 ?_
      refine V_iload_n C0 1 rfl rfl dX12_plan_97 ?_
      refine V_iconst C0 (v := (0 : Int32)) (by decide) dX12_plan_98 ?_
      obtain ⟨I28, qI28, h⟩ := bnd_some h
      refine V_wi C0 (rf_lt qa27) (rf_kd qa27) qI28 dX12_plan_99 ?_
      refine V_aload_n C0 0 rfl rfl dX12_plan_100 ?_
      obtain ⟨a29, qa29, h⟩ := bnd_some h
      refine V_getR C0 11 59 fl_X12_96 ho0 hk0 rfl (rf_at qa29) dX12_plan_101 ?_
      refine V_iload_n C0 1 rfl rfl dX12_plan_104 ?_
      refine V_iconst C0 (v := (0 : Int32)) (by decide) dX12_plan_105 ?_
      obtain ⟨I30, qI30, h⟩ := bnd_some h
      refine V_wz C0 (rf_lt qa29) (rf_kd qa29) qI30 dX12_plan_106 ?_
      refine V_aload_n C0 0 rfl rfl dX12_plan_107 ?_
      obtain ⟨a31, qa31, h⟩ := bnd_some h
      refine V_getR C0 11 60 fl_X12_100 ho0 hk0 rfl (rf_at qa31) dX12_plan_108 ?_
      refine V_iload_n C0 1 rfl rfl dX12_plan_111 ?_
      refine V_iconst C0 (v := (0 : Int32)) (by decide) dX12_plan_112 ?_
      obtain ⟨I32, qI32, h⟩ := bnd_some h
      refine V_wz C0 (rf_lt qa31) (rf_kd qa31) qI32 dX12_plan_113 ?_
      obtain ⟨u33, eu33, h⟩ := wr_some h
      refine V_iinc C0 1 [(3, .int u33), (0, .ref (G.ad y0))] rfl (n := 1) (by rw [eu33]; rfl) (by rw [eNL]; decide) rfl dX12_plan_114 ?_
      refine V_goto C0 (tgt := 80) (by decide) dX12_plan_117 ?_
      exact V_sub [1, 0] rfl (ih y0 u33 I32 L R _ hk0 ho0 h f kx)
set_option maxRecDepth 100000 in
set_option maxHeartbeats 4000000 in
theorem c_X12_plan (l : Launch) (D : va_G) (cA : Nat → ClassId) (ad : Nat → Nat) (bs : Nat) (X : State → Prop) (hAd : Ax ad bs) (hX : Stb bs X) (N : Nat) (x0 : Nat) (x1 : Int32) (I : MI) (L : ML) (R : MR) (r : Int32) (I' : MI) (h : F_X12_plan N x0 x1 I L R = some (r, I')) : Cn l D cA ad bs X yX12_plan cX12_plan 4 (some .int) 6 132 [.ref (ad x0), .int x1] I L R (some (.int r), I', L, R) := by
  refine Cn.ofV hAd hX [(0, .ref (ad x0)), (1, .int x1)] rfl (Nat.le_of_ble_eq_true rfl) (by decide) ?_
  intro G el eD ecA ead ebs eX erm eNL C0
  subst el eD ecA ead ebs eX
  unfold F_X12_plan at h
  obtain ⟨c_x0, h⟩ := ite_some h
  refine V_aload_n C0 0 rfl rfl dX12_plan_0 ?_
  refine V_iconst C0 (v := (0 : Int32)) (by decide) dX12_plan_1 ?_
  obtain ⟨I1, eI1, h⟩ := wr_some h
  refine V_putI C0 11 5 fp_X12_112 c_x0.2 c_x0.1 rfl dX12_plan_2 ?_
  rw [← eI1]
  refine V_aload_n C0 0 rfl rfl dX12_plan_5 ?_
  refine V_iload_n C0 1 rfl rfl dX12_plan_6 ?_
  obtain ⟨b2, I3, q4, h⟩ := bn2_some h
  refine V_callV C0 (st := []) (As := [.int x1]) 11 (c_X12_begins G.l G.D G.cA G.ad G.bs G.X C0.2.2.2.2.2.2.2.2.2.1 C0.2.2.2.2.2.2.2.2.2.2.2.2 N x0 x1 I1 L R b2 I3 q4) lc_X12_begins lk_X12_291 c_x0.2 c_x0.1 ⟨_, rfl, rfl⟩ rfl (by rw [erm]; decide) (Nat.le_of_ble_eq_true rfl) dX12_plan_7 ?_
  show V G _ 10 [(0, .ref (G.ad x0)), (1, .int x1)] [.int (b2i b2)] I3 L R
  refine V_if_ne C0 (tgt := 15) (by decide) dX12_plan_10 (fun c5 => ?_) (fun c5 => ?_)
  · have h := (if_neg c5).symm.trans h
    refine V_aload_n C0 0 rfl rfl dX12_plan_15 ?_
    refine V_iconst C0 (v := (0 : Int32)) (by decide) dX12_plan_16 ?_
    obtain ⟨I6, eI6, h⟩ := wr_some h
    refine V_putI C0 11 53 fp_X12_354 c_x0.2 c_x0.1 rfl dX12_plan_17 ?_
    rw [← eI6]
    refine V_iconst C0 (v := (1 : Int32)) (by decide) dX12_plan_20 ?_
    refine V_istore_n C0 [(2, .int (1 : Int32)), (0, .ref (G.ad x0)), (1, .int x1)] rfl (by rw [eNL]; decide) rfl dX12_plan_21 ?_
    obtain ⟨z12, q13, h⟩ := bn1_some h
    refine V_sub [1, 0] rfl (lp_X12_plan_22 C0 eNL erm N N x0 (1 : Int32) I6 L R _ c_x0.1 c_x0.2 q13 _ ?_)
    show V G _ 34 [(0, .ref (G.ad x0))] [] z12 L R
    refine V_aload_n C0 0 rfl rfl dX12_plan_34 ?_
    refine V_getI C0 11 15 fl_X12_128 c_x0.2 c_x0.1 rfl dX12_plan_35 ?_
    refine V_if_le C0 (tgt := 43) (by decide) dX12_plan_38 (fun c14 => ?_) (fun c14 => ?_)
    · have h := (if_pos c14).symm.trans h
      refine V_aload_n C0 0 rfl rfl dX12_plan_43 ?_
      refine V_aload_n C0 0 rfl rfl dX12_plan_44 ?_
      refine V_getI C0 11 53 fl_X12_354 c_x0.2 c_x0.1 rfl dX12_plan_45 ?_
      obtain ⟨I15, eI15, h⟩ := wr_some h
      refine V_putI C0 11 54 fp_X12_345 c_x0.2 c_x0.1 rfl dX12_plan_48 ?_
      rw [← eI15]
      refine V_iconst C0 (v := (0 : Int32)) (by decide) dX12_plan_51 ?_
      refine V_istore_n C0 [(3, .int (0 : Int32)), (0, .ref (G.ad x0))] rfl (by rw [eNL]; decide) rfl dX12_plan_52 ?_
      obtain ⟨z22, q23, h⟩ := bn1_some h
      refine V_sub [1, 0] rfl (lp_X12_plan_53 C0 eNL erm N N x0 (0 : Int32) I15 L R _ c_x0.1 c_x0.2 q23 _ ?_)
      show V G _ 78 [(0, .ref (G.ad x0))] [] z22 L R
      refine V_iconst C0 (v := (0 : Int32)) (by decide) dX12_plan_78 ?_
      refine V_istore_n C0 [(3, .int (0 : Int32)), (0, .ref (G.ad x0))] rfl (by rw [eNL]; decide) rfl dX12_plan_79 ?_
      obtain ⟨z34, q35, h⟩ := bn1_some h
      refine V_sub [1, 0] rfl (lp_X12_plan_80 C0 eNL erm N N x0 (0 : Int32) z22 L R _ c_x0.1 c_x0.2 q35 _ ?_)
      show V G _ 120 [(0, .ref (G.ad x0))] [] z34 L R
      refine V_aload_n C0 0 rfl rfl dX12_plan_120 ?_
      refine V_getI C0 11 54 fl_X12_345 c_x0.2 c_x0.1 rfl dX12_plan_121 ?_
      cases h
      exact V_iret C0 dX12_plan_124
    · have h := (if_neg c14).symm.trans h
      refine V_iconst C0 (v := (-1 : Int32)) (by decide) dX12_plan_41 ?_
      cases h
      exact V_iret C0 dX12_plan_42
  · have h := (if_pos c5).symm.trans h
    refine V_iconst C0 (v := (0 : Int32)) (by decide) dX12_plan_13 ?_
    cases h
    exact V_iret C0 dX12_plan_14
theorem dX12_fault_0 : decode cX12_fault 0 = .ok (.aload_n 0, 1) := by decide +kernel
theorem dX12_fault_1 : decode cX12_fault 1 = .ok (.iconst 0, 1) := by decide +kernel
theorem dX12_fault_2 : decode cX12_fault 2 = .ok (.putfield 112, 3) := by decide +kernel
theorem dX12_fault_5 : decode cX12_fault 5 = .ok (.iload_n 1, 1) := by decide +kernel
theorem dX12_fault_6 : decode cX12_fault 6 = .ok (.ifCond .ne 10, 3) := by decide +kernel
theorem dX12_fault_9 : decode cX12_fault 9 = .ok (.aload_n 0, 1) := by decide +kernel
theorem dX12_fault_10 : decode cX12_fault 10 = .ok (.getfield 128, 3) := by decide +kernel
theorem dX12_fault_13 : decode cX12_fault 13 = .ok (.goto 16, 3) := by decide +kernel
theorem dX12_fault_16 : decode cX12_fault 16 = .ok (.iload_n 1, 1) := by decide +kernel
theorem dX12_fault_17 : decode cX12_fault 17 = .ok (.iconst 1, 1) := by decide +kernel
theorem dX12_fault_18 : decode cX12_fault 18 = .ok (.if_icmp .ne 10, 3) := by decide +kernel
theorem dX12_fault_21 : decode cX12_fault 21 = .ok (.aload_n 0, 1) := by decide +kernel
theorem dX12_fault_22 : decode cX12_fault 22 = .ok (.getfield 31, 3) := by decide +kernel
theorem dX12_fault_25 : decode cX12_fault 25 = .ok (.goto 4, 3) := by decide +kernel
theorem dX12_fault_28 : decode cX12_fault 28 = .ok (.iconst (-1), 1) := by decide +kernel
theorem dX12_fault_29 : decode cX12_fault 29 = .ok (.ireturn, 1) := by decide +kernel
def F_X12_fault (x0 : Nat) (x1 : Int32) (I : MI) (L : ML) (R : MR) : Option (Int32 × MI) :=
  if kd x0 = 11 ∧ x0 < NN then
  wr (uI I x0 5 (0 : Int32)) fun (I1 : MI) =>
  if x1 = 0 then
    some ((I1 x0 15), I1)
  else
    if x1 = (1 : Int32) then
      some ((I1 x0 16), I1)
    else
      some ((-1 : Int32), I1)
  else none
set_option maxRecDepth 100000 in
set_option maxHeartbeats 4000000 in
theorem c_X12_fault (l : Launch) (D : va_G) (cA : Nat → ClassId) (ad : Nat → Nat) (bs : Nat) (X : State → Prop) (hAd : Ax ad bs) (hX : Stb bs X) (x0 : Nat) (x1 : Int32) (I : MI) (L : ML) (R : MR) (r : Int32) (I' : MI) (h : F_X12_fault x0 x1 I L R = some (r, I')) : Cn l D cA ad bs X yX12_fault cX12_fault 2 (some .int) 0 0 [.ref (ad x0), .int x1] I L R (some (.int r), I', L, R) := by
  refine Cn.ofV hAd hX [(0, .ref (ad x0)), (1, .int x1)] rfl (Nat.le_of_ble_eq_true rfl) (by decide) ?_
  intro G el eD ecA ead ebs eX erm eNL C0
  subst el eD ecA ead ebs eX
  unfold F_X12_fault at h
  obtain ⟨c_x0, h⟩ := ite_some h
  refine V_aload_n C0 0 rfl rfl dX12_fault_0 ?_
  refine V_iconst C0 (v := (0 : Int32)) (by decide) dX12_fault_1 ?_
  obtain ⟨I1, eI1, h⟩ := wr_some h
  refine V_putI C0 11 5 fp_X12_112 c_x0.2 c_x0.1 rfl dX12_fault_2 ?_
  rw [← eI1]
  refine V_iload_n C0 1 rfl rfl dX12_fault_5 ?_
  refine V_if_ne C0 (tgt := 16) (by decide) dX12_fault_6 (fun c2 => ?_) (fun c2 => ?_)
  · have h := (if_neg c2).symm.trans h
    refine V_iload_n C0 1 rfl rfl dX12_fault_16 ?_
    refine V_iconst C0 (v := (1 : Int32)) (by decide) dX12_fault_17 ?_
    refine V_icmp_ne C0 (tgt := 28) (by decide) dX12_fault_18 (fun c3 => ?_) (fun c3 => ?_)
    · have h := (if_neg c3).symm.trans h
      refine V_iconst C0 (v := (-1 : Int32)) (by decide) dX12_fault_28 ?_
      cases h
      exact V_iret C0 dX12_fault_29
    · have h := (if_pos c3).symm.trans h
      refine V_aload_n C0 0 rfl rfl dX12_fault_21 ?_
      refine V_getI C0 11 16 fl_X12_31 c_x0.2 c_x0.1 rfl dX12_fault_22 ?_
      refine V_goto C0 (tgt := 29) (by decide) dX12_fault_25 ?_
      cases h
      exact V_iret C0 dX12_fault_29
  · have h := (if_pos c2).symm.trans h
    refine V_aload_n C0 0 rfl rfl dX12_fault_9 ?_
    refine V_getI C0 11 15 fl_X12_128 c_x0.2 c_x0.1 rfl dX12_fault_10 ?_
    refine V_goto C0 (tgt := 29) (by decide) dX12_fault_13 ?_
    cases h
    exact V_iret C0 dX12_fault_29
theorem dX12_turnsOn_0 : decode cX12_turnsOn 0 = .ok (.aload_n 0, 1) := by decide +kernel
theorem dX12_turnsOn_1 : decode cX12_turnsOn 1 = .ok (.iload_n 1, 1) := by decide +kernel
theorem dX12_turnsOn_2 : decode cX12_turnsOn 2 = .ok (.bipush 6, 2) := by decide +kernel
theorem dX12_turnsOn_4 : decode cX12_turnsOn 4 = .ok (.invokevirtual 217, 3) := by decide +kernel
theorem dX12_turnsOn_7 : decode cX12_turnsOn 7 = .ok (.ifCond .eq 11, 3) := by decide +kernel
theorem dX12_turnsOn_10 : decode cX12_turnsOn 10 = .ok (.aload_n 0, 1) := by decide +kernel
theorem dX12_turnsOn_11 : decode cX12_turnsOn 11 = .ok (.iload_n 1, 1) := by decide +kernel
theorem dX12_turnsOn_12 : decode cX12_turnsOn 12 = .ok (.invokevirtual 366, 3) := by decide +kernel
theorem dX12_turnsOn_15 : decode cX12_turnsOn 15 = .ok (.ifCond .ne 5, 3) := by decide +kernel
theorem dX12_turnsOn_18 : decode cX12_turnsOn 18 = .ok (.iconst 0, 1) := by decide +kernel
theorem dX12_turnsOn_19 : decode cX12_turnsOn 19 = .ok (.ireturn, 1) := by decide +kernel
theorem dX12_turnsOn_20 : decode cX12_turnsOn 20 = .ok (.aload_n 0, 1) := by decide +kernel
theorem dX12_turnsOn_21 : decode cX12_turnsOn 21 = .ok (.iload_n 1, 1) := by decide +kernel
theorem dX12_turnsOn_22 : decode cX12_turnsOn 22 = .ok (.bipush 64, 2) := by decide +kernel
theorem dX12_turnsOn_24 : decode cX12_turnsOn 24 = .ok (.invokevirtual 211, 3) := by decide +kernel
theorem dX12_turnsOn_27 : decode cX12_turnsOn 27 = .ok (.iconst 1, 1) := by decide +kernel
theorem dX12_turnsOn_28 : decode cX12_turnsOn 28 = .ok (.if_icmp .ne 13, 3) := by decide +kernel
theorem dX12_turnsOn_31 : decode cX12_turnsOn 31 = .ok (.aload_n 0, 1) := by decide +kernel
theorem dX12_turnsOn_32 : decode cX12_turnsOn 32 = .ok (.iload_n 1, 1) := by decide +kernel
theorem dX12_turnsOn_33 : decode cX12_turnsOn 33 = .ok (.bipush 64, 2) := by decide +kernel
theorem dX12_turnsOn_35 : decode cX12_turnsOn 35 = .ok (.iconst 0, 1) := by decide +kernel
theorem dX12_turnsOn_36 : decode cX12_turnsOn 36 = .ok (.invokevirtual 246, 3) := by decide +kernel
theorem dX12_turnsOn_39 : decode cX12_turnsOn 39 = .ok (.iconst 0, 1) := by decide +kernel
theorem dX12_turnsOn_40 : decode cX12_turnsOn 40 = .ok (.ireturn, 1) := by decide +kernel
theorem dX12_turnsOn_41 : decode cX12_turnsOn 41 = .ok (.aload_n 0, 1) := by decide +kernel
theorem dX12_turnsOn_42 : decode cX12_turnsOn 42 = .ok (.iload_n 1, 1) := by decide +kernel
theorem dX12_turnsOn_43 : decode cX12_turnsOn 43 = .ok (.bipush 22, 2) := by decide +kernel
theorem dX12_turnsOn_45 : decode cX12_turnsOn 45 = .ok (.iconst 1, 1) := by decide +kernel
theorem dX12_turnsOn_46 : decode cX12_turnsOn 46 = .ok (.invokevirtual 246, 3) := by decide +kernel
theorem dX12_turnsOn_49 : decode cX12_turnsOn 49 = .ok (.iconst 1, 1) := by decide +kernel
theorem dX12_turnsOn_50 : decode cX12_turnsOn 50 = .ok (.ireturn, 1) := by decide +kernel
def F_X12_turnsOn (N : Nat) (x0 : Nat) (x1 : Int32) (I : MI) (L : ML) (R : MR) : Option (Bool × MI) :=
  if kd x0 = 11 ∧ x0 < NN then
  bn1 (F_X12_isA N x0 x1 (6 : Int32) I L R) fun b1 =>
  if (b2i b1) = 0 then
    some (false, I)
  else
    bn1 (F_X12_isWhole x0 x1 I L R) fun b4 =>
    if (b2i b4) = 0 then
      some (false, I)
    else
      bn1 (F_X12_get x0 x1 (64 : Int32) I L R) fun v7 =>
      if v7 = (1 : Int32) then
        bn1 (F_X12_set x0 x1 (64 : Int32) (0 : Int32) I L R) fun I12 =>
        some (false, I12)
      else
        bn1 (F_X12_set x0 x1 (22 : Int32) (1 : Int32) I L R) fun I10 =>
        some (true, I10)
  else none
set_option maxRecDepth 100000 in
set_option maxHeartbeats 4000000 in
theorem c_X12_turnsOn (l : Launch) (D : va_G) (cA : Nat → ClassId) (ad : Nat → Nat) (bs : Nat) (X : State → Prop) (hAd : Ax ad bs) (hX : Stb bs X) (N : Nat) (x0 : Nat) (x1 : Int32) (I : MI) (L : ML) (R : MR) (r : Bool) (I' : MI) (h : F_X12_turnsOn N x0 x1 I L R = some (r, I')) : Cn l D cA ad bs X yX12_turnsOn cX12_turnsOn 2 (some .boolean) 2 45 [.ref (ad x0), .int x1] I L R (some (.int (b2i r)), I', L, R) := by
  refine Cn.ofV hAd hX [(0, .ref (ad x0)), (1, .int x1)] rfl (Nat.le_of_ble_eq_true rfl) (by decide) ?_
  intro G el eD ecA ead ebs eX erm eNL C0
  subst el eD ecA ead ebs eX
  unfold F_X12_turnsOn at h
  obtain ⟨c_x0, h⟩ := ite_some h
  refine V_aload_n C0 0 rfl rfl dX12_turnsOn_0 ?_
  refine V_iload_n C0 1 rfl rfl dX12_turnsOn_1 ?_
  refine V_bipush C0 (v := (6 : Int32)) (by decide) dX12_turnsOn_2 ?_
  obtain ⟨b1, q2, h⟩ := bn1_some h
  refine V_callV C0 (st := []) (As := [.int x1, .int (6 : Int32)]) 11 (c_X12_isA G.l G.D G.cA G.ad G.bs G.X C0.2.2.2.2.2.2.2.2.2.1 C0.2.2.2.2.2.2.2.2.2.2.2.2 N x0 x1 (6 : Int32) I L R b1 q2) lc_X12_isA lk_X12_217 c_x0.2 c_x0.1 ⟨_, rfl, rfl⟩ rfl (by rw [erm]; decide) (Nat.le_of_ble_eq_true rfl) dX12_turnsOn_4 ?_
  show V G _ 7 [(0, .ref (G.ad x0)), (1, .int x1)] [.int (b2i b1)] I L R
  refine V_if_eq C0 (tgt := 18) (by decide) dX12_turnsOn_7 (fun c3 => ?_) (fun c3 => ?_)
  · have h := (if_pos c3).symm.trans h
    refine V_iconst C0 (v := (0 : Int32)) (by decide) dX12_turnsOn_18 ?_
    cases h
    exact V_zret C0 (by decide) dX12_turnsOn_19
  · have h := (if_neg c3).symm.trans h
    refine V_aload_n C0 0 rfl rfl dX12_turnsOn_10 ?_
    refine V_iload_n C0 1 rfl rfl dX12_turnsOn_11 ?_
    obtain ⟨b4, q5, h⟩ := bn1_some h
    refine V_callV C0 (st := []) (As := [.int x1]) 11 (c_X12_isWhole G.l G.D G.cA G.ad G.bs G.X C0.2.2.2.2.2.2.2.2.2.1 C0.2.2.2.2.2.2.2.2.2.2.2.2 x0 x1 I L R b4 q5) lc_X12_isWhole lk_X12_366 c_x0.2 c_x0.1 ⟨_, rfl, rfl⟩ rfl (by rw [erm]; decide) (Nat.le_of_ble_eq_true rfl) dX12_turnsOn_12 ?_
    show V G _ 15 [(0, .ref (G.ad x0)), (1, .int x1)] [.int (b2i b4)] I L R
    refine V_if_ne C0 (tgt := 20) (by decide) dX12_turnsOn_15 (fun c6 => ?_) (fun c6 => ?_)
    · have h := (if_neg c6).symm.trans h
      refine V_aload_n C0 0 rfl rfl dX12_turnsOn_20 ?_
      refine V_iload_n C0 1 rfl rfl dX12_turnsOn_21 ?_
      refine V_bipush C0 (v := (64 : Int32)) (by decide) dX12_turnsOn_22 ?_
      obtain ⟨v7, q8, h⟩ := bn1_some h
      refine V_callV C0 (st := []) (As := [.int x1, .int (64 : Int32)]) 11 (c_X12_get G.l G.D G.cA G.ad G.bs G.X C0.2.2.2.2.2.2.2.2.2.1 C0.2.2.2.2.2.2.2.2.2.2.2.2 x0 x1 (64 : Int32) I L R v7 q8) lc_X12_get lk_X12_211 c_x0.2 c_x0.1 ⟨_, rfl, rfl⟩ rfl (by rw [erm]; decide) (Nat.le_of_ble_eq_true rfl) dX12_turnsOn_24 ?_
      show V G _ 27 [(0, .ref (G.ad x0)), (1, .int x1)] [.int v7] I L R
      refine V_iconst C0 (v := (1 : Int32)) (by decide) dX12_turnsOn_27 ?_
      refine V_icmp_ne C0 (tgt := 41) (by decide) dX12_turnsOn_28 (fun c9 => ?_) (fun c9 => ?_)
      · have h := (if_neg c9).symm.trans h
        refine V_aload_n C0 0 rfl rfl dX12_turnsOn_41 ?_
        refine V_iload_n C0 1 rfl rfl dX12_turnsOn_42 ?_
        refine V_bipush C0 (v := (22 : Int32)) (by decide) dX12_turnsOn_43 ?_
        refine V_iconst C0 (v := (1 : Int32)) (by decide) dX12_turnsOn_45 ?_
        obtain ⟨I10, q11, h⟩ := bn1_some h
        refine V_callV C0 (st := []) (As := [.int x1, .int (22 : Int32), .int (1 : Int32)]) 11 (c_X12_set G.l G.D G.cA G.ad G.bs G.X C0.2.2.2.2.2.2.2.2.2.1 C0.2.2.2.2.2.2.2.2.2.2.2.2 x0 x1 (22 : Int32) (1 : Int32) I L R I10 q11) lc_X12_set lk_X12_246 c_x0.2 c_x0.1 ⟨_, rfl, rfl⟩ rfl (by rw [erm]; decide) (Nat.le_of_ble_eq_true rfl) dX12_turnsOn_46 ?_
        show V G _ 49 [(0, .ref (G.ad x0)), (1, .int x1)] [] I10 L R
        refine V_iconst C0 (v := (1 : Int32)) (by decide) dX12_turnsOn_49 ?_
        cases h
        exact V_zret C0 (by decide) dX12_turnsOn_50
      · have h := (if_pos c9).symm.trans h
        refine V_aload_n C0 0 rfl rfl dX12_turnsOn_31 ?_
        refine V_iload_n C0 1 rfl rfl dX12_turnsOn_32 ?_
        refine V_bipush C0 (v := (64 : Int32)) (by decide) dX12_turnsOn_33 ?_
        refine V_iconst C0 (v := (0 : Int32)) (by decide) dX12_turnsOn_35 ?_
        obtain ⟨I12, q13, h⟩ := bn1_some h
        refine V_callV C0 (st := []) (As := [.int x1, .int (64 : Int32), .int (0 : Int32)]) 11 (c_X12_set G.l G.D G.cA G.ad G.bs G.X C0.2.2.2.2.2.2.2.2.2.1 C0.2.2.2.2.2.2.2.2.2.2.2.2 x0 x1 (64 : Int32) (0 : Int32) I L R I12 q13) lc_X12_set lk_X12_246 c_x0.2 c_x0.1 ⟨_, rfl, rfl⟩ rfl (by rw [erm]; decide) (Nat.le_of_ble_eq_true rfl) dX12_turnsOn_36 ?_
        show V G _ 39 [(0, .ref (G.ad x0)), (1, .int x1)] [] I12 L R
        refine V_iconst C0 (v := (0 : Int32)) (by decide) dX12_turnsOn_39 ?_
        cases h
        exact V_zret C0 (by decide) dX12_turnsOn_40
    · have h := (if_pos c6).symm.trans h
      refine V_iconst C0 (v := (0 : Int32)) (by decide) dX12_turnsOn_18 ?_
      cases h
      exact V_zret C0 (by decide) dX12_turnsOn_19
theorem dX12_acts_0 : decode cX12_acts 0 = .ok (.iconst 1, 1) := by decide +kernel
theorem dX12_acts_1 : decode cX12_acts 1 = .ok (.istore 4, 2) := by decide +kernel
theorem dX12_acts_3 : decode cX12_acts 3 = .ok (.iload_n 1, 1) := by decide +kernel
theorem dX12_acts_4 : decode cX12_acts 4 = .ok (.tableswitch 149 0 5 #[40, 50, 75, 83, 93, 138], 40) := by decide +kernel
theorem dX12_acts_44 : decode cX12_acts 44 = .ok (.aload_n 0, 1) := by decide +kernel
theorem dX12_acts_45 : decode cX12_acts 45 = .ok (.iload_n 2, 1) := by decide +kernel
theorem dX12_acts_46 : decode cX12_acts 46 = .ok (.invokevirtual 369, 3) := by decide +kernel
theorem dX12_acts_49 : decode cX12_acts 49 = .ok (.istore 4, 2) := by decide +kernel
theorem dX12_acts_51 : decode cX12_acts 51 = .ok (.goto 117, 3) := by decide +kernel
theorem dX12_acts_54 : decode cX12_acts 54 = .ok (.aload_n 0, 1) := by decide +kernel
theorem dX12_acts_55 : decode cX12_acts 55 = .ok (.iload_n 2, 1) := by decide +kernel
theorem dX12_acts_56 : decode cX12_acts 56 = .ok (.bipush 6, 2) := by decide +kernel
theorem dX12_acts_58 : decode cX12_acts 58 = .ok (.invokevirtual 217, 3) := by decide +kernel
theorem dX12_acts_61 : decode cX12_acts 61 = .ok (.istore 4, 2) := by decide +kernel
theorem dX12_acts_63 : decode cX12_acts 63 = .ok (.iload 4, 2) := by decide +kernel
theorem dX12_acts_65 : decode cX12_acts 65 = .ok (.ifCond .eq 103, 3) := by decide +kernel
theorem dX12_acts_68 : decode cX12_acts 68 = .ok (.aload_n 0, 1) := by decide +kernel
theorem dX12_acts_69 : decode cX12_acts 69 = .ok (.iload_n 2, 1) := by decide +kernel
theorem dX12_acts_70 : decode cX12_acts 70 = .ok (.bipush 22, 2) := by decide +kernel
theorem dX12_acts_72 : decode cX12_acts 72 = .ok (.iconst 0, 1) := by decide +kernel
theorem dX12_acts_73 : decode cX12_acts 73 = .ok (.invokevirtual 246, 3) := by decide +kernel
theorem dX12_acts_76 : decode cX12_acts 76 = .ok (.goto 92, 3) := by decide +kernel
theorem dX12_acts_79 : decode cX12_acts 79 = .ok (.aload_n 0, 1) := by decide +kernel
theorem dX12_acts_80 : decode cX12_acts 80 = .ok (.iload_n 2, 1) := by decide +kernel
theorem dX12_acts_81 : decode cX12_acts 81 = .ok (.putfield 309, 3) := by decide +kernel
theorem dX12_acts_84 : decode cX12_acts 84 = .ok (.goto 84, 3) := by decide +kernel
theorem dX12_acts_87 : decode cX12_acts 87 = .ok (.aload_n 0, 1) := by decide +kernel
theorem dX12_acts_88 : decode cX12_acts 88 = .ok (.getfield 74, 3) := by decide +kernel
theorem dX12_acts_91 : decode cX12_acts 91 = .ok (.iload_n 2, 1) := by decide +kernel
theorem dX12_acts_92 : decode cX12_acts 92 = .ok (.iload_n 3, 1) := by decide +kernel
theorem dX12_acts_93 : decode cX12_acts 93 = .ok (.iastore, 1) := by decide +kernel
theorem dX12_acts_94 : decode cX12_acts 94 = .ok (.goto 74, 3) := by decide +kernel
theorem dX12_acts_97 : decode cX12_acts 97 = .ok (.aload_n 0, 1) := by decide +kernel
theorem dX12_acts_98 : decode cX12_acts 98 = .ok (.getfield 333, 3) := by decide +kernel
theorem dX12_acts_101 : decode cX12_acts 101 = .ok (.bipush 30, 2) := by decide +kernel
theorem dX12_acts_103 : decode cX12_acts 103 = .ok (.if_icmp .ge 7, 3) := by decide +kernel
theorem dX12_acts_106 : decode cX12_acts 106 = .ok (.iconst 1, 1) := by decide +kernel
theorem dX12_acts_107 : decode cX12_acts 107 = .ok (.goto 4, 3) := by decide +kernel
theorem dX12_acts_110 : decode cX12_acts 110 = .ok (.iconst 0, 1) := by decide +kernel
theorem dX12_acts_111 : decode cX12_acts 111 = .ok (.istore 4, 2) := by decide +kernel
theorem dX12_acts_113 : decode cX12_acts 113 = .ok (.iload 4, 2) := by decide +kernel
theorem dX12_acts_115 : decode cX12_acts 115 = .ok (.ifCond .eq 53, 3) := by decide +kernel
theorem dX12_acts_118 : decode cX12_acts 118 = .ok (.aload_n 0, 1) := by decide +kernel
theorem dX12_acts_119 : decode cX12_acts 119 = .ok (.dup, 1) := by decide +kernel
theorem dX12_acts_120 : decode cX12_acts 120 = .ok (.getfield 333, 3) := by decide +kernel
theorem dX12_acts_123 : decode cX12_acts 123 = .ok (.iconst 1, 1) := by decide +kernel
theorem dX12_acts_124 : decode cX12_acts 124 = .ok (.iadd, 1) := by decide +kernel
theorem dX12_acts_125 : decode cX12_acts 125 = .ok (.putfield 333, 3) := by decide +kernel
theorem dX12_acts_128 : decode cX12_acts 128 = .ok (.aload_n 0, 1) := by decide +kernel
theorem dX12_acts_129 : decode cX12_acts 129 = .ok (.iload_n 2, 1) := by decide +kernel
theorem dX12_acts_130 : decode cX12_acts 130 = .ok (.aload_n 0, 1) := by decide +kernel
theorem dX12_acts_131 : decode cX12_acts 131 = .ok (.iload_n 2, 1) := by decide +kernel
theorem dX12_acts_132 : decode cX12_acts 132 = .ok (.iconst 0, 1) := by decide +kernel
theorem dX12_acts_133 : decode cX12_acts 133 = .ok (.invokevirtual 211, 3) := by decide +kernel
theorem dX12_acts_136 : decode cX12_acts 136 = .ok (.invokevirtual 303, 3) := by decide +kernel
theorem dX12_acts_139 : decode cX12_acts 139 = .ok (.goto 29, 3) := by decide +kernel
theorem dX12_acts_142 : decode cX12_acts 142 = .ok (.aload_n 0, 1) := by decide +kernel
theorem dX12_acts_143 : decode cX12_acts 143 = .ok (.iload_n 2, 1) := by decide +kernel
theorem dX12_acts_144 : decode cX12_acts 144 = .ok (.bipush 10, 2) := by decide +kernel
theorem dX12_acts_146 : decode cX12_acts 146 = .ok (.iconst 0, 1) := by decide +kernel
theorem dX12_acts_147 : decode cX12_acts 147 = .ok (.invokevirtual 246, 3) := by decide +kernel
theorem dX12_acts_150 : decode cX12_acts 150 = .ok (.goto 18, 3) := by decide +kernel
theorem dX12_acts_153 : decode cX12_acts 153 = .ok (.iload_n 2, 1) := by decide +kernel
theorem dX12_acts_154 : decode cX12_acts 154 = .ok (.aload_n 0, 1) := by decide +kernel
theorem dX12_acts_155 : decode cX12_acts 155 = .ok (.getfield 345, 3) := by decide +kernel
theorem dX12_acts_158 : decode cX12_acts 158 = .ok (.if_icmp .ge 10, 3) := by decide +kernel
theorem dX12_acts_161 : decode cX12_acts 161 = .ok (.aload_n 0, 1) := by decide +kernel
theorem dX12_acts_162 : decode cX12_acts 162 = .ok (.getfield 96, 3) := by decide +kernel
theorem dX12_acts_165 : decode cX12_acts 165 = .ok (.iload_n 2, 1) := by decide +kernel
theorem dX12_acts_166 : decode cX12_acts 166 = .ok (.iconst 1, 1) := by decide +kernel
theorem dX12_acts_167 : decode cX12_acts 167 = .ok (.bastore, 1) := by decide +kernel
theorem dX12_acts_168 : decode cX12_acts 168 = .ok (.aload_n 0, 1) := by decide +kernel
theorem dX12_acts_169 : decode cX12_acts 169 = .ok (.dup, 1) := by decide +kernel
theorem dX12_acts_170 : decode cX12_acts 170 = .ok (.getfield 327, 3) := by decide +kernel
theorem dX12_acts_173 : decode cX12_acts 173 = .ok (.iload 4, 2) := by decide +kernel
theorem dX12_acts_175 : decode cX12_acts 175 = .ok (.ifCond .eq 7, 3) := by decide +kernel
theorem dX12_acts_178 : decode cX12_acts 178 = .ok (.iconst 1, 1) := by decide +kernel
theorem dX12_acts_179 : decode cX12_acts 179 = .ok (.goto 4, 3) := by decide +kernel
theorem dX12_acts_182 : decode cX12_acts 182 = .ok (.iconst 0, 1) := by decide +kernel
theorem dX12_acts_183 : decode cX12_acts 183 = .ok (.iadd, 1) := by decide +kernel
theorem dX12_acts_184 : decode cX12_acts 184 = .ok (.putfield 327, 3) := by decide +kernel
theorem dX12_acts_187 : decode cX12_acts 187 = .ok (.aload_n 0, 1) := by decide +kernel
theorem dX12_acts_188 : decode cX12_acts 188 = .ok (.dup, 1) := by decide +kernel
theorem dX12_acts_189 : decode cX12_acts 189 = .ok (.getfield 330, 3) := by decide +kernel
theorem dX12_acts_192 : decode cX12_acts 192 = .ok (.iload 4, 2) := by decide +kernel
theorem dX12_acts_194 : decode cX12_acts 194 = .ok (.ifCond .eq 7, 3) := by decide +kernel
theorem dX12_acts_197 : decode cX12_acts 197 = .ok (.iconst 0, 1) := by decide +kernel
theorem dX12_acts_198 : decode cX12_acts 198 = .ok (.goto 4, 3) := by decide +kernel
theorem dX12_acts_201 : decode cX12_acts 201 = .ok (.iconst 1, 1) := by decide +kernel
theorem dX12_acts_202 : decode cX12_acts 202 = .ok (.iadd, 1) := by decide +kernel
theorem dX12_acts_203 : decode cX12_acts 203 = .ok (.putfield 330, 3) := by decide +kernel
theorem dX12_acts_206 : decode cX12_acts 206 = .ok (.iload 4, 2) := by decide +kernel
theorem dX12_acts_208 : decode cX12_acts 208 = .ok (.ireturn, 1) := by decide +kernel
def F_X12_acts (N : Nat) (x0 : Nat) (x1 : Int32) (x2 : Int32) (x3 : Int32) (I : MI) (L : ML) (R : MR) : Option (Bool × MI) :=
  if kd x0 = 11 ∧ x0 < NN then
  bn2 (
    if x1 = (0 : Int32) then
      bn2 (F_X12_turnsOn N x0 x2 I L R) fun b7 I8 =>
      wr (b2i b7) fun (u10 : Int32) =>
      some (u10, I8)
    else
      if x1 = (1 : Int32) then
        bn1 (F_X12_isA N x0 x2 (6 : Int32) I L R) fun b12 =>
        wr (b2i b12) fun (u14 : Int32) =>
        bn1 (
          if u14 = 0 then
            some (I)
          else
            bn1 (F_X12_set x0 x2 (22 : Int32) (0 : Int32) I L R) fun I19 =>
            some (I19)
        ) fun (I15 : MI) =>
        some (u14, I15)
      else
        if x1 = (2 : Int32) then
          wr (uI I x0 35 x2) fun (I22 : MI) =>
          some ((1 : Int32), I22)
        else
          if x1 = (3 : Int32) then
            (rf R x0 38 20).bind fun a24 =>
            (wi I a24 x2 x3).bind fun I25 =>
            some ((1 : Int32), I25)
          else
            if x1 = (4 : Int32) then
              bn1 (
                if (30 : Int32) ≤ (I x0 46) then
                  some ((0 : Int32))
                else
                  some ((1 : Int32))
              ) fun (s27 : Int32) =>
              bn1 (
                if s27 = 0 then
                  some (I)
                else
                  wr (uI I x0 46 ((I x0 46) + (1 : Int32))) fun (I35 : MI) =>
                  bn1 (F_X12_get x0 x2 (0 : Int32) I35 L R) fun v36 =>
                  bn1 (F_X12_make N x0 x2 v36 I35 L R) fun I38 =>
                  some (I38)
              ) fun (I31 : MI) =>
              some (s27, I31)
            else
              if x1 = (5 : Int32) then
                bn1 (F_X12_set x0 x2 (10 : Int32) (0 : Int32) I L R) fun I41 =>
                some ((1 : Int32), I41)
              else
                bn1 (
                  if (I x0 54) ≤ x2 then
                    some (I)
                  else
                    (rf R x0 59 22).bind fun a47 =>
                    (wz I a47 x2 (1 : Int32)).bind fun I48 =>
                    some (I48)
                ) fun (I43 : MI) =>
                some ((1 : Int32), I43)
  ) fun (u1 : Int32) (I2 : MI) =>
  bn1 (
    if u1 = 0 then
      some ((0 : Int32))
    else
      some ((1 : Int32))
  ) fun (s49 : Int32) =>
  wr (uI I2 x0 44 ((I2 x0 44) + s49)) fun (I53 : MI) =>
  bn1 (
    if u1 = 0 then
      some ((1 : Int32))
    else
      some ((0 : Int32))
  ) fun (s54 : Int32) =>
  wr (uI I53 x0 45 ((I53 x0 45) + s54)) fun (I58 : MI) =>
  (z01 u1).bind fun q59 =>
  some (q59, I58)
  else none
set_option maxRecDepth 100000 in
set_option maxHeartbeats 4000000 in
theorem c_X12_acts (l : Launch) (D : va_G) (cA : Nat → ClassId) (ad : Nat → Nat) (bs : Nat) (X : State → Prop) (hAd : Ax ad bs) (hX : Stb bs X) (N : Nat) (x0 : Nat) (x1 : Int32) (x2 : Int32) (x3 : Int32) (I : MI) (L : ML) (R : MR) (r : Bool) (I' : MI) (h : F_X12_acts N x0 x1 x2 x3 I L R = some (r, I')) : Cn l D cA ad bs X yX12_acts cX12_acts 5 (some .boolean) 6 146 [.ref (ad x0), .int x1, .int x2, .int x3] I L R (some (.int (b2i r)), I', L, R) := by
  refine Cn.ofV hAd hX [(0, .ref (ad x0)), (1, .int x1), (2, .int x2), (3, .int x3)] rfl (Nat.le_of_ble_eq_true rfl) (by decide) ?_
  intro G el eD ecA ead ebs eX erm eNL C0
  subst el eD ecA ead ebs eX
  unfold F_X12_acts at h
  obtain ⟨c_x0, h⟩ := ite_some h
  refine V_iconst C0 (v := (1 : Int32)) (by decide) dX12_acts_0 ?_
  refine V_istore C0 [(4, .int (1 : Int32)), (0, .ref (G.ad x0)), (1, .int x1), (2, .int x2), (3, .int x3)] (by rw [eNL]; decide) rfl dX12_acts_1 ?_
  refine V_iload_n C0 2 rfl rfl dX12_acts_3 ?_
  obtain ⟨u1, I2, q3, h⟩ := bn2_some h
  have k4 : V G (qf G (some (.int (b2i r)), I', L, R)) 168 [(0, .ref (G.ad x0)), (4, .int u1)] [] I2 L R := by
    refine V_aload_n C0 0 rfl rfl dX12_acts_168 ?_
    refine V_dup C0 rfl dX12_acts_169 ?_
    refine V_getI C0 11 44 fl_X12_327 c_x0.2 c_x0.1 rfl dX12_acts_170 ?_
    refine V_iload C0 1 rfl dX12_acts_173 ?_
    obtain ⟨s49, q50, h⟩ := bn1_some h
    have k51 : V G (qf G (some (.int (b2i r)), I', L, R)) 183 [(0, .ref (G.ad x0)), (4, .int u1)] [.int s49, .int (I2 x0 44), .ref (G.ad x0)] I2 L R := by
      refine V_iadd C0 dX12_acts_183 ?_
      obtain ⟨I53, eI53, h⟩ := wr_some h
      refine V_putI C0 11 44 fp_X12_327 c_x0.2 c_x0.1 rfl dX12_acts_184 ?_
      rw [← eI53]
      refine V_aload_n C0 0 rfl rfl dX12_acts_187 ?_
      refine V_dup C0 rfl dX12_acts_188 ?_
      refine V_getI C0 11 45 fl_X12_330 c_x0.2 c_x0.1 rfl dX12_acts_189 ?_
      refine V_iload C0 1 rfl dX12_acts_192 ?_
      obtain ⟨s54, q55, h⟩ := bn1_some h
      have k56 : V G (qf G (some (.int (b2i r)), I', L, R)) 202 [(4, .int u1)] [.int s54, .int (I53 x0 45), .ref (G.ad x0)] I53 L R := by
        refine V_iadd C0 dX12_acts_202 ?_
        obtain ⟨I58, eI58, h⟩ := wr_some h
        refine V_putI C0 11 45 fp_X12_330 c_x0.2 c_x0.1 rfl dX12_acts_203 ?_
        rw [← eI58]
        refine V_iload C0 0 rfl dX12_acts_206 ?_
        obtain ⟨q59, qq59, h⟩ := bnd_some h
        rw [z01_b qq59]
        cases h
        exact V_zret C0 (b2i01 _) dX12_acts_208
      refine V_if_eq C0 (tgt := 201) (by decide) dX12_acts_194 (fun c57 => ?_) (fun c57 => ?_)
      · have q55 := (if_pos c57).symm.trans q55
        refine V_iconst C0 (v := (1 : Int32)) (by decide) dX12_acts_201 ?_
        cases q55
        exact V_sub [1] rfl k56
      · have q55 := (if_neg c57).symm.trans q55
        refine V_iconst C0 (v := (0 : Int32)) (by decide) dX12_acts_197 ?_
        refine V_goto C0 (tgt := 202) (by decide) dX12_acts_198 ?_
        cases q55
        exact V_sub [1] rfl k56
    refine V_if_eq C0 (tgt := 182) (by decide) dX12_acts_175 (fun c52 => ?_) (fun c52 => ?_)
    · have q50 := (if_pos c52).symm.trans q50
      refine V_iconst C0 (v := (0 : Int32)) (by decide) dX12_acts_182 ?_
      cases q50
      exact V_sub [0, 1] rfl k51
    · have q50 := (if_neg c52).symm.trans q50
      refine V_iconst C0 (v := (1 : Int32)) (by decide) dX12_acts_178 ?_
      refine V_goto C0 (tgt := 183) (by decide) dX12_acts_179 ?_
      cases q50
      exact V_sub [0, 1] rfl k51
  have nd5 := nd_0 x1
  by_cases c6 : x1 = (0 : Int32)
  · have q3 := (if_pos c6).symm.trans q3
    refine V_tableC C0 (tgt := 44) (v := (0 : Int32)) c6 (by decide) (by decide) dX12_acts_4 ?_
    refine V_aload_n C0 1 rfl rfl dX12_acts_44 ?_
    refine V_iload_n C0 3 rfl rfl dX12_acts_45 ?_
    obtain ⟨b7, I8, q9, q3⟩ := bn2_some q3
    refine V_callV C0 (st := []) (As := [.int x2]) 11 (c_X12_turnsOn G.l G.D G.cA G.ad G.bs G.X C0.2.2.2.2.2.2.2.2.2.1 C0.2.2.2.2.2.2.2.2.2.2.2.2 N x0 x2 I L R b7 I8 q9) lc_X12_turnsOn lk_X12_369 c_x0.2 c_x0.1 ⟨_, rfl, rfl⟩ rfl (by rw [erm]; decide) (Nat.le_of_ble_eq_true rfl) dX12_acts_46 ?_
    show V G _ 49 [(4, .int (1 : Int32)), (0, .ref (G.ad x0)), (1, .int x1), (2, .int x2), (3, .int x3)] [.int (b2i b7)] I8 L R
    obtain ⟨u10, eu10, q3⟩ := wr_some q3
    rw [← eu10]
    refine V_istore C0 [(4, .int u10), (0, .ref (G.ad x0)), (1, .int x1), (2, .int x2), (3, .int x3)] (by rw [eNL]; decide) rfl dX12_acts_49 ?_
    refine V_goto C0 (tgt := 168) (by decide) dX12_acts_51 ?_
    cases q3
    exact V_sub [1, 0] rfl k4
  · have q3 := (if_neg c6).symm.trans q3
    have nd5 := nd_add nd5 c6
    by_cases c11 : x1 = (1 : Int32)
    · have q3 := (if_pos c11).symm.trans q3
      refine V_tableC C0 (tgt := 54) (v := (1 : Int32)) c11 (by decide) (by decide) dX12_acts_4 ?_
      refine V_aload_n C0 1 rfl rfl dX12_acts_54 ?_
      refine V_iload_n C0 3 rfl rfl dX12_acts_55 ?_
      refine V_bipush C0 (v := (6 : Int32)) (by decide) dX12_acts_56 ?_
      obtain ⟨b12, q13, q3⟩ := bn1_some q3
      refine V_callV C0 (st := []) (As := [.int x2, .int (6 : Int32)]) 11 (c_X12_isA G.l G.D G.cA G.ad G.bs G.X C0.2.2.2.2.2.2.2.2.2.1 C0.2.2.2.2.2.2.2.2.2.2.2.2 N x0 x2 (6 : Int32) I L R b12 q13) lc_X12_isA lk_X12_217 c_x0.2 c_x0.1 ⟨_, rfl, rfl⟩ rfl (by rw [erm]; decide) (Nat.le_of_ble_eq_true rfl) dX12_acts_58 ?_
      show V G _ 61 [(4, .int (1 : Int32)), (0, .ref (G.ad x0)), (1, .int x1), (2, .int x2), (3, .int x3)] [.int (b2i b12)] I L R
      obtain ⟨u14, eu14, q3⟩ := wr_some q3
      rw [← eu14]
      refine V_istore C0 [(4, .int u14), (0, .ref (G.ad x0)), (1, .int x1), (2, .int x2), (3, .int x3)] (by rw [eNL]; decide) rfl dX12_acts_61 ?_
      refine V_iload C0 0 rfl dX12_acts_63 ?_
      obtain ⟨I15, q16, q3⟩ := bn1_some q3
      have k17 : V G (qf G (some (.int (b2i r)), I', L, R)) 168 [(0, .ref (G.ad x0)), (4, .int u14)] [] I15 L R := by
        cases q3
        exact V_sub [0, 1] rfl k4
      refine V_if_eq C0 (tgt := 168) (by decide) dX12_acts_65 (fun c18 => ?_) (fun c18 => ?_)
      · have q16 := (if_pos c18).symm.trans q16
        cases q16
        exact V_sub [1, 0] rfl k17
      · have q16 := (if_neg c18).symm.trans q16
        refine V_aload_n C0 1 rfl rfl dX12_acts_68 ?_
        refine V_iload_n C0 3 rfl rfl dX12_acts_69 ?_
        refine V_bipush C0 (v := (22 : Int32)) (by decide) dX12_acts_70 ?_
        refine V_iconst C0 (v := (0 : Int32)) (by decide) dX12_acts_72 ?_
        obtain ⟨I19, q20, q16⟩ := bn1_some q16
        refine V_callV C0 (st := []) (As := [.int x2, .int (22 : Int32), .int (0 : Int32)]) 11 (c_X12_set G.l G.D G.cA G.ad G.bs G.X C0.2.2.2.2.2.2.2.2.2.1 C0.2.2.2.2.2.2.2.2.2.2.2.2 x0 x2 (22 : Int32) (0 : Int32) I L R I19 q20) lc_X12_set lk_X12_246 c_x0.2 c_x0.1 ⟨_, rfl, rfl⟩ rfl (by rw [erm]; decide) (Nat.le_of_ble_eq_true rfl) dX12_acts_73 ?_
        show V G _ 76 [(4, .int u14), (0, .ref (G.ad x0)), (1, .int x1), (2, .int x2), (3, .int x3)] [] I19 L R
        refine V_goto C0 (tgt := 168) (by decide) dX12_acts_76 ?_
        cases q16
        exact V_sub [1, 0] rfl k17
    · have q3 := (if_neg c11).symm.trans q3
      have nd5 := nd_add nd5 c11
      by_cases c21 : x1 = (2 : Int32)
      · have q3 := (if_pos c21).symm.trans q3
        refine V_tableC C0 (tgt := 79) (v := (2 : Int32)) c21 (by decide) (by decide) dX12_acts_4 ?_
        refine V_aload_n C0 1 rfl rfl dX12_acts_79 ?_
        refine V_iload_n C0 3 rfl rfl dX12_acts_80 ?_
        obtain ⟨I22, eI22, q3⟩ := wr_some q3
        refine V_putI C0 11 35 fp_X12_309 c_x0.2 c_x0.1 rfl dX12_acts_81 ?_
        rw [← eI22]
        refine V_goto C0 (tgt := 168) (by decide) dX12_acts_84 ?_
        cases q3
        exact V_sub [1, 0] rfl k4
      · have q3 := (if_neg c21).symm.trans q3
        have nd5 := nd_add nd5 c21
        by_cases c23 : x1 = (3 : Int32)
        · have q3 := (if_pos c23).symm.trans q3
          refine V_tableC C0 (tgt := 87) (v := (3 : Int32)) c23 (by decide) (by decide) dX12_acts_4 ?_
          refine V_aload_n C0 1 rfl rfl dX12_acts_87 ?_
          obtain ⟨a24, qa24, q3⟩ := bnd_some q3
          refine V_getR C0 11 38 fl_X12_74 c_x0.2 c_x0.1 rfl (rf_at qa24) dX12_acts_88 ?_
          refine V_iload_n C0 3 rfl rfl dX12_acts_91 ?_
          refine V_iload_n C0 4 rfl rfl dX12_acts_92 ?_
          obtain ⟨I25, qI25, q3⟩ := bnd_some q3
          refine V_wi C0 (rf_lt qa24) (rf_kd qa24) qI25 dX12_acts_93 ?_
          refine V_goto C0 (tgt := 168) (by decide) dX12_acts_94 ?_
          cases q3
          exact V_sub [1, 0] rfl k4
        · have q3 := (if_neg c23).symm.trans q3
          have nd5 := nd_add nd5 c23
          by_cases c26 : x1 = (4 : Int32)
          · have q3 := (if_pos c26).symm.trans q3
            refine V_tableC C0 (tgt := 97) (v := (4 : Int32)) c26 (by decide) (by decide) dX12_acts_4 ?_
            refine V_aload_n C0 1 rfl rfl dX12_acts_97 ?_
            refine V_getI C0 11 46 fl_X12_333 c_x0.2 c_x0.1 rfl dX12_acts_98 ?_
            refine V_bipush C0 (v := (30 : Int32)) (by decide) dX12_acts_101 ?_
            obtain ⟨s27, q28, q3⟩ := bn1_some q3
            have k29 : V G (qf G (some (.int (b2i r)), I', L, R)) 111 [(0, .ref (G.ad x0)), (2, .int x2)] [.int s27] I L R := by
              refine V_istore C0 [(4, .int s27), (0, .ref (G.ad x0)), (2, .int x2)] (by rw [eNL]; decide) rfl dX12_acts_111 ?_
              refine V_iload C0 0 rfl dX12_acts_113 ?_
              obtain ⟨I31, q32, q3⟩ := bn1_some q3
              have k33 : V G (qf G (some (.int (b2i r)), I', L, R)) 168 [(0, .ref (G.ad x0)), (4, .int s27)] [] I31 L R := by
                cases q3
                exact V_sub [0, 1] rfl k4
              refine V_if_eq C0 (tgt := 168) (by decide) dX12_acts_115 (fun c34 => ?_) (fun c34 => ?_)
              · have q32 := (if_pos c34).symm.trans q32
                cases q32
                exact V_sub [1, 0] rfl k33
              · have q32 := (if_neg c34).symm.trans q32
                refine V_aload_n C0 1 rfl rfl dX12_acts_118 ?_
                refine V_dup C0 rfl dX12_acts_119 ?_
                refine V_getI C0 11 46 fl_X12_333 c_x0.2 c_x0.1 rfl dX12_acts_120 ?_
                refine V_iconst C0 (v := (1 : Int32)) (by decide) dX12_acts_123 ?_
                refine V_iadd C0 dX12_acts_124 ?_
                obtain ⟨I35, eI35, q32⟩ := wr_some q32
                refine V_putI C0 11 46 fp_X12_333 c_x0.2 c_x0.1 rfl dX12_acts_125 ?_
                rw [← eI35]
                refine V_aload_n C0 1 rfl rfl dX12_acts_128 ?_
                refine V_iload_n C0 2 rfl rfl dX12_acts_129 ?_
                refine V_aload_n C0 1 rfl rfl dX12_acts_130 ?_
                refine V_iload_n C0 2 rfl rfl dX12_acts_131 ?_
                refine V_iconst C0 (v := (0 : Int32)) (by decide) dX12_acts_132 ?_
                obtain ⟨v36, q37, q32⟩ := bn1_some q32
                refine V_callV C0 (st := [.int x2, .ref (G.ad x0)]) (As := [.int x2, .int (0 : Int32)]) 11 (c_X12_get G.l G.D G.cA G.ad G.bs G.X C0.2.2.2.2.2.2.2.2.2.1 C0.2.2.2.2.2.2.2.2.2.2.2.2 x0 x2 (0 : Int32) I35 L R v36 q37) lc_X12_get lk_X12_211 c_x0.2 c_x0.1 ⟨_, rfl, rfl⟩ rfl (by rw [erm]; decide) (Nat.le_of_ble_eq_true rfl) dX12_acts_133 ?_
                show V G _ 136 [(4, .int s27), (0, .ref (G.ad x0)), (2, .int x2)] [.int v36, .int x2, .ref (G.ad x0)] I35 L R
                obtain ⟨I38, q39, q32⟩ := bn1_some q32
                refine V_callV C0 (st := []) (As := [.int x2, .int v36]) 11 (c_X12_make G.l G.D G.cA G.ad G.bs G.X C0.2.2.2.2.2.2.2.2.2.1 C0.2.2.2.2.2.2.2.2.2.2.2.2 N x0 x2 v36 I35 L R I38 q39) lc_X12_make lk_X12_303 c_x0.2 c_x0.1 ⟨_, rfl, rfl⟩ rfl (by rw [erm]; decide) (Nat.le_of_ble_eq_true rfl) dX12_acts_136 ?_
                show V G _ 139 [(4, .int s27), (0, .ref (G.ad x0)), (2, .int x2)] [] I38 L R
                refine V_goto C0 (tgt := 168) (by decide) dX12_acts_139 ?_
                cases q32
                exact V_sub [1, 0] rfl k33
            refine V_icmp_ge C0 (tgt := 110) (by decide) dX12_acts_103 (fun c30 => ?_) (fun c30 => ?_)
            · have q28 := (if_pos c30).symm.trans q28
              refine V_iconst C0 (v := (0 : Int32)) (by decide) dX12_acts_110 ?_
              cases q28
              exact V_sub [1, 3] rfl k29
            · have q28 := (if_neg c30).symm.trans q28
              refine V_iconst C0 (v := (1 : Int32)) (by decide) dX12_acts_106 ?_
              refine V_goto C0 (tgt := 111) (by decide) dX12_acts_107 ?_
              cases q28
              exact V_sub [1, 3] rfl k29
          · have q3 := (if_neg c26).symm.trans q3
            have nd5 := nd_add nd5 c26
            by_cases c40 : x1 = (5 : Int32)
            · have q3 := (if_pos c40).symm.trans q3
              refine V_tableC C0 (tgt := 142) (v := (5 : Int32)) c40 (by decide) (by decide) dX12_acts_4 ?_
              refine V_aload_n C0 1 rfl rfl dX12_acts_142 ?_
              refine V_iload_n C0 3 rfl rfl dX12_acts_143 ?_
              refine V_bipush C0 (v := (10 : Int32)) (by decide) dX12_acts_144 ?_
              refine V_iconst C0 (v := (0 : Int32)) (by decide) dX12_acts_146 ?_
              obtain ⟨I41, q42, q3⟩ := bn1_some q3
              refine V_callV C0 (st := []) (As := [.int x2, .int (10 : Int32), .int (0 : Int32)]) 11 (c_X12_set G.l G.D G.cA G.ad G.bs G.X C0.2.2.2.2.2.2.2.2.2.1 C0.2.2.2.2.2.2.2.2.2.2.2.2 x0 x2 (10 : Int32) (0 : Int32) I L R I41 q42) lc_X12_set lk_X12_246 c_x0.2 c_x0.1 ⟨_, rfl, rfl⟩ rfl (by rw [erm]; decide) (Nat.le_of_ble_eq_true rfl) dX12_acts_147 ?_
              show V G _ 150 [(4, .int (1 : Int32)), (0, .ref (G.ad x0)), (1, .int x1), (2, .int x2), (3, .int x3)] [] I41 L R
              refine V_goto C0 (tgt := 168) (by decide) dX12_acts_150 ?_
              cases q3
              exact V_sub [1, 0] rfl k4
            · have q3 := (if_neg c40).symm.trans q3
              have nd5 := nd_add nd5 c40
              refine V_tableN C0 (tgt := 153) nd5 (by decide) (by decide) dX12_acts_4 ?_
              refine V_iload_n C0 3 rfl rfl dX12_acts_153 ?_
              refine V_aload_n C0 1 rfl rfl dX12_acts_154 ?_
              refine V_getI C0 11 54 fl_X12_345 c_x0.2 c_x0.1 rfl dX12_acts_155 ?_
              obtain ⟨I43, q44, q3⟩ := bn1_some q3
              have k45 : V G (qf G (some (.int (b2i r)), I', L, R)) 168 [(0, .ref (G.ad x0)), (4, .int (1 : Int32))] [] I43 L R := by
                cases q3
                exact V_sub [0, 1] rfl k4
              refine V_icmp_ge C0 (tgt := 168) (by decide) dX12_acts_158 (fun c46 => ?_) (fun c46 => ?_)
              · have q44 := (if_pos c46).symm.trans q44
                cases q44
                exact V_sub [1, 0] rfl k45
              · have q44 := (if_neg c46).symm.trans q44
                refine V_aload_n C0 1 rfl rfl dX12_acts_161 ?_
                obtain ⟨a47, qa47, q44⟩ := bnd_some q44
                refine V_getR C0 11 59 fl_X12_96 c_x0.2 c_x0.1 rfl (rf_at qa47) dX12_acts_162 ?_
                refine V_iload_n C0 3 rfl rfl dX12_acts_165 ?_
                refine V_iconst C0 (v := (1 : Int32)) (by decide) dX12_acts_166 ?_
                obtain ⟨I48, qI48, q44⟩ := bnd_some q44
                refine V_wz C0 (rf_lt qa47) (rf_kd qa47) qI48 dX12_acts_167 ?_
                cases q44
                exact V_sub [1, 0] rfl k45
theorem dX12_term_0 : decode cX12_term 0 = .ok (.aload_n 0, 1) := by decide +kernel
theorem dX12_term_1 : decode cX12_term 1 = .ok (.getfield 87, 3) := by decide +kernel
theorem dX12_term_4 : decode cX12_term 4 = .ok (.iload_n 1, 1) := by decide +kernel
theorem dX12_term_5 : decode cX12_term 5 = .ok (.iconst 3, 1) := by decide +kernel
theorem dX12_term_6 : decode cX12_term 6 = .ok (.iadd, 1) := by decide +kernel
theorem dX12_term_7 : decode cX12_term 7 = .ok (.iaload, 1) := by decide +kernel
theorem dX12_term_8 : decode cX12_term 8 = .ok (.istore_n 2, 1) := by decide +kernel
theorem dX12_term_9 : decode cX12_term 9 = .ok (.aload_n 0, 1) := by decide +kernel
theorem dX12_term_10 : decode cX12_term 10 = .ok (.getfield 87, 3) := by decide +kernel
theorem dX12_term_13 : decode cX12_term 13 = .ok (.iload_n 1, 1) := by decide +kernel
theorem dX12_term_14 : decode cX12_term 14 = .ok (.iconst 2, 1) := by decide +kernel
theorem dX12_term_15 : decode cX12_term 15 = .ok (.iadd, 1) := by decide +kernel
theorem dX12_term_16 : decode cX12_term 16 = .ok (.iaload, 1) := by decide +kernel
theorem dX12_term_17 : decode cX12_term 17 = .ok (.tableswitch 83 3 8 #[39, 47, 55, 63, 71, 76], 39) := by decide +kernel
theorem dX12_term_56 : decode cX12_term 56 = .ok (.aload_n 0, 1) := by decide +kernel
theorem dX12_term_57 : decode cX12_term 57 = .ok (.iload_n 2, 1) := by decide +kernel
theorem dX12_term_58 : decode cX12_term 58 = .ok (.bipush 10, 2) := by decide +kernel
theorem dX12_term_60 : decode cX12_term 60 = .ok (.invokevirtual 211, 3) := by decide +kernel
theorem dX12_term_63 : decode cX12_term 63 = .ok (.ireturn, 1) := by decide +kernel
theorem dX12_term_64 : decode cX12_term 64 = .ok (.aload_n 0, 1) := by decide +kernel
theorem dX12_term_65 : decode cX12_term 65 = .ok (.iload_n 2, 1) := by decide +kernel
theorem dX12_term_66 : decode cX12_term 66 = .ok (.bipush 62, 2) := by decide +kernel
theorem dX12_term_68 : decode cX12_term 68 = .ok (.invokevirtual 211, 3) := by decide +kernel
theorem dX12_term_71 : decode cX12_term 71 = .ok (.ireturn, 1) := by decide +kernel
theorem dX12_term_72 : decode cX12_term 72 = .ok (.aload_n 0, 1) := by decide +kernel
theorem dX12_term_73 : decode cX12_term 73 = .ok (.iload_n 2, 1) := by decide +kernel
theorem dX12_term_74 : decode cX12_term 74 = .ok (.bipush 44, 2) := by decide +kernel
theorem dX12_term_76 : decode cX12_term 76 = .ok (.invokevirtual 211, 3) := by decide +kernel
theorem dX12_term_79 : decode cX12_term 79 = .ok (.ireturn, 1) := by decide +kernel
theorem dX12_term_80 : decode cX12_term 80 = .ok (.aload_n 0, 1) := by decide +kernel
theorem dX12_term_81 : decode cX12_term 81 = .ok (.iload_n 2, 1) := by decide +kernel
theorem dX12_term_82 : decode cX12_term 82 = .ok (.bipush 32, 2) := by decide +kernel
theorem dX12_term_84 : decode cX12_term 84 = .ok (.invokevirtual 211, 3) := by decide +kernel
theorem dX12_term_87 : decode cX12_term 87 = .ok (.ireturn, 1) := by decide +kernel
theorem dX12_term_88 : decode cX12_term 88 = .ok (.aload_n 0, 1) := by decide +kernel
theorem dX12_term_89 : decode cX12_term 89 = .ok (.getfield 336, 3) := by decide +kernel
theorem dX12_term_92 : decode cX12_term 92 = .ok (.ireturn, 1) := by decide +kernel
theorem dX12_term_93 : decode cX12_term 93 = .ok (.aload_n 0, 1) := by decide +kernel
theorem dX12_term_94 : decode cX12_term 94 = .ok (.getfield 68, 3) := by decide +kernel
theorem dX12_term_97 : decode cX12_term 97 = .ok (.iload_n 2, 1) := by decide +kernel
theorem dX12_term_98 : decode cX12_term 98 = .ok (.iaload, 1) := by decide +kernel
theorem dX12_term_99 : decode cX12_term 99 = .ok (.ireturn, 1) := by decide +kernel
theorem dX12_term_100 : decode cX12_term 100 = .ok (.aload_n 0, 1) := by decide +kernel
theorem dX12_term_101 : decode cX12_term 101 = .ok (.getfield 71, 3) := by decide +kernel
theorem dX12_term_104 : decode cX12_term 104 = .ok (.iload_n 2, 1) := by decide +kernel
theorem dX12_term_105 : decode cX12_term 105 = .ok (.iaload, 1) := by decide +kernel
theorem dX12_term_106 : decode cX12_term 106 = .ok (.ireturn, 1) := by decide +kernel
def F_X12_term (x0 : Nat) (x1 : Int32) (I : MI) (L : ML) (R : MR) : Option (Int32) :=
  if kd x0 = 11 ∧ x0 < NN then
  (rf R x0 56 20).bind fun a1 =>
  (ri I a1 (x1 + (3 : Int32))).bind fun v2 =>
  (ri I a1 (x1 + (2 : Int32))).bind fun v3 =>
  if v3 = (3 : Int32) then
    bn1 (F_X12_get x0 v2 (10 : Int32) I L R) fun v6 =>
    some (v6)
  else
    if v3 = (4 : Int32) then
      bn1 (F_X12_get x0 v2 (62 : Int32) I L R) fun v9 =>
      some (v9)
    else
      if v3 = (5 : Int32) then
        bn1 (F_X12_get x0 v2 (44 : Int32) I L R) fun v12 =>
        some (v12)
      else
        if v3 = (6 : Int32) then
          bn1 (F_X12_get x0 v2 (32 : Int32) I L R) fun v15 =>
          some (v15)
        else
          if v3 = (7 : Int32) then
            some ((I x0 47))
          else
            if v3 = (8 : Int32) then
              (rf R x0 36 20).bind fun a19 =>
              (ri I a19 v2).bind fun v20 =>
              some (v20)
            else
              (rf R x0 37 20).bind fun a21 =>
              (ri I a21 v2).bind fun v22 =>
              some (v22)
  else none
set_option maxRecDepth 100000 in
set_option maxHeartbeats 4000000 in
theorem c_X12_term (l : Launch) (D : va_G) (cA : Nat → ClassId) (ad : Nat → Nat) (bs : Nat) (X : State → Prop) (hAd : Ax ad bs) (hX : Stb bs X) (x0 : Nat) (x1 : Int32) (I : MI) (L : ML) (R : MR) (r : Int32) (h : F_X12_term x0 x1 I L R = some (r)) : Cn l D cA ad bs X yX12_term cX12_term 3 (some .int) 1 22 [.ref (ad x0), .int x1] I L R (some (.int r), I, L, R) := by
  refine Cn.ofV hAd hX [(0, .ref (ad x0)), (1, .int x1)] rfl (Nat.le_of_ble_eq_true rfl) (by decide) ?_
  intro G el eD ecA ead ebs eX erm eNL C0
  subst el eD ecA ead ebs eX
  unfold F_X12_term at h
  obtain ⟨c_x0, h⟩ := ite_some h
  refine V_aload_n C0 0 rfl rfl dX12_term_0 ?_
  obtain ⟨a1, qa1, h⟩ := bnd_some h
  refine V_getR C0 11 56 fl_X12_87 c_x0.2 c_x0.1 rfl (rf_at qa1) dX12_term_1 ?_
  refine V_iload_n C0 1 rfl rfl dX12_term_4 ?_
  refine V_iconst C0 (v := (3 : Int32)) (by decide) dX12_term_5 ?_
  refine V_iadd C0 dX12_term_6 ?_
  obtain ⟨v2, qv2, h⟩ := bnd_some h
  refine V_ri C0 (rf_lt qa1) (rf_kd qa1) qv2 dX12_term_7 ?_
  refine V_istore_n C0 [(2, .int v2), (0, .ref (G.ad x0)), (1, .int x1)] rfl (by rw [eNL]; decide) rfl dX12_term_8 ?_
  refine V_aload_n C0 1 rfl rfl dX12_term_9 ?_
  refine V_getR C0 11 56 fl_X12_87 c_x0.2 c_x0.1 rfl (rf_at qa1) dX12_term_10 ?_
  refine V_iload_n C0 2 rfl rfl dX12_term_13 ?_
  refine V_iconst C0 (v := (2 : Int32)) (by decide) dX12_term_14 ?_
  refine V_iadd C0 dX12_term_15 ?_
  obtain ⟨v3, qv3, h⟩ := bnd_some h
  refine V_ri C0 (rf_lt qa1) (rf_kd qa1) qv3 dX12_term_16 ?_
  have nd4 := nd_0 v3
  by_cases c5 : v3 = (3 : Int32)
  · have h := (if_pos c5).symm.trans h
    refine V_tableC C0 (tgt := 56) (v := (3 : Int32)) c5 (by decide) (by decide) dX12_term_17 ?_
    refine V_aload_n C0 1 rfl rfl dX12_term_56 ?_
    refine V_iload_n C0 0 rfl rfl dX12_term_57 ?_
    refine V_bipush C0 (v := (10 : Int32)) (by decide) dX12_term_58 ?_
    obtain ⟨v6, q7, h⟩ := bn1_some h
    refine V_callV C0 (st := []) (As := [.int v2, .int (10 : Int32)]) 11 (c_X12_get G.l G.D G.cA G.ad G.bs G.X C0.2.2.2.2.2.2.2.2.2.1 C0.2.2.2.2.2.2.2.2.2.2.2.2 x0 v2 (10 : Int32) I L R v6 q7) lc_X12_get lk_X12_211 c_x0.2 c_x0.1 ⟨_, rfl, rfl⟩ rfl (by rw [erm]; decide) (Nat.le_of_ble_eq_true rfl) dX12_term_60 ?_
    show V G _ 63 [(2, .int v2), (0, .ref (G.ad x0)), (1, .int x1)] [.int v6] I L R
    cases h
    exact V_iret C0 dX12_term_63
  · have h := (if_neg c5).symm.trans h
    have nd4 := nd_add nd4 c5
    by_cases c8 : v3 = (4 : Int32)
    · have h := (if_pos c8).symm.trans h
      refine V_tableC C0 (tgt := 64) (v := (4 : Int32)) c8 (by decide) (by decide) dX12_term_17 ?_
      refine V_aload_n C0 1 rfl rfl dX12_term_64 ?_
      refine V_iload_n C0 0 rfl rfl dX12_term_65 ?_
      refine V_bipush C0 (v := (62 : Int32)) (by decide) dX12_term_66 ?_
      obtain ⟨v9, q10, h⟩ := bn1_some h
      refine V_callV C0 (st := []) (As := [.int v2, .int (62 : Int32)]) 11 (c_X12_get G.l G.D G.cA G.ad G.bs G.X C0.2.2.2.2.2.2.2.2.2.1 C0.2.2.2.2.2.2.2.2.2.2.2.2 x0 v2 (62 : Int32) I L R v9 q10) lc_X12_get lk_X12_211 c_x0.2 c_x0.1 ⟨_, rfl, rfl⟩ rfl (by rw [erm]; decide) (Nat.le_of_ble_eq_true rfl) dX12_term_68 ?_
      show V G _ 71 [(2, .int v2), (0, .ref (G.ad x0)), (1, .int x1)] [.int v9] I L R
      cases h
      exact V_iret C0 dX12_term_71
    · have h := (if_neg c8).symm.trans h
      have nd4 := nd_add nd4 c8
      by_cases c11 : v3 = (5 : Int32)
      · have h := (if_pos c11).symm.trans h
        refine V_tableC C0 (tgt := 72) (v := (5 : Int32)) c11 (by decide) (by decide) dX12_term_17 ?_
        refine V_aload_n C0 1 rfl rfl dX12_term_72 ?_
        refine V_iload_n C0 0 rfl rfl dX12_term_73 ?_
        refine V_bipush C0 (v := (44 : Int32)) (by decide) dX12_term_74 ?_
        obtain ⟨v12, q13, h⟩ := bn1_some h
        refine V_callV C0 (st := []) (As := [.int v2, .int (44 : Int32)]) 11 (c_X12_get G.l G.D G.cA G.ad G.bs G.X C0.2.2.2.2.2.2.2.2.2.1 C0.2.2.2.2.2.2.2.2.2.2.2.2 x0 v2 (44 : Int32) I L R v12 q13) lc_X12_get lk_X12_211 c_x0.2 c_x0.1 ⟨_, rfl, rfl⟩ rfl (by rw [erm]; decide) (Nat.le_of_ble_eq_true rfl) dX12_term_76 ?_
        show V G _ 79 [(2, .int v2), (0, .ref (G.ad x0)), (1, .int x1)] [.int v12] I L R
        cases h
        exact V_iret C0 dX12_term_79
      · have h := (if_neg c11).symm.trans h
        have nd4 := nd_add nd4 c11
        by_cases c14 : v3 = (6 : Int32)
        · have h := (if_pos c14).symm.trans h
          refine V_tableC C0 (tgt := 80) (v := (6 : Int32)) c14 (by decide) (by decide) dX12_term_17 ?_
          refine V_aload_n C0 1 rfl rfl dX12_term_80 ?_
          refine V_iload_n C0 0 rfl rfl dX12_term_81 ?_
          refine V_bipush C0 (v := (32 : Int32)) (by decide) dX12_term_82 ?_
          obtain ⟨v15, q16, h⟩ := bn1_some h
          refine V_callV C0 (st := []) (As := [.int v2, .int (32 : Int32)]) 11 (c_X12_get G.l G.D G.cA G.ad G.bs G.X C0.2.2.2.2.2.2.2.2.2.1 C0.2.2.2.2.2.2.2.2.2.2.2.2 x0 v2 (32 : Int32) I L R v15 q16) lc_X12_get lk_X12_211 c_x0.2 c_x0.1 ⟨_, rfl, rfl⟩ rfl (by rw [erm]; decide) (Nat.le_of_ble_eq_true rfl) dX12_term_84 ?_
          show V G _ 87 [(2, .int v2), (0, .ref (G.ad x0)), (1, .int x1)] [.int v15] I L R
          cases h
          exact V_iret C0 dX12_term_87
        · have h := (if_neg c14).symm.trans h
          have nd4 := nd_add nd4 c14
          by_cases c17 : v3 = (7 : Int32)
          · have h := (if_pos c17).symm.trans h
            refine V_tableC C0 (tgt := 88) (v := (7 : Int32)) c17 (by decide) (by decide) dX12_term_17 ?_
            refine V_aload_n C0 1 rfl rfl dX12_term_88 ?_
            refine V_getI C0 11 47 fl_X12_336 c_x0.2 c_x0.1 rfl dX12_term_89 ?_
            cases h
            exact V_iret C0 dX12_term_92
          · have h := (if_neg c17).symm.trans h
            have nd4 := nd_add nd4 c17
            by_cases c18 : v3 = (8 : Int32)
            · have h := (if_pos c18).symm.trans h
              refine V_tableC C0 (tgt := 93) (v := (8 : Int32)) c18 (by decide) (by decide) dX12_term_17 ?_
              refine V_aload_n C0 1 rfl rfl dX12_term_93 ?_
              obtain ⟨a19, qa19, h⟩ := bnd_some h
              refine V_getR C0 11 36 fl_X12_68 c_x0.2 c_x0.1 rfl (rf_at qa19) dX12_term_94 ?_
              refine V_iload_n C0 0 rfl rfl dX12_term_97 ?_
              obtain ⟨v20, qv20, h⟩ := bnd_some h
              refine V_ri C0 (rf_lt qa19) (rf_kd qa19) qv20 dX12_term_98 ?_
              cases h
              exact V_iret C0 dX12_term_99
            · have h := (if_neg c18).symm.trans h
              have nd4 := nd_add nd4 c18
              refine V_tableN C0 (tgt := 100) nd4 (by decide) (by decide) dX12_term_17 ?_
              refine V_aload_n C0 1 rfl rfl dX12_term_100 ?_
              obtain ⟨a21, qa21, h⟩ := bnd_some h
              refine V_getR C0 11 37 fl_X12_71 c_x0.2 c_x0.1 rfl (rf_at qa21) dX12_term_101 ?_
              refine V_iload_n C0 0 rfl rfl dX12_term_104 ?_
              obtain ⟨v22, qv22, h⟩ := bnd_some h
              refine V_ri C0 (rf_lt qa21) (rf_kd qa21) qv22 dX12_term_105 ?_
              cases h
              exact V_iret C0 dX12_term_106
theorem dX12_isDue_0 : decode cX12_isDue 0 = .ok (.bipush 8, 2) := by decide +kernel
theorem dX12_isDue_2 : decode cX12_isDue 2 = .ok (.iload_n 1, 1) := by decide +kernel
theorem dX12_isDue_3 : decode cX12_isDue 3 = .ok (.imul, 1) := by decide +kernel
theorem dX12_isDue_4 : decode cX12_isDue 4 = .ok (.istore_n 2, 1) := by decide +kernel
theorem dX12_isDue_5 : decode cX12_isDue 5 = .ok (.aload_n 0, 1) := by decide +kernel
theorem dX12_isDue_6 : decode cX12_isDue 6 = .ok (.getfield 87, 3) := by decide +kernel
theorem dX12_isDue_9 : decode cX12_isDue 9 = .ok (.iload_n 2, 1) := by decide +kernel
theorem dX12_isDue_10 : decode cX12_isDue 10 = .ok (.iconst 1, 1) := by decide +kernel
theorem dX12_isDue_11 : decode cX12_isDue 11 = .ok (.iadd, 1) := by decide +kernel
theorem dX12_isDue_12 : decode cX12_isDue 12 = .ok (.iaload, 1) := by decide +kernel
theorem dX12_isDue_13 : decode cX12_isDue 13 = .ok (.istore_n 3, 1) := by decide +kernel
theorem dX12_isDue_14 : decode cX12_isDue 14 = .ok (.aload_n 0, 1) := by decide +kernel
theorem dX12_isDue_15 : decode cX12_isDue 15 = .ok (.getfield 87, 3) := by decide +kernel
theorem dX12_isDue_18 : decode cX12_isDue 18 = .ok (.iload_n 2, 1) := by decide +kernel
theorem dX12_isDue_19 : decode cX12_isDue 19 = .ok (.iaload, 1) := by decide +kernel
theorem dX12_isDue_20 : decode cX12_isDue 20 = .ok (.ifCond .ne 17, 3) := by decide +kernel
theorem dX12_isDue_23 : decode cX12_isDue 23 = .ok (.aload_n 0, 1) := by decide +kernel
theorem dX12_isDue_24 : decode cX12_isDue 24 = .ok (.getfield 306, 3) := by decide +kernel
theorem dX12_isDue_27 : decode cX12_isDue 27 = .ok (.iload_n 3, 1) := by decide +kernel
theorem dX12_isDue_28 : decode cX12_isDue 28 = .ok (.if_icmp .ne 7, 3) := by decide +kernel
theorem dX12_isDue_31 : decode cX12_isDue 31 = .ok (.iconst 1, 1) := by decide +kernel
theorem dX12_isDue_32 : decode cX12_isDue 32 = .ok (.goto 4, 3) := by decide +kernel
theorem dX12_isDue_35 : decode cX12_isDue 35 = .ok (.iconst 0, 1) := by decide +kernel
theorem dX12_isDue_36 : decode cX12_isDue 36 = .ok (.ireturn, 1) := by decide +kernel
theorem dX12_isDue_37 : decode cX12_isDue 37 = .ok (.aload_n 0, 1) := by decide +kernel
theorem dX12_isDue_38 : decode cX12_isDue 38 = .ok (.getfield 87, 3) := by decide +kernel
theorem dX12_isDue_41 : decode cX12_isDue 41 = .ok (.iload_n 2, 1) := by decide +kernel
theorem dX12_isDue_42 : decode cX12_isDue 42 = .ok (.iaload, 1) := by decide +kernel
theorem dX12_isDue_43 : decode cX12_isDue 43 = .ok (.iconst 1, 1) := by decide +kernel
theorem dX12_isDue_44 : decode cX12_isDue 44 = .ok (.if_icmp .ne 25, 3) := by decide +kernel
theorem dX12_isDue_47 : decode cX12_isDue 47 = .ok (.aload_n 0, 1) := by decide +kernel
theorem dX12_isDue_48 : decode cX12_isDue 48 = .ok (.getfield 306, 3) := by decide +kernel
theorem dX12_isDue_51 : decode cX12_isDue 51 = .ok (.ifCond .le 16, 3) := by decide +kernel
theorem dX12_isDue_54 : decode cX12_isDue 54 = .ok (.aload_n 0, 1) := by decide +kernel
theorem dX12_isDue_55 : decode cX12_isDue 55 = .ok (.getfield 306, 3) := by decide +kernel
theorem dX12_isDue_58 : decode cX12_isDue 58 = .ok (.iload_n 3, 1) := by decide +kernel
theorem dX12_isDue_59 : decode cX12_isDue 59 = .ok (.irem, 1) := by decide +kernel
theorem dX12_isDue_60 : decode cX12_isDue 60 = .ok (.ifCond .ne 7, 3) := by decide +kernel
theorem dX12_isDue_63 : decode cX12_isDue 63 = .ok (.iconst 1, 1) := by decide +kernel
theorem dX12_isDue_64 : decode cX12_isDue 64 = .ok (.goto 4, 3) := by decide +kernel
theorem dX12_isDue_67 : decode cX12_isDue 67 = .ok (.iconst 0, 1) := by decide +kernel
theorem dX12_isDue_68 : decode cX12_isDue 68 = .ok (.ireturn, 1) := by decide +kernel
theorem dX12_isDue_69 : decode cX12_isDue 69 = .ok (.aload_n 0, 1) := by decide +kernel
theorem dX12_isDue_70 : decode cX12_isDue 70 = .ok (.iload_n 2, 1) := by decide +kernel
theorem dX12_isDue_71 : decode cX12_isDue 71 = .ok (.invokevirtual 372, 3) := by decide +kernel
theorem dX12_isDue_74 : decode cX12_isDue 74 = .ok (.istore 4, 2) := by decide +kernel
theorem dX12_isDue_76 : decode cX12_isDue 76 = .ok (.aload_n 0, 1) := by decide +kernel
theorem dX12_isDue_77 : decode cX12_isDue 77 = .ok (.getfield 87, 3) := by decide +kernel
theorem dX12_isDue_80 : decode cX12_isDue 80 = .ok (.iload_n 2, 1) := by decide +kernel
theorem dX12_isDue_81 : decode cX12_isDue 81 = .ok (.iconst 4, 1) := by decide +kernel
theorem dX12_isDue_82 : decode cX12_isDue 82 = .ok (.iadd, 1) := by decide +kernel
theorem dX12_isDue_83 : decode cX12_isDue 83 = .ok (.iaload, 1) := by decide +kernel
theorem dX12_isDue_84 : decode cX12_isDue 84 = .ok (.iconst 1, 1) := by decide +kernel
theorem dX12_isDue_85 : decode cX12_isDue 85 = .ok (.if_icmp .ne 17, 3) := by decide +kernel
theorem dX12_isDue_88 : decode cX12_isDue 88 = .ok (.iload 4, 2) := by decide +kernel
theorem dX12_isDue_90 : decode cX12_isDue 90 = .ok (.iload_n 3, 1) := by decide +kernel
theorem dX12_isDue_91 : decode cX12_isDue 91 = .ok (.if_icmp .le 7, 3) := by decide +kernel
theorem dX12_isDue_94 : decode cX12_isDue 94 = .ok (.iconst 1, 1) := by decide +kernel
theorem dX12_isDue_95 : decode cX12_isDue 95 = .ok (.goto 18, 3) := by decide +kernel
theorem dX12_isDue_98 : decode cX12_isDue 98 = .ok (.iconst 0, 1) := by decide +kernel
theorem dX12_isDue_99 : decode cX12_isDue 99 = .ok (.goto 14, 3) := by decide +kernel
theorem dX12_isDue_102 : decode cX12_isDue 102 = .ok (.iload 4, 2) := by decide +kernel
theorem dX12_isDue_104 : decode cX12_isDue 104 = .ok (.iload_n 3, 1) := by decide +kernel
theorem dX12_isDue_105 : decode cX12_isDue 105 = .ok (.if_icmp .ge 7, 3) := by decide +kernel
theorem dX12_isDue_108 : decode cX12_isDue 108 = .ok (.iconst 1, 1) := by decide +kernel
theorem dX12_isDue_109 : decode cX12_isDue 109 = .ok (.goto 4, 3) := by decide +kernel
theorem dX12_isDue_112 : decode cX12_isDue 112 = .ok (.iconst 0, 1) := by decide +kernel
theorem dX12_isDue_113 : decode cX12_isDue 113 = .ok (.istore 5, 2) := by decide +kernel
theorem dX12_isDue_115 : decode cX12_isDue 115 = .ok (.iload 5, 2) := by decide +kernel
theorem dX12_isDue_117 : decode cX12_isDue 117 = .ok (.ifCond .eq 16, 3) := by decide +kernel
theorem dX12_isDue_120 : decode cX12_isDue 120 = .ok (.aload_n 0, 1) := by decide +kernel
theorem dX12_isDue_121 : decode cX12_isDue 121 = .ok (.getfield 100, 3) := by decide +kernel
theorem dX12_isDue_124 : decode cX12_isDue 124 = .ok (.iload_n 1, 1) := by decide +kernel
theorem dX12_isDue_125 : decode cX12_isDue 125 = .ok (.baload, 1) := by decide +kernel
theorem dX12_isDue_126 : decode cX12_isDue 126 = .ok (.ifCond .ne 7, 3) := by decide +kernel
theorem dX12_isDue_129 : decode cX12_isDue 129 = .ok (.iconst 1, 1) := by decide +kernel
theorem dX12_isDue_130 : decode cX12_isDue 130 = .ok (.goto 4, 3) := by decide +kernel
theorem dX12_isDue_133 : decode cX12_isDue 133 = .ok (.iconst 0, 1) := by decide +kernel
theorem dX12_isDue_134 : decode cX12_isDue 134 = .ok (.istore 6, 2) := by decide +kernel
theorem dX12_isDue_136 : decode cX12_isDue 136 = .ok (.aload_n 0, 1) := by decide +kernel
theorem dX12_isDue_137 : decode cX12_isDue 137 = .ok (.getfield 100, 3) := by decide +kernel
theorem dX12_isDue_140 : decode cX12_isDue 140 = .ok (.iload_n 1, 1) := by decide +kernel
theorem dX12_isDue_141 : decode cX12_isDue 141 = .ok (.iload 5, 2) := by decide +kernel
theorem dX12_isDue_143 : decode cX12_isDue 143 = .ok (.bastore, 1) := by decide +kernel
theorem dX12_isDue_144 : decode cX12_isDue 144 = .ok (.iload 6, 2) := by decide +kernel
theorem dX12_isDue_146 : decode cX12_isDue 146 = .ok (.ireturn, 1) := by decide +kernel
def F_X12_isDue (x0 : Nat) (x1 : Int32) (I : MI) (L : ML) (R : MR) : Option (Bool × MI) :=
  if kd x0 = 11 ∧ x0 < NN then
  wr ((8 : Int32) * x1) fun (u1 : Int32) =>
  (rf R x0 56 20).bind fun a2 =>
  (ri I a2 (u1 + (1 : Int32))).bind fun v3 =>
  (ri I a2 u1).bind fun v4 =>
  if v4 = 0 then
    if (I x0 34) = v3 then
      some (true, I)
    else
      some (false, I)
  else
    (ri I a2 u1).bind fun v6 =>
    if v6 = (1 : Int32) then
      if (I x0 34) ≤ 0 then
        some (false, I)
      else
        if v3 = 0 then none else
        if (iR (I x0 34) v3) = 0 then
          some (true, I)
        else
          some (false, I)
    else
      bn1 (F_X12_term x0 u1 I L R) fun v8 =>
      (ri I a2 (u1 + (4 : Int32))).bind fun v10 =>
      bn1 (
        if v10 = (1 : Int32) then
          bn1 (
            if v8 ≤ v3 then
              some ((0 : Int32))
            else
              some ((1 : Int32))
          ) fun (s19 : Int32) =>
          some (s19)
        else
          bn1 (
            if v3 ≤ v8 then
              some ((0 : Int32))
            else
              some ((1 : Int32))
          ) fun (s15 : Int32) =>
          some (s15)
      ) fun (s11 : Int32) =>
      bn1 (
        if s11 = 0 then
          some ((0 : Int32))
        else
          (rf R x0 60 22).bind fun a27 =>
          (ri I a27 x1).bind fun v28 =>
          bn1 (
            if v28 = 0 then
              some ((1 : Int32))
            else
              some ((0 : Int32))
          ) fun (s29 : Int32) =>
          some (s29)
      ) fun (s23 : Int32) =>
      (rf R x0 60 22).bind fun a33 =>
      (wz I a33 x1 s11).bind fun I34 =>
      (z01 s23).bind fun q35 =>
      some (q35, I34)
  else none
set_option maxRecDepth 100000 in
set_option maxHeartbeats 4000000 in
theorem c_X12_isDue (l : Launch) (D : va_G) (cA : Nat → ClassId) (ad : Nat → Nat) (bs : Nat) (X : State → Prop) (hAd : Ax ad bs) (hX : Stb bs X) (x0 : Nat) (x1 : Int32) (I : MI) (L : ML) (R : MR) (r : Bool) (I' : MI) (h : F_X12_isDue x0 x1 I L R = some (r, I')) : Cn l D cA ad bs X yX12_isDue cX12_isDue 7 (some .boolean) 2 44 [.ref (ad x0), .int x1] I L R (some (.int (b2i r)), I', L, R) := by
  refine Cn.ofV hAd hX [(0, .ref (ad x0)), (1, .int x1)] rfl (Nat.le_of_ble_eq_true rfl) (by decide) ?_
  intro G el eD ecA ead ebs eX erm eNL C0
  subst el eD ecA ead ebs eX
  unfold F_X12_isDue at h
  obtain ⟨c_x0, h⟩ := ite_some h
  refine V_bipush C0 (v := (8 : Int32)) (by decide) dX12_isDue_0 ?_
  refine V_iload_n C0 1 rfl rfl dX12_isDue_2 ?_
  refine V_imul C0 dX12_isDue_3 ?_
  obtain ⟨u1, eu1, h⟩ := wr_some h
  rw [← eu1]
  refine V_istore_n C0 [(2, .int u1), (0, .ref (G.ad x0)), (1, .int x1)] rfl (by rw [eNL]; decide) rfl dX12_isDue_4 ?_
  refine V_aload_n C0 1 rfl rfl dX12_isDue_5 ?_
  obtain ⟨a2, qa2, h⟩ := bnd_some h
  refine V_getR C0 11 56 fl_X12_87 c_x0.2 c_x0.1 rfl (rf_at qa2) dX12_isDue_6 ?_
  refine V_iload_n C0 0 rfl rfl dX12_isDue_9 ?_
  refine V_iconst C0 (v := (1 : Int32)) (by decide) dX12_isDue_10 ?_
  refine V_iadd C0 dX12_isDue_11 ?_
  obtain ⟨v3, qv3, h⟩ := bnd_some h
  refine V_ri C0 (rf_lt qa2) (rf_kd qa2) qv3 dX12_isDue_12 ?_
  refine V_istore_n C0 [(3, .int v3), (2, .int u1), (0, .ref (G.ad x0)), (1, .int x1)] rfl (by rw [eNL]; decide) rfl dX12_isDue_13 ?_
  refine V_aload_n C0 2 rfl rfl dX12_isDue_14 ?_
  refine V_getR C0 11 56 fl_X12_87 c_x0.2 c_x0.1 rfl (rf_at qa2) dX12_isDue_15 ?_
  refine V_iload_n C0 1 rfl rfl dX12_isDue_18 ?_
  obtain ⟨v4, qv4, h⟩ := bnd_some h
  refine V_ri C0 (rf_lt qa2) (rf_kd qa2) qv4 dX12_isDue_19 ?_
  refine V_if_ne C0 (tgt := 37) (by decide) dX12_isDue_20 (fun c5 => ?_) (fun c5 => ?_)
  · have h := (if_neg c5).symm.trans h
    refine V_aload_n C0 2 rfl rfl dX12_isDue_37 ?_
    refine V_getR C0 11 56 fl_X12_87 c_x0.2 c_x0.1 rfl (rf_at qa2) dX12_isDue_38 ?_
    refine V_iload_n C0 1 rfl rfl dX12_isDue_41 ?_
    obtain ⟨v6, qv6, h⟩ := bnd_some h
    refine V_ri C0 (rf_lt qa2) (rf_kd qa2) qv6 dX12_isDue_42 ?_
    refine V_iconst C0 (v := (1 : Int32)) (by decide) dX12_isDue_43 ?_
    refine V_icmp_ne C0 (tgt := 69) (by decide) dX12_isDue_44 (fun c7 => ?_) (fun c7 => ?_)
    · have h := (if_neg c7).symm.trans h
      refine V_aload_n C0 2 rfl rfl dX12_isDue_69 ?_
      refine V_iload_n C0 1 rfl rfl dX12_isDue_70 ?_
      obtain ⟨v8, q9, h⟩ := bn1_some h
      refine V_callV C0 (st := []) (As := [.int u1]) 11 (c_X12_term G.l G.D G.cA G.ad G.bs G.X C0.2.2.2.2.2.2.2.2.2.1 C0.2.2.2.2.2.2.2.2.2.2.2.2 x0 u1 I L R v8 q9) lc_X12_term lk_X12_372 c_x0.2 c_x0.1 ⟨_, rfl, rfl⟩ rfl (by rw [erm]; decide) (Nat.le_of_ble_eq_true rfl) dX12_isDue_71 ?_
      show V G _ 74 [(3, .int v3), (2, .int u1), (0, .ref (G.ad x0)), (1, .int x1)] [.int v8] I L R
      refine V_istore C0 [(4, .int v8), (3, .int v3), (2, .int u1), (0, .ref (G.ad x0)), (1, .int x1)] (by rw [eNL]; decide) rfl dX12_isDue_74 ?_
      refine V_aload_n C0 3 rfl rfl dX12_isDue_76 ?_
      refine V_getR C0 11 56 fl_X12_87 c_x0.2 c_x0.1 rfl (rf_at qa2) dX12_isDue_77 ?_
      refine V_iload_n C0 2 rfl rfl dX12_isDue_80 ?_
      refine V_iconst C0 (v := (4 : Int32)) (by decide) dX12_isDue_81 ?_
      refine V_iadd C0 dX12_isDue_82 ?_
      obtain ⟨v10, qv10, h⟩ := bnd_some h
      refine V_ri C0 (rf_lt qa2) (rf_kd qa2) qv10 dX12_isDue_83 ?_
      refine V_iconst C0 (v := (1 : Int32)) (by decide) dX12_isDue_84 ?_
      obtain ⟨s11, q12, h⟩ := bn1_some h
      have k13 : V G (qf G (some (.int (b2i r)), I', L, R)) 113 [(0, .ref (G.ad x0)), (1, .int x1)] [.int s11] I L R := by
        refine V_istore C0 [(5, .int s11), (0, .ref (G.ad x0)), (1, .int x1)] (by rw [eNL]; decide) rfl dX12_isDue_113 ?_
        refine V_iload C0 0 rfl dX12_isDue_115 ?_
        obtain ⟨s23, q24, h⟩ := bn1_some h
        have k25 : V G (qf G (some (.int (b2i r)), I', L, R)) 134 [(0, .ref (G.ad x0)), (1, .int x1), (5, .int s11)] [.int s23] I L R := by
          refine V_istore C0 [(6, .int s23), (0, .ref (G.ad x0)), (1, .int x1), (5, .int s11)] (by rw [eNL]; decide) rfl dX12_isDue_134 ?_
          refine V_aload_n C0 1 rfl rfl dX12_isDue_136 ?_
          obtain ⟨a33, qa33, h⟩ := bnd_some h
          refine V_getR C0 11 60 fl_X12_100 c_x0.2 c_x0.1 rfl (rf_at qa33) dX12_isDue_137 ?_
          refine V_iload_n C0 2 rfl rfl dX12_isDue_140 ?_
          refine V_iload C0 3 rfl dX12_isDue_141 ?_
          obtain ⟨I34, qI34, h⟩ := bnd_some h
          refine V_wz C0 (rf_lt qa33) (rf_kd qa33) qI34 dX12_isDue_143 ?_
          refine V_iload C0 0 rfl dX12_isDue_144 ?_
          obtain ⟨q35, qq35, h⟩ := bnd_some h
          rw [z01_b qq35]
          cases h
          exact V_zret C0 (b2i01 _) dX12_isDue_146
        refine V_if_eq C0 (tgt := 133) (by decide) dX12_isDue_117 (fun c26 => ?_) (fun c26 => ?_)
        · have q24 := (if_pos c26).symm.trans q24
          refine V_iconst C0 (v := (0 : Int32)) (by decide) dX12_isDue_133 ?_
          cases q24
          exact V_sub [1, 2, 0] rfl k25
        · have q24 := (if_neg c26).symm.trans q24
          refine V_aload_n C0 1 rfl rfl dX12_isDue_120 ?_
          obtain ⟨a27, qa27, q24⟩ := bnd_some q24
          refine V_getR C0 11 60 fl_X12_100 c_x0.2 c_x0.1 rfl (rf_at qa27) dX12_isDue_121 ?_
          refine V_iload_n C0 2 rfl rfl dX12_isDue_124 ?_
          obtain ⟨v28, qv28, q24⟩ := bnd_some q24
          refine V_rz C0 (rf_lt qa27) (rf_kd qa27) qv28 dX12_isDue_125 ?_
          obtain ⟨s29, q30, q24⟩ := bn1_some q24
          have k31 : V G (qf G (some (.int (b2i r)), I', L, R)) 134 [(0, .ref (G.ad x0)), (1, .int x1), (5, .int s11)] [.int s29] I L R := by
            cases q24
            exact V_sub [0, 1, 2] rfl k25
          refine V_if_ne C0 (tgt := 133) (by decide) dX12_isDue_126 (fun c32 => ?_) (fun c32 => ?_)
          · have q30 := (if_neg c32).symm.trans q30
            refine V_iconst C0 (v := (0 : Int32)) (by decide) dX12_isDue_133 ?_
            cases q30
            exact V_sub [1, 2, 0] rfl k31
          · have q30 := (if_pos c32).symm.trans q30
            refine V_iconst C0 (v := (1 : Int32)) (by decide) dX12_isDue_129 ?_
            refine V_goto C0 (tgt := 134) (by decide) dX12_isDue_130 ?_
            cases q30
            exact V_sub [1, 2, 0] rfl k31
      refine V_icmp_ne C0 (tgt := 102) (by decide) dX12_isDue_85 (fun c14 => ?_) (fun c14 => ?_)
      · have q12 := (if_neg c14).symm.trans q12
        refine V_iload C0 0 rfl dX12_isDue_102 ?_
        refine V_iload_n C0 1 rfl rfl dX12_isDue_104 ?_
        obtain ⟨s15, q16, q12⟩ := bn1_some q12
        have k17 : V G (qf G (some (.int (b2i r)), I', L, R)) 113 [(0, .ref (G.ad x0)), (1, .int x1)] [.int s15] I L R := by
          cases q12
          exact V_sub [0, 1] rfl k13
        refine V_icmp_ge C0 (tgt := 112) (by decide) dX12_isDue_105 (fun c18 => ?_) (fun c18 => ?_)
        · have q16 := (if_pos c18).symm.trans q16
          refine V_iconst C0 (v := (0 : Int32)) (by decide) dX12_isDue_112 ?_
          cases q16
          exact V_sub [3, 4] rfl k17
        · have q16 := (if_neg c18).symm.trans q16
          refine V_iconst C0 (v := (1 : Int32)) (by decide) dX12_isDue_108 ?_
          refine V_goto C0 (tgt := 113) (by decide) dX12_isDue_109 ?_
          cases q16
          exact V_sub [3, 4] rfl k17
      · have q12 := (if_pos c14).symm.trans q12
        refine V_iload C0 0 rfl dX12_isDue_88 ?_
        refine V_iload_n C0 1 rfl rfl dX12_isDue_90 ?_
        obtain ⟨s19, q20, q12⟩ := bn1_some q12
        have k21 : V G (qf G (some (.int (b2i r)), I', L, R)) 113 [(0, .ref (G.ad x0)), (1, .int x1)] [.int s19] I L R := by
          cases q12
          exact V_sub [0, 1] rfl k13
        refine V_icmp_le C0 (tgt := 98) (by decide) dX12_isDue_91 (fun c22 => ?_) (fun c22 => ?_)
        · have q20 := (if_pos c22).symm.trans q20
          refine V_iconst C0 (v := (0 : Int32)) (by decide) dX12_isDue_98 ?_
          refine V_goto C0 (tgt := 113) (by decide) dX12_isDue_99 ?_
          cases q20
          exact V_sub [3, 4] rfl k21
        · have q20 := (if_neg c22).symm.trans q20
          refine V_iconst C0 (v := (1 : Int32)) (by decide) dX12_isDue_94 ?_
          refine V_goto C0 (tgt := 113) (by decide) dX12_isDue_95 ?_
          cases q20
          exact V_sub [3, 4] rfl k21
    · have h := (if_pos c7).symm.trans h
      refine V_aload_n C0 2 rfl rfl dX12_isDue_47 ?_
      refine V_getI C0 11 34 fl_X12_306 c_x0.2 c_x0.1 rfl dX12_isDue_48 ?_
      refine V_if_le C0 (tgt := 67) (by decide) dX12_isDue_51 (fun c36 => ?_) (fun c36 => ?_)
      · have h := (if_pos c36).symm.trans h
        refine V_iconst C0 (v := (0 : Int32)) (by decide) dX12_isDue_67 ?_
        cases h
        exact V_zret C0 (by decide) dX12_isDue_68
      · have h := (if_neg c36).symm.trans h
        refine V_aload_n C0 2 rfl rfl dX12_isDue_54 ?_
        refine V_getI C0 11 34 fl_X12_306 c_x0.2 c_x0.1 rfl dX12_isDue_55 ?_
        refine V_iload_n C0 0 rfl rfl dX12_isDue_58 ?_
        obtain ⟨c37, h⟩ := ite_none h
        refine V_irem C0 c37 dX12_isDue_59 ?_
        refine V_if_ne C0 (tgt := 67) (by decide) dX12_isDue_60 (fun c38 => ?_) (fun c38 => ?_)
        · have h := (if_neg c38).symm.trans h
          refine V_iconst C0 (v := (0 : Int32)) (by decide) dX12_isDue_67 ?_
          cases h
          exact V_zret C0 (by decide) dX12_isDue_68
        · have h := (if_pos c38).symm.trans h
          refine V_iconst C0 (v := (1 : Int32)) (by decide) dX12_isDue_63 ?_
          refine V_goto C0 (tgt := 68) (by decide) dX12_isDue_64 ?_
          cases h
          exact V_zret C0 (by decide) dX12_isDue_68
  · have h := (if_pos c5).symm.trans h
    refine V_aload_n C0 2 rfl rfl dX12_isDue_23 ?_
    refine V_getI C0 11 34 fl_X12_306 c_x0.2 c_x0.1 rfl dX12_isDue_24 ?_
    refine V_iload_n C0 0 rfl rfl dX12_isDue_27 ?_
    refine V_icmp_ne C0 (tgt := 35) (by decide) dX12_isDue_28 (fun c39 => ?_) (fun c39 => ?_)
    · have h := (if_neg c39).symm.trans h
      refine V_iconst C0 (v := (0 : Int32)) (by decide) dX12_isDue_35 ?_
      cases h
      exact V_zret C0 (by decide) dX12_isDue_36
    · have h := (if_pos c39).symm.trans h
      refine V_iconst C0 (v := (1 : Int32)) (by decide) dX12_isDue_31 ?_
      refine V_goto C0 (tgt := 36) (by decide) dX12_isDue_32 ?_
      cases h
      exact V_zret C0 (by decide) dX12_isDue_36
theorem dX12_doPlan_0 : decode cX12_doPlan 0 = .ok (.iconst 0, 1) := by decide +kernel
theorem dX12_doPlan_1 : decode cX12_doPlan 1 = .ok (.istore_n 1, 1) := by decide +kernel
theorem dX12_doPlan_2 : decode cX12_doPlan 2 = .ok (.iload_n 1, 1) := by decide +kernel
theorem dX12_doPlan_3 : decode cX12_doPlan 3 = .ok (.aload_n 0, 1) := by decide +kernel
theorem dX12_doPlan_4 : decode cX12_doPlan 4 = .ok (.getfield 345, 3) := by decide +kernel
theorem dX12_doPlan_7 : decode cX12_doPlan 7 = .ok (.if_icmp .ge 95, 3) := by decide +kernel
theorem dX12_doPlan_10 : decode cX12_doPlan 10 = .ok (.aload_n 0, 1) := by decide +kernel
theorem dX12_doPlan_11 : decode cX12_doPlan 11 = .ok (.getfield 96, 3) := by decide +kernel
theorem dX12_doPlan_14 : decode cX12_doPlan 14 = .ok (.iload_n 1, 1) := by decide +kernel
theorem dX12_doPlan_15 : decode cX12_doPlan 15 = .ok (.baload, 1) := by decide +kernel
theorem dX12_doPlan_16 : decode cX12_doPlan 16 = .ok (.ifCond .ne 80, 3) := by decide +kernel
theorem dX12_doPlan_19 : decode cX12_doPlan 19 = .ok (.aload_n 0, 1) := by decide +kernel
theorem dX12_doPlan_20 : decode cX12_doPlan 20 = .ok (.iload_n 1, 1) := by decide +kernel
theorem dX12_doPlan_21 : decode cX12_doPlan 21 = .ok (.invokevirtual 375, 3) := by decide +kernel
theorem dX12_doPlan_24 : decode cX12_doPlan 24 = .ok (.ifCond .ne 6, 3) := by decide +kernel
theorem dX12_doPlan_27 : decode cX12_doPlan 27 = .ok (.goto 69, 3) := by decide +kernel
theorem dX12_doPlan_30 : decode cX12_doPlan 30 = .ok (.aload_n 0, 1) := by decide +kernel
theorem dX12_doPlan_31 : decode cX12_doPlan 31 = .ok (.getfield 90, 3) := by decide +kernel
theorem dX12_doPlan_34 : decode cX12_doPlan 34 = .ok (.iload_n 1, 1) := by decide +kernel
theorem dX12_doPlan_35 : decode cX12_doPlan 35 = .ok (.dup2, 1) := by decide +kernel
theorem dX12_doPlan_36 : decode cX12_doPlan 36 = .ok (.iaload, 1) := by decide +kernel
theorem dX12_doPlan_37 : decode cX12_doPlan 37 = .ok (.iconst 1, 1) := by decide +kernel
theorem dX12_doPlan_38 : decode cX12_doPlan 38 = .ok (.iadd, 1) := by decide +kernel
theorem dX12_doPlan_39 : decode cX12_doPlan 39 = .ok (.iastore, 1) := by decide +kernel
theorem dX12_doPlan_40 : decode cX12_doPlan 40 = .ok (.aload_n 0, 1) := by decide +kernel
theorem dX12_doPlan_41 : decode cX12_doPlan 41 = .ok (.getfield 93, 3) := by decide +kernel
theorem dX12_doPlan_44 : decode cX12_doPlan 44 = .ok (.iload_n 1, 1) := by decide +kernel
theorem dX12_doPlan_45 : decode cX12_doPlan 45 = .ok (.dup2, 1) := by decide +kernel
theorem dX12_doPlan_46 : decode cX12_doPlan 46 = .ok (.iaload, 1) := by decide +kernel
theorem dX12_doPlan_47 : decode cX12_doPlan 47 = .ok (.aload_n 0, 1) := by decide +kernel
theorem dX12_doPlan_48 : decode cX12_doPlan 48 = .ok (.aload_n 0, 1) := by decide +kernel
theorem dX12_doPlan_49 : decode cX12_doPlan 49 = .ok (.getfield 87, 3) := by decide +kernel
theorem dX12_doPlan_52 : decode cX12_doPlan 52 = .ok (.bipush 8, 2) := by decide +kernel
theorem dX12_doPlan_54 : decode cX12_doPlan 54 = .ok (.iload_n 1, 1) := by decide +kernel
theorem dX12_doPlan_55 : decode cX12_doPlan 55 = .ok (.imul, 1) := by decide +kernel
theorem dX12_doPlan_56 : decode cX12_doPlan 56 = .ok (.iconst 5, 1) := by decide +kernel
theorem dX12_doPlan_57 : decode cX12_doPlan 57 = .ok (.iadd, 1) := by decide +kernel
theorem dX12_doPlan_58 : decode cX12_doPlan 58 = .ok (.iaload, 1) := by decide +kernel
theorem dX12_doPlan_59 : decode cX12_doPlan 59 = .ok (.aload_n 0, 1) := by decide +kernel
theorem dX12_doPlan_60 : decode cX12_doPlan 60 = .ok (.getfield 87, 3) := by decide +kernel
theorem dX12_doPlan_63 : decode cX12_doPlan 63 = .ok (.bipush 8, 2) := by decide +kernel
theorem dX12_doPlan_65 : decode cX12_doPlan 65 = .ok (.iload_n 1, 1) := by decide +kernel
theorem dX12_doPlan_66 : decode cX12_doPlan 66 = .ok (.imul, 1) := by decide +kernel
theorem dX12_doPlan_67 : decode cX12_doPlan 67 = .ok (.bipush 6, 2) := by decide +kernel
theorem dX12_doPlan_69 : decode cX12_doPlan 69 = .ok (.iadd, 1) := by decide +kernel
theorem dX12_doPlan_70 : decode cX12_doPlan 70 = .ok (.iaload, 1) := by decide +kernel
theorem dX12_doPlan_71 : decode cX12_doPlan 71 = .ok (.aload_n 0, 1) := by decide +kernel
theorem dX12_doPlan_72 : decode cX12_doPlan 72 = .ok (.getfield 87, 3) := by decide +kernel
theorem dX12_doPlan_75 : decode cX12_doPlan 75 = .ok (.bipush 8, 2) := by decide +kernel
theorem dX12_doPlan_77 : decode cX12_doPlan 77 = .ok (.iload_n 1, 1) := by decide +kernel
theorem dX12_doPlan_78 : decode cX12_doPlan 78 = .ok (.imul, 1) := by decide +kernel
theorem dX12_doPlan_79 : decode cX12_doPlan 79 = .ok (.bipush 7, 2) := by decide +kernel
theorem dX12_doPlan_81 : decode cX12_doPlan 81 = .ok (.iadd, 1) := by decide +kernel
theorem dX12_doPlan_82 : decode cX12_doPlan 82 = .ok (.iaload, 1) := by decide +kernel
theorem dX12_doPlan_83 : decode cX12_doPlan 83 = .ok (.invokevirtual 378, 3) := by decide +kernel
theorem dX12_doPlan_86 : decode cX12_doPlan 86 = .ok (.ifCond .eq 7, 3) := by decide +kernel
theorem dX12_doPlan_89 : decode cX12_doPlan 89 = .ok (.iconst 0, 1) := by decide +kernel
theorem dX12_doPlan_90 : decode cX12_doPlan 90 = .ok (.goto 4, 3) := by decide +kernel
theorem dX12_doPlan_93 : decode cX12_doPlan 93 = .ok (.iconst 1, 1) := by decide +kernel
theorem dX12_doPlan_94 : decode cX12_doPlan 94 = .ok (.iadd, 1) := by decide +kernel
theorem dX12_doPlan_95 : decode cX12_doPlan 95 = .ok (.iastore, 1) := by decide +kernel
theorem dX12_doPlan_96 : decode cX12_doPlan 96 = .ok (.iinc 1 1, 3) := by decide +kernel
theorem dX12_doPlan_99 : decode cX12_doPlan 99 = .ok (.goto (-97), 3) := by decide +kernel
theorem dX12_doPlan_102 : decode cX12_doPlan 102 = .ok (.return_, 1) := by decide +kernel
def LF_X12_doPlan_2 (N : Nat) : Nat → Nat → Int32 → MI → ML → MR → Option (MI)
  | 0, _, _, _, _, _ => none
  | k + 1, y0, y1, I, L, R =>
    if (I y0 54) ≤ y1 then
      some (I)
    else
      (rf R y0 59 22).bind fun a2 =>
      (ri I a2 y1).bind fun v3 =>
      bn1 (
        if v3 = 0 then
          bn2 (F_X12_isDue y0 y1 I L R) fun b8 I9 =>
          bn1 (
            if (b2i b8) = 0 then
              some (I9)
            else
              (rf R y0 57 20).bind fun a15 =>
              (ri I9 a15 y1).bind fun v16 =>
              (wi I9 a15 y1 (v16 + (1 : Int32))).bind fun I17 =>
              (rf R y0 58 20).bind fun a18 =>
              (ri I17 a18 y1).bind fun v19 =>
              (rf R y0 56 20).bind fun a20 =>
              (ri I17 a20 (((8 : Int32) * y1) + (5 : Int32))).bind fun v21 =>
              (ri I17 a20 (((8 : Int32) * y1) + (6 : Int32))).bind fun v22 =>
              (ri I17 a20 (((8 : Int32) * y1) + (7 : Int32))).bind fun v23 =>
              bn2 (F_X12_acts N y0 v21 v22 v23 I17 L R) fun b24 I25 =>
              bn1 (
                if (b2i b24) = 0 then
                  some ((1 : Int32))
                else
                  some ((0 : Int32))
              ) fun (s27 : Int32) =>
              (wi I25 a18 y1 (v19 + s27)).bind fun I31 =>
              some (I31)
          ) fun (I11 : MI) =>
          some (I11)
        else
          some (I)
      ) fun (I4 : MI) =>
      wr (y1 + (1 : Int32)) fun (u32 : Int32) =>
      LF_X12_doPlan_2 N k y0 u32 I4 L R
def F_X12_doPlan (N : Nat) (x0 : Nat) (I : MI) (L : ML) (R : MR) : Option (MI) :=
  if kd x0 = 11 ∧ x0 < NN then
  bn1 (LF_X12_doPlan_2 N N x0 (0 : Int32) I L R) fun z33 =>
  some (z33)
  else none
set_option maxRecDepth 100000 in
set_option maxHeartbeats 4000000 in
theorem lp_X12_doPlan_2 {G : Gm} (C0 : Cx G (yX12_doPlan.cls) cX12_doPlan none) (eNL : G.nL = 2) (erm : G.rm = ({ frames := 7, cells := 0, slots := 0, locals := 170 } : Room)) (N : Nat) : ∀ (k : Nat) (y0 : Nat) (y1 : Int32) (I : MI) (L : ML) (R : MR) (z : MI) (hk0 : kd y0 = 11) (ho0 : y0 < NN), LF_X12_doPlan_2 N k y0 y1 I L R = some z → ∀ f : State → Prop, V G f 102 [] [] z L R → V G f 2 [(0, .ref (G.ad y0)), (1, .int y1)] [] I L R := by
  intro k
  induction k with
  | zero =>
    intro y0 y1 I L R q hk0 ho0 h
    exact absurd h (by simp [LF_X12_doPlan_2])
  | succ k ih =>
    intro y0 y1 I L R q hk0 ho0 h f kx
    rw [LF_X12_doPlan_2] at h
    refine V_iload_n C0 1 rfl rfl dX12_doPlan_2 ?_
    refine V_aload_n C0 0 rfl rfl dX12_doPlan_3 ?_
    refine V_getI C0 11 54 fl_X12_345 ho0 hk0 rfl dX12_doPlan_4 ?_
    refine V_icmp_ge C0 (tgt := 102) (by decide) dX12_doPlan_7 (fun c1 => ?_) (fun c1 => ?_)
    · have h := (if_pos c1).symm.trans h
      cases h
      exact V_sub [] rfl kx
    · have h := (if_neg c1).symm.trans h
      refine V_aload_n C0 0 rfl rfl dX12_doPlan_10 ?_
      obtain ⟨a2, qa2, h⟩ := bnd_some h
      refine V_getR C0 11 59 fl_X12_96 ho0 hk0 rfl (rf_at qa2) dX12_doPlan_11 ?_
      refine V_iload_n C0 1 rfl rfl dX12_doPlan_14 ?_
      obtain ⟨v3, qv3, h⟩ := bnd_some h
      refine V_rz C0 (rf_lt qa2) (rf_kd qa2) qv3 dX12_doPlan_15 ?_
      obtain ⟨I4, q5, h⟩ := bn1_some h
      have k6 : V G f 96 [(0, .ref (G.ad y0)), (1, .int y1)] [] I4 L R := by
        obtain ⟨u32, eu32, h⟩ := wr_some h
        refine V_iinc C0 1 [(1, .int u32), (0, .ref (G.ad y0))] rfl (n := 1) (by rw [eu32]; rfl) (by rw [eNL]; decide) rfl dX12_doPlan_96 ?_
        refine V_goto C0 (tgt := 2) (by decide) dX12_doPlan_99 ?_
        exact V_sub [1, 0] rfl (ih y0 u32 I4 L R _ hk0 ho0 h f kx)
      refine V_if_ne C0 (tgt := 96) (by decide) dX12_doPlan_16 (fun c7 => ?_) (fun c7 => ?_)
      · have q5 := (if_neg c7).symm.trans q5
        cases q5
        exact V_sub [0, 1] rfl k6
      · have q5 := (if_pos c7).symm.trans q5
        refine V_aload_n C0 0 rfl rfl dX12_doPlan_19 ?_
        refine V_iload_n C0 1 rfl rfl dX12_doPlan_20 ?_
        obtain ⟨b8, I9, q10, q5⟩ := bn2_some q5
        refine V_callV C0 (st := []) (As := [.int y1]) 11 (c_X12_isDue G.l G.D G.cA G.ad G.bs G.X C0.2.2.2.2.2.2.2.2.2.1 C0.2.2.2.2.2.2.2.2.2.2.2.2 y0 y1 I L R b8 I9 q10) lc_X12_isDue lk_X12_375 ho0 hk0 ⟨_, rfl, rfl⟩ rfl (by rw [erm]; decide) (Nat.le_of_ble_eq_true rfl) dX12_doPlan_21 ?_
        show V G _ 24 [(0, .ref (G.ad y0)), (1, .int y1)] [.int (b2i b8)] I9 L R
        obtain ⟨I11, q12, q5⟩ := bn1_some q5
        have k13 : V G f 96 [(0, .ref (G.ad y0)), (1, .int y1)] [] I11 L R := by
          cases q5
          exact V_sub [0, 1] rfl k6
        refine V_if_ne C0 (tgt := 30) (by decide) dX12_doPlan_24 (fun c14 => ?_) (fun c14 => ?_)
        · have q12 := (if_neg c14).symm.trans q12
          refine V_aload_n C0 0 rfl rfl dX12_doPlan_30 ?_
          obtain ⟨a15, qa15, q12⟩ := bnd_some q12
          refine V_getR C0 11 57 fl_X12_90 ho0 hk0 rfl (rf_at qa15) dX12_doPlan_31 ?_
          refine V_iload_n C0 1 rfl rfl dX12_doPlan_34 ?_
          refine V_dup2 C0 rfl rfl dX12_doPlan_35 ?_
          obtain ⟨v16, qv16, q12⟩ := bnd_some q12
          refine V_ri C0 (rf_lt qa15) (rf_kd qa15) qv16 dX12_doPlan_36 ?_
          refine V_iconst C0 (v := (1 : Int32)) (by decide) dX12_doPlan_37 ?_
          refine V_iadd C0 dX12_doPlan_38 ?_
          obtain ⟨I17, qI17, q12⟩ := bnd_some q12
          refine V_wi C0 (rf_lt qa15) (rf_kd qa15) qI17 dX12_doPlan_39 ?_
          refine V_aload_n C0 0 rfl rfl dX12_doPlan_40 ?_
          obtain ⟨a18, qa18, q12⟩ := bnd_some q12
          refine V_getR C0 11 58 fl_X12_93 ho0 hk0 rfl (rf_at qa18) dX12_doPlan_41 ?_
          refine V_iload_n C0 1 rfl rfl dX12_doPlan_44 ?_
          refine V_dup2 C0 rfl rfl dX12_doPlan_45 ?_
          obtain ⟨v19, qv19, q12⟩ := bnd_some q12
          refine V_ri C0 (rf_lt qa18) (rf_kd qa18) qv19 dX12_doPlan_46 ?_
          refine V_aload_n C0 0 rfl rfl dX12_doPlan_47 ?_
          refine V_aload_n C0 0 rfl rfl dX12_doPlan_48 ?_
          obtain ⟨a20, qa20, q12⟩ := bnd_some q12
          refine V_getR C0 11 56 fl_X12_87 ho0 hk0 rfl (rf_at qa20) dX12_doPlan_49 ?_
          refine V_bipush C0 (v := (8 : Int32)) (by decide) dX12_doPlan_52 ?_
          refine V_iload_n C0 1 rfl rfl dX12_doPlan_54 ?_
          refine V_imul C0 dX12_doPlan_55 ?_
          refine V_iconst C0 (v := (5 : Int32)) (by decide) dX12_doPlan_56 ?_
          refine V_iadd C0 dX12_doPlan_57 ?_
          obtain ⟨v21, qv21, q12⟩ := bnd_some q12
          refine V_ri C0 (rf_lt qa20) (rf_kd qa20) qv21 dX12_doPlan_58 ?_
          refine V_aload_n C0 0 rfl rfl dX12_doPlan_59 ?_
          refine V_getR C0 11 56 fl_X12_87 ho0 hk0 rfl (rf_at qa20) dX12_doPlan_60 ?_
          refine V_bipush C0 (v := (8 : Int32)) (by decide) dX12_doPlan_63 ?_
          refine V_iload_n C0 1 rfl rfl dX12_doPlan_65 ?_
          refine V_imul C0 dX12_doPlan_66 ?_
          refine V_bipush C0 (v := (6 : Int32)) (by decide) dX12_doPlan_67 ?_
          refine V_iadd C0 dX12_doPlan_69 ?_
          obtain ⟨v22, qv22, q12⟩ := bnd_some q12
          refine V_ri C0 (rf_lt qa20) (rf_kd qa20) qv22 dX12_doPlan_70 ?_
          refine V_aload_n C0 0 rfl rfl dX12_doPlan_71 ?_
          refine V_getR C0 11 56 fl_X12_87 ho0 hk0 rfl (rf_at qa20) dX12_doPlan_72 ?_
          refine V_bipush C0 (v := (8 : Int32)) (by decide) dX12_doPlan_75 ?_
          refine V_iload_n C0 1 rfl rfl dX12_doPlan_77 ?_
          refine V_imul C0 dX12_doPlan_78 ?_
          refine V_bipush C0 (v := (7 : Int32)) (by decide) dX12_doPlan_79 ?_
          refine V_iadd C0 dX12_doPlan_81 ?_
          obtain ⟨v23, qv23, q12⟩ := bnd_some q12
          refine V_ri C0 (rf_lt qa20) (rf_kd qa20) qv23 dX12_doPlan_82 ?_
          obtain ⟨b24, I25, q26, q12⟩ := bn2_some q12
          refine V_callV C0 (st := [.int v19, .int y1, .ref (G.ad a18)]) (As := [.int v21, .int v22, .int v23]) 11 (c_X12_acts G.l G.D G.cA G.ad G.bs G.X C0.2.2.2.2.2.2.2.2.2.1 C0.2.2.2.2.2.2.2.2.2.2.2.2 N y0 v21 v22 v23 I17 L R b24 I25 q26) lc_X12_acts lk_X12_378 ho0 hk0 ⟨_, rfl, rfl⟩ rfl (by rw [erm]; decide) (Nat.le_of_ble_eq_true rfl) dX12_doPlan_83 ?_
          show V G _ 86 [(0, .ref (G.ad y0)), (1, .int y1)] [.int (b2i b24), .int v19, .int y1, .ref (G.ad a18)] I25 L R
          obtain ⟨s27, q28, q12⟩ := bn1_some q12
          have k29 : V G f 94 [(0, .ref (G.ad y0)), (1, .int y1)] [.int s27, .int v19, .int y1, .ref (G.ad a18)] I25 L R := by
            refine V_iadd C0 dX12_doPlan_94 ?_
            obtain ⟨I31, qI31, q12⟩ := bnd_some q12
            refine V_wi C0 (rf_lt qa18) (rf_kd qa18) qI31 dX12_doPlan_95 ?_
            cases q12
            exact V_sub [0, 1] rfl k13
          refine V_if_eq C0 (tgt := 93) (by decide) dX12_doPlan_86 (fun c30 => ?_) (fun c30 => ?_)
          · have q28 := (if_pos c30).symm.trans q28
            refine V_iconst C0 (v := (1 : Int32)) (by decide) dX12_doPlan_93 ?_
            cases q28
            exact V_sub [0, 1] rfl k29
          · have q28 := (if_neg c30).symm.trans q28
            refine V_iconst C0 (v := (0 : Int32)) (by decide) dX12_doPlan_89 ?_
            refine V_goto C0 (tgt := 94) (by decide) dX12_doPlan_90 ?_
            cases q28
            exact V_sub [0, 1] rfl k29
        · have q12 := (if_pos c14).symm.trans q12
          refine V_goto C0 (tgt := 96) (by decide) dX12_doPlan_27 ?_
          cases q12
          exact V_sub [0, 1] rfl k13
set_option maxRecDepth 100000 in
set_option maxHeartbeats 4000000 in
theorem c_X12_doPlan (l : Launch) (D : va_G) (cA : Nat → ClassId) (ad : Nat → Nat) (bs : Nat) (X : State → Prop) (hAd : Ax ad bs) (hX : Stb bs X) (N : Nat) (x0 : Nat) (I : MI) (L : ML) (R : MR) (I' : MI) (h : F_X12_doPlan N x0 I L R = some (I')) : Cn l D cA ad bs X yX12_doPlan cX12_doPlan 2 none 7 170 [.ref (ad x0)] I L R (none, I', L, R) := by
  refine Cn.ofV hAd hX [(0, .ref (ad x0))] rfl (Nat.le_of_ble_eq_true rfl) (by decide) ?_
  intro G el eD ecA ead ebs eX erm eNL C0
  subst el eD ecA ead ebs eX
  unfold F_X12_doPlan at h
  obtain ⟨c_x0, h⟩ := ite_some h
  refine V_iconst C0 (v := (0 : Int32)) (by decide) dX12_doPlan_0 ?_
  refine V_istore_n C0 [(1, .int (0 : Int32)), (0, .ref (G.ad x0))] rfl (by rw [eNL]; decide) rfl dX12_doPlan_1 ?_
  obtain ⟨z33, q34, h⟩ := bn1_some h
  refine V_sub [1, 0] rfl (lp_X12_doPlan_2 C0 eNL erm N N x0 (0 : Int32) I L R _ c_x0.1 c_x0.2 q34 _ ?_)
  show V G _ 102 [] [] z33 L R
  cases h
  exact V_vret C0 dX12_doPlan_102
theorem dX12_shine_0 : decode cX12_shine 0 = .ok (.aload_n 0, 1) := by decide +kernel
theorem dX12_shine_1 : decode cX12_shine 1 = .ok (.getfield 306, 3) := by decide +kernel
theorem dX12_shine_4 : decode cX12_shine 4 = .ok (.sipush 600, 3) := by decide +kernel
theorem dX12_shine_7 : decode cX12_shine 7 = .ok (.irem, 1) := by decide +kernel
theorem dX12_shine_8 : decode cX12_shine 8 = .ok (.istore_n 1, 1) := by decide +kernel
theorem dX12_shine_9 : decode cX12_shine 9 = .ok (.aload_n 0, 1) := by decide +kernel
theorem dX12_shine_10 : decode cX12_shine 10 = .ok (.iload_n 1, 1) := by decide +kernel
theorem dX12_shine_11 : decode cX12_shine 11 = .ok (.sipush 339, 3) := by decide +kernel
theorem dX12_shine_14 : decode cX12_shine 14 = .ok (.if_icmp .gt 8, 3) := by decide +kernel
theorem dX12_shine_17 : decode cX12_shine 17 = .ok (.bipush 100, 2) := by decide +kernel
theorem dX12_shine_19 : decode cX12_shine 19 = .ok (.goto 41, 3) := by decide +kernel
theorem dX12_shine_22 : decode cX12_shine 22 = .ok (.iload_n 1, 1) := by decide +kernel
theorem dX12_shine_23 : decode cX12_shine 23 = .ok (.sipush 359, 3) := by decide +kernel
theorem dX12_shine_26 : decode cX12_shine 26 = .ok (.if_icmp .gt 16, 3) := by decide +kernel
theorem dX12_shine_29 : decode cX12_shine 29 = .ok (.bipush 100, 2) := by decide +kernel
theorem dX12_shine_31 : decode cX12_shine 31 = .ok (.iconst 5, 1) := by decide +kernel
theorem dX12_shine_32 : decode cX12_shine 32 = .ok (.iload_n 1, 1) := by decide +kernel
theorem dX12_shine_33 : decode cX12_shine 33 = .ok (.sipush 339, 3) := by decide +kernel
theorem dX12_shine_36 : decode cX12_shine 36 = .ok (.isub, 1) := by decide +kernel
theorem dX12_shine_37 : decode cX12_shine 37 = .ok (.imul, 1) := by decide +kernel
theorem dX12_shine_38 : decode cX12_shine 38 = .ok (.isub, 1) := by decide +kernel
theorem dX12_shine_39 : decode cX12_shine 39 = .ok (.goto 21, 3) := by decide +kernel
theorem dX12_shine_42 : decode cX12_shine 42 = .ok (.iload_n 1, 1) := by decide +kernel
theorem dX12_shine_43 : decode cX12_shine 43 = .ok (.sipush 579, 3) := by decide +kernel
theorem dX12_shine_46 : decode cX12_shine 46 = .ok (.if_icmp .gt 7, 3) := by decide +kernel
theorem dX12_shine_49 : decode cX12_shine 49 = .ok (.iconst 0, 1) := by decide +kernel
theorem dX12_shine_50 : decode cX12_shine 50 = .ok (.goto 10, 3) := by decide +kernel
theorem dX12_shine_53 : decode cX12_shine 53 = .ok (.iconst 5, 1) := by decide +kernel
theorem dX12_shine_54 : decode cX12_shine 54 = .ok (.iload_n 1, 1) := by decide +kernel
theorem dX12_shine_55 : decode cX12_shine 55 = .ok (.sipush 579, 3) := by decide +kernel
theorem dX12_shine_58 : decode cX12_shine 58 = .ok (.isub, 1) := by decide +kernel
theorem dX12_shine_59 : decode cX12_shine 59 = .ok (.imul, 1) := by decide +kernel
theorem dX12_shine_60 : decode cX12_shine 60 = .ok (.putfield 336, 3) := by decide +kernel
theorem dX12_shine_63 : decode cX12_shine 63 = .ok (.return_, 1) := by decide +kernel
def F_X12_shine (x0 : Nat) (I : MI) (L : ML) (R : MR) : Option (MI) :=
  if kd x0 = 11 ∧ x0 < NN then
  wr (iR (I x0 34) (600 : Int32)) fun (u1 : Int32) =>
  bn1 (
    if (339 : Int32) < u1 then
      bn1 (
        if (359 : Int32) < u1 then
          bn1 (
            if (579 : Int32) < u1 then
              some (((5 : Int32) * (u1 - (579 : Int32))))
            else
              some ((0 : Int32))
          ) fun (s10 : Int32) =>
          some (s10)
        else
          some (((100 : Int32) - ((5 : Int32) * (u1 - (339 : Int32)))))
      ) fun (s6 : Int32) =>
      some (s6)
    else
      some ((100 : Int32))
  ) fun (s2 : Int32) =>
  wr (uI I x0 47 s2) fun (I14 : MI) =>
  some (I14)
  else none
set_option maxRecDepth 100000 in
set_option maxHeartbeats 4000000 in
theorem c_X12_shine (l : Launch) (D : va_G) (cA : Nat → ClassId) (ad : Nat → Nat) (bs : Nat) (X : State → Prop) (hAd : Ax ad bs) (hX : Stb bs X) (x0 : Nat) (I : MI) (L : ML) (R : MR) (I' : MI) (h : F_X12_shine x0 I L R = some (I')) : Cn l D cA ad bs X yX12_shine cX12_shine 2 none 0 0 [.ref (ad x0)] I L R (none, I', L, R) := by
  refine Cn.ofV hAd hX [(0, .ref (ad x0))] rfl (Nat.le_of_ble_eq_true rfl) (by decide) ?_
  intro G el eD ecA ead ebs eX erm eNL C0
  subst el eD ecA ead ebs eX
  unfold F_X12_shine at h
  obtain ⟨c_x0, h⟩ := ite_some h
  refine V_aload_n C0 0 rfl rfl dX12_shine_0 ?_
  refine V_getI C0 11 34 fl_X12_306 c_x0.2 c_x0.1 rfl dX12_shine_1 ?_
  refine V_sipush C0 (v := (600 : Int32)) (by decide) dX12_shine_4 ?_
  refine V_irem C0 (by decide) dX12_shine_7 ?_
  obtain ⟨u1, eu1, h⟩ := wr_some h
  rw [← eu1]
  refine V_istore_n C0 [(1, .int u1), (0, .ref (G.ad x0))] rfl (by rw [eNL]; decide) rfl dX12_shine_8 ?_
  refine V_aload_n C0 1 rfl rfl dX12_shine_9 ?_
  refine V_iload_n C0 0 rfl rfl dX12_shine_10 ?_
  refine V_sipush C0 (v := (339 : Int32)) (by decide) dX12_shine_11 ?_
  obtain ⟨s2, q3, h⟩ := bn1_some h
  have k4 : V G (qf G (none, I', L, R)) 60 [] [.int s2, .ref (G.ad x0)] I L R := by
    obtain ⟨I14, eI14, h⟩ := wr_some h
    refine V_putI C0 11 47 fp_X12_336 c_x0.2 c_x0.1 rfl dX12_shine_60 ?_
    rw [← eI14]
    cases h
    exact V_vret C0 dX12_shine_63
  refine V_icmp_gt C0 (tgt := 22) (by decide) dX12_shine_14 (fun c5 => ?_) (fun c5 => ?_)
  · have q3 := (if_pos c5).symm.trans q3
    refine V_iload_n C0 0 rfl rfl dX12_shine_22 ?_
    refine V_sipush C0 (v := (359 : Int32)) (by decide) dX12_shine_23 ?_
    obtain ⟨s6, q7, q3⟩ := bn1_some q3
    have k8 : V G (qf G (none, I', L, R)) 60 [] [.int s6, .ref (G.ad x0)] I L R := by
      cases q3
      exact V_sub [] rfl k4
    refine V_icmp_gt C0 (tgt := 42) (by decide) dX12_shine_26 (fun c9 => ?_) (fun c9 => ?_)
    · have q7 := (if_pos c9).symm.trans q7
      refine V_iload_n C0 0 rfl rfl dX12_shine_42 ?_
      refine V_sipush C0 (v := (579 : Int32)) (by decide) dX12_shine_43 ?_
      obtain ⟨s10, q11, q7⟩ := bn1_some q7
      have k12 : V G (qf G (none, I', L, R)) 60 [] [.int s10, .ref (G.ad x0)] I L R := by
        cases q7
        exact V_sub [] rfl k8
      refine V_icmp_gt C0 (tgt := 53) (by decide) dX12_shine_46 (fun c13 => ?_) (fun c13 => ?_)
      · have q11 := (if_pos c13).symm.trans q11
        refine V_iconst C0 (v := (5 : Int32)) (by decide) dX12_shine_53 ?_
        refine V_iload_n C0 0 rfl rfl dX12_shine_54 ?_
        refine V_sipush C0 (v := (579 : Int32)) (by decide) dX12_shine_55 ?_
        refine V_isub C0 dX12_shine_58 ?_
        refine V_imul C0 dX12_shine_59 ?_
        cases q11
        exact V_sub [] rfl k12
      · have q11 := (if_neg c13).symm.trans q11
        refine V_iconst C0 (v := (0 : Int32)) (by decide) dX12_shine_49 ?_
        refine V_goto C0 (tgt := 60) (by decide) dX12_shine_50 ?_
        cases q11
        exact V_sub [] rfl k12
    · have q7 := (if_neg c9).symm.trans q7
      refine V_bipush C0 (v := (100 : Int32)) (by decide) dX12_shine_29 ?_
      refine V_iconst C0 (v := (5 : Int32)) (by decide) dX12_shine_31 ?_
      refine V_iload_n C0 0 rfl rfl dX12_shine_32 ?_
      refine V_sipush C0 (v := (339 : Int32)) (by decide) dX12_shine_33 ?_
      refine V_isub C0 dX12_shine_36 ?_
      refine V_imul C0 dX12_shine_37 ?_
      refine V_isub C0 dX12_shine_38 ?_
      refine V_goto C0 (tgt := 60) (by decide) dX12_shine_39 ?_
      cases q7
      exact V_sub [] rfl k8
  · have q3 := (if_neg c5).symm.trans q3
    refine V_bipush C0 (v := (100 : Int32)) (by decide) dX12_shine_17 ?_
    refine V_goto C0 (tgt := 60) (by decide) dX12_shine_19 ?_
    cases q3
    exact V_sub [] rfl k4
theorem dX12_inView_0 : decode cX12_inView 0 = .ok (.aload_n 0, 1) := by decide +kernel
theorem dX12_inView_1 : decode cX12_inView 1 = .ok (.getfield 306, 3) := by decide +kernel
theorem dX12_inView_4 : decode cX12_inView 4 = .ok (.sipush 600, 3) := by decide +kernel
theorem dX12_inView_7 : decode cX12_inView 7 = .ok (.irem, 1) := by decide +kernel
theorem dX12_inView_8 : decode cX12_inView 8 = .ok (.bipush 100, 2) := by decide +kernel
theorem dX12_inView_10 : decode cX12_inView 10 = .ok (.sipush 219, 3) := by decide +kernel
theorem dX12_inView_13 : decode cX12_inView 13 = .ok (.invokestatic 171, 3) := by decide +kernel
theorem dX12_inView_16 : decode cX12_inView 16 = .ok (.ireturn, 1) := by decide +kernel
def F_X12_inView (x0 : Nat) (I : MI) (L : ML) (R : MR) : Option (Bool) :=
  if kd x0 = 11 ∧ x0 < NN then
  bn1 (F_X12_in (iR (I x0 34) (600 : Int32)) (100 : Int32) (219 : Int32) I L R) fun b1 =>
  some (b1)
  else none
set_option maxRecDepth 100000 in
set_option maxHeartbeats 4000000 in
theorem c_X12_inView (l : Launch) (D : va_G) (cA : Nat → ClassId) (ad : Nat → Nat) (bs : Nat) (X : State → Prop) (hAd : Ax ad bs) (hX : Stb bs X) (x0 : Nat) (I : MI) (L : ML) (R : MR) (r : Bool) (h : F_X12_inView x0 I L R = some (r)) : Cn l D cA ad bs X yX12_inView cX12_inView 1 (some .boolean) 1 22 [.ref (ad x0)] I L R (some (.int (b2i r)), I, L, R) := by
  refine Cn.ofV hAd hX [(0, .ref (ad x0))] rfl (Nat.le_of_ble_eq_true rfl) (by decide) ?_
  intro G el eD ecA ead ebs eX erm eNL C0
  subst el eD ecA ead ebs eX
  unfold F_X12_inView at h
  obtain ⟨c_x0, h⟩ := ite_some h
  refine V_aload_n C0 0 rfl rfl dX12_inView_0 ?_
  refine V_getI C0 11 34 fl_X12_306 c_x0.2 c_x0.1 rfl dX12_inView_1 ?_
  refine V_sipush C0 (v := (600 : Int32)) (by decide) dX12_inView_4 ?_
  refine V_irem C0 (by decide) dX12_inView_7 ?_
  refine V_bipush C0 (v := (100 : Int32)) (by decide) dX12_inView_8 ?_
  refine V_sipush C0 (v := (219 : Int32)) (by decide) dX12_inView_10 ?_
  obtain ⟨b1, q2, h⟩ := bn1_some h
  refine V_callS C0 (st := []) (As := [.int (iR (I x0 34) (600 : Int32)), .int (100 : Int32), .int (219 : Int32)]) (c_X12_in G.l G.D G.cA G.ad G.bs G.X C0.2.2.2.2.2.2.2.2.2.1 C0.2.2.2.2.2.2.2.2.2.2.2.2 (iR (I x0 34) (600 : Int32)) (100 : Int32) (219 : Int32) I L R b1 q2) lc_X12_in lk_X12_171 rfl (by rw [erm]; decide) (Nat.le_of_ble_eq_true rfl) dX12_inView_13 ?_
  show V G _ 16 [(0, .ref (G.ad x0))] [.int (b2i b1)] I L R
  cases h
  exact V_zret C0 (b2i01 _) dX12_inView_16
theorem dX12_keep_0 : decode cX12_keep 0 = .ok (.aload_n 0, 1) := by decide +kernel
theorem dX12_keep_1 : decode cX12_keep 1 = .ok (.getfield 81, 3) := by decide +kernel
theorem dX12_keep_4 : decode cX12_keep 4 = .ok (.sipush 2000, 3) := by decide +kernel
theorem dX12_keep_7 : decode cX12_keep 7 = .ok (.iload_n 1, 1) := by decide +kernel
theorem dX12_keep_8 : decode cX12_keep 8 = .ok (.imul, 1) := by decide +kernel
theorem dX12_keep_9 : decode cX12_keep 9 = .ok (.aload_n 0, 1) := by decide +kernel
theorem dX12_keep_10 : decode cX12_keep 10 = .ok (.iload_n 1, 1) := by decide +kernel
theorem dX12_keep_11 : decode cX12_keep 11 = .ok (.bipush 10, 2) := by decide +kernel
theorem dX12_keep_13 : decode cX12_keep 13 = .ok (.invokevirtual 211, 3) := by decide +kernel
theorem dX12_keep_16 : decode cX12_keep 16 = .ok (.iadd, 1) := by decide +kernel
theorem dX12_keep_17 : decode cX12_keep 17 = .ok (.iload_n 2, 1) := by decide +kernel
theorem dX12_keep_18 : decode cX12_keep 18 = .ok (.iastore, 1) := by decide +kernel
theorem dX12_keep_19 : decode cX12_keep 19 = .ok (.aload_n 0, 1) := by decide +kernel
theorem dX12_keep_20 : decode cX12_keep 20 = .ok (.iload_n 1, 1) := by decide +kernel
theorem dX12_keep_21 : decode cX12_keep 21 = .ok (.bipush 10, 2) := by decide +kernel
theorem dX12_keep_23 : decode cX12_keep 23 = .ok (.iconst 1, 1) := by decide +kernel
theorem dX12_keep_24 : decode cX12_keep 24 = .ok (.invokevirtual 259, 3) := by decide +kernel
theorem dX12_keep_27 : decode cX12_keep 27 = .ok (.return_, 1) := by decide +kernel
def F_X12_keep (x0 : Nat) (x1 : Int32) (x2 : Int32) (I : MI) (L : ML) (R : MR) : Option (MI) :=
  if kd x0 = 11 ∧ x0 < NN then
  (rf R x0 52 20).bind fun a1 =>
  bn1 (F_X12_get x0 x1 (10 : Int32) I L R) fun v2 =>
  (wi I a1 (((2000 : Int32) * x1) + v2) x2).bind fun I4 =>
  bn1 (F_X12_grow x0 x1 (10 : Int32) (1 : Int32) I4 L R) fun I5 =>
  some (I5)
  else none
set_option maxRecDepth 100000 in
set_option maxHeartbeats 4000000 in
theorem c_X12_keep (l : Launch) (D : va_G) (cA : Nat → ClassId) (ad : Nat → Nat) (bs : Nat) (X : State → Prop) (hAd : Ax ad bs) (hX : Stb bs X) (x0 : Nat) (x1 : Int32) (x2 : Int32) (I : MI) (L : ML) (R : MR) (I' : MI) (h : F_X12_keep x0 x1 x2 I L R = some (I')) : Cn l D cA ad bs X yX12_keep cX12_keep 3 none 1 23 [.ref (ad x0), .int x1, .int x2] I L R (none, I', L, R) := by
  refine Cn.ofV hAd hX [(0, .ref (ad x0)), (1, .int x1), (2, .int x2)] rfl (Nat.le_of_ble_eq_true rfl) (by decide) ?_
  intro G el eD ecA ead ebs eX erm eNL C0
  subst el eD ecA ead ebs eX
  unfold F_X12_keep at h
  obtain ⟨c_x0, h⟩ := ite_some h
  refine V_aload_n C0 0 rfl rfl dX12_keep_0 ?_
  obtain ⟨a1, qa1, h⟩ := bnd_some h
  refine V_getR C0 11 52 fl_X12_81 c_x0.2 c_x0.1 rfl (rf_at qa1) dX12_keep_1 ?_
  refine V_sipush C0 (v := (2000 : Int32)) (by decide) dX12_keep_4 ?_
  refine V_iload_n C0 1 rfl rfl dX12_keep_7 ?_
  refine V_imul C0 dX12_keep_8 ?_
  refine V_aload_n C0 0 rfl rfl dX12_keep_9 ?_
  refine V_iload_n C0 1 rfl rfl dX12_keep_10 ?_
  refine V_bipush C0 (v := (10 : Int32)) (by decide) dX12_keep_11 ?_
  obtain ⟨v2, q3, h⟩ := bn1_some h
  refine V_callV C0 (st := [.int ((2000 : Int32) * x1), .ref (G.ad a1)]) (As := [.int x1, .int (10 : Int32)]) 11 (c_X12_get G.l G.D G.cA G.ad G.bs G.X C0.2.2.2.2.2.2.2.2.2.1 C0.2.2.2.2.2.2.2.2.2.2.2.2 x0 x1 (10 : Int32) I L R v2 q3) lc_X12_get lk_X12_211 c_x0.2 c_x0.1 ⟨_, rfl, rfl⟩ rfl (by rw [erm]; decide) (Nat.le_of_ble_eq_true rfl) dX12_keep_13 ?_
  show V G _ 16 [(0, .ref (G.ad x0)), (1, .int x1), (2, .int x2)] [.int v2, .int ((2000 : Int32) * x1), .ref (G.ad a1)] I L R
  refine V_iadd C0 dX12_keep_16 ?_
  refine V_iload_n C0 2 rfl rfl dX12_keep_17 ?_
  obtain ⟨I4, qI4, h⟩ := bnd_some h
  refine V_wi C0 (rf_lt qa1) (rf_kd qa1) qI4 dX12_keep_18 ?_
  refine V_aload_n C0 0 rfl rfl dX12_keep_19 ?_
  refine V_iload_n C0 1 rfl rfl dX12_keep_20 ?_
  refine V_bipush C0 (v := (10 : Int32)) (by decide) dX12_keep_21 ?_
  refine V_iconst C0 (v := (1 : Int32)) (by decide) dX12_keep_23 ?_
  obtain ⟨I5, q6, h⟩ := bn1_some h
  refine V_callV C0 (st := []) (As := [.int x1, .int (10 : Int32), .int (1 : Int32)]) 11 (c_X12_grow G.l G.D G.cA G.ad G.bs G.X C0.2.2.2.2.2.2.2.2.2.1 C0.2.2.2.2.2.2.2.2.2.2.2.2 x0 x1 (10 : Int32) (1 : Int32) I4 L R I5 q6) lc_X12_grow lk_X12_259 c_x0.2 c_x0.1 ⟨_, rfl, rfl⟩ rfl (by rw [erm]; decide) (Nat.le_of_ble_eq_true rfl) dX12_keep_24 ?_
  show V G _ 27 [(0, .ref (G.ad x0)), (1, .int x1), (2, .int x2)] [] I5 L R
  cases h
  exact V_vret C0 dX12_keep_27
theorem dX12_hasRoom_0 : decode cX12_hasRoom 0 = .ok (.aload_n 0, 1) := by decide +kernel
theorem dX12_hasRoom_1 : decode cX12_hasRoom 1 = .ok (.iload_n 1, 1) := by decide +kernel
theorem dX12_hasRoom_2 : decode cX12_hasRoom 2 = .ok (.invokevirtual 366, 3) := by decide +kernel
theorem dX12_hasRoom_5 : decode cX12_hasRoom 5 = .ok (.ifCond .eq 26, 3) := by decide +kernel
theorem dX12_hasRoom_8 : decode cX12_hasRoom 8 = .ok (.aload_n 0, 1) := by decide +kernel
theorem dX12_hasRoom_9 : decode cX12_hasRoom 9 = .ok (.iload_n 1, 1) := by decide +kernel
theorem dX12_hasRoom_10 : decode cX12_hasRoom 10 = .ok (.bipush 10, 2) := by decide +kernel
theorem dX12_hasRoom_12 : decode cX12_hasRoom 12 = .ok (.invokevirtual 211, 3) := by decide +kernel
theorem dX12_hasRoom_15 : decode cX12_hasRoom 15 = .ok (.iload_n 2, 1) := by decide +kernel
theorem dX12_hasRoom_16 : decode cX12_hasRoom 16 = .ok (.iadd, 1) := by decide +kernel
theorem dX12_hasRoom_17 : decode cX12_hasRoom 17 = .ok (.aload_n 0, 1) := by decide +kernel
theorem dX12_hasRoom_18 : decode cX12_hasRoom 18 = .ok (.iload_n 1, 1) := by decide +kernel
theorem dX12_hasRoom_19 : decode cX12_hasRoom 19 = .ok (.bipush 9, 2) := by decide +kernel
theorem dX12_hasRoom_21 : decode cX12_hasRoom 21 = .ok (.invokevirtual 211, 3) := by decide +kernel
theorem dX12_hasRoom_24 : decode cX12_hasRoom 24 = .ok (.if_icmp .gt 7, 3) := by decide +kernel
theorem dX12_hasRoom_27 : decode cX12_hasRoom 27 = .ok (.iconst 1, 1) := by decide +kernel
theorem dX12_hasRoom_28 : decode cX12_hasRoom 28 = .ok (.goto 4, 3) := by decide +kernel
theorem dX12_hasRoom_31 : decode cX12_hasRoom 31 = .ok (.iconst 0, 1) := by decide +kernel
theorem dX12_hasRoom_32 : decode cX12_hasRoom 32 = .ok (.ireturn, 1) := by decide +kernel
def F_X12_hasRoom (x0 : Nat) (x1 : Int32) (x2 : Int32) (I : MI) (L : ML) (R : MR) : Option (Bool) :=
  if kd x0 = 11 ∧ x0 < NN then
  bn1 (F_X12_isWhole x0 x1 I L R) fun b1 =>
  if (b2i b1) = 0 then
    some (false)
  else
    bn1 (F_X12_get x0 x1 (10 : Int32) I L R) fun v4 =>
    bn1 (F_X12_get x0 x1 (9 : Int32) I L R) fun v6 =>
    if v6 < (v4 + x2) then
      some (false)
    else
      some (true)
  else none
set_option maxRecDepth 100000 in
set_option maxHeartbeats 4000000 in
theorem c_X12_hasRoom (l : Launch) (D : va_G) (cA : Nat → ClassId) (ad : Nat → Nat) (bs : Nat) (X : State → Prop) (hAd : Ax ad bs) (hX : Stb bs X) (x0 : Nat) (x1 : Int32) (x2 : Int32) (I : MI) (L : ML) (R : MR) (r : Bool) (h : F_X12_hasRoom x0 x1 x2 I L R = some (r)) : Cn l D cA ad bs X yX12_hasRoom cX12_hasRoom 3 (some .boolean) 2 43 [.ref (ad x0), .int x1, .int x2] I L R (some (.int (b2i r)), I, L, R) := by
  refine Cn.ofV hAd hX [(0, .ref (ad x0)), (1, .int x1), (2, .int x2)] rfl (Nat.le_of_ble_eq_true rfl) (by decide) ?_
  intro G el eD ecA ead ebs eX erm eNL C0
  subst el eD ecA ead ebs eX
  unfold F_X12_hasRoom at h
  obtain ⟨c_x0, h⟩ := ite_some h
  refine V_aload_n C0 0 rfl rfl dX12_hasRoom_0 ?_
  refine V_iload_n C0 1 rfl rfl dX12_hasRoom_1 ?_
  obtain ⟨b1, q2, h⟩ := bn1_some h
  refine V_callV C0 (st := []) (As := [.int x1]) 11 (c_X12_isWhole G.l G.D G.cA G.ad G.bs G.X C0.2.2.2.2.2.2.2.2.2.1 C0.2.2.2.2.2.2.2.2.2.2.2.2 x0 x1 I L R b1 q2) lc_X12_isWhole lk_X12_366 c_x0.2 c_x0.1 ⟨_, rfl, rfl⟩ rfl (by rw [erm]; decide) (Nat.le_of_ble_eq_true rfl) dX12_hasRoom_2 ?_
  show V G _ 5 [(0, .ref (G.ad x0)), (1, .int x1), (2, .int x2)] [.int (b2i b1)] I L R
  refine V_if_eq C0 (tgt := 31) (by decide) dX12_hasRoom_5 (fun c3 => ?_) (fun c3 => ?_)
  · have h := (if_pos c3).symm.trans h
    refine V_iconst C0 (v := (0 : Int32)) (by decide) dX12_hasRoom_31 ?_
    cases h
    exact V_zret C0 (by decide) dX12_hasRoom_32
  · have h := (if_neg c3).symm.trans h
    refine V_aload_n C0 0 rfl rfl dX12_hasRoom_8 ?_
    refine V_iload_n C0 1 rfl rfl dX12_hasRoom_9 ?_
    refine V_bipush C0 (v := (10 : Int32)) (by decide) dX12_hasRoom_10 ?_
    obtain ⟨v4, q5, h⟩ := bn1_some h
    refine V_callV C0 (st := []) (As := [.int x1, .int (10 : Int32)]) 11 (c_X12_get G.l G.D G.cA G.ad G.bs G.X C0.2.2.2.2.2.2.2.2.2.1 C0.2.2.2.2.2.2.2.2.2.2.2.2 x0 x1 (10 : Int32) I L R v4 q5) lc_X12_get lk_X12_211 c_x0.2 c_x0.1 ⟨_, rfl, rfl⟩ rfl (by rw [erm]; decide) (Nat.le_of_ble_eq_true rfl) dX12_hasRoom_12 ?_
    show V G _ 15 [(0, .ref (G.ad x0)), (1, .int x1), (2, .int x2)] [.int v4] I L R
    refine V_iload_n C0 2 rfl rfl dX12_hasRoom_15 ?_
    refine V_iadd C0 dX12_hasRoom_16 ?_
    refine V_aload_n C0 0 rfl rfl dX12_hasRoom_17 ?_
    refine V_iload_n C0 1 rfl rfl dX12_hasRoom_18 ?_
    refine V_bipush C0 (v := (9 : Int32)) (by decide) dX12_hasRoom_19 ?_
    obtain ⟨v6, q7, h⟩ := bn1_some h
    refine V_callV C0 (st := [.int (v4 + x2)]) (As := [.int x1, .int (9 : Int32)]) 11 (c_X12_get G.l G.D G.cA G.ad G.bs G.X C0.2.2.2.2.2.2.2.2.2.1 C0.2.2.2.2.2.2.2.2.2.2.2.2 x0 x1 (9 : Int32) I L R v6 q7) lc_X12_get lk_X12_211 c_x0.2 c_x0.1 ⟨_, rfl, rfl⟩ rfl (by rw [erm]; decide) (Nat.le_of_ble_eq_true rfl) dX12_hasRoom_21 ?_
    show V G _ 24 [(0, .ref (G.ad x0)), (1, .int x1), (2, .int x2)] [.int v6, .int (v4 + x2)] I L R
    refine V_icmp_gt C0 (tgt := 31) (by decide) dX12_hasRoom_24 (fun c8 => ?_) (fun c8 => ?_)
    · have h := (if_pos c8).symm.trans h
      refine V_iconst C0 (v := (0 : Int32)) (by decide) dX12_hasRoom_31 ?_
      cases h
      exact V_zret C0 (by decide) dX12_hasRoom_32
    · have h := (if_neg c8).symm.trans h
      refine V_iconst C0 (v := (1 : Int32)) (by decide) dX12_hasRoom_27 ?_
      refine V_goto C0 (tgt := 32) (by decide) dX12_hasRoom_28 ?_
      cases h
      exact V_zret C0 (by decide) dX12_hasRoom_32
theorem dX12_readSensor_0 : decode cX12_readSensor 0 = .ok (.aload_n 0, 1) := by decide +kernel
theorem dX12_readSensor_1 : decode cX12_readSensor 1 = .ok (.iload_n 1, 1) := by decide +kernel
theorem dX12_readSensor_2 : decode cX12_readSensor 2 = .ok (.iconst 0, 1) := by decide +kernel
theorem dX12_readSensor_3 : decode cX12_readSensor 3 = .ok (.invokevirtual 211, 3) := by decide +kernel
theorem dX12_readSensor_6 : decode cX12_readSensor 6 = .ok (.istore_n 2, 1) := by decide +kernel
theorem dX12_readSensor_7 : decode cX12_readSensor 7 = .ok (.aload_n 0, 1) := by decide +kernel
theorem dX12_readSensor_8 : decode cX12_readSensor 8 = .ok (.iload_n 1, 1) := by decide +kernel
theorem dX12_readSensor_9 : decode cX12_readSensor 9 = .ok (.bipush 10, 2) := by decide +kernel
theorem dX12_readSensor_11 : decode cX12_readSensor 11 = .ok (.invokevirtual 217, 3) := by decide +kernel
theorem dX12_readSensor_14 : decode cX12_readSensor 14 = .ok (.ifCond .eq 33, 3) := by decide +kernel
theorem dX12_readSensor_17 : decode cX12_readSensor 17 = .ok (.aload_n 0, 1) := by decide +kernel
theorem dX12_readSensor_18 : decode cX12_readSensor 18 = .ok (.iload_n 1, 1) := by decide +kernel
theorem dX12_readSensor_19 : decode cX12_readSensor 19 = .ok (.bipush 32, 2) := by decide +kernel
theorem dX12_readSensor_21 : decode cX12_readSensor 21 = .ok (.aload_n 0, 1) := by decide +kernel
theorem dX12_readSensor_22 : decode cX12_readSensor 22 = .ok (.getfield 71, 3) := by decide +kernel
theorem dX12_readSensor_25 : decode cX12_readSensor 25 = .ok (.aload_n 0, 1) := by decide +kernel
theorem dX12_readSensor_26 : decode cX12_readSensor 26 = .ok (.iload_n 1, 1) := by decide +kernel
theorem dX12_readSensor_27 : decode cX12_readSensor 27 = .ok (.bipush 35, 2) := by decide +kernel
theorem dX12_readSensor_29 : decode cX12_readSensor 29 = .ok (.invokevirtual 211, 3) := by decide +kernel
theorem dX12_readSensor_32 : decode cX12_readSensor 32 = .ok (.iaload, 1) := by decide +kernel
theorem dX12_readSensor_33 : decode cX12_readSensor 33 = .ok (.aload_n 0, 1) := by decide +kernel
theorem dX12_readSensor_34 : decode cX12_readSensor 34 = .ok (.iload_n 1, 1) := by decide +kernel
theorem dX12_readSensor_35 : decode cX12_readSensor 35 = .ok (.bipush 33, 2) := by decide +kernel
theorem dX12_readSensor_37 : decode cX12_readSensor 37 = .ok (.invokevirtual 211, 3) := by decide +kernel
theorem dX12_readSensor_40 : decode cX12_readSensor 40 = .ok (.iadd, 1) := by decide +kernel
theorem dX12_readSensor_41 : decode cX12_readSensor 41 = .ok (.invokevirtual 246, 3) := by decide +kernel
theorem dX12_readSensor_44 : decode cX12_readSensor 44 = .ok (.goto 199, 3) := by decide +kernel
theorem dX12_readSensor_47 : decode cX12_readSensor 47 = .ok (.iload_n 2, 1) := by decide +kernel
theorem dX12_readSensor_48 : decode cX12_readSensor 48 = .ok (.bipush 12, 2) := by decide +kernel
theorem dX12_readSensor_50 : decode cX12_readSensor 50 = .ok (.if_icmp .ne 60, 3) := by decide +kernel
theorem dX12_readSensor_53 : decode cX12_readSensor 53 = .ok (.aload_n 0, 1) := by decide +kernel
theorem dX12_readSensor_54 : decode cX12_readSensor 54 = .ok (.getfield 68, 3) := by decide +kernel
theorem dX12_readSensor_57 : decode cX12_readSensor 57 = .ok (.iconst 0, 1) := by decide +kernel
theorem dX12_readSensor_58 : decode cX12_readSensor 58 = .ok (.iaload, 1) := by decide +kernel
theorem dX12_readSensor_59 : decode cX12_readSensor 59 = .ok (.iconst 0, 1) := by decide +kernel
theorem dX12_readSensor_60 : decode cX12_readSensor 60 = .ok (.invokestatic 381, 3) := by decide +kernel
theorem dX12_readSensor_63 : decode cX12_readSensor 63 = .ok (.istore_n 3, 1) := by decide +kernel
theorem dX12_readSensor_64 : decode cX12_readSensor 64 = .ok (.aload_n 0, 1) := by decide +kernel
theorem dX12_readSensor_65 : decode cX12_readSensor 65 = .ok (.iload_n 1, 1) := by decide +kernel
theorem dX12_readSensor_66 : decode cX12_readSensor 66 = .ok (.bipush 32, 2) := by decide +kernel
theorem dX12_readSensor_68 : decode cX12_readSensor 68 = .ok (.aload_n 0, 1) := by decide +kernel
theorem dX12_readSensor_69 : decode cX12_readSensor 69 = .ok (.getfield 336, 3) := by decide +kernel
theorem dX12_readSensor_72 : decode cX12_readSensor 72 = .ok (.ifCond .le 29, 3) := by decide +kernel
theorem dX12_readSensor_75 : decode cX12_readSensor 75 = .ok (.iload_n 3, 1) := by decide +kernel
theorem dX12_readSensor_76 : decode cX12_readSensor 76 = .ok (.invokestatic 384, 3) := by decide +kernel
theorem dX12_readSensor_79 : decode cX12_readSensor 79 = .ok (.aload_n 0, 1) := by decide +kernel
theorem dX12_readSensor_80 : decode cX12_readSensor 80 = .ok (.iload_n 1, 1) := by decide +kernel
theorem dX12_readSensor_81 : decode cX12_readSensor 81 = .ok (.bipush 37, 2) := by decide +kernel
theorem dX12_readSensor_83 : decode cX12_readSensor 83 = .ok (.invokevirtual 211, 3) := by decide +kernel
theorem dX12_readSensor_86 : decode cX12_readSensor 86 = .ok (.if_icmp .ge 15, 3) := by decide +kernel
theorem dX12_readSensor_89 : decode cX12_readSensor 89 = .ok (.iload_n 3, 1) := by decide +kernel
theorem dX12_readSensor_90 : decode cX12_readSensor 90 = .ok (.aload_n 0, 1) := by decide +kernel
theorem dX12_readSensor_91 : decode cX12_readSensor 91 = .ok (.iload_n 1, 1) := by decide +kernel
theorem dX12_readSensor_92 : decode cX12_readSensor 92 = .ok (.bipush 29, 2) := by decide +kernel
theorem dX12_readSensor_94 : decode cX12_readSensor 94 = .ok (.invokevirtual 211, 3) := by decide +kernel
theorem dX12_readSensor_97 : decode cX12_readSensor 97 = .ok (.iadd, 1) := by decide +kernel
theorem dX12_readSensor_98 : decode cX12_readSensor 98 = .ok (.goto 6, 3) := by decide +kernel
theorem dX12_readSensor_101 : decode cX12_readSensor 101 = .ok (.sipush 9999, 3) := by decide +kernel
theorem dX12_readSensor_104 : decode cX12_readSensor 104 = .ok (.invokevirtual 246, 3) := by decide +kernel
theorem dX12_readSensor_107 : decode cX12_readSensor 107 = .ok (.goto 136, 3) := by decide +kernel
theorem dX12_readSensor_110 : decode cX12_readSensor 110 = .ok (.iload_n 2, 1) := by decide +kernel
theorem dX12_readSensor_111 : decode cX12_readSensor 111 = .ok (.bipush 13, 2) := by decide +kernel
theorem dX12_readSensor_113 : decode cX12_readSensor 113 = .ok (.if_icmp .ne 34, 3) := by decide +kernel
theorem dX12_readSensor_116 : decode cX12_readSensor 116 = .ok (.aload_n 0, 1) := by decide +kernel
theorem dX12_readSensor_117 : decode cX12_readSensor 117 = .ok (.iload_n 1, 1) := by decide +kernel
theorem dX12_readSensor_118 : decode cX12_readSensor 118 = .ok (.bipush 32, 2) := by decide +kernel
theorem dX12_readSensor_120 : decode cX12_readSensor 120 = .ok (.aload_n 0, 1) := by decide +kernel
theorem dX12_readSensor_121 : decode cX12_readSensor 121 = .ok (.aload_n 0, 1) := by decide +kernel
theorem dX12_readSensor_122 : decode cX12_readSensor 122 = .ok (.iload_n 1, 1) := by decide +kernel
theorem dX12_readSensor_123 : decode cX12_readSensor 123 = .ok (.bipush 27, 2) := by decide +kernel
theorem dX12_readSensor_125 : decode cX12_readSensor 125 = .ok (.invokevirtual 211, 3) := by decide +kernel
theorem dX12_readSensor_128 : decode cX12_readSensor 128 = .ok (.bipush 62, 2) := by decide +kernel
theorem dX12_readSensor_130 : decode cX12_readSensor 130 = .ok (.invokevirtual 211, 3) := by decide +kernel
theorem dX12_readSensor_133 : decode cX12_readSensor 133 = .ok (.aload_n 0, 1) := by decide +kernel
theorem dX12_readSensor_134 : decode cX12_readSensor 134 = .ok (.iload_n 1, 1) := by decide +kernel
theorem dX12_readSensor_135 : decode cX12_readSensor 135 = .ok (.bipush 38, 2) := by decide +kernel
theorem dX12_readSensor_137 : decode cX12_readSensor 137 = .ok (.invokevirtual 211, 3) := by decide +kernel
theorem dX12_readSensor_140 : decode cX12_readSensor 140 = .ok (.iadd, 1) := by decide +kernel
theorem dX12_readSensor_141 : decode cX12_readSensor 141 = .ok (.invokevirtual 246, 3) := by decide +kernel
theorem dX12_readSensor_144 : decode cX12_readSensor 144 = .ok (.goto 99, 3) := by decide +kernel
theorem dX12_readSensor_147 : decode cX12_readSensor 147 = .ok (.aload_n 0, 1) := by decide +kernel
theorem dX12_readSensor_148 : decode cX12_readSensor 148 = .ok (.iload_n 1, 1) := by decide +kernel
theorem dX12_readSensor_149 : decode cX12_readSensor 149 = .ok (.bipush 39, 2) := by decide +kernel
theorem dX12_readSensor_151 : decode cX12_readSensor 151 = .ok (.invokevirtual 211, 3) := by decide +kernel
theorem dX12_readSensor_154 : decode cX12_readSensor 154 = .ok (.istore_n 3, 1) := by decide +kernel
theorem dX12_readSensor_155 : decode cX12_readSensor 155 = .ok (.aload_n 0, 1) := by decide +kernel
theorem dX12_readSensor_156 : decode cX12_readSensor 156 = .ok (.iload_n 1, 1) := by decide +kernel
theorem dX12_readSensor_157 : decode cX12_readSensor 157 = .ok (.bipush 27, 2) := by decide +kernel
theorem dX12_readSensor_159 : decode cX12_readSensor 159 = .ok (.invokevirtual 211, 3) := by decide +kernel
theorem dX12_readSensor_162 : decode cX12_readSensor 162 = .ok (.istore 4, 2) := by decide +kernel
theorem dX12_readSensor_164 : decode cX12_readSensor 164 = .ok (.aload_n 0, 1) := by decide +kernel
theorem dX12_readSensor_165 : decode cX12_readSensor 165 = .ok (.getfield 306, 3) := by decide +kernel
theorem dX12_readSensor_168 : decode cX12_readSensor 168 = .ok (.iload_n 3, 1) := by decide +kernel
theorem dX12_readSensor_169 : decode cX12_readSensor 169 = .ok (.aload_n 0, 1) := by decide +kernel
theorem dX12_readSensor_170 : decode cX12_readSensor 170 = .ok (.getfield 336, 3) := by decide +kernel
theorem dX12_readSensor_173 : decode cX12_readSensor 173 = .ok (.imul, 1) := by decide +kernel
theorem dX12_readSensor_174 : decode cX12_readSensor 174 = .ok (.iadd, 1) := by decide +kernel
theorem dX12_readSensor_175 : decode cX12_readSensor 175 = .ok (.sipush 256, 3) := by decide +kernel
theorem dX12_readSensor_178 : decode cX12_readSensor 178 = .ok (.invokestatic 115, 3) := by decide +kernel
theorem dX12_readSensor_181 : decode cX12_readSensor 181 = .ok (.istore 5, 2) := by decide +kernel
theorem dX12_readSensor_183 : decode cX12_readSensor 183 = .ok (.aload_n 0, 1) := by decide +kernel
theorem dX12_readSensor_184 : decode cX12_readSensor 184 = .ok (.iload_n 1, 1) := by decide +kernel
theorem dX12_readSensor_185 : decode cX12_readSensor 185 = .ok (.bipush 32, 2) := by decide +kernel
theorem dX12_readSensor_187 : decode cX12_readSensor 187 = .ok (.iload 5, 2) := by decide +kernel
theorem dX12_readSensor_189 : decode cX12_readSensor 189 = .ok (.invokevirtual 246, 3) := by decide +kernel
theorem dX12_readSensor_192 : decode cX12_readSensor 192 = .ok (.aload_n 0, 1) := by decide +kernel
theorem dX12_readSensor_193 : decode cX12_readSensor 193 = .ok (.iload 4, 2) := by decide +kernel
theorem dX12_readSensor_195 : decode cX12_readSensor 195 = .ok (.iload_n 3, 1) := by decide +kernel
theorem dX12_readSensor_196 : decode cX12_readSensor 196 = .ok (.invokevirtual 387, 3) := by decide +kernel
theorem dX12_readSensor_199 : decode cX12_readSensor 199 = .ok (.ifCond .ne 4, 3) := by decide +kernel
theorem dX12_readSensor_202 : decode cX12_readSensor 202 = .ok (.return_, 1) := by decide +kernel
theorem dX12_readSensor_203 : decode cX12_readSensor 203 = .ok (.iconst 0, 1) := by decide +kernel
theorem dX12_readSensor_204 : decode cX12_readSensor 204 = .ok (.istore 6, 2) := by decide +kernel
theorem dX12_readSensor_206 : decode cX12_readSensor 206 = .ok (.iload 6, 2) := by decide +kernel
theorem dX12_readSensor_208 : decode cX12_readSensor 208 = .ok (.iload_n 3, 1) := by decide +kernel
theorem dX12_readSensor_209 : decode cX12_readSensor 209 = .ok (.if_icmp .ge 26, 3) := by decide +kernel
theorem dX12_readSensor_212 : decode cX12_readSensor 212 = .ok (.aload_n 0, 1) := by decide +kernel
theorem dX12_readSensor_213 : decode cX12_readSensor 213 = .ok (.iload 4, 2) := by decide +kernel
theorem dX12_readSensor_215 : decode cX12_readSensor 215 = .ok (.iload 5, 2) := by decide +kernel
theorem dX12_readSensor_217 : decode cX12_readSensor 217 = .ok (.iload 6, 2) := by decide +kernel
theorem dX12_readSensor_219 : decode cX12_readSensor 219 = .ok (.iadd, 1) := by decide +kernel
theorem dX12_readSensor_220 : decode cX12_readSensor 220 = .ok (.sipush 256, 3) := by decide +kernel
theorem dX12_readSensor_223 : decode cX12_readSensor 223 = .ok (.invokestatic 115, 3) := by decide +kernel
theorem dX12_readSensor_226 : decode cX12_readSensor 226 = .ok (.invokevirtual 390, 3) := by decide +kernel
theorem dX12_readSensor_229 : decode cX12_readSensor 229 = .ok (.iinc 6 1, 3) := by decide +kernel
theorem dX12_readSensor_232 : decode cX12_readSensor 232 = .ok (.goto (-26), 3) := by decide +kernel
theorem dX12_readSensor_235 : decode cX12_readSensor 235 = .ok (.aload_n 0, 1) := by decide +kernel
theorem dX12_readSensor_236 : decode cX12_readSensor 236 = .ok (.iload_n 1, 1) := by decide +kernel
theorem dX12_readSensor_237 : decode cX12_readSensor 237 = .ok (.bipush 40, 2) := by decide +kernel
theorem dX12_readSensor_239 : decode cX12_readSensor 239 = .ok (.iconst 1, 1) := by decide +kernel
theorem dX12_readSensor_240 : decode cX12_readSensor 240 = .ok (.invokevirtual 259, 3) := by decide +kernel
theorem dX12_readSensor_243 : decode cX12_readSensor 243 = .ok (.return_, 1) := by decide +kernel
def LF_X12_readSensor_206 (N : Nat) : Nat → Nat → Int32 → Int32 → Int32 → Int32 → Int32 → MI → ML → MR → Option (MI)
  | 0, _, _, _, _, _, _, _, _, _ => none
  | k + 1, y0, y1, y3, y4, y5, y6, I, L, R =>
    if y3 ≤ y6 then
      some (I)
    else
      bn1 (F_X12_mod (y5 + y6) (256 : Int32) I L R) fun v20 =>
      bn1 (F_X12_keep y0 y4 v20 I L R) fun I22 =>
      wr (y6 + (1 : Int32)) fun (u24 : Int32) =>
      LF_X12_readSensor_206 N k y0 y1 y3 y4 y5 u24 I22 L R
def F_X12_readSensor (N : Nat) (x0 : Nat) (x1 : Int32) (I : MI) (L : ML) (R : MR) : Option (MI) :=
  if kd x0 = 11 ∧ x0 < NN then
  bn1 (F_X12_get x0 x1 (0 : Int32) I L R) fun v1 =>
  bn1 (F_X12_isA N x0 x1 (10 : Int32) I L R) fun b3 =>
  if (b2i b3) = 0 then
    if v1 = (12 : Int32) then
      (rf R x0 36 20).bind fun a37 =>
      (ri I a37 (0 : Int32)).bind fun v38 =>
      bn1 (F_X12_off v38 (0 : Int32) I L R) fun v39 =>
      bn1 (
        if (I x0 47) ≤ 0 then
          some ((9999 : Int32))
        else
          bn1 (F_X12_amount v39 I L R) fun v45 =>
          bn1 (F_X12_get x0 x1 (37 : Int32) I L R) fun v47 =>
          bn1 (
            if v47 ≤ v45 then
              some ((9999 : Int32))
            else
              bn1 (F_X12_get x0 x1 (29 : Int32) I L R) fun v53 =>
              some ((v39 + v53))
          ) fun (s49 : Int32) =>
          some (s49)
      ) fun (s41 : Int32) =>
      bn1 (F_X12_set x0 x1 (32 : Int32) s41 I L R) fun I55 =>
      some (I55)
    else
      if v1 = (13 : Int32) then
        bn1 (F_X12_get x0 x1 (27 : Int32) I L R) fun v29 =>
        bn1 (F_X12_get x0 v29 (62 : Int32) I L R) fun v31 =>
        bn1 (F_X12_get x0 x1 (38 : Int32) I L R) fun v33 =>
        bn1 (F_X12_set x0 x1 (32 : Int32) (v31 + v33) I L R) fun I35 =>
        some (I35)
      else
        bn1 (F_X12_get x0 x1 (39 : Int32) I L R) fun v8 =>
        bn1 (F_X12_get x0 x1 (27 : Int32) I L R) fun v10 =>
        bn1 (F_X12_mod ((I x0 34) + (v8 * (I x0 47))) (256 : Int32) I L R) fun v12 =>
        bn1 (F_X12_set x0 x1 (32 : Int32) v12 I L R) fun I14 =>
        bn1 (F_X12_hasRoom x0 v10 v8 I14 L R) fun b16 =>
        if (b2i b16) = 0 then
          some (I14)
        else
          bn1 (LF_X12_readSensor_206 N N x0 x1 v8 v10 v12 (0 : Int32) I14 L R) fun z25 =>
          bn1 (F_X12_grow x0 x1 (40 : Int32) (1 : Int32) z25 L R) fun I27 =>
          some (I27)
  else
    (rf R x0 37 20).bind fun a57 =>
    bn1 (F_X12_get x0 x1 (35 : Int32) I L R) fun v58 =>
    (ri I a57 v58).bind fun v60 =>
    bn1 (F_X12_get x0 x1 (33 : Int32) I L R) fun v61 =>
    bn1 (F_X12_set x0 x1 (32 : Int32) (v60 + v61) I L R) fun I63 =>
    some (I63)
  else none
set_option maxRecDepth 100000 in
set_option maxHeartbeats 4000000 in
theorem lp_X12_readSensor_206 {G : Gm} (C0 : Cx G (yX12_readSensor.cls) cX12_readSensor none) (eNL : G.nL = 7) (erm : G.rm = ({ frames := 3, cells := 0, slots := 0, locals := 65 } : Room)) (N : Nat) : ∀ (k : Nat) (y0 : Nat) (y1 : Int32) (y3 : Int32) (y4 : Int32) (y5 : Int32) (y6 : Int32) (I : MI) (L : ML) (R : MR) (z : MI) (hk0 : kd y0 = 11) (ho0 : y0 < NN), LF_X12_readSensor_206 N k y0 y1 y3 y4 y5 y6 I L R = some z → ∀ f : State → Prop, V G f 235 [(0, .ref (G.ad y0)), (1, .int y1)] [] z L R → V G f 206 [(0, .ref (G.ad y0)), (1, .int y1), (3, .int y3), (4, .int y4), (5, .int y5), (6, .int y6)] [] I L R := by
  intro k
  induction k with
  | zero =>
    intro y0 y1 y3 y4 y5 y6 I L R q hk0 ho0 h
    exact absurd h (by simp [LF_X12_readSensor_206])
  | succ k ih =>
    intro y0 y1 y3 y4 y5 y6 I L R q hk0 ho0 h f kx
    rw [LF_X12_readSensor_206] at h
    refine V_iload C0 5 rfl dX12_readSensor_206 ?_
    refine V_iload_n C0 2 rfl rfl dX12_readSensor_208 ?_
    refine V_icmp_ge C0 (tgt := 235) (by decide) dX12_readSensor_209 (fun c19 => ?_) (fun c19 => ?_)
    · have h := (if_pos c19).symm.trans h
      cases h
      exact V_sub [0, 1] rfl kx
    · have h := (if_neg c19).symm.trans h
      refine V_aload_n C0 0 rfl rfl dX12_readSensor_212 ?_
      refine V_iload C0 3 rfl dX12_readSensor_213 ?_
      refine V_iload C0 4 rfl dX12_readSensor_215 ?_
      refine V_iload C0 5 rfl dX12_readSensor_217 ?_
      refine V_iadd C0 dX12_readSensor_219 ?_
      refine V_sipush C0 (v := (256 : Int32)) (by decide) dX12_readSensor_220 ?_
      obtain ⟨v20, q21, h⟩ := bn1_some h
      refine V_callS C0 (st := [.int y4, .ref (G.ad y0)]) (As := [.int (y5 + y6), .int (256 : Int32)]) (c_X12_mod G.l G.D G.cA G.ad G.bs G.X C0.2.2.2.2.2.2.2.2.2.1 C0.2.2.2.2.2.2.2.2.2.2.2.2 (y5 + y6) (256 : Int32) I L R v20 q21) lc_X12_mod lk_X12_115 rfl (by rw [erm]; decide) (Nat.le_of_ble_eq_true rfl) dX12_readSensor_223 ?_
      show V G _ 226 [(0, .ref (G.ad y0)), (1, .int y1), (3, .int y3), (4, .int y4), (5, .int y5), (6, .int y6)] [.int v20, .int y4, .ref (G.ad y0)] I L R
      obtain ⟨I22, q23, h⟩ := bn1_some h
      refine V_callV C0 (st := []) (As := [.int y4, .int v20]) 11 (c_X12_keep G.l G.D G.cA G.ad G.bs G.X C0.2.2.2.2.2.2.2.2.2.1 C0.2.2.2.2.2.2.2.2.2.2.2.2 y0 y4 v20 I L R I22 q23) lc_X12_keep lk_X12_390 ho0 hk0 ⟨_, rfl, rfl⟩ rfl (by rw [erm]; decide) (Nat.le_of_ble_eq_true rfl) dX12_readSensor_226 ?_
      show V G _ 229 [(0, .ref (G.ad y0)), (1, .int y1), (3, .int y3), (4, .int y4), (5, .int y5), (6, .int y6)] [] I22 L R
      obtain ⟨u24, eu24, h⟩ := wr_some h
      refine V_iinc C0 5 [(6, .int u24), (0, .ref (G.ad y0)), (1, .int y1), (3, .int y3), (4, .int y4), (5, .int y5)] rfl (n := 1) (by rw [eu24]; rfl) (by rw [eNL]; decide) rfl dX12_readSensor_229 ?_
      refine V_goto C0 (tgt := 206) (by decide) dX12_readSensor_232 ?_
      exact V_sub [1, 2, 3, 4, 5, 0] rfl (ih y0 y1 y3 y4 y5 u24 I22 L R _ hk0 ho0 h f kx)
set_option maxRecDepth 100000 in
set_option maxHeartbeats 4000000 in
theorem c_X12_readSensor (l : Launch) (D : va_G) (cA : Nat → ClassId) (ad : Nat → Nat) (bs : Nat) (X : State → Prop) (hAd : Ax ad bs) (hX : Stb bs X) (N : Nat) (x0 : Nat) (x1 : Int32) (I : MI) (L : ML) (R : MR) (I' : MI) (h : F_X12_readSensor N x0 x1 I L R = some (I')) : Cn l D cA ad bs X yX12_readSensor cX12_readSensor 7 none 3 65 [.ref (ad x0), .int x1] I L R (none, I', L, R) := by
  refine Cn.ofV hAd hX [(0, .ref (ad x0)), (1, .int x1)] rfl (Nat.le_of_ble_eq_true rfl) (by decide) ?_
  intro G el eD ecA ead ebs eX erm eNL C0
  subst el eD ecA ead ebs eX
  unfold F_X12_readSensor at h
  obtain ⟨c_x0, h⟩ := ite_some h
  refine V_aload_n C0 0 rfl rfl dX12_readSensor_0 ?_
  refine V_iload_n C0 1 rfl rfl dX12_readSensor_1 ?_
  refine V_iconst C0 (v := (0 : Int32)) (by decide) dX12_readSensor_2 ?_
  obtain ⟨v1, q2, h⟩ := bn1_some h
  refine V_callV C0 (st := []) (As := [.int x1, .int (0 : Int32)]) 11 (c_X12_get G.l G.D G.cA G.ad G.bs G.X C0.2.2.2.2.2.2.2.2.2.1 C0.2.2.2.2.2.2.2.2.2.2.2.2 x0 x1 (0 : Int32) I L R v1 q2) lc_X12_get lk_X12_211 c_x0.2 c_x0.1 ⟨_, rfl, rfl⟩ rfl (by rw [erm]; decide) (Nat.le_of_ble_eq_true rfl) dX12_readSensor_3 ?_
  show V G _ 6 [(0, .ref (G.ad x0)), (1, .int x1)] [.int v1] I L R
  refine V_istore_n C0 [(2, .int v1), (0, .ref (G.ad x0)), (1, .int x1)] rfl (by rw [eNL]; decide) rfl dX12_readSensor_6 ?_
  refine V_aload_n C0 1 rfl rfl dX12_readSensor_7 ?_
  refine V_iload_n C0 2 rfl rfl dX12_readSensor_8 ?_
  refine V_bipush C0 (v := (10 : Int32)) (by decide) dX12_readSensor_9 ?_
  obtain ⟨b3, q4, h⟩ := bn1_some h
  refine V_callV C0 (st := []) (As := [.int x1, .int (10 : Int32)]) 11 (c_X12_isA G.l G.D G.cA G.ad G.bs G.X C0.2.2.2.2.2.2.2.2.2.1 C0.2.2.2.2.2.2.2.2.2.2.2.2 N x0 x1 (10 : Int32) I L R b3 q4) lc_X12_isA lk_X12_217 c_x0.2 c_x0.1 ⟨_, rfl, rfl⟩ rfl (by rw [erm]; decide) (Nat.le_of_ble_eq_true rfl) dX12_readSensor_11 ?_
  show V G _ 14 [(2, .int v1), (0, .ref (G.ad x0)), (1, .int x1)] [.int (b2i b3)] I L R
  refine V_if_eq C0 (tgt := 47) (by decide) dX12_readSensor_14 (fun c5 => ?_) (fun c5 => ?_)
  · have h := (if_pos c5).symm.trans h
    refine V_iload_n C0 0 rfl rfl dX12_readSensor_47 ?_
    refine V_bipush C0 (v := (12 : Int32)) (by decide) dX12_readSensor_48 ?_
    refine V_icmp_ne C0 (tgt := 110) (by decide) dX12_readSensor_50 (fun c6 => ?_) (fun c6 => ?_)
    · have h := (if_neg c6).symm.trans h
      refine V_iload_n C0 0 rfl rfl dX12_readSensor_110 ?_
      refine V_bipush C0 (v := (13 : Int32)) (by decide) dX12_readSensor_111 ?_
      refine V_icmp_ne C0 (tgt := 147) (by decide) dX12_readSensor_113 (fun c7 => ?_) (fun c7 => ?_)
      · have h := (if_neg c7).symm.trans h
        refine V_aload_n C0 1 rfl rfl dX12_readSensor_147 ?_
        refine V_iload_n C0 2 rfl rfl dX12_readSensor_148 ?_
        refine V_bipush C0 (v := (39 : Int32)) (by decide) dX12_readSensor_149 ?_
        obtain ⟨v8, q9, h⟩ := bn1_some h
        refine V_callV C0 (st := []) (As := [.int x1, .int (39 : Int32)]) 11 (c_X12_get G.l G.D G.cA G.ad G.bs G.X C0.2.2.2.2.2.2.2.2.2.1 C0.2.2.2.2.2.2.2.2.2.2.2.2 x0 x1 (39 : Int32) I L R v8 q9) lc_X12_get lk_X12_211 c_x0.2 c_x0.1 ⟨_, rfl, rfl⟩ rfl (by rw [erm]; decide) (Nat.le_of_ble_eq_true rfl) dX12_readSensor_151 ?_
        show V G _ 154 [(2, .int v1), (0, .ref (G.ad x0)), (1, .int x1)] [.int v8] I L R
        refine V_istore_n C0 [(3, .int v8), (2, .int v1), (0, .ref (G.ad x0)), (1, .int x1)] rfl (by rw [eNL]; decide) rfl dX12_readSensor_154 ?_
        refine V_aload_n C0 2 rfl rfl dX12_readSensor_155 ?_
        refine V_iload_n C0 3 rfl rfl dX12_readSensor_156 ?_
        refine V_bipush C0 (v := (27 : Int32)) (by decide) dX12_readSensor_157 ?_
        obtain ⟨v10, q11, h⟩ := bn1_some h
        refine V_callV C0 (st := []) (As := [.int x1, .int (27 : Int32)]) 11 (c_X12_get G.l G.D G.cA G.ad G.bs G.X C0.2.2.2.2.2.2.2.2.2.1 C0.2.2.2.2.2.2.2.2.2.2.2.2 x0 x1 (27 : Int32) I L R v10 q11) lc_X12_get lk_X12_211 c_x0.2 c_x0.1 ⟨_, rfl, rfl⟩ rfl (by rw [erm]; decide) (Nat.le_of_ble_eq_true rfl) dX12_readSensor_159 ?_
        show V G _ 162 [(3, .int v8), (2, .int v1), (0, .ref (G.ad x0)), (1, .int x1)] [.int v10] I L R
        refine V_istore C0 [(4, .int v10), (3, .int v8), (2, .int v1), (0, .ref (G.ad x0)), (1, .int x1)] (by rw [eNL]; decide) rfl dX12_readSensor_162 ?_
        refine V_aload_n C0 3 rfl rfl dX12_readSensor_164 ?_
        refine V_getI C0 11 34 fl_X12_306 c_x0.2 c_x0.1 rfl dX12_readSensor_165 ?_
        refine V_iload_n C0 1 rfl rfl dX12_readSensor_168 ?_
        refine V_aload_n C0 3 rfl rfl dX12_readSensor_169 ?_
        refine V_getI C0 11 47 fl_X12_336 c_x0.2 c_x0.1 rfl dX12_readSensor_170 ?_
        refine V_imul C0 dX12_readSensor_173 ?_
        refine V_iadd C0 dX12_readSensor_174 ?_
        refine V_sipush C0 (v := (256 : Int32)) (by decide) dX12_readSensor_175 ?_
        obtain ⟨v12, q13, h⟩ := bn1_some h
        refine V_callS C0 (st := []) (As := [.int ((I x0 34) + (v8 * (I x0 47))), .int (256 : Int32)]) (c_X12_mod G.l G.D G.cA G.ad G.bs G.X C0.2.2.2.2.2.2.2.2.2.1 C0.2.2.2.2.2.2.2.2.2.2.2.2 ((I x0 34) + (v8 * (I x0 47))) (256 : Int32) I L R v12 q13) lc_X12_mod lk_X12_115 rfl (by rw [erm]; decide) (Nat.le_of_ble_eq_true rfl) dX12_readSensor_178 ?_
        show V G _ 181 [(4, .int v10), (3, .int v8), (2, .int v1), (0, .ref (G.ad x0)), (1, .int x1)] [.int v12] I L R
        refine V_istore C0 [(5, .int v12), (4, .int v10), (3, .int v8), (2, .int v1), (0, .ref (G.ad x0)), (1, .int x1)] (by rw [eNL]; decide) rfl dX12_readSensor_181 ?_
        refine V_aload_n C0 4 rfl rfl dX12_readSensor_183 ?_
        refine V_iload_n C0 5 rfl rfl dX12_readSensor_184 ?_
        refine V_bipush C0 (v := (32 : Int32)) (by decide) dX12_readSensor_185 ?_
        refine V_iload C0 0 rfl dX12_readSensor_187 ?_
        obtain ⟨I14, q15, h⟩ := bn1_some h
        refine V_callV C0 (st := []) (As := [.int x1, .int (32 : Int32), .int v12]) 11 (c_X12_set G.l G.D G.cA G.ad G.bs G.X C0.2.2.2.2.2.2.2.2.2.1 C0.2.2.2.2.2.2.2.2.2.2.2.2 x0 x1 (32 : Int32) v12 I L R I14 q15) lc_X12_set lk_X12_246 c_x0.2 c_x0.1 ⟨_, rfl, rfl⟩ rfl (by rw [erm]; decide) (Nat.le_of_ble_eq_true rfl) dX12_readSensor_189 ?_
        show V G _ 192 [(5, .int v12), (4, .int v10), (3, .int v8), (2, .int v1), (0, .ref (G.ad x0)), (1, .int x1)] [] I14 L R
        refine V_aload_n C0 4 rfl rfl dX12_readSensor_192 ?_
        refine V_iload C0 1 rfl dX12_readSensor_193 ?_
        refine V_iload_n C0 2 rfl rfl dX12_readSensor_195 ?_
        obtain ⟨b16, q17, h⟩ := bn1_some h
        refine V_callV C0 (st := []) (As := [.int v10, .int v8]) 11 (c_X12_hasRoom G.l G.D G.cA G.ad G.bs G.X C0.2.2.2.2.2.2.2.2.2.1 C0.2.2.2.2.2.2.2.2.2.2.2.2 x0 v10 v8 I14 L R b16 q17) lc_X12_hasRoom lk_X12_387 c_x0.2 c_x0.1 ⟨_, rfl, rfl⟩ rfl (by rw [erm]; decide) (Nat.le_of_ble_eq_true rfl) dX12_readSensor_196 ?_
        show V G _ 199 [(5, .int v12), (4, .int v10), (3, .int v8), (2, .int v1), (0, .ref (G.ad x0)), (1, .int x1)] [.int (b2i b16)] I14 L R
        refine V_if_ne C0 (tgt := 203) (by decide) dX12_readSensor_199 (fun c18 => ?_) (fun c18 => ?_)
        · have h := (if_neg c18).symm.trans h
          refine V_iconst C0 (v := (0 : Int32)) (by decide) dX12_readSensor_203 ?_
          refine V_istore C0 [(6, .int (0 : Int32)), (5, .int v12), (4, .int v10), (3, .int v8), (2, .int v1), (0, .ref (G.ad x0)), (1, .int x1)] (by rw [eNL]; decide) rfl dX12_readSensor_204 ?_
          obtain ⟨z25, q26, h⟩ := bn1_some h
          refine V_sub [5, 6, 3, 2, 1, 0] rfl (lp_X12_readSensor_206 C0 eNL erm N N x0 x1 v8 v10 v12 (0 : Int32) I14 L R _ c_x0.1 c_x0.2 q26 _ ?_)
          show V G _ 235 [(0, .ref (G.ad x0)), (1, .int x1)] [] z25 L R
          refine V_aload_n C0 0 rfl rfl dX12_readSensor_235 ?_
          refine V_iload_n C0 1 rfl rfl dX12_readSensor_236 ?_
          refine V_bipush C0 (v := (40 : Int32)) (by decide) dX12_readSensor_237 ?_
          refine V_iconst C0 (v := (1 : Int32)) (by decide) dX12_readSensor_239 ?_
          obtain ⟨I27, q28, h⟩ := bn1_some h
          refine V_callV C0 (st := []) (As := [.int x1, .int (40 : Int32), .int (1 : Int32)]) 11 (c_X12_grow G.l G.D G.cA G.ad G.bs G.X C0.2.2.2.2.2.2.2.2.2.1 C0.2.2.2.2.2.2.2.2.2.2.2.2 x0 x1 (40 : Int32) (1 : Int32) z25 L R I27 q28) lc_X12_grow lk_X12_259 c_x0.2 c_x0.1 ⟨_, rfl, rfl⟩ rfl (by rw [erm]; decide) (Nat.le_of_ble_eq_true rfl) dX12_readSensor_240 ?_
          show V G _ 243 [(0, .ref (G.ad x0)), (1, .int x1)] [] I27 L R
          cases h
          exact V_vret C0 dX12_readSensor_243
        · have h := (if_pos c18).symm.trans h
          cases h
          exact V_vret C0 dX12_readSensor_202
      · have h := (if_pos c7).symm.trans h
        refine V_aload_n C0 1 rfl rfl dX12_readSensor_116 ?_
        refine V_iload_n C0 2 rfl rfl dX12_readSensor_117 ?_
        refine V_bipush C0 (v := (32 : Int32)) (by decide) dX12_readSensor_118 ?_
        refine V_aload_n C0 1 rfl rfl dX12_readSensor_120 ?_
        refine V_aload_n C0 1 rfl rfl dX12_readSensor_121 ?_
        refine V_iload_n C0 2 rfl rfl dX12_readSensor_122 ?_
        refine V_bipush C0 (v := (27 : Int32)) (by decide) dX12_readSensor_123 ?_
        obtain ⟨v29, q30, h⟩ := bn1_some h
        refine V_callV C0 (st := [.ref (G.ad x0), .int (32 : Int32), .int x1, .ref (G.ad x0)]) (As := [.int x1, .int (27 : Int32)]) 11 (c_X12_get G.l G.D G.cA G.ad G.bs G.X C0.2.2.2.2.2.2.2.2.2.1 C0.2.2.2.2.2.2.2.2.2.2.2.2 x0 x1 (27 : Int32) I L R v29 q30) lc_X12_get lk_X12_211 c_x0.2 c_x0.1 ⟨_, rfl, rfl⟩ rfl (by rw [erm]; decide) (Nat.le_of_ble_eq_true rfl) dX12_readSensor_125 ?_
        show V G _ 128 [(2, .int v1), (0, .ref (G.ad x0)), (1, .int x1)] [.int v29, .ref (G.ad x0), .int (32 : Int32), .int x1, .ref (G.ad x0)] I L R
        refine V_bipush C0 (v := (62 : Int32)) (by decide) dX12_readSensor_128 ?_
        obtain ⟨v31, q32, h⟩ := bn1_some h
        refine V_callV C0 (st := [.int (32 : Int32), .int x1, .ref (G.ad x0)]) (As := [.int v29, .int (62 : Int32)]) 11 (c_X12_get G.l G.D G.cA G.ad G.bs G.X C0.2.2.2.2.2.2.2.2.2.1 C0.2.2.2.2.2.2.2.2.2.2.2.2 x0 v29 (62 : Int32) I L R v31 q32) lc_X12_get lk_X12_211 c_x0.2 c_x0.1 ⟨_, rfl, rfl⟩ rfl (by rw [erm]; decide) (Nat.le_of_ble_eq_true rfl) dX12_readSensor_130 ?_
        show V G _ 133 [(2, .int v1), (0, .ref (G.ad x0)), (1, .int x1)] [.int v31, .int (32 : Int32), .int x1, .ref (G.ad x0)] I L R
        refine V_aload_n C0 1 rfl rfl dX12_readSensor_133 ?_
        refine V_iload_n C0 2 rfl rfl dX12_readSensor_134 ?_
        refine V_bipush C0 (v := (38 : Int32)) (by decide) dX12_readSensor_135 ?_
        obtain ⟨v33, q34, h⟩ := bn1_some h
        refine V_callV C0 (st := [.int v31, .int (32 : Int32), .int x1, .ref (G.ad x0)]) (As := [.int x1, .int (38 : Int32)]) 11 (c_X12_get G.l G.D G.cA G.ad G.bs G.X C0.2.2.2.2.2.2.2.2.2.1 C0.2.2.2.2.2.2.2.2.2.2.2.2 x0 x1 (38 : Int32) I L R v33 q34) lc_X12_get lk_X12_211 c_x0.2 c_x0.1 ⟨_, rfl, rfl⟩ rfl (by rw [erm]; decide) (Nat.le_of_ble_eq_true rfl) dX12_readSensor_137 ?_
        show V G _ 140 [(2, .int v1), (0, .ref (G.ad x0)), (1, .int x1)] [.int v33, .int v31, .int (32 : Int32), .int x1, .ref (G.ad x0)] I L R
        refine V_iadd C0 dX12_readSensor_140 ?_
        obtain ⟨I35, q36, h⟩ := bn1_some h
        refine V_callV C0 (st := []) (As := [.int x1, .int (32 : Int32), .int (v31 + v33)]) 11 (c_X12_set G.l G.D G.cA G.ad G.bs G.X C0.2.2.2.2.2.2.2.2.2.1 C0.2.2.2.2.2.2.2.2.2.2.2.2 x0 x1 (32 : Int32) (v31 + v33) I L R I35 q36) lc_X12_set lk_X12_246 c_x0.2 c_x0.1 ⟨_, rfl, rfl⟩ rfl (by rw [erm]; decide) (Nat.le_of_ble_eq_true rfl) dX12_readSensor_141 ?_
        show V G _ 144 [(2, .int v1), (0, .ref (G.ad x0)), (1, .int x1)] [] I35 L R
        refine V_goto C0 (tgt := 243) (by decide) dX12_readSensor_144 ?_
        cases h
        exact V_vret C0 dX12_readSensor_243
    · have h := (if_pos c6).symm.trans h
      refine V_aload_n C0 1 rfl rfl dX12_readSensor_53 ?_
      obtain ⟨a37, qa37, h⟩ := bnd_some h
      refine V_getR C0 11 36 fl_X12_68 c_x0.2 c_x0.1 rfl (rf_at qa37) dX12_readSensor_54 ?_
      refine V_iconst C0 (v := (0 : Int32)) (by decide) dX12_readSensor_57 ?_
      obtain ⟨v38, qv38, h⟩ := bnd_some h
      refine V_ri C0 (rf_lt qa37) (rf_kd qa37) qv38 dX12_readSensor_58 ?_
      refine V_iconst C0 (v := (0 : Int32)) (by decide) dX12_readSensor_59 ?_
      obtain ⟨v39, q40, h⟩ := bn1_some h
      refine V_callS C0 (st := []) (As := [.int v38, .int (0 : Int32)]) (c_X12_off G.l G.D G.cA G.ad G.bs G.X C0.2.2.2.2.2.2.2.2.2.1 C0.2.2.2.2.2.2.2.2.2.2.2.2 v38 (0 : Int32) I L R v39 q40) lc_X12_off lk_X12_381 rfl (by rw [erm]; decide) (Nat.le_of_ble_eq_true rfl) dX12_readSensor_60 ?_
      show V G _ 63 [(2, .int v1), (0, .ref (G.ad x0)), (1, .int x1)] [.int v39] I L R
      refine V_istore_n C0 [(3, .int v39), (2, .int v1), (0, .ref (G.ad x0)), (1, .int x1)] rfl (by rw [eNL]; decide) rfl dX12_readSensor_63 ?_
      refine V_aload_n C0 2 rfl rfl dX12_readSensor_64 ?_
      refine V_iload_n C0 3 rfl rfl dX12_readSensor_65 ?_
      refine V_bipush C0 (v := (32 : Int32)) (by decide) dX12_readSensor_66 ?_
      refine V_aload_n C0 2 rfl rfl dX12_readSensor_68 ?_
      refine V_getI C0 11 47 fl_X12_336 c_x0.2 c_x0.1 rfl dX12_readSensor_69 ?_
      obtain ⟨s41, q42, h⟩ := bn1_some h
      have k43 : V G (qf G (none, I', L, R)) 104 [] [.int s41, .int (32 : Int32), .int x1, .ref (G.ad x0)] I L R := by
        obtain ⟨I55, q56, h⟩ := bn1_some h
        refine V_callV C0 (st := []) (As := [.int x1, .int (32 : Int32), .int s41]) 11 (c_X12_set G.l G.D G.cA G.ad G.bs G.X C0.2.2.2.2.2.2.2.2.2.1 C0.2.2.2.2.2.2.2.2.2.2.2.2 x0 x1 (32 : Int32) s41 I L R I55 q56) lc_X12_set lk_X12_246 c_x0.2 c_x0.1 ⟨_, rfl, rfl⟩ rfl (by rw [erm]; decide) (Nat.le_of_ble_eq_true rfl) dX12_readSensor_104 ?_
        show V G _ 107 [] [] I55 L R
        refine V_goto C0 (tgt := 243) (by decide) dX12_readSensor_107 ?_
        cases h
        exact V_vret C0 dX12_readSensor_243
      refine V_if_le C0 (tgt := 101) (by decide) dX12_readSensor_72 (fun c44 => ?_) (fun c44 => ?_)
      · have q42 := (if_pos c44).symm.trans q42
        refine V_sipush C0 (v := (9999 : Int32)) (by decide) dX12_readSensor_101 ?_
        cases q42
        exact V_sub [] rfl k43
      · have q42 := (if_neg c44).symm.trans q42
        refine V_iload_n C0 0 rfl rfl dX12_readSensor_75 ?_
        obtain ⟨v45, q46, q42⟩ := bn1_some q42
        refine V_callS C0 (st := [.int (32 : Int32), .int x1, .ref (G.ad x0)]) (As := [.int v39]) (c_X12_amount G.l G.D G.cA G.ad G.bs G.X C0.2.2.2.2.2.2.2.2.2.1 C0.2.2.2.2.2.2.2.2.2.2.2.2 v39 I L R v45 q46) lc_X12_amount lk_X12_384 rfl (by rw [erm]; decide) (Nat.le_of_ble_eq_true rfl) dX12_readSensor_76 ?_
        show V G _ 79 [(3, .int v39), (2, .int v1), (0, .ref (G.ad x0)), (1, .int x1)] [.int v45, .int (32 : Int32), .int x1, .ref (G.ad x0)] I L R
        refine V_aload_n C0 2 rfl rfl dX12_readSensor_79 ?_
        refine V_iload_n C0 3 rfl rfl dX12_readSensor_80 ?_
        refine V_bipush C0 (v := (37 : Int32)) (by decide) dX12_readSensor_81 ?_
        obtain ⟨v47, q48, q42⟩ := bn1_some q42
        refine V_callV C0 (st := [.int v45, .int (32 : Int32), .int x1, .ref (G.ad x0)]) (As := [.int x1, .int (37 : Int32)]) 11 (c_X12_get G.l G.D G.cA G.ad G.bs G.X C0.2.2.2.2.2.2.2.2.2.1 C0.2.2.2.2.2.2.2.2.2.2.2.2 x0 x1 (37 : Int32) I L R v47 q48) lc_X12_get lk_X12_211 c_x0.2 c_x0.1 ⟨_, rfl, rfl⟩ rfl (by rw [erm]; decide) (Nat.le_of_ble_eq_true rfl) dX12_readSensor_83 ?_
        show V G _ 86 [(3, .int v39), (2, .int v1), (0, .ref (G.ad x0)), (1, .int x1)] [.int v47, .int v45, .int (32 : Int32), .int x1, .ref (G.ad x0)] I L R
        obtain ⟨s49, q50, q42⟩ := bn1_some q42
        have k51 : V G (qf G (none, I', L, R)) 104 [] [.int s49, .int (32 : Int32), .int x1, .ref (G.ad x0)] I L R := by
          cases q42
          exact V_sub [] rfl k43
        refine V_icmp_ge C0 (tgt := 101) (by decide) dX12_readSensor_86 (fun c52 => ?_) (fun c52 => ?_)
        · have q50 := (if_pos c52).symm.trans q50
          refine V_sipush C0 (v := (9999 : Int32)) (by decide) dX12_readSensor_101 ?_
          cases q50
          exact V_sub [] rfl k51
        · have q50 := (if_neg c52).symm.trans q50
          refine V_iload_n C0 0 rfl rfl dX12_readSensor_89 ?_
          refine V_aload_n C0 2 rfl rfl dX12_readSensor_90 ?_
          refine V_iload_n C0 3 rfl rfl dX12_readSensor_91 ?_
          refine V_bipush C0 (v := (29 : Int32)) (by decide) dX12_readSensor_92 ?_
          obtain ⟨v53, q54, q50⟩ := bn1_some q50
          refine V_callV C0 (st := [.int v39, .int (32 : Int32), .int x1, .ref (G.ad x0)]) (As := [.int x1, .int (29 : Int32)]) 11 (c_X12_get G.l G.D G.cA G.ad G.bs G.X C0.2.2.2.2.2.2.2.2.2.1 C0.2.2.2.2.2.2.2.2.2.2.2.2 x0 x1 (29 : Int32) I L R v53 q54) lc_X12_get lk_X12_211 c_x0.2 c_x0.1 ⟨_, rfl, rfl⟩ rfl (by rw [erm]; decide) (Nat.le_of_ble_eq_true rfl) dX12_readSensor_94 ?_
          show V G _ 97 [(3, .int v39), (2, .int v1), (0, .ref (G.ad x0)), (1, .int x1)] [.int v53, .int v39, .int (32 : Int32), .int x1, .ref (G.ad x0)] I L R
          refine V_iadd C0 dX12_readSensor_97 ?_
          refine V_goto C0 (tgt := 104) (by decide) dX12_readSensor_98 ?_
          cases q50
          exact V_sub [] rfl k51
  · have h := (if_neg c5).symm.trans h
    refine V_aload_n C0 1 rfl rfl dX12_readSensor_17 ?_
    refine V_iload_n C0 2 rfl rfl dX12_readSensor_18 ?_
    refine V_bipush C0 (v := (32 : Int32)) (by decide) dX12_readSensor_19 ?_
    refine V_aload_n C0 1 rfl rfl dX12_readSensor_21 ?_
    obtain ⟨a57, qa57, h⟩ := bnd_some h
    refine V_getR C0 11 37 fl_X12_71 c_x0.2 c_x0.1 rfl (rf_at qa57) dX12_readSensor_22 ?_
    refine V_aload_n C0 1 rfl rfl dX12_readSensor_25 ?_
    refine V_iload_n C0 2 rfl rfl dX12_readSensor_26 ?_
    refine V_bipush C0 (v := (35 : Int32)) (by decide) dX12_readSensor_27 ?_
    obtain ⟨v58, q59, h⟩ := bn1_some h
    refine V_callV C0 (st := [.ref (G.ad a57), .int (32 : Int32), .int x1, .ref (G.ad x0)]) (As := [.int x1, .int (35 : Int32)]) 11 (c_X12_get G.l G.D G.cA G.ad G.bs G.X C0.2.2.2.2.2.2.2.2.2.1 C0.2.2.2.2.2.2.2.2.2.2.2.2 x0 x1 (35 : Int32) I L R v58 q59) lc_X12_get lk_X12_211 c_x0.2 c_x0.1 ⟨_, rfl, rfl⟩ rfl (by rw [erm]; decide) (Nat.le_of_ble_eq_true rfl) dX12_readSensor_29 ?_
    show V G _ 32 [(2, .int v1), (0, .ref (G.ad x0)), (1, .int x1)] [.int v58, .ref (G.ad a57), .int (32 : Int32), .int x1, .ref (G.ad x0)] I L R
    obtain ⟨v60, qv60, h⟩ := bnd_some h
    refine V_ri C0 (rf_lt qa57) (rf_kd qa57) qv60 dX12_readSensor_32 ?_
    refine V_aload_n C0 1 rfl rfl dX12_readSensor_33 ?_
    refine V_iload_n C0 2 rfl rfl dX12_readSensor_34 ?_
    refine V_bipush C0 (v := (33 : Int32)) (by decide) dX12_readSensor_35 ?_
    obtain ⟨v61, q62, h⟩ := bn1_some h
    refine V_callV C0 (st := [.int v60, .int (32 : Int32), .int x1, .ref (G.ad x0)]) (As := [.int x1, .int (33 : Int32)]) 11 (c_X12_get G.l G.D G.cA G.ad G.bs G.X C0.2.2.2.2.2.2.2.2.2.1 C0.2.2.2.2.2.2.2.2.2.2.2.2 x0 x1 (33 : Int32) I L R v61 q62) lc_X12_get lk_X12_211 c_x0.2 c_x0.1 ⟨_, rfl, rfl⟩ rfl (by rw [erm]; decide) (Nat.le_of_ble_eq_true rfl) dX12_readSensor_37 ?_
    show V G _ 40 [(2, .int v1), (0, .ref (G.ad x0)), (1, .int x1)] [.int v61, .int v60, .int (32 : Int32), .int x1, .ref (G.ad x0)] I L R
    refine V_iadd C0 dX12_readSensor_40 ?_
    obtain ⟨I63, q64, h⟩ := bn1_some h
    refine V_callV C0 (st := []) (As := [.int x1, .int (32 : Int32), .int (v60 + v61)]) 11 (c_X12_set G.l G.D G.cA G.ad G.bs G.X C0.2.2.2.2.2.2.2.2.2.1 C0.2.2.2.2.2.2.2.2.2.2.2.2 x0 x1 (32 : Int32) (v60 + v61) I L R I63 q64) lc_X12_set lk_X12_246 c_x0.2 c_x0.1 ⟨_, rfl, rfl⟩ rfl (by rw [erm]; decide) (Nat.le_of_ble_eq_true rfl) dX12_readSensor_41 ?_
    show V G _ 44 [(2, .int v1), (0, .ref (G.ad x0)), (1, .int x1)] [] I63 L R
    refine V_goto C0 (tgt := 243) (by decide) dX12_readSensor_44 ?_
    cases h
    exact V_vret C0 dX12_readSensor_243
theorem dX12_readSensors_0 : decode cX12_readSensors 0 = .ok (.iconst 0, 1) := by decide +kernel
theorem dX12_readSensors_1 : decode cX12_readSensors 1 = .ok (.istore_n 1, 1) := by decide +kernel
theorem dX12_readSensors_2 : decode cX12_readSensors 2 = .ok (.iload_n 1, 1) := by decide +kernel
theorem dX12_readSensors_3 : decode cX12_readSensors 3 = .ok (.aload_n 0, 1) := by decide +kernel
theorem dX12_readSensors_4 : decode cX12_readSensors 4 = .ok (.getfield 297, 3) := by decide +kernel
theorem dX12_readSensors_7 : decode cX12_readSensors 7 = .ok (.if_icmp .ge 47, 3) := by decide +kernel
theorem dX12_readSensors_10 : decode cX12_readSensors 10 = .ok (.aload_n 0, 1) := by decide +kernel
theorem dX12_readSensors_11 : decode cX12_readSensors 11 = .ok (.iload_n 1, 1) := by decide +kernel
theorem dX12_readSensors_12 : decode cX12_readSensors 12 = .ok (.bipush 9, 2) := by decide +kernel
theorem dX12_readSensors_14 : decode cX12_readSensors 14 = .ok (.invokevirtual 217, 3) := by decide +kernel
theorem dX12_readSensors_17 : decode cX12_readSensors 17 = .ok (.ifCond .eq 31, 3) := by decide +kernel
theorem dX12_readSensors_20 : decode cX12_readSensors 20 = .ok (.aload_n 0, 1) := by decide +kernel
theorem dX12_readSensors_21 : decode cX12_readSensors 21 = .ok (.iload_n 1, 1) := by decide +kernel
theorem dX12_readSensors_22 : decode cX12_readSensors 22 = .ok (.invokevirtual 393, 3) := by decide +kernel
theorem dX12_readSensors_25 : decode cX12_readSensors 25 = .ok (.ifCond .eq 23, 3) := by decide +kernel
theorem dX12_readSensors_28 : decode cX12_readSensors 28 = .ok (.aload_n 0, 1) := by decide +kernel
theorem dX12_readSensors_29 : decode cX12_readSensors 29 = .ok (.getfield 306, 3) := by decide +kernel
theorem dX12_readSensors_32 : decode cX12_readSensors 32 = .ok (.aload_n 0, 1) := by decide +kernel
theorem dX12_readSensors_33 : decode cX12_readSensors 33 = .ok (.iload_n 1, 1) := by decide +kernel
theorem dX12_readSensors_34 : decode cX12_readSensors 34 = .ok (.bipush 31, 2) := by decide +kernel
theorem dX12_readSensors_36 : decode cX12_readSensors 36 = .ok (.invokevirtual 211, 3) := by decide +kernel
theorem dX12_readSensors_39 : decode cX12_readSensors 39 = .ok (.irem, 1) := by decide +kernel
theorem dX12_readSensors_40 : decode cX12_readSensors 40 = .ok (.ifCond .ne 8, 3) := by decide +kernel
theorem dX12_readSensors_43 : decode cX12_readSensors 43 = .ok (.aload_n 0, 1) := by decide +kernel
theorem dX12_readSensors_44 : decode cX12_readSensors 44 = .ok (.iload_n 1, 1) := by decide +kernel
theorem dX12_readSensors_45 : decode cX12_readSensors 45 = .ok (.invokevirtual 396, 3) := by decide +kernel
theorem dX12_readSensors_48 : decode cX12_readSensors 48 = .ok (.iinc 1 1, 3) := by decide +kernel
theorem dX12_readSensors_51 : decode cX12_readSensors 51 = .ok (.goto (-49), 3) := by decide +kernel
theorem dX12_readSensors_54 : decode cX12_readSensors 54 = .ok (.return_, 1) := by decide +kernel
def LF_X12_readSensors_2 (N : Nat) : Nat → Nat → Int32 → MI → ML → MR → Option (MI)
  | 0, _, _, _, _, _ => none
  | k + 1, y0, y1, I, L, R =>
    if (I y0 21) ≤ y1 then
      some (I)
    else
      bn1 (F_X12_isA N y0 y1 (9 : Int32) I L R) fun b2 =>
      bn1 (
        if (b2i b2) = 0 then
          some (I)
        else
          bn1 (F_X12_isOn N y0 y1 I L R) fun b8 =>
          bn1 (
            if (b2i b8) = 0 then
              some (I)
            else
              bn1 (F_X12_get y0 y1 (31 : Int32) I L R) fun v14 =>
              if v14 = 0 then none else
              bn1 (
                if (iR (I y0 34) v14) = 0 then
                  bn1 (F_X12_readSensor N y0 y1 I L R) fun I21 =>
                  some (I21)
                else
                  some (I)
              ) fun (I17 : MI) =>
              some (I17)
          ) fun (I10 : MI) =>
          some (I10)
      ) fun (I4 : MI) =>
      wr (y1 + (1 : Int32)) fun (u23 : Int32) =>
      LF_X12_readSensors_2 N k y0 u23 I4 L R
def F_X12_readSensors (N : Nat) (x0 : Nat) (I : MI) (L : ML) (R : MR) : Option (MI) :=
  if kd x0 = 11 ∧ x0 < NN then
  bn1 (LF_X12_readSensors_2 N N x0 (0 : Int32) I L R) fun z24 =>
  some (z24)
  else none
set_option maxRecDepth 100000 in
set_option maxHeartbeats 4000000 in
theorem lp_X12_readSensors_2 {G : Gm} (C0 : Cx G (yX12_readSensors.cls) cX12_readSensors none) (eNL : G.nL = 2) (erm : G.rm = ({ frames := 4, cells := 0, slots := 0, locals := 91 } : Room)) (N : Nat) : ∀ (k : Nat) (y0 : Nat) (y1 : Int32) (I : MI) (L : ML) (R : MR) (z : MI) (hk0 : kd y0 = 11) (ho0 : y0 < NN), LF_X12_readSensors_2 N k y0 y1 I L R = some z → ∀ f : State → Prop, V G f 54 [] [] z L R → V G f 2 [(0, .ref (G.ad y0)), (1, .int y1)] [] I L R := by
  intro k
  induction k with
  | zero =>
    intro y0 y1 I L R q hk0 ho0 h
    exact absurd h (by simp [LF_X12_readSensors_2])
  | succ k ih =>
    intro y0 y1 I L R q hk0 ho0 h f kx
    rw [LF_X12_readSensors_2] at h
    refine V_iload_n C0 1 rfl rfl dX12_readSensors_2 ?_
    refine V_aload_n C0 0 rfl rfl dX12_readSensors_3 ?_
    refine V_getI C0 11 21 fl_X12_297 ho0 hk0 rfl dX12_readSensors_4 ?_
    refine V_icmp_ge C0 (tgt := 54) (by decide) dX12_readSensors_7 (fun c1 => ?_) (fun c1 => ?_)
    · have h := (if_pos c1).symm.trans h
      cases h
      exact V_sub [] rfl kx
    · have h := (if_neg c1).symm.trans h
      refine V_aload_n C0 0 rfl rfl dX12_readSensors_10 ?_
      refine V_iload_n C0 1 rfl rfl dX12_readSensors_11 ?_
      refine V_bipush C0 (v := (9 : Int32)) (by decide) dX12_readSensors_12 ?_
      obtain ⟨b2, q3, h⟩ := bn1_some h
      refine V_callV C0 (st := []) (As := [.int y1, .int (9 : Int32)]) 11 (c_X12_isA G.l G.D G.cA G.ad G.bs G.X C0.2.2.2.2.2.2.2.2.2.1 C0.2.2.2.2.2.2.2.2.2.2.2.2 N y0 y1 (9 : Int32) I L R b2 q3) lc_X12_isA lk_X12_217 ho0 hk0 ⟨_, rfl, rfl⟩ rfl (by rw [erm]; decide) (Nat.le_of_ble_eq_true rfl) dX12_readSensors_14 ?_
      show V G _ 17 [(0, .ref (G.ad y0)), (1, .int y1)] [.int (b2i b2)] I L R
      obtain ⟨I4, q5, h⟩ := bn1_some h
      have k6 : V G f 48 [(0, .ref (G.ad y0)), (1, .int y1)] [] I4 L R := by
        obtain ⟨u23, eu23, h⟩ := wr_some h
        refine V_iinc C0 1 [(1, .int u23), (0, .ref (G.ad y0))] rfl (n := 1) (by rw [eu23]; rfl) (by rw [eNL]; decide) rfl dX12_readSensors_48 ?_
        refine V_goto C0 (tgt := 2) (by decide) dX12_readSensors_51 ?_
        exact V_sub [1, 0] rfl (ih y0 u23 I4 L R _ hk0 ho0 h f kx)
      refine V_if_eq C0 (tgt := 48) (by decide) dX12_readSensors_17 (fun c7 => ?_) (fun c7 => ?_)
      · have q5 := (if_pos c7).symm.trans q5
        cases q5
        exact V_sub [0, 1] rfl k6
      · have q5 := (if_neg c7).symm.trans q5
        refine V_aload_n C0 0 rfl rfl dX12_readSensors_20 ?_
        refine V_iload_n C0 1 rfl rfl dX12_readSensors_21 ?_
        obtain ⟨b8, q9, q5⟩ := bn1_some q5
        refine V_callV C0 (st := []) (As := [.int y1]) 11 (c_X12_isOn G.l G.D G.cA G.ad G.bs G.X C0.2.2.2.2.2.2.2.2.2.1 C0.2.2.2.2.2.2.2.2.2.2.2.2 N y0 y1 I L R b8 q9) lc_X12_isOn lk_X12_393 ho0 hk0 ⟨_, rfl, rfl⟩ rfl (by rw [erm]; decide) (Nat.le_of_ble_eq_true rfl) dX12_readSensors_22 ?_
        show V G _ 25 [(0, .ref (G.ad y0)), (1, .int y1)] [.int (b2i b8)] I L R
        obtain ⟨I10, q11, q5⟩ := bn1_some q5
        have k12 : V G f 48 [(0, .ref (G.ad y0)), (1, .int y1)] [] I10 L R := by
          cases q5
          exact V_sub [0, 1] rfl k6
        refine V_if_eq C0 (tgt := 48) (by decide) dX12_readSensors_25 (fun c13 => ?_) (fun c13 => ?_)
        · have q11 := (if_pos c13).symm.trans q11
          cases q11
          exact V_sub [0, 1] rfl k12
        · have q11 := (if_neg c13).symm.trans q11
          refine V_aload_n C0 0 rfl rfl dX12_readSensors_28 ?_
          refine V_getI C0 11 34 fl_X12_306 ho0 hk0 rfl dX12_readSensors_29 ?_
          refine V_aload_n C0 0 rfl rfl dX12_readSensors_32 ?_
          refine V_iload_n C0 1 rfl rfl dX12_readSensors_33 ?_
          refine V_bipush C0 (v := (31 : Int32)) (by decide) dX12_readSensors_34 ?_
          obtain ⟨v14, q15, q11⟩ := bn1_some q11
          refine V_callV C0 (st := [.int (I y0 34)]) (As := [.int y1, .int (31 : Int32)]) 11 (c_X12_get G.l G.D G.cA G.ad G.bs G.X C0.2.2.2.2.2.2.2.2.2.1 C0.2.2.2.2.2.2.2.2.2.2.2.2 y0 y1 (31 : Int32) I L R v14 q15) lc_X12_get lk_X12_211 ho0 hk0 ⟨_, rfl, rfl⟩ rfl (by rw [erm]; decide) (Nat.le_of_ble_eq_true rfl) dX12_readSensors_36 ?_
          show V G _ 39 [(0, .ref (G.ad y0)), (1, .int y1)] [.int v14, .int (I y0 34)] I L R
          obtain ⟨c16, q11⟩ := ite_none q11
          refine V_irem C0 c16 dX12_readSensors_39 ?_
          obtain ⟨I17, q18, q11⟩ := bn1_some q11
          have k19 : V G f 48 [(0, .ref (G.ad y0)), (1, .int y1)] [] I17 L R := by
            cases q11
            exact V_sub [0, 1] rfl k12
          refine V_if_ne C0 (tgt := 48) (by decide) dX12_readSensors_40 (fun c20 => ?_) (fun c20 => ?_)
          · have q18 := (if_neg c20).symm.trans q18
            cases q18
            exact V_sub [0, 1] rfl k19
          · have q18 := (if_pos c20).symm.trans q18
            refine V_aload_n C0 0 rfl rfl dX12_readSensors_43 ?_
            refine V_iload_n C0 1 rfl rfl dX12_readSensors_44 ?_
            obtain ⟨I21, q22, q18⟩ := bn1_some q18
            refine V_callV C0 (st := []) (As := [.int y1]) 11 (c_X12_readSensor G.l G.D G.cA G.ad G.bs G.X C0.2.2.2.2.2.2.2.2.2.1 C0.2.2.2.2.2.2.2.2.2.2.2.2 N y0 y1 I L R I21 q22) lc_X12_readSensor lk_X12_396 ho0 hk0 ⟨_, rfl, rfl⟩ rfl (by rw [erm]; decide) (Nat.le_of_ble_eq_true rfl) dX12_readSensors_45 ?_
            show V G _ 48 [(0, .ref (G.ad y0)), (1, .int y1)] [] I21 L R
            cases q18
            exact V_sub [0, 1] rfl k19
set_option maxRecDepth 100000 in
set_option maxHeartbeats 4000000 in
theorem c_X12_readSensors (l : Launch) (D : va_G) (cA : Nat → ClassId) (ad : Nat → Nat) (bs : Nat) (X : State → Prop) (hAd : Ax ad bs) (hX : Stb bs X) (N : Nat) (x0 : Nat) (I : MI) (L : ML) (R : MR) (I' : MI) (h : F_X12_readSensors N x0 I L R = some (I')) : Cn l D cA ad bs X yX12_readSensors cX12_readSensors 2 none 4 91 [.ref (ad x0)] I L R (none, I', L, R) := by
  refine Cn.ofV hAd hX [(0, .ref (ad x0))] rfl (Nat.le_of_ble_eq_true rfl) (by decide) ?_
  intro G el eD ecA ead ebs eX erm eNL C0
  subst el eD ecA ead ebs eX
  unfold F_X12_readSensors at h
  obtain ⟨c_x0, h⟩ := ite_some h
  refine V_iconst C0 (v := (0 : Int32)) (by decide) dX12_readSensors_0 ?_
  refine V_istore_n C0 [(1, .int (0 : Int32)), (0, .ref (G.ad x0))] rfl (by rw [eNL]; decide) rfl dX12_readSensors_1 ?_
  obtain ⟨z24, q25, h⟩ := bn1_some h
  refine V_sub [1, 0] rfl (lp_X12_readSensors_2 C0 eNL erm N N x0 (0 : Int32) I L R _ c_x0.1 c_x0.2 q25 _ ?_)
  show V G _ 54 [] [] z24 L R
  cases h
  exact V_vret C0 dX12_readSensors_54
theorem dX12_firstOn_0 : decode cX12_firstOn 0 = .ok (.iconst (-1), 1) := by decide +kernel
theorem dX12_firstOn_1 : decode cX12_firstOn 1 = .ok (.istore_n 3, 1) := by decide +kernel
theorem dX12_firstOn_2 : decode cX12_firstOn 2 = .ok (.aload_n 0, 1) := by decide +kernel
theorem dX12_firstOn_3 : decode cX12_firstOn 3 = .ok (.getfield 297, 3) := by decide +kernel
theorem dX12_firstOn_6 : decode cX12_firstOn 6 = .ok (.iconst 1, 1) := by decide +kernel
theorem dX12_firstOn_7 : decode cX12_firstOn 7 = .ok (.isub, 1) := by decide +kernel
theorem dX12_firstOn_8 : decode cX12_firstOn 8 = .ok (.istore 4, 2) := by decide +kernel
theorem dX12_firstOn_10 : decode cX12_firstOn 10 = .ok (.iload 4, 2) := by decide +kernel
theorem dX12_firstOn_12 : decode cX12_firstOn 12 = .ok (.ifCond .lt 51, 3) := by decide +kernel
theorem dX12_firstOn_15 : decode cX12_firstOn 15 = .ok (.aload_n 0, 1) := by decide +kernel
theorem dX12_firstOn_16 : decode cX12_firstOn 16 = .ok (.iload 4, 2) := by decide +kernel
theorem dX12_firstOn_18 : decode cX12_firstOn 18 = .ok (.iload_n 1, 1) := by decide +kernel
theorem dX12_firstOn_19 : decode cX12_firstOn 19 = .ok (.invokevirtual 217, 3) := by decide +kernel
theorem dX12_firstOn_22 : decode cX12_firstOn 22 = .ok (.ifCond .eq 33, 3) := by decide +kernel
theorem dX12_firstOn_25 : decode cX12_firstOn 25 = .ok (.aload_n 0, 1) := by decide +kernel
theorem dX12_firstOn_26 : decode cX12_firstOn 26 = .ok (.iload 4, 2) := by decide +kernel
theorem dX12_firstOn_28 : decode cX12_firstOn 28 = .ok (.invokevirtual 393, 3) := by decide +kernel
theorem dX12_firstOn_31 : decode cX12_firstOn 31 = .ok (.ifCond .eq 24, 3) := by decide +kernel
theorem dX12_firstOn_34 : decode cX12_firstOn 34 = .ok (.iload_n 2, 1) := by decide +kernel
theorem dX12_firstOn_35 : decode cX12_firstOn 35 = .ok (.ifCond .lt 15, 3) := by decide +kernel
theorem dX12_firstOn_38 : decode cX12_firstOn 38 = .ok (.aload_n 0, 1) := by decide +kernel
theorem dX12_firstOn_39 : decode cX12_firstOn 39 = .ok (.iload 4, 2) := by decide +kernel
theorem dX12_firstOn_41 : decode cX12_firstOn 41 = .ok (.bipush 35, 2) := by decide +kernel
theorem dX12_firstOn_43 : decode cX12_firstOn 43 = .ok (.invokevirtual 211, 3) := by decide +kernel
theorem dX12_firstOn_46 : decode cX12_firstOn 46 = .ok (.iload_n 2, 1) := by decide +kernel
theorem dX12_firstOn_47 : decode cX12_firstOn 47 = .ok (.if_icmp .ne 8, 3) := by decide +kernel
theorem dX12_firstOn_50 : decode cX12_firstOn 50 = .ok (.iload 4, 2) := by decide +kernel
theorem dX12_firstOn_52 : decode cX12_firstOn 52 = .ok (.goto 4, 3) := by decide +kernel
theorem dX12_firstOn_55 : decode cX12_firstOn 55 = .ok (.iload_n 3, 1) := by decide +kernel
theorem dX12_firstOn_56 : decode cX12_firstOn 56 = .ok (.istore_n 3, 1) := by decide +kernel
theorem dX12_firstOn_57 : decode cX12_firstOn 57 = .ok (.iinc 4 (-1), 3) := by decide +kernel
theorem dX12_firstOn_60 : decode cX12_firstOn 60 = .ok (.goto (-50), 3) := by decide +kernel
theorem dX12_firstOn_63 : decode cX12_firstOn 63 = .ok (.iload_n 3, 1) := by decide +kernel
theorem dX12_firstOn_64 : decode cX12_firstOn 64 = .ok (.ireturn, 1) := by decide +kernel
def LF_X12_firstOn_10 (N : Nat) : Nat → Nat → Int32 → Int32 → Int32 → Int32 → MI → ML → MR → Option (Int32)
  | 0, _, _, _, _, _, _, _, _ => none
  | k + 1, y0, y1, y2, y3, y4, I, L, R =>
    if y4 < 0 then
      some (y3)
    else
      bn1 (F_X12_isA N y0 y4 y1 I L R) fun b3 =>
      bn1 (
        if (b2i b3) = 0 then
          some (y3)
        else
          bn1 (F_X12_isOn N y0 y4 I L R) fun b9 =>
          bn1 (
            if (b2i b9) = 0 then
              some (y3)
            else
              bn1 (
                if y2 < 0 then
                  some (y4)
                else
                  bn1 (F_X12_get y0 y4 (35 : Int32) I L R) fun v19 =>
                  bn1 (
                    if v19 = y2 then
                      some (y4)
                    else
                      some (y3)
                  ) fun (s21 : Int32) =>
                  some (s21)
              ) fun (s15 : Int32) =>
              some (s15)
          ) fun (s11 : Int32) =>
          some (s11)
      ) fun (s5 : Int32) =>
      wr (y4 + (-1 : Int32)) fun (u25 : Int32) =>
      LF_X12_firstOn_10 N k y0 y1 y2 s5 u25 I L R
def F_X12_firstOn (N : Nat) (x0 : Nat) (x1 : Int32) (x2 : Int32) (I : MI) (L : ML) (R : MR) : Option (Int32) :=
  if kd x0 = 11 ∧ x0 < NN then
  wr ((I x0 21) - (1 : Int32)) fun (u1 : Int32) =>
  bn1 (LF_X12_firstOn_10 N N x0 x1 x2 (-1 : Int32) u1 I L R) fun z26 =>
  some (z26)
  else none
set_option maxRecDepth 100000 in
set_option maxHeartbeats 4000000 in
theorem lp_X12_firstOn_10 {G : Gm} (C0 : Cx G (yX12_firstOn.cls) cX12_firstOn (some .int)) (eNL : G.nL = 5) (erm : G.rm = ({ frames := 3, cells := 0, slots := 0, locals := 66 } : Room)) (N : Nat) : ∀ (k : Nat) (y0 : Nat) (y1 : Int32) (y2 : Int32) (y3 : Int32) (y4 : Int32) (I : MI) (L : ML) (R : MR) (z : Int32) (hk0 : kd y0 = 11) (ho0 : y0 < NN), LF_X12_firstOn_10 N k y0 y1 y2 y3 y4 I L R = some z → ∀ f : State → Prop, V G f 63 [(3, .int z)] [] I L R → V G f 10 [(0, .ref (G.ad y0)), (1, .int y1), (2, .int y2), (3, .int y3), (4, .int y4)] [] I L R := by
  intro k
  induction k with
  | zero =>
    intro y0 y1 y2 y3 y4 I L R q hk0 ho0 h
    exact absurd h (by simp [LF_X12_firstOn_10])
  | succ k ih =>
    intro y0 y1 y2 y3 y4 I L R q hk0 ho0 h f kx
    rw [LF_X12_firstOn_10] at h
    refine V_iload C0 4 rfl dX12_firstOn_10 ?_
    refine V_if_lt C0 (tgt := 63) (by decide) dX12_firstOn_12 (fun c2 => ?_) (fun c2 => ?_)
    · have h := (if_pos c2).symm.trans h
      cases h
      exact V_sub [3] rfl kx
    · have h := (if_neg c2).symm.trans h
      refine V_aload_n C0 0 rfl rfl dX12_firstOn_15 ?_
      refine V_iload C0 4 rfl dX12_firstOn_16 ?_
      refine V_iload_n C0 1 rfl rfl dX12_firstOn_18 ?_
      obtain ⟨b3, q4, h⟩ := bn1_some h
      refine V_callV C0 (st := []) (As := [.int y4, .int y1]) 11 (c_X12_isA G.l G.D G.cA G.ad G.bs G.X C0.2.2.2.2.2.2.2.2.2.1 C0.2.2.2.2.2.2.2.2.2.2.2.2 N y0 y4 y1 I L R b3 q4) lc_X12_isA lk_X12_217 ho0 hk0 ⟨_, rfl, rfl⟩ rfl (by rw [erm]; decide) (Nat.le_of_ble_eq_true rfl) dX12_firstOn_19 ?_
      show V G _ 22 [(0, .ref (G.ad y0)), (1, .int y1), (2, .int y2), (3, .int y3), (4, .int y4)] [.int (b2i b3)] I L R
      obtain ⟨s5, q6, h⟩ := bn1_some h
      have k7 : V G f 56 [(0, .ref (G.ad y0)), (1, .int y1), (2, .int y2), (4, .int y4)] [.int s5] I L R := by
        refine V_istore_n C0 [(3, .int s5), (0, .ref (G.ad y0)), (1, .int y1), (2, .int y2), (4, .int y4)] rfl (by rw [eNL]; decide) rfl dX12_firstOn_56 ?_
        obtain ⟨u25, eu25, h⟩ := wr_some h
        refine V_iinc C0 4 [(4, .int u25), (3, .int s5), (0, .ref (G.ad y0)), (1, .int y1), (2, .int y2)] rfl (n := -1) (by rw [eu25]; rfl) (by rw [eNL]; decide) rfl dX12_firstOn_57 ?_
        refine V_goto C0 (tgt := 10) (by decide) dX12_firstOn_60 ?_
        exact V_sub [2, 3, 4, 1, 0] rfl (ih y0 y1 y2 s5 u25 I L R _ hk0 ho0 h f kx)
      refine V_if_eq C0 (tgt := 55) (by decide) dX12_firstOn_22 (fun c8 => ?_) (fun c8 => ?_)
      · have q6 := (if_pos c8).symm.trans q6
        refine V_iload_n C0 3 rfl rfl dX12_firstOn_55 ?_
        cases q6
        exact V_sub [0, 1, 2, 4] rfl k7
      · have q6 := (if_neg c8).symm.trans q6
        refine V_aload_n C0 0 rfl rfl dX12_firstOn_25 ?_
        refine V_iload C0 4 rfl dX12_firstOn_26 ?_
        obtain ⟨b9, q10, q6⟩ := bn1_some q6
        refine V_callV C0 (st := []) (As := [.int y4]) 11 (c_X12_isOn G.l G.D G.cA G.ad G.bs G.X C0.2.2.2.2.2.2.2.2.2.1 C0.2.2.2.2.2.2.2.2.2.2.2.2 N y0 y4 I L R b9 q10) lc_X12_isOn lk_X12_393 ho0 hk0 ⟨_, rfl, rfl⟩ rfl (by rw [erm]; decide) (Nat.le_of_ble_eq_true rfl) dX12_firstOn_28 ?_
        show V G _ 31 [(0, .ref (G.ad y0)), (1, .int y1), (2, .int y2), (3, .int y3), (4, .int y4)] [.int (b2i b9)] I L R
        obtain ⟨s11, q12, q6⟩ := bn1_some q6
        have k13 : V G f 56 [(0, .ref (G.ad y0)), (1, .int y1), (2, .int y2), (4, .int y4)] [.int s11] I L R := by
          cases q6
          exact V_sub [0, 1, 2, 3] rfl k7
        refine V_if_eq C0 (tgt := 55) (by decide) dX12_firstOn_31 (fun c14 => ?_) (fun c14 => ?_)
        · have q12 := (if_pos c14).symm.trans q12
          refine V_iload_n C0 3 rfl rfl dX12_firstOn_55 ?_
          cases q12
          exact V_sub [0, 1, 2, 4] rfl k13
        · have q12 := (if_neg c14).symm.trans q12
          refine V_iload_n C0 2 rfl rfl dX12_firstOn_34 ?_
          obtain ⟨s15, q16, q12⟩ := bn1_some q12
          have k17 : V G f 56 [(0, .ref (G.ad y0)), (1, .int y1), (2, .int y2), (4, .int y4)] [.int s15] I L R := by
            cases q12
            exact V_sub [0, 1, 2, 3] rfl k13
          refine V_if_lt C0 (tgt := 50) (by decide) dX12_firstOn_35 (fun c18 => ?_) (fun c18 => ?_)
          · have q16 := (if_pos c18).symm.trans q16
            refine V_iload C0 4 rfl dX12_firstOn_50 ?_
            refine V_goto C0 (tgt := 56) (by decide) dX12_firstOn_52 ?_
            cases q16
            exact V_sub [0, 1, 2, 4] rfl k17
          · have q16 := (if_neg c18).symm.trans q16
            refine V_aload_n C0 0 rfl rfl dX12_firstOn_38 ?_
            refine V_iload C0 4 rfl dX12_firstOn_39 ?_
            refine V_bipush C0 (v := (35 : Int32)) (by decide) dX12_firstOn_41 ?_
            obtain ⟨v19, q20, q16⟩ := bn1_some q16
            refine V_callV C0 (st := []) (As := [.int y4, .int (35 : Int32)]) 11 (c_X12_get G.l G.D G.cA G.ad G.bs G.X C0.2.2.2.2.2.2.2.2.2.1 C0.2.2.2.2.2.2.2.2.2.2.2.2 y0 y4 (35 : Int32) I L R v19 q20) lc_X12_get lk_X12_211 ho0 hk0 ⟨_, rfl, rfl⟩ rfl (by rw [erm]; decide) (Nat.le_of_ble_eq_true rfl) dX12_firstOn_43 ?_
            show V G _ 46 [(0, .ref (G.ad y0)), (1, .int y1), (2, .int y2), (3, .int y3), (4, .int y4)] [.int v19] I L R
            refine V_iload_n C0 2 rfl rfl dX12_firstOn_46 ?_
            obtain ⟨s21, q22, q16⟩ := bn1_some q16
            have k23 : V G f 56 [(0, .ref (G.ad y0)), (1, .int y1), (2, .int y2), (4, .int y4)] [.int s21] I L R := by
              cases q16
              exact V_sub [0, 1, 2, 3] rfl k17
            refine V_icmp_ne C0 (tgt := 55) (by decide) dX12_firstOn_47 (fun c24 => ?_) (fun c24 => ?_)
            · have q22 := (if_neg c24).symm.trans q22
              refine V_iload_n C0 3 rfl rfl dX12_firstOn_55 ?_
              cases q22
              exact V_sub [0, 1, 2, 4] rfl k23
            · have q22 := (if_pos c24).symm.trans q22
              refine V_iload C0 4 rfl dX12_firstOn_50 ?_
              refine V_goto C0 (tgt := 56) (by decide) dX12_firstOn_52 ?_
              cases q22
              exact V_sub [0, 1, 2, 4] rfl k23
set_option maxRecDepth 100000 in
set_option maxHeartbeats 4000000 in
theorem c_X12_firstOn (l : Launch) (D : va_G) (cA : Nat → ClassId) (ad : Nat → Nat) (bs : Nat) (X : State → Prop) (hAd : Ax ad bs) (hX : Stb bs X) (N : Nat) (x0 : Nat) (x1 : Int32) (x2 : Int32) (I : MI) (L : ML) (R : MR) (r : Int32) (h : F_X12_firstOn N x0 x1 x2 I L R = some (r)) : Cn l D cA ad bs X yX12_firstOn cX12_firstOn 5 (some .int) 3 66 [.ref (ad x0), .int x1, .int x2] I L R (some (.int r), I, L, R) := by
  refine Cn.ofV hAd hX [(0, .ref (ad x0)), (1, .int x1), (2, .int x2)] rfl (Nat.le_of_ble_eq_true rfl) (by decide) ?_
  intro G el eD ecA ead ebs eX erm eNL C0
  subst el eD ecA ead ebs eX
  unfold F_X12_firstOn at h
  obtain ⟨c_x0, h⟩ := ite_some h
  refine V_iconst C0 (v := (-1 : Int32)) (by decide) dX12_firstOn_0 ?_
  refine V_istore_n C0 [(3, .int (-1 : Int32)), (0, .ref (G.ad x0)), (1, .int x1), (2, .int x2)] rfl (by rw [eNL]; decide) rfl dX12_firstOn_1 ?_
  refine V_aload_n C0 1 rfl rfl dX12_firstOn_2 ?_
  refine V_getI C0 11 21 fl_X12_297 c_x0.2 c_x0.1 rfl dX12_firstOn_3 ?_
  refine V_iconst C0 (v := (1 : Int32)) (by decide) dX12_firstOn_6 ?_
  refine V_isub C0 dX12_firstOn_7 ?_
  obtain ⟨u1, eu1, h⟩ := wr_some h
  rw [← eu1]
  refine V_istore C0 [(4, .int u1), (3, .int (-1 : Int32)), (0, .ref (G.ad x0)), (1, .int x1), (2, .int x2)] (by rw [eNL]; decide) rfl dX12_firstOn_8 ?_
  obtain ⟨z26, q27, h⟩ := bn1_some h
  refine V_sub [2, 3, 4, 1, 0] rfl (lp_X12_firstOn_10 C0 eNL erm N N x0 x1 x2 (-1 : Int32) u1 I L R _ c_x0.1 c_x0.2 q27 _ ?_)
  show V G _ 63 [(3, .int z26)] [] I L R
  refine V_iload_n C0 0 rfl rfl dX12_firstOn_63 ?_
  cases h
  exact V_iret C0 dX12_firstOn_64
theorem dX12_wish_0 : decode cX12_wish 0 = .ok (.aload_n 0, 1) := by decide +kernel
theorem dX12_wish_1 : decode cX12_wish 1 = .ok (.getfield 68, 3) := by decide +kernel
theorem dX12_wish_4 : decode cX12_wish 4 = .ok (.iload_n 1, 1) := by decide +kernel
theorem dX12_wish_5 : decode cX12_wish 5 = .ok (.iaload, 1) := by decide +kernel
theorem dX12_wish_6 : decode cX12_wish 6 = .ok (.aload_n 0, 1) := by decide +kernel
theorem dX12_wish_7 : decode cX12_wish 7 = .ok (.getfield 309, 3) := by decide +kernel
theorem dX12_wish_10 : decode cX12_wish 10 = .ok (.iconst 1, 1) := by decide +kernel
theorem dX12_wish_11 : decode cX12_wish 11 = .ok (.if_icmp .ne 12, 3) := by decide +kernel
theorem dX12_wish_14 : decode cX12_wish 14 = .ok (.aload_n 0, 1) := by decide +kernel
theorem dX12_wish_15 : decode cX12_wish 15 = .ok (.getfield 74, 3) := by decide +kernel
theorem dX12_wish_18 : decode cX12_wish 18 = .ok (.iload_n 1, 1) := by decide +kernel
theorem dX12_wish_19 : decode cX12_wish 19 = .ok (.iaload, 1) := by decide +kernel
theorem dX12_wish_20 : decode cX12_wish 20 = .ok (.goto 4, 3) := by decide +kernel
theorem dX12_wish_23 : decode cX12_wish 23 = .ok (.iconst 0, 1) := by decide +kernel
theorem dX12_wish_24 : decode cX12_wish 24 = .ok (.invokestatic 381, 3) := by decide +kernel
theorem dX12_wish_27 : decode cX12_wish 27 = .ok (.istore_n 2, 1) := by decide +kernel
theorem dX12_wish_28 : decode cX12_wish 28 = .ok (.aload_n 0, 1) := by decide +kernel
theorem dX12_wish_29 : decode cX12_wish 29 = .ok (.getfield 309, 3) := by decide +kernel
theorem dX12_wish_32 : decode cX12_wish 32 = .ok (.iconst 2, 1) := by decide +kernel
theorem dX12_wish_33 : decode cX12_wish 33 = .ok (.if_icmp .ne 47, 3) := by decide +kernel
theorem dX12_wish_36 : decode cX12_wish 36 = .ok (.iload_n 1, 1) := by decide +kernel
theorem dX12_wish_37 : decode cX12_wish 37 = .ok (.ifCond .ne 43, 3) := by decide +kernel
theorem dX12_wish_40 : decode cX12_wish 40 = .ok (.aload_n 0, 1) := by decide +kernel
theorem dX12_wish_41 : decode cX12_wish 41 = .ok (.bipush 12, 2) := by decide +kernel
theorem dX12_wish_43 : decode cX12_wish 43 = .ok (.iconst (-1), 1) := by decide +kernel
theorem dX12_wish_44 : decode cX12_wish 44 = .ok (.invokevirtual 399, 3) := by decide +kernel
theorem dX12_wish_47 : decode cX12_wish 47 = .ok (.istore_n 3, 1) := by decide +kernel
theorem dX12_wish_48 : decode cX12_wish 48 = .ok (.iload_n 3, 1) := by decide +kernel
theorem dX12_wish_49 : decode cX12_wish 49 = .ok (.iconst (-1), 1) := by decide +kernel
theorem dX12_wish_50 : decode cX12_wish 50 = .ok (.if_icmp .eq 16, 3) := by decide +kernel
theorem dX12_wish_53 : decode cX12_wish 53 = .ok (.aload_n 0, 1) := by decide +kernel
theorem dX12_wish_54 : decode cX12_wish 54 = .ok (.iload_n 3, 1) := by decide +kernel
theorem dX12_wish_55 : decode cX12_wish 55 = .ok (.bipush 32, 2) := by decide +kernel
theorem dX12_wish_57 : decode cX12_wish 57 = .ok (.invokevirtual 211, 3) := by decide +kernel
theorem dX12_wish_60 : decode cX12_wish 60 = .ok (.sipush 9999, 3) := by decide +kernel
theorem dX12_wish_63 : decode cX12_wish 63 = .ok (.if_icmp .ne 9, 3) := by decide +kernel
theorem dX12_wish_66 : decode cX12_wish 66 = .ok (.sipush 200, 3) := by decide +kernel
theorem dX12_wish_69 : decode cX12_wish 69 = .ok (.goto 10, 3) := by decide +kernel
theorem dX12_wish_72 : decode cX12_wish 72 = .ok (.aload_n 0, 1) := by decide +kernel
theorem dX12_wish_73 : decode cX12_wish 73 = .ok (.iload_n 3, 1) := by decide +kernel
theorem dX12_wish_74 : decode cX12_wish 74 = .ok (.bipush 32, 2) := by decide +kernel
theorem dX12_wish_76 : decode cX12_wish 76 = .ok (.invokevirtual 211, 3) := by decide +kernel
theorem dX12_wish_79 : decode cX12_wish 79 = .ok (.istore_n 2, 1) := by decide +kernel
theorem dX12_wish_80 : decode cX12_wish 80 = .ok (.aload_n 0, 1) := by decide +kernel
theorem dX12_wish_81 : decode cX12_wish 81 = .ok (.bipush 10, 2) := by decide +kernel
theorem dX12_wish_83 : decode cX12_wish 83 = .ok (.iload_n 1, 1) := by decide +kernel
theorem dX12_wish_84 : decode cX12_wish 84 = .ok (.invokevirtual 399, 3) := by decide +kernel
theorem dX12_wish_87 : decode cX12_wish 87 = .ok (.istore_n 3, 1) := by decide +kernel
theorem dX12_wish_88 : decode cX12_wish 88 = .ok (.iload_n 3, 1) := by decide +kernel
theorem dX12_wish_89 : decode cX12_wish 89 = .ok (.iconst (-1), 1) := by decide +kernel
theorem dX12_wish_90 : decode cX12_wish 90 = .ok (.if_icmp .ne 7, 3) := by decide +kernel
theorem dX12_wish_93 : decode cX12_wish 93 = .ok (.iconst 0, 1) := by decide +kernel
theorem dX12_wish_94 : decode cX12_wish 94 = .ok (.goto 10, 3) := by decide +kernel
theorem dX12_wish_97 : decode cX12_wish 97 = .ok (.aload_n 0, 1) := by decide +kernel
theorem dX12_wish_98 : decode cX12_wish 98 = .ok (.iload_n 3, 1) := by decide +kernel
theorem dX12_wish_99 : decode cX12_wish 99 = .ok (.bipush 32, 2) := by decide +kernel
theorem dX12_wish_101 : decode cX12_wish 101 = .ok (.invokevirtual 211, 3) := by decide +kernel
theorem dX12_wish_104 : decode cX12_wish 104 = .ok (.istore 4, 2) := by decide +kernel
theorem dX12_wish_106 : decode cX12_wish 106 = .ok (.iload_n 2, 1) := by decide +kernel
theorem dX12_wish_107 : decode cX12_wish 107 = .ok (.bipush 16, 2) := by decide +kernel
theorem dX12_wish_109 : decode cX12_wish 109 = .ok (.idiv, 1) := by decide +kernel
theorem dX12_wish_110 : decode cX12_wish 110 = .ok (.iconst 2, 1) := by decide +kernel
theorem dX12_wish_111 : decode cX12_wish 111 = .ok (.iload 4, 2) := by decide +kernel
theorem dX12_wish_113 : decode cX12_wish 113 = .ok (.imul, 1) := by decide +kernel
theorem dX12_wish_114 : decode cX12_wish 114 = .ok (.isub, 1) := by decide +kernel
theorem dX12_wish_115 : decode cX12_wish 115 = .ok (.bipush (-30), 2) := by decide +kernel
theorem dX12_wish_117 : decode cX12_wish 117 = .ok (.bipush 30, 2) := by decide +kernel
theorem dX12_wish_119 : decode cX12_wish 119 = .ok (.invokestatic 402, 3) := by decide +kernel
theorem dX12_wish_122 : decode cX12_wish 122 = .ok (.ireturn, 1) := by decide +kernel
def F_X12_wish (N : Nat) (x0 : Nat) (x1 : Int32) (I : MI) (L : ML) (R : MR) : Option (Int32) :=
  if kd x0 = 11 ∧ x0 < NN then
  (rf R x0 36 20).bind fun a1 =>
  (ri I a1 x1).bind fun v2 =>
  bn1 (
    if (I x0 35) = (1 : Int32) then
      (rf R x0 38 20).bind fun a7 =>
      (ri I a7 x1).bind fun v8 =>
      some (v8)
    else
      some ((0 : Int32))
  ) fun (s3 : Int32) =>
  bn1 (F_X12_off v2 s3 I L R) fun v9 =>
  bn1 (
    if (I x0 35) = (2 : Int32) then
      bn1 (
        if x1 = 0 then
          bn1 (F_X12_firstOn N x0 (12 : Int32) (-1 : Int32) I L R) fun v19 =>
          bn1 (
            if v19 = (-1 : Int32) then
              some ((200 : Int32))
            else
              bn1 (F_X12_get x0 v19 (32 : Int32) I L R) fun v25 =>
              bn1 (
                if v25 = (9999 : Int32) then
                  some ((200 : Int32))
                else
                  bn1 (F_X12_get x0 v19 (32 : Int32) I L R) fun v31 =>
                  some (v31)
              ) fun (s27 : Int32) =>
              some (s27)
          ) fun (s21 : Int32) =>
          some (s21)
        else
          some (v9)
      ) fun (u15 : Int32) =>
      some (u15)
    else
      some (v9)
  ) fun (u11 : Int32) =>
  bn1 (F_X12_firstOn N x0 (10 : Int32) x1 I L R) fun v33 =>
  bn1 (
    if v33 = (-1 : Int32) then
      some ((0 : Int32))
    else
      bn1 (F_X12_get x0 v33 (32 : Int32) I L R) fun v39 =>
      some (v39)
  ) fun (s35 : Int32) =>
  bn1 (F_X12_limit ((u11 / (16 : Int32)) - ((2 : Int32) * s35)) (-30 : Int32) (30 : Int32) I L R) fun v41 =>
  some (v41)
  else none
set_option maxRecDepth 100000 in
set_option maxHeartbeats 4000000 in
theorem c_X12_wish (l : Launch) (D : va_G) (cA : Nat → ClassId) (ad : Nat → Nat) (bs : Nat) (X : State → Prop) (hAd : Ax ad bs) (hX : Stb bs X) (N : Nat) (x0 : Nat) (x1 : Int32) (I : MI) (L : ML) (R : MR) (r : Int32) (h : F_X12_wish N x0 x1 I L R = some (r)) : Cn l D cA ad bs X yX12_wish cX12_wish 5 (some .int) 4 90 [.ref (ad x0), .int x1] I L R (some (.int r), I, L, R) := by
  refine Cn.ofV hAd hX [(0, .ref (ad x0)), (1, .int x1)] rfl (Nat.le_of_ble_eq_true rfl) (by decide) ?_
  intro G el eD ecA ead ebs eX erm eNL C0
  subst el eD ecA ead ebs eX
  unfold F_X12_wish at h
  obtain ⟨c_x0, h⟩ := ite_some h
  refine V_aload_n C0 0 rfl rfl dX12_wish_0 ?_
  obtain ⟨a1, qa1, h⟩ := bnd_some h
  refine V_getR C0 11 36 fl_X12_68 c_x0.2 c_x0.1 rfl (rf_at qa1) dX12_wish_1 ?_
  refine V_iload_n C0 1 rfl rfl dX12_wish_4 ?_
  obtain ⟨v2, qv2, h⟩ := bnd_some h
  refine V_ri C0 (rf_lt qa1) (rf_kd qa1) qv2 dX12_wish_5 ?_
  refine V_aload_n C0 0 rfl rfl dX12_wish_6 ?_
  refine V_getI C0 11 35 fl_X12_309 c_x0.2 c_x0.1 rfl dX12_wish_7 ?_
  refine V_iconst C0 (v := (1 : Int32)) (by decide) dX12_wish_10 ?_
  obtain ⟨s3, q4, h⟩ := bn1_some h
  have k5 : V G (qf G (some (.int r), I, L, R)) 24 [(0, .ref (G.ad x0)), (1, .int x1)] [.int s3, .int v2] I L R := by
    obtain ⟨v9, q10, h⟩ := bn1_some h
    refine V_callS C0 (st := []) (As := [.int v2, .int s3]) (c_X12_off G.l G.D G.cA G.ad G.bs G.X C0.2.2.2.2.2.2.2.2.2.1 C0.2.2.2.2.2.2.2.2.2.2.2.2 v2 s3 I L R v9 q10) lc_X12_off lk_X12_381 rfl (by rw [erm]; decide) (Nat.le_of_ble_eq_true rfl) dX12_wish_24 ?_
    show V G _ 27 [(0, .ref (G.ad x0)), (1, .int x1)] [.int v9] I L R
    refine V_istore_n C0 [(2, .int v9), (0, .ref (G.ad x0)), (1, .int x1)] rfl (by rw [eNL]; decide) rfl dX12_wish_27 ?_
    refine V_aload_n C0 1 rfl rfl dX12_wish_28 ?_
    refine V_getI C0 11 35 fl_X12_309 c_x0.2 c_x0.1 rfl dX12_wish_29 ?_
    refine V_iconst C0 (v := (2 : Int32)) (by decide) dX12_wish_32 ?_
    obtain ⟨u11, q12, h⟩ := bn1_some h
    have k13 : V G (qf G (some (.int r), I, L, R)) 80 [(0, .ref (G.ad x0)), (1, .int x1), (2, .int u11)] [] I L R := by
      refine V_aload_n C0 0 rfl rfl dX12_wish_80 ?_
      refine V_bipush C0 (v := (10 : Int32)) (by decide) dX12_wish_81 ?_
      refine V_iload_n C0 1 rfl rfl dX12_wish_83 ?_
      obtain ⟨v33, q34, h⟩ := bn1_some h
      refine V_callV C0 (st := []) (As := [.int (10 : Int32), .int x1]) 11 (c_X12_firstOn G.l G.D G.cA G.ad G.bs G.X C0.2.2.2.2.2.2.2.2.2.1 C0.2.2.2.2.2.2.2.2.2.2.2.2 N x0 (10 : Int32) x1 I L R v33 q34) lc_X12_firstOn lk_X12_399 c_x0.2 c_x0.1 ⟨_, rfl, rfl⟩ rfl (by rw [erm]; decide) (Nat.le_of_ble_eq_true rfl) dX12_wish_84 ?_
      show V G _ 87 [(0, .ref (G.ad x0)), (1, .int x1), (2, .int u11)] [.int v33] I L R
      refine V_istore_n C0 [(3, .int v33), (0, .ref (G.ad x0)), (1, .int x1), (2, .int u11)] rfl (by rw [eNL]; decide) rfl dX12_wish_87 ?_
      refine V_iload_n C0 0 rfl rfl dX12_wish_88 ?_
      refine V_iconst C0 (v := (-1 : Int32)) (by decide) dX12_wish_89 ?_
      obtain ⟨s35, q36, h⟩ := bn1_some h
      have k37 : V G (qf G (some (.int r), I, L, R)) 104 [(2, .int u11)] [.int s35] I L R := by
        refine V_istore C0 [(4, .int s35), (2, .int u11)] (by rw [eNL]; decide) rfl dX12_wish_104 ?_
        refine V_iload_n C0 1 rfl rfl dX12_wish_106 ?_
        refine V_bipush C0 (v := (16 : Int32)) (by decide) dX12_wish_107 ?_
        refine V_idiv C0 (by decide) dX12_wish_109 ?_
        refine V_iconst C0 (v := (2 : Int32)) (by decide) dX12_wish_110 ?_
        refine V_iload C0 0 rfl dX12_wish_111 ?_
        refine V_imul C0 dX12_wish_113 ?_
        refine V_isub C0 dX12_wish_114 ?_
        refine V_bipush C0 (v := (-30 : Int32)) (by decide) dX12_wish_115 ?_
        refine V_bipush C0 (v := (30 : Int32)) (by decide) dX12_wish_117 ?_
        obtain ⟨v41, q42, h⟩ := bn1_some h
        refine V_callS C0 (st := []) (As := [.int ((u11 / (16 : Int32)) - ((2 : Int32) * s35)), .int (-30 : Int32), .int (30 : Int32)]) (c_X12_limit G.l G.D G.cA G.ad G.bs G.X C0.2.2.2.2.2.2.2.2.2.1 C0.2.2.2.2.2.2.2.2.2.2.2.2 ((u11 / (16 : Int32)) - ((2 : Int32) * s35)) (-30 : Int32) (30 : Int32) I L R v41 q42) lc_X12_limit lk_X12_402 rfl (by rw [erm]; decide) (Nat.le_of_ble_eq_true rfl) dX12_wish_119 ?_
        show V G _ 122 [(4, .int s35), (2, .int u11)] [.int v41] I L R
        cases h
        exact V_iret C0 dX12_wish_122
      refine V_icmp_ne C0 (tgt := 97) (by decide) dX12_wish_90 (fun c38 => ?_) (fun c38 => ?_)
      · have q36 := (if_neg c38).symm.trans q36
        refine V_aload_n C0 1 rfl rfl dX12_wish_97 ?_
        refine V_iload_n C0 0 rfl rfl dX12_wish_98 ?_
        refine V_bipush C0 (v := (32 : Int32)) (by decide) dX12_wish_99 ?_
        obtain ⟨v39, q40, q36⟩ := bn1_some q36
        refine V_callV C0 (st := []) (As := [.int v33, .int (32 : Int32)]) 11 (c_X12_get G.l G.D G.cA G.ad G.bs G.X C0.2.2.2.2.2.2.2.2.2.1 C0.2.2.2.2.2.2.2.2.2.2.2.2 x0 v33 (32 : Int32) I L R v39 q40) lc_X12_get lk_X12_211 c_x0.2 c_x0.1 ⟨_, rfl, rfl⟩ rfl (by rw [erm]; decide) (Nat.le_of_ble_eq_true rfl) dX12_wish_101 ?_
        show V G _ 104 [(3, .int v33), (0, .ref (G.ad x0)), (1, .int x1), (2, .int u11)] [.int v39] I L R
        cases q36
        exact V_sub [3] rfl k37
      · have q36 := (if_pos c38).symm.trans q36
        refine V_iconst C0 (v := (0 : Int32)) (by decide) dX12_wish_93 ?_
        refine V_goto C0 (tgt := 104) (by decide) dX12_wish_94 ?_
        cases q36
        exact V_sub [3] rfl k37
    refine V_icmp_ne C0 (tgt := 80) (by decide) dX12_wish_33 (fun c14 => ?_) (fun c14 => ?_)
    · have q12 := (if_neg c14).symm.trans q12
      cases q12
      exact V_sub [1, 2, 0] rfl k13
    · have q12 := (if_pos c14).symm.trans q12
      refine V_iload_n C0 2 rfl rfl dX12_wish_36 ?_
      obtain ⟨u15, q16, q12⟩ := bn1_some q12
      have k17 : V G (qf G (some (.int r), I, L, R)) 80 [(0, .ref (G.ad x0)), (1, .int x1), (2, .int u15)] [] I L R := by
        cases q12
        exact V_sub [0, 1, 2] rfl k13
      refine V_if_ne C0 (tgt := 80) (by decide) dX12_wish_37 (fun c18 => ?_) (fun c18 => ?_)
      · have q16 := (if_neg c18).symm.trans q16
        cases q16
        exact V_sub [1, 2, 0] rfl k17
      · have q16 := (if_pos c18).symm.trans q16
        refine V_aload_n C0 1 rfl rfl dX12_wish_40 ?_
        refine V_bipush C0 (v := (12 : Int32)) (by decide) dX12_wish_41 ?_
        refine V_iconst C0 (v := (-1 : Int32)) (by decide) dX12_wish_43 ?_
        obtain ⟨v19, q20, q16⟩ := bn1_some q16
        refine V_callV C0 (st := []) (As := [.int (12 : Int32), .int (-1 : Int32)]) 11 (c_X12_firstOn G.l G.D G.cA G.ad G.bs G.X C0.2.2.2.2.2.2.2.2.2.1 C0.2.2.2.2.2.2.2.2.2.2.2.2 N x0 (12 : Int32) (-1 : Int32) I L R v19 q20) lc_X12_firstOn lk_X12_399 c_x0.2 c_x0.1 ⟨_, rfl, rfl⟩ rfl (by rw [erm]; decide) (Nat.le_of_ble_eq_true rfl) dX12_wish_44 ?_
        show V G _ 47 [(2, .int v9), (0, .ref (G.ad x0)), (1, .int x1)] [.int v19] I L R
        refine V_istore_n C0 [(3, .int v19), (2, .int v9), (0, .ref (G.ad x0)), (1, .int x1)] rfl (by rw [eNL]; decide) rfl dX12_wish_47 ?_
        refine V_iload_n C0 0 rfl rfl dX12_wish_48 ?_
        refine V_iconst C0 (v := (-1 : Int32)) (by decide) dX12_wish_49 ?_
        obtain ⟨s21, q22, q16⟩ := bn1_some q16
        have k23 : V G (qf G (some (.int r), I, L, R)) 79 [(0, .ref (G.ad x0)), (1, .int x1)] [.int s21] I L R := by
          refine V_istore_n C0 [(2, .int s21), (0, .ref (G.ad x0)), (1, .int x1)] rfl (by rw [eNL]; decide) rfl dX12_wish_79 ?_
          cases q16
          exact V_sub [1, 2, 0] rfl k17
        refine V_icmp_eq C0 (tgt := 66) (by decide) dX12_wish_50 (fun c24 => ?_) (fun c24 => ?_)
        · have q22 := (if_pos c24).symm.trans q22
          refine V_sipush C0 (v := (200 : Int32)) (by decide) dX12_wish_66 ?_
          refine V_goto C0 (tgt := 79) (by decide) dX12_wish_69 ?_
          cases q22
          exact V_sub [2, 3] rfl k23
        · have q22 := (if_neg c24).symm.trans q22
          refine V_aload_n C0 2 rfl rfl dX12_wish_53 ?_
          refine V_iload_n C0 0 rfl rfl dX12_wish_54 ?_
          refine V_bipush C0 (v := (32 : Int32)) (by decide) dX12_wish_55 ?_
          obtain ⟨v25, q26, q22⟩ := bn1_some q22
          refine V_callV C0 (st := []) (As := [.int v19, .int (32 : Int32)]) 11 (c_X12_get G.l G.D G.cA G.ad G.bs G.X C0.2.2.2.2.2.2.2.2.2.1 C0.2.2.2.2.2.2.2.2.2.2.2.2 x0 v19 (32 : Int32) I L R v25 q26) lc_X12_get lk_X12_211 c_x0.2 c_x0.1 ⟨_, rfl, rfl⟩ rfl (by rw [erm]; decide) (Nat.le_of_ble_eq_true rfl) dX12_wish_57 ?_
          show V G _ 60 [(3, .int v19), (2, .int v9), (0, .ref (G.ad x0)), (1, .int x1)] [.int v25] I L R
          refine V_sipush C0 (v := (9999 : Int32)) (by decide) dX12_wish_60 ?_
          obtain ⟨s27, q28, q22⟩ := bn1_some q22
          have k29 : V G (qf G (some (.int r), I, L, R)) 79 [(0, .ref (G.ad x0)), (1, .int x1)] [.int s27] I L R := by
            cases q22
            exact V_sub [0, 1] rfl k23
          refine V_icmp_ne C0 (tgt := 72) (by decide) dX12_wish_63 (fun c30 => ?_) (fun c30 => ?_)
          · have q28 := (if_neg c30).symm.trans q28
            refine V_aload_n C0 2 rfl rfl dX12_wish_72 ?_
            refine V_iload_n C0 0 rfl rfl dX12_wish_73 ?_
            refine V_bipush C0 (v := (32 : Int32)) (by decide) dX12_wish_74 ?_
            obtain ⟨v31, q32, q28⟩ := bn1_some q28
            refine V_callV C0 (st := []) (As := [.int v19, .int (32 : Int32)]) 11 (c_X12_get G.l G.D G.cA G.ad G.bs G.X C0.2.2.2.2.2.2.2.2.2.1 C0.2.2.2.2.2.2.2.2.2.2.2.2 x0 v19 (32 : Int32) I L R v31 q32) lc_X12_get lk_X12_211 c_x0.2 c_x0.1 ⟨_, rfl, rfl⟩ rfl (by rw [erm]; decide) (Nat.le_of_ble_eq_true rfl) dX12_wish_76 ?_
            show V G _ 79 [(3, .int v19), (2, .int v9), (0, .ref (G.ad x0)), (1, .int x1)] [.int v31] I L R
            cases q28
            exact V_sub [2, 3] rfl k29
          · have q28 := (if_pos c30).symm.trans q28
            refine V_sipush C0 (v := (200 : Int32)) (by decide) dX12_wish_66 ?_
            refine V_goto C0 (tgt := 79) (by decide) dX12_wish_69 ?_
            cases q28
            exact V_sub [2, 3] rfl k29
  refine V_icmp_ne C0 (tgt := 23) (by decide) dX12_wish_11 (fun c6 => ?_) (fun c6 => ?_)
  · have q4 := (if_neg c6).symm.trans q4
    refine V_iconst C0 (v := (0 : Int32)) (by decide) dX12_wish_23 ?_
    cases q4
    exact V_sub [0, 1] rfl k5
  · have q4 := (if_pos c6).symm.trans q4
    refine V_aload_n C0 0 rfl rfl dX12_wish_14 ?_
    obtain ⟨a7, qa7, q4⟩ := bnd_some q4
    refine V_getR C0 11 38 fl_X12_74 c_x0.2 c_x0.1 rfl (rf_at qa7) dX12_wish_15 ?_
    refine V_iload_n C0 1 rfl rfl dX12_wish_18 ?_
    obtain ⟨v8, qv8, q4⟩ := bnd_some q4
    refine V_ri C0 (rf_lt qa7) (rf_kd qa7) qv8 dX12_wish_19 ?_
    refine V_goto C0 (tgt := 24) (by decide) dX12_wish_20 ?_
    cases q4
    exact V_sub [0, 1] rfl k5
theorem dX12_turns_0 : decode cX12_turns 0 = .ok (.aload_n 0, 1) := by decide +kernel
theorem dX12_turns_1 : decode cX12_turns 1 = .ok (.iload_n 1, 1) := by decide +kernel
theorem dX12_turns_2 : decode cX12_turns 2 = .ok (.iload_n 2, 1) := by decide +kernel
theorem dX12_turns_3 : decode cX12_turns 3 = .ok (.invokevirtual 217, 3) := by decide +kernel
theorem dX12_turns_6 : decode cX12_turns 6 = .ok (.ifCond .eq 26, 3) := by decide +kernel
theorem dX12_turns_9 : decode cX12_turns 9 = .ok (.aload_n 0, 1) := by decide +kernel
theorem dX12_turns_10 : decode cX12_turns 10 = .ok (.iload_n 1, 1) := by decide +kernel
theorem dX12_turns_11 : decode cX12_turns 11 = .ok (.invokevirtual 393, 3) := by decide +kernel
theorem dX12_turns_14 : decode cX12_turns 14 = .ok (.ifCond .eq 18, 3) := by decide +kernel
theorem dX12_turns_17 : decode cX12_turns 17 = .ok (.aload_n 0, 1) := by decide +kernel
theorem dX12_turns_18 : decode cX12_turns 18 = .ok (.iload_n 1, 1) := by decide +kernel
theorem dX12_turns_19 : decode cX12_turns 19 = .ok (.bipush 35, 2) := by decide +kernel
theorem dX12_turns_21 : decode cX12_turns 21 = .ok (.invokevirtual 211, 3) := by decide +kernel
theorem dX12_turns_24 : decode cX12_turns 24 = .ok (.iload_n 3, 1) := by decide +kernel
theorem dX12_turns_25 : decode cX12_turns 25 = .ok (.if_icmp .ne 7, 3) := by decide +kernel
theorem dX12_turns_28 : decode cX12_turns 28 = .ok (.iconst 1, 1) := by decide +kernel
theorem dX12_turns_29 : decode cX12_turns 29 = .ok (.goto 4, 3) := by decide +kernel
theorem dX12_turns_32 : decode cX12_turns 32 = .ok (.iconst 0, 1) := by decide +kernel
theorem dX12_turns_33 : decode cX12_turns 33 = .ok (.ireturn, 1) := by decide +kernel
def F_X12_turns (N : Nat) (x0 : Nat) (x1 : Int32) (x2 : Int32) (x3 : Int32) (I : MI) (L : ML) (R : MR) : Option (Bool) :=
  if kd x0 = 11 ∧ x0 < NN then
  bn1 (F_X12_isA N x0 x1 x2 I L R) fun b1 =>
  if (b2i b1) = 0 then
    some (false)
  else
    bn1 (F_X12_isOn N x0 x1 I L R) fun b4 =>
    if (b2i b4) = 0 then
      some (false)
    else
      bn1 (F_X12_get x0 x1 (35 : Int32) I L R) fun v7 =>
      if v7 = x3 then
        some (true)
      else
        some (false)
  else none
set_option maxRecDepth 100000 in
set_option maxHeartbeats 4000000 in
theorem c_X12_turns (l : Launch) (D : va_G) (cA : Nat → ClassId) (ad : Nat → Nat) (bs : Nat) (X : State → Prop) (hAd : Ax ad bs) (hX : Stb bs X) (N : Nat) (x0 : Nat) (x1 : Int32) (x2 : Int32) (x3 : Int32) (I : MI) (L : ML) (R : MR) (r : Bool) (h : F_X12_turns N x0 x1 x2 x3 I L R = some (r)) : Cn l D cA ad bs X yX12_turns cX12_turns 4 (some .boolean) 3 66 [.ref (ad x0), .int x1, .int x2, .int x3] I L R (some (.int (b2i r)), I, L, R) := by
  refine Cn.ofV hAd hX [(0, .ref (ad x0)), (1, .int x1), (2, .int x2), (3, .int x3)] rfl (Nat.le_of_ble_eq_true rfl) (by decide) ?_
  intro G el eD ecA ead ebs eX erm eNL C0
  subst el eD ecA ead ebs eX
  unfold F_X12_turns at h
  obtain ⟨c_x0, h⟩ := ite_some h
  refine V_aload_n C0 0 rfl rfl dX12_turns_0 ?_
  refine V_iload_n C0 1 rfl rfl dX12_turns_1 ?_
  refine V_iload_n C0 2 rfl rfl dX12_turns_2 ?_
  obtain ⟨b1, q2, h⟩ := bn1_some h
  refine V_callV C0 (st := []) (As := [.int x1, .int x2]) 11 (c_X12_isA G.l G.D G.cA G.ad G.bs G.X C0.2.2.2.2.2.2.2.2.2.1 C0.2.2.2.2.2.2.2.2.2.2.2.2 N x0 x1 x2 I L R b1 q2) lc_X12_isA lk_X12_217 c_x0.2 c_x0.1 ⟨_, rfl, rfl⟩ rfl (by rw [erm]; decide) (Nat.le_of_ble_eq_true rfl) dX12_turns_3 ?_
  show V G _ 6 [(0, .ref (G.ad x0)), (1, .int x1), (2, .int x2), (3, .int x3)] [.int (b2i b1)] I L R
  refine V_if_eq C0 (tgt := 32) (by decide) dX12_turns_6 (fun c3 => ?_) (fun c3 => ?_)
  · have h := (if_pos c3).symm.trans h
    refine V_iconst C0 (v := (0 : Int32)) (by decide) dX12_turns_32 ?_
    cases h
    exact V_zret C0 (by decide) dX12_turns_33
  · have h := (if_neg c3).symm.trans h
    refine V_aload_n C0 0 rfl rfl dX12_turns_9 ?_
    refine V_iload_n C0 1 rfl rfl dX12_turns_10 ?_
    obtain ⟨b4, q5, h⟩ := bn1_some h
    refine V_callV C0 (st := []) (As := [.int x1]) 11 (c_X12_isOn G.l G.D G.cA G.ad G.bs G.X C0.2.2.2.2.2.2.2.2.2.1 C0.2.2.2.2.2.2.2.2.2.2.2.2 N x0 x1 I L R b4 q5) lc_X12_isOn lk_X12_393 c_x0.2 c_x0.1 ⟨_, rfl, rfl⟩ rfl (by rw [erm]; decide) (Nat.le_of_ble_eq_true rfl) dX12_turns_11 ?_
    show V G _ 14 [(0, .ref (G.ad x0)), (1, .int x1), (2, .int x2), (3, .int x3)] [.int (b2i b4)] I L R
    refine V_if_eq C0 (tgt := 32) (by decide) dX12_turns_14 (fun c6 => ?_) (fun c6 => ?_)
    · have h := (if_pos c6).symm.trans h
      refine V_iconst C0 (v := (0 : Int32)) (by decide) dX12_turns_32 ?_
      cases h
      exact V_zret C0 (by decide) dX12_turns_33
    · have h := (if_neg c6).symm.trans h
      refine V_aload_n C0 0 rfl rfl dX12_turns_17 ?_
      refine V_iload_n C0 1 rfl rfl dX12_turns_18 ?_
      refine V_bipush C0 (v := (35 : Int32)) (by decide) dX12_turns_19 ?_
      obtain ⟨v7, q8, h⟩ := bn1_some h
      refine V_callV C0 (st := []) (As := [.int x1, .int (35 : Int32)]) 11 (c_X12_get G.l G.D G.cA G.ad G.bs G.X C0.2.2.2.2.2.2.2.2.2.1 C0.2.2.2.2.2.2.2.2.2.2.2.2 x0 x1 (35 : Int32) I L R v7 q8) lc_X12_get lk_X12_211 c_x0.2 c_x0.1 ⟨_, rfl, rfl⟩ rfl (by rw [erm]; decide) (Nat.le_of_ble_eq_true rfl) dX12_turns_21 ?_
      show V G _ 24 [(0, .ref (G.ad x0)), (1, .int x1), (2, .int x2), (3, .int x3)] [.int v7] I L R
      refine V_iload_n C0 3 rfl rfl dX12_turns_24 ?_
      refine V_icmp_ne C0 (tgt := 32) (by decide) dX12_turns_25 (fun c9 => ?_) (fun c9 => ?_)
      · have h := (if_neg c9).symm.trans h
        refine V_iconst C0 (v := (0 : Int32)) (by decide) dX12_turns_32 ?_
        cases h
        exact V_zret C0 (by decide) dX12_turns_33
      · have h := (if_pos c9).symm.trans h
        refine V_iconst C0 (v := (1 : Int32)) (by decide) dX12_turns_28 ?_
        refine V_goto C0 (tgt := 33) (by decide) dX12_turns_29 ?_
        cases h
        exact V_zret C0 (by decide) dX12_turns_33
theorem dX12_firstJet_0 : decode cX12_firstJet 0 = .ok (.iconst (-1), 1) := by decide +kernel
theorem dX12_firstJet_1 : decode cX12_firstJet 1 = .ok (.istore_n 2, 1) := by decide +kernel
theorem dX12_firstJet_2 : decode cX12_firstJet 2 = .ok (.aload_n 0, 1) := by decide +kernel
theorem dX12_firstJet_3 : decode cX12_firstJet 3 = .ok (.getfield 297, 3) := by decide +kernel
theorem dX12_firstJet_6 : decode cX12_firstJet 6 = .ok (.iconst 1, 1) := by decide +kernel
theorem dX12_firstJet_7 : decode cX12_firstJet 7 = .ok (.isub, 1) := by decide +kernel
theorem dX12_firstJet_8 : decode cX12_firstJet 8 = .ok (.istore_n 3, 1) := by decide +kernel
theorem dX12_firstJet_9 : decode cX12_firstJet 9 = .ok (.iload_n 3, 1) := by decide +kernel
theorem dX12_firstJet_10 : decode cX12_firstJet 10 = .ok (.ifCond .lt 113, 3) := by decide +kernel
theorem dX12_firstJet_13 : decode cX12_firstJet 13 = .ok (.aload_n 0, 1) := by decide +kernel
theorem dX12_firstJet_14 : decode cX12_firstJet 14 = .ok (.iload_n 3, 1) := by decide +kernel
theorem dX12_firstJet_15 : decode cX12_firstJet 15 = .ok (.bipush 18, 2) := by decide +kernel
theorem dX12_firstJet_17 : decode cX12_firstJet 17 = .ok (.iload_n 1, 1) := by decide +kernel
theorem dX12_firstJet_18 : decode cX12_firstJet 18 = .ok (.invokevirtual 405, 3) := by decide +kernel
theorem dX12_firstJet_21 : decode cX12_firstJet 21 = .ok (.ifCond .eq 44, 3) := by decide +kernel
theorem dX12_firstJet_24 : decode cX12_firstJet 24 = .ok (.aload_n 0, 1) := by decide +kernel
theorem dX12_firstJet_25 : decode cX12_firstJet 25 = .ok (.aload_n 0, 1) := by decide +kernel
theorem dX12_firstJet_26 : decode cX12_firstJet 26 = .ok (.iload_n 3, 1) := by decide +kernel
theorem dX12_firstJet_27 : decode cX12_firstJet 27 = .ok (.bipush 27, 2) := by decide +kernel
theorem dX12_firstJet_29 : decode cX12_firstJet 29 = .ok (.invokevirtual 211, 3) := by decide +kernel
theorem dX12_firstJet_32 : decode cX12_firstJet 32 = .ok (.invokevirtual 366, 3) := by decide +kernel
theorem dX12_firstJet_35 : decode cX12_firstJet 35 = .ok (.ifCond .eq 30, 3) := by decide +kernel
theorem dX12_firstJet_38 : decode cX12_firstJet 38 = .ok (.aload_n 0, 1) := by decide +kernel
theorem dX12_firstJet_39 : decode cX12_firstJet 39 = .ok (.aload_n 0, 1) := by decide +kernel
theorem dX12_firstJet_40 : decode cX12_firstJet 40 = .ok (.iload_n 3, 1) := by decide +kernel
theorem dX12_firstJet_41 : decode cX12_firstJet 41 = .ok (.bipush 27, 2) := by decide +kernel
theorem dX12_firstJet_43 : decode cX12_firstJet 43 = .ok (.invokevirtual 211, 3) := by decide +kernel
theorem dX12_firstJet_46 : decode cX12_firstJet 46 = .ok (.bipush 10, 2) := by decide +kernel
theorem dX12_firstJet_48 : decode cX12_firstJet 48 = .ok (.invokevirtual 211, 3) := by decide +kernel
theorem dX12_firstJet_51 : decode cX12_firstJet 51 = .ok (.aload_n 0, 1) := by decide +kernel
theorem dX12_firstJet_52 : decode cX12_firstJet 52 = .ok (.iload_n 3, 1) := by decide +kernel
theorem dX12_firstJet_53 : decode cX12_firstJet 53 = .ok (.bipush 47, 2) := by decide +kernel
theorem dX12_firstJet_55 : decode cX12_firstJet 55 = .ok (.invokevirtual 211, 3) := by decide +kernel
theorem dX12_firstJet_58 : decode cX12_firstJet 58 = .ok (.if_icmp .lt 7, 3) := by decide +kernel
theorem dX12_firstJet_61 : decode cX12_firstJet 61 = .ok (.iconst 1, 1) := by decide +kernel
theorem dX12_firstJet_62 : decode cX12_firstJet 62 = .ok (.goto 4, 3) := by decide +kernel
theorem dX12_firstJet_65 : decode cX12_firstJet 65 = .ok (.iconst 0, 1) := by decide +kernel
theorem dX12_firstJet_66 : decode cX12_firstJet 66 = .ok (.istore 4, 2) := by decide +kernel
theorem dX12_firstJet_68 : decode cX12_firstJet 68 = .ok (.iload 4, 2) := by decide +kernel
theorem dX12_firstJet_70 : decode cX12_firstJet 70 = .ok (.ifCond .eq 33, 3) := by decide +kernel
theorem dX12_firstJet_73 : decode cX12_firstJet 73 = .ok (.aload_n 0, 1) := by decide +kernel
theorem dX12_firstJet_74 : decode cX12_firstJet 74 = .ok (.iload_n 3, 1) := by decide +kernel
theorem dX12_firstJet_75 : decode cX12_firstJet 75 = .ok (.iconst 0, 1) := by decide +kernel
theorem dX12_firstJet_76 : decode cX12_firstJet 76 = .ok (.invokevirtual 211, 3) := by decide +kernel
theorem dX12_firstJet_79 : decode cX12_firstJet 79 = .ok (.bipush 19, 2) := by decide +kernel
theorem dX12_firstJet_81 : decode cX12_firstJet 81 = .ok (.if_icmp .ne 18, 3) := by decide +kernel
theorem dX12_firstJet_84 : decode cX12_firstJet 84 = .ok (.aload_n 0, 1) := by decide +kernel
theorem dX12_firstJet_85 : decode cX12_firstJet 85 = .ok (.getfield 306, 3) := by decide +kernel
theorem dX12_firstJet_88 : decode cX12_firstJet 88 = .ok (.aload_n 0, 1) := by decide +kernel
theorem dX12_firstJet_89 : decode cX12_firstJet 89 = .ok (.iload_n 3, 1) := by decide +kernel
theorem dX12_firstJet_90 : decode cX12_firstJet 90 = .ok (.bipush 48, 2) := by decide +kernel
theorem dX12_firstJet_92 : decode cX12_firstJet 92 = .ok (.invokevirtual 211, 3) := by decide +kernel
theorem dX12_firstJet_95 : decode cX12_firstJet 95 = .ok (.irem, 1) := by decide +kernel
theorem dX12_firstJet_96 : decode cX12_firstJet 96 = .ok (.ifCond .ne 7, 3) := by decide +kernel
theorem dX12_firstJet_99 : decode cX12_firstJet 99 = .ok (.iconst 1, 1) := by decide +kernel
theorem dX12_firstJet_100 : decode cX12_firstJet 100 = .ok (.goto 4, 3) := by decide +kernel
theorem dX12_firstJet_103 : decode cX12_firstJet 103 = .ok (.iconst 0, 1) := by decide +kernel
theorem dX12_firstJet_104 : decode cX12_firstJet 104 = .ok (.istore 4, 2) := by decide +kernel
theorem dX12_firstJet_106 : decode cX12_firstJet 106 = .ok (.iload 4, 2) := by decide +kernel
theorem dX12_firstJet_108 : decode cX12_firstJet 108 = .ok (.ifCond .eq 7, 3) := by decide +kernel
theorem dX12_firstJet_111 : decode cX12_firstJet 111 = .ok (.iload_n 3, 1) := by decide +kernel
theorem dX12_firstJet_112 : decode cX12_firstJet 112 = .ok (.goto 4, 3) := by decide +kernel
theorem dX12_firstJet_115 : decode cX12_firstJet 115 = .ok (.iload_n 2, 1) := by decide +kernel
theorem dX12_firstJet_116 : decode cX12_firstJet 116 = .ok (.istore_n 2, 1) := by decide +kernel
theorem dX12_firstJet_117 : decode cX12_firstJet 117 = .ok (.iinc 3 (-1), 3) := by decide +kernel
theorem dX12_firstJet_120 : decode cX12_firstJet 120 = .ok (.goto (-111), 3) := by decide +kernel
theorem dX12_firstJet_123 : decode cX12_firstJet 123 = .ok (.iload_n 2, 1) := by decide +kernel
theorem dX12_firstJet_124 : decode cX12_firstJet 124 = .ok (.ireturn, 1) := by decide +kernel
def LF_X12_firstJet_9 (N : Nat) : Nat → Nat → Int32 → Int32 → Int32 → MI → ML → MR → Option (Int32)
  | 0, _, _, _, _, _, _, _ => none
  | k + 1, y0, y1, y2, y3, I, L, R =>
    if y3 < 0 then
      some (y2)
    else
      bn1 (F_X12_turns N y0 y3 (18 : Int32) y1 I L R) fun b3 =>
      bn1 (
        if (b2i b3) = 0 then
          some ((0 : Int32))
        else
          bn1 (F_X12_get y0 y3 (27 : Int32) I L R) fun v9 =>
          bn1 (F_X12_isWhole y0 v9 I L R) fun b11 =>
          bn1 (
            if (b2i b11) = 0 then
              some ((0 : Int32))
            else
              bn1 (F_X12_get y0 y3 (27 : Int32) I L R) fun v17 =>
              bn1 (F_X12_get y0 v17 (10 : Int32) I L R) fun v19 =>
              bn1 (F_X12_get y0 y3 (47 : Int32) I L R) fun v21 =>
              bn1 (
                if v19 < v21 then
                  some ((0 : Int32))
                else
                  some ((1 : Int32))
              ) fun (s23 : Int32) =>
              some (s23)
          ) fun (s13 : Int32) =>
          some (s13)
      ) fun (s5 : Int32) =>
      bn1 (
        if s5 = 0 then
          some ((0 : Int32))
        else
          bn1 (F_X12_get y0 y3 (0 : Int32) I L R) fun v31 =>
          bn1 (
            if v31 = (19 : Int32) then
              bn1 (F_X12_get y0 y3 (48 : Int32) I L R) fun v37 =>
              if v37 = 0 then none else
              bn1 (
                if (iR (I y0 34) v37) = 0 then
                  some ((1 : Int32))
                else
                  some ((0 : Int32))
              ) fun (s40 : Int32) =>
              some (s40)
            else
              some ((1 : Int32))
          ) fun (s33 : Int32) =>
          some (s33)
      ) fun (s27 : Int32) =>
      bn1 (
        if s27 = 0 then
          some (y2)
        else
          some (y3)
      ) fun (s44 : Int32) =>
      wr (y3 + (-1 : Int32)) fun (u48 : Int32) =>
      LF_X12_firstJet_9 N k y0 y1 s44 u48 I L R
def F_X12_firstJet (N : Nat) (x0 : Nat) (x1 : Int32) (I : MI) (L : ML) (R : MR) : Option (Int32) :=
  if kd x0 = 11 ∧ x0 < NN then
  wr ((I x0 21) - (1 : Int32)) fun (u1 : Int32) =>
  bn1 (LF_X12_firstJet_9 N N x0 x1 (-1 : Int32) u1 I L R) fun z49 =>
  some (z49)
  else none
set_option maxRecDepth 100000 in
set_option maxHeartbeats 4000000 in
theorem lp_X12_firstJet_9 {G : Gm} (C0 : Cx G (yX12_firstJet.cls) cX12_firstJet (some .int)) (eNL : G.nL = 5) (erm : G.rm = ({ frames := 4, cells := 0, slots := 0, locals := 89 } : Room)) (N : Nat) : ∀ (k : Nat) (y0 : Nat) (y1 : Int32) (y2 : Int32) (y3 : Int32) (I : MI) (L : ML) (R : MR) (z : Int32) (hk0 : kd y0 = 11) (ho0 : y0 < NN), LF_X12_firstJet_9 N k y0 y1 y2 y3 I L R = some z → ∀ f : State → Prop, V G f 123 [(2, .int z)] [] I L R → V G f 9 [(0, .ref (G.ad y0)), (1, .int y1), (2, .int y2), (3, .int y3)] [] I L R := by
  intro k
  induction k with
  | zero =>
    intro y0 y1 y2 y3 I L R q hk0 ho0 h
    exact absurd h (by simp [LF_X12_firstJet_9])
  | succ k ih =>
    intro y0 y1 y2 y3 I L R q hk0 ho0 h f kx
    rw [LF_X12_firstJet_9] at h
    refine V_iload_n C0 3 rfl rfl dX12_firstJet_9 ?_
    refine V_if_lt C0 (tgt := 123) (by decide) dX12_firstJet_10 (fun c2 => ?_) (fun c2 => ?_)
    · have h := (if_pos c2).symm.trans h
      cases h
      exact V_sub [2] rfl kx
    · have h := (if_neg c2).symm.trans h
      refine V_aload_n C0 0 rfl rfl dX12_firstJet_13 ?_
      refine V_iload_n C0 3 rfl rfl dX12_firstJet_14 ?_
      refine V_bipush C0 (v := (18 : Int32)) (by decide) dX12_firstJet_15 ?_
      refine V_iload_n C0 1 rfl rfl dX12_firstJet_17 ?_
      obtain ⟨b3, q4, h⟩ := bn1_some h
      refine V_callV C0 (st := []) (As := [.int y3, .int (18 : Int32), .int y1]) 11 (c_X12_turns G.l G.D G.cA G.ad G.bs G.X C0.2.2.2.2.2.2.2.2.2.1 C0.2.2.2.2.2.2.2.2.2.2.2.2 N y0 y3 (18 : Int32) y1 I L R b3 q4) lc_X12_turns lk_X12_405 ho0 hk0 ⟨_, rfl, rfl⟩ rfl (by rw [erm]; decide) (Nat.le_of_ble_eq_true rfl) dX12_firstJet_18 ?_
      show V G _ 21 [(0, .ref (G.ad y0)), (1, .int y1), (2, .int y2), (3, .int y3)] [.int (b2i b3)] I L R
      obtain ⟨s5, q6, h⟩ := bn1_some h
      have k7 : V G f 66 [(0, .ref (G.ad y0)), (1, .int y1), (2, .int y2), (3, .int y3)] [.int s5] I L R := by
        refine V_istore C0 [(4, .int s5), (0, .ref (G.ad y0)), (1, .int y1), (2, .int y2), (3, .int y3)] (by rw [eNL]; decide) rfl dX12_firstJet_66 ?_
        refine V_iload C0 0 rfl dX12_firstJet_68 ?_
        obtain ⟨s27, q28, h⟩ := bn1_some h
        have k29 : V G f 104 [(0, .ref (G.ad y0)), (1, .int y1), (2, .int y2), (3, .int y3)] [.int s27] I L R := by
          refine V_istore C0 [(4, .int s27), (0, .ref (G.ad y0)), (1, .int y1), (2, .int y2), (3, .int y3)] (by rw [eNL]; decide) rfl dX12_firstJet_104 ?_
          refine V_iload C0 0 rfl dX12_firstJet_106 ?_
          obtain ⟨s44, q45, h⟩ := bn1_some h
          have k46 : V G f 116 [(0, .ref (G.ad y0)), (1, .int y1), (3, .int y3)] [.int s44] I L R := by
            refine V_istore_n C0 [(2, .int s44), (0, .ref (G.ad y0)), (1, .int y1), (3, .int y3)] rfl (by rw [eNL]; decide) rfl dX12_firstJet_116 ?_
            obtain ⟨u48, eu48, h⟩ := wr_some h
            refine V_iinc C0 3 [(3, .int u48), (2, .int s44), (0, .ref (G.ad y0)), (1, .int y1)] rfl (n := -1) (by rw [eu48]; rfl) (by rw [eNL]; decide) rfl dX12_firstJet_117 ?_
            refine V_goto C0 (tgt := 9) (by decide) dX12_firstJet_120 ?_
            exact V_sub [2, 3, 1, 0] rfl (ih y0 y1 s44 u48 I L R _ hk0 ho0 h f kx)
          refine V_if_eq C0 (tgt := 115) (by decide) dX12_firstJet_108 (fun c47 => ?_) (fun c47 => ?_)
          · have q45 := (if_pos c47).symm.trans q45
            refine V_iload_n C0 3 rfl rfl dX12_firstJet_115 ?_
            cases q45
            exact V_sub [1, 2, 4] rfl k46
          · have q45 := (if_neg c47).symm.trans q45
            refine V_iload_n C0 4 rfl rfl dX12_firstJet_111 ?_
            refine V_goto C0 (tgt := 116) (by decide) dX12_firstJet_112 ?_
            cases q45
            exact V_sub [1, 2, 4] rfl k46
        refine V_if_eq C0 (tgt := 103) (by decide) dX12_firstJet_70 (fun c30 => ?_) (fun c30 => ?_)
        · have q28 := (if_pos c30).symm.trans q28
          refine V_iconst C0 (v := (0 : Int32)) (by decide) dX12_firstJet_103 ?_
          cases q28
          exact V_sub [1, 2, 3, 4] rfl k29
        · have q28 := (if_neg c30).symm.trans q28
          refine V_aload_n C0 1 rfl rfl dX12_firstJet_73 ?_
          refine V_iload_n C0 4 rfl rfl dX12_firstJet_74 ?_
          refine V_iconst C0 (v := (0 : Int32)) (by decide) dX12_firstJet_75 ?_
          obtain ⟨v31, q32, q28⟩ := bn1_some q28
          refine V_callV C0 (st := []) (As := [.int y3, .int (0 : Int32)]) 11 (c_X12_get G.l G.D G.cA G.ad G.bs G.X C0.2.2.2.2.2.2.2.2.2.1 C0.2.2.2.2.2.2.2.2.2.2.2.2 y0 y3 (0 : Int32) I L R v31 q32) lc_X12_get lk_X12_211 ho0 hk0 ⟨_, rfl, rfl⟩ rfl (by rw [erm]; decide) (Nat.le_of_ble_eq_true rfl) dX12_firstJet_76 ?_
          show V G _ 79 [(4, .int s5), (0, .ref (G.ad y0)), (1, .int y1), (2, .int y2), (3, .int y3)] [.int v31] I L R
          refine V_bipush C0 (v := (19 : Int32)) (by decide) dX12_firstJet_79 ?_
          obtain ⟨s33, q34, q28⟩ := bn1_some q28
          have k35 : V G f 104 [(0, .ref (G.ad y0)), (1, .int y1), (2, .int y2), (3, .int y3)] [.int s33] I L R := by
            cases q28
            exact V_sub [0, 1, 2, 3] rfl k29
          refine V_icmp_ne C0 (tgt := 99) (by decide) dX12_firstJet_81 (fun c36 => ?_) (fun c36 => ?_)
          · have q34 := (if_neg c36).symm.trans q34
            refine V_iconst C0 (v := (1 : Int32)) (by decide) dX12_firstJet_99 ?_
            refine V_goto C0 (tgt := 104) (by decide) dX12_firstJet_100 ?_
            cases q34
            exact V_sub [1, 2, 3, 4] rfl k35
          · have q34 := (if_pos c36).symm.trans q34
            refine V_aload_n C0 1 rfl rfl dX12_firstJet_84 ?_
            refine V_getI C0 11 34 fl_X12_306 ho0 hk0 rfl dX12_firstJet_85 ?_
            refine V_aload_n C0 1 rfl rfl dX12_firstJet_88 ?_
            refine V_iload_n C0 4 rfl rfl dX12_firstJet_89 ?_
            refine V_bipush C0 (v := (48 : Int32)) (by decide) dX12_firstJet_90 ?_
            obtain ⟨v37, q38, q34⟩ := bn1_some q34
            refine V_callV C0 (st := [.int (I y0 34)]) (As := [.int y3, .int (48 : Int32)]) 11 (c_X12_get G.l G.D G.cA G.ad G.bs G.X C0.2.2.2.2.2.2.2.2.2.1 C0.2.2.2.2.2.2.2.2.2.2.2.2 y0 y3 (48 : Int32) I L R v37 q38) lc_X12_get lk_X12_211 ho0 hk0 ⟨_, rfl, rfl⟩ rfl (by rw [erm]; decide) (Nat.le_of_ble_eq_true rfl) dX12_firstJet_92 ?_
            show V G _ 95 [(4, .int s5), (0, .ref (G.ad y0)), (1, .int y1), (2, .int y2), (3, .int y3)] [.int v37, .int (I y0 34)] I L R
            obtain ⟨c39, q34⟩ := ite_none q34
            refine V_irem C0 c39 dX12_firstJet_95 ?_
            obtain ⟨s40, q41, q34⟩ := bn1_some q34
            have k42 : V G f 104 [(0, .ref (G.ad y0)), (1, .int y1), (2, .int y2), (3, .int y3)] [.int s40] I L R := by
              cases q34
              exact V_sub [0, 1, 2, 3] rfl k35
            refine V_if_ne C0 (tgt := 103) (by decide) dX12_firstJet_96 (fun c43 => ?_) (fun c43 => ?_)
            · have q41 := (if_neg c43).symm.trans q41
              refine V_iconst C0 (v := (0 : Int32)) (by decide) dX12_firstJet_103 ?_
              cases q41
              exact V_sub [1, 2, 3, 4] rfl k42
            · have q41 := (if_pos c43).symm.trans q41
              refine V_iconst C0 (v := (1 : Int32)) (by decide) dX12_firstJet_99 ?_
              refine V_goto C0 (tgt := 104) (by decide) dX12_firstJet_100 ?_
              cases q41
              exact V_sub [1, 2, 3, 4] rfl k42
      refine V_if_eq C0 (tgt := 65) (by decide) dX12_firstJet_21 (fun c8 => ?_) (fun c8 => ?_)
      · have q6 := (if_pos c8).symm.trans q6
        refine V_iconst C0 (v := (0 : Int32)) (by decide) dX12_firstJet_65 ?_
        cases q6
        exact V_sub [0, 1, 2, 3] rfl k7
      · have q6 := (if_neg c8).symm.trans q6
        refine V_aload_n C0 0 rfl rfl dX12_firstJet_24 ?_
        refine V_aload_n C0 0 rfl rfl dX12_firstJet_25 ?_
        refine V_iload_n C0 3 rfl rfl dX12_firstJet_26 ?_
        refine V_bipush C0 (v := (27 : Int32)) (by decide) dX12_firstJet_27 ?_
        obtain ⟨v9, q10, q6⟩ := bn1_some q6
        refine V_callV C0 (st := [.ref (G.ad y0)]) (As := [.int y3, .int (27 : Int32)]) 11 (c_X12_get G.l G.D G.cA G.ad G.bs G.X C0.2.2.2.2.2.2.2.2.2.1 C0.2.2.2.2.2.2.2.2.2.2.2.2 y0 y3 (27 : Int32) I L R v9 q10) lc_X12_get lk_X12_211 ho0 hk0 ⟨_, rfl, rfl⟩ rfl (by rw [erm]; decide) (Nat.le_of_ble_eq_true rfl) dX12_firstJet_29 ?_
        show V G _ 32 [(0, .ref (G.ad y0)), (1, .int y1), (2, .int y2), (3, .int y3)] [.int v9, .ref (G.ad y0)] I L R
        obtain ⟨b11, q12, q6⟩ := bn1_some q6
        refine V_callV C0 (st := []) (As := [.int v9]) 11 (c_X12_isWhole G.l G.D G.cA G.ad G.bs G.X C0.2.2.2.2.2.2.2.2.2.1 C0.2.2.2.2.2.2.2.2.2.2.2.2 y0 v9 I L R b11 q12) lc_X12_isWhole lk_X12_366 ho0 hk0 ⟨_, rfl, rfl⟩ rfl (by rw [erm]; decide) (Nat.le_of_ble_eq_true rfl) dX12_firstJet_32 ?_
        show V G _ 35 [(0, .ref (G.ad y0)), (1, .int y1), (2, .int y2), (3, .int y3)] [.int (b2i b11)] I L R
        obtain ⟨s13, q14, q6⟩ := bn1_some q6
        have k15 : V G f 66 [(0, .ref (G.ad y0)), (1, .int y1), (2, .int y2), (3, .int y3)] [.int s13] I L R := by
          cases q6
          exact V_sub [0, 1, 2, 3] rfl k7
        refine V_if_eq C0 (tgt := 65) (by decide) dX12_firstJet_35 (fun c16 => ?_) (fun c16 => ?_)
        · have q14 := (if_pos c16).symm.trans q14
          refine V_iconst C0 (v := (0 : Int32)) (by decide) dX12_firstJet_65 ?_
          cases q14
          exact V_sub [0, 1, 2, 3] rfl k15
        · have q14 := (if_neg c16).symm.trans q14
          refine V_aload_n C0 0 rfl rfl dX12_firstJet_38 ?_
          refine V_aload_n C0 0 rfl rfl dX12_firstJet_39 ?_
          refine V_iload_n C0 3 rfl rfl dX12_firstJet_40 ?_
          refine V_bipush C0 (v := (27 : Int32)) (by decide) dX12_firstJet_41 ?_
          obtain ⟨v17, q18, q14⟩ := bn1_some q14
          refine V_callV C0 (st := [.ref (G.ad y0)]) (As := [.int y3, .int (27 : Int32)]) 11 (c_X12_get G.l G.D G.cA G.ad G.bs G.X C0.2.2.2.2.2.2.2.2.2.1 C0.2.2.2.2.2.2.2.2.2.2.2.2 y0 y3 (27 : Int32) I L R v17 q18) lc_X12_get lk_X12_211 ho0 hk0 ⟨_, rfl, rfl⟩ rfl (by rw [erm]; decide) (Nat.le_of_ble_eq_true rfl) dX12_firstJet_43 ?_
          show V G _ 46 [(0, .ref (G.ad y0)), (1, .int y1), (2, .int y2), (3, .int y3)] [.int v17, .ref (G.ad y0)] I L R
          refine V_bipush C0 (v := (10 : Int32)) (by decide) dX12_firstJet_46 ?_
          obtain ⟨v19, q20, q14⟩ := bn1_some q14
          refine V_callV C0 (st := []) (As := [.int v17, .int (10 : Int32)]) 11 (c_X12_get G.l G.D G.cA G.ad G.bs G.X C0.2.2.2.2.2.2.2.2.2.1 C0.2.2.2.2.2.2.2.2.2.2.2.2 y0 v17 (10 : Int32) I L R v19 q20) lc_X12_get lk_X12_211 ho0 hk0 ⟨_, rfl, rfl⟩ rfl (by rw [erm]; decide) (Nat.le_of_ble_eq_true rfl) dX12_firstJet_48 ?_
          show V G _ 51 [(0, .ref (G.ad y0)), (1, .int y1), (2, .int y2), (3, .int y3)] [.int v19] I L R
          refine V_aload_n C0 0 rfl rfl dX12_firstJet_51 ?_
          refine V_iload_n C0 3 rfl rfl dX12_firstJet_52 ?_
          refine V_bipush C0 (v := (47 : Int32)) (by decide) dX12_firstJet_53 ?_
          obtain ⟨v21, q22, q14⟩ := bn1_some q14
          refine V_callV C0 (st := [.int v19]) (As := [.int y3, .int (47 : Int32)]) 11 (c_X12_get G.l G.D G.cA G.ad G.bs G.X C0.2.2.2.2.2.2.2.2.2.1 C0.2.2.2.2.2.2.2.2.2.2.2.2 y0 y3 (47 : Int32) I L R v21 q22) lc_X12_get lk_X12_211 ho0 hk0 ⟨_, rfl, rfl⟩ rfl (by rw [erm]; decide) (Nat.le_of_ble_eq_true rfl) dX12_firstJet_55 ?_
          show V G _ 58 [(0, .ref (G.ad y0)), (1, .int y1), (2, .int y2), (3, .int y3)] [.int v21, .int v19] I L R
          obtain ⟨s23, q24, q14⟩ := bn1_some q14
          have k25 : V G f 66 [(0, .ref (G.ad y0)), (1, .int y1), (2, .int y2), (3, .int y3)] [.int s23] I L R := by
            cases q14
            exact V_sub [0, 1, 2, 3] rfl k15
          refine V_icmp_lt C0 (tgt := 65) (by decide) dX12_firstJet_58 (fun c26 => ?_) (fun c26 => ?_)
          · have q24 := (if_pos c26).symm.trans q24
            refine V_iconst C0 (v := (0 : Int32)) (by decide) dX12_firstJet_65 ?_
            cases q24
            exact V_sub [0, 1, 2, 3] rfl k25
          · have q24 := (if_neg c26).symm.trans q24
            refine V_iconst C0 (v := (1 : Int32)) (by decide) dX12_firstJet_61 ?_
            refine V_goto C0 (tgt := 66) (by decide) dX12_firstJet_62 ?_
            cases q24
            exact V_sub [0, 1, 2, 3] rfl k25
set_option maxRecDepth 100000 in
set_option maxHeartbeats 4000000 in
theorem c_X12_firstJet (l : Launch) (D : va_G) (cA : Nat → ClassId) (ad : Nat → Nat) (bs : Nat) (X : State → Prop) (hAd : Ax ad bs) (hX : Stb bs X) (N : Nat) (x0 : Nat) (x1 : Int32) (I : MI) (L : ML) (R : MR) (r : Int32) (h : F_X12_firstJet N x0 x1 I L R = some (r)) : Cn l D cA ad bs X yX12_firstJet cX12_firstJet 5 (some .int) 4 89 [.ref (ad x0), .int x1] I L R (some (.int r), I, L, R) := by
  refine Cn.ofV hAd hX [(0, .ref (ad x0)), (1, .int x1)] rfl (Nat.le_of_ble_eq_true rfl) (by decide) ?_
  intro G el eD ecA ead ebs eX erm eNL C0
  subst el eD ecA ead ebs eX
  unfold F_X12_firstJet at h
  obtain ⟨c_x0, h⟩ := ite_some h
  refine V_iconst C0 (v := (-1 : Int32)) (by decide) dX12_firstJet_0 ?_
  refine V_istore_n C0 [(2, .int (-1 : Int32)), (0, .ref (G.ad x0)), (1, .int x1)] rfl (by rw [eNL]; decide) rfl dX12_firstJet_1 ?_
  refine V_aload_n C0 1 rfl rfl dX12_firstJet_2 ?_
  refine V_getI C0 11 21 fl_X12_297 c_x0.2 c_x0.1 rfl dX12_firstJet_3 ?_
  refine V_iconst C0 (v := (1 : Int32)) (by decide) dX12_firstJet_6 ?_
  refine V_isub C0 dX12_firstJet_7 ?_
  obtain ⟨u1, eu1, h⟩ := wr_some h
  rw [← eu1]
  refine V_istore_n C0 [(3, .int u1), (2, .int (-1 : Int32)), (0, .ref (G.ad x0)), (1, .int x1)] rfl (by rw [eNL]; decide) rfl dX12_firstJet_8 ?_
  obtain ⟨z49, q50, h⟩ := bn1_some h
  refine V_sub [2, 3, 1, 0] rfl (lp_X12_firstJet_9 C0 eNL erm N N x0 x1 (-1 : Int32) u1 I L R _ c_x0.1 c_x0.2 q50 _ ?_)
  show V G _ 123 [(2, .int z49)] [] I L R
  refine V_iload_n C0 0 rfl rfl dX12_firstJet_123 ?_
  cases h
  exact V_iret C0 dX12_firstJet_124
