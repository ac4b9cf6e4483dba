theorem dX12_goesDown_0 : decode cX12_goesDown 0 = .ok (.aload_n 0, 1) := by decide +kernel
theorem dX12_goesDown_1 : decode cX12_goesDown 1 = .ok (.getfield 77, 3) := by decide +kernel
theorem dX12_goesDown_4 : decode cX12_goesDown 4 = .ok (.aload_n 0, 1) := by decide +kernel
theorem dX12_goesDown_5 : decode cX12_goesDown 5 = .ok (.getfield 324, 3) := by decide +kernel
theorem dX12_goesDown_8 : decode cX12_goesDown 8 = .ok (.sipush 500, 3) := by decide +kernel
theorem dX12_goesDown_11 : decode cX12_goesDown 11 = .ok (.irem, 1) := by decide +kernel
theorem dX12_goesDown_12 : decode cX12_goesDown 12 = .ok (.iload_n 2, 1) := by decide +kernel
theorem dX12_goesDown_13 : decode cX12_goesDown 13 = .ok (.iastore, 1) := by decide +kernel
theorem dX12_goesDown_14 : decode cX12_goesDown 14 = .ok (.aload_n 0, 1) := by decide +kernel
theorem dX12_goesDown_15 : decode cX12_goesDown 15 = .ok (.dup, 1) := by decide +kernel
theorem dX12_goesDown_16 : decode cX12_goesDown 16 = .ok (.getfield 324, 3) := by decide +kernel
theorem dX12_goesDown_19 : decode cX12_goesDown 19 = .ok (.iconst 1, 1) := by decide +kernel
theorem dX12_goesDown_20 : decode cX12_goesDown 20 = .ok (.iadd, 1) := by decide +kernel
theorem dX12_goesDown_21 : decode cX12_goesDown 21 = .ok (.putfield 324, 3) := by decide +kernel
theorem dX12_goesDown_24 : decode cX12_goesDown 24 = .ok (.aload_n 0, 1) := by decide +kernel
theorem dX12_goesDown_25 : decode cX12_goesDown 25 = .ok (.iload_n 1, 1) := by decide +kernel
theorem dX12_goesDown_26 : decode cX12_goesDown 26 = .ok (.bipush 51, 2) := by decide +kernel
theorem dX12_goesDown_28 : decode cX12_goesDown 28 = .ok (.iconst 1, 1) := by decide +kernel
theorem dX12_goesDown_29 : decode cX12_goesDown 29 = .ok (.invokevirtual 259, 3) := by decide +kernel
theorem dX12_goesDown_32 : decode cX12_goesDown 32 = .ok (.return_, 1) := by decide +kernel
def F_X12_goesDown (x0 : Nat) (x1 : Int32) (x2 : Int32) (I : MI) (L : ML) (R : MR) : Option (MI) :=
  if kd x0 = 11 ∧ x0 < NN then
  (rf R x0 51 20).bind fun a1 =>
  (wi I a1 (iR (I x0 43) (500 : Int32)) x2).bind fun I2 =>
  wr (uI I2 x0 43 ((I2 x0 43) + (1 : Int32))) fun (I3 : MI) =>
  bn1 (F_X12_grow x0 x1 (51 : Int32) (1 : Int32) I3 L R) fun I4 =>
  some (I4)
  else none
set_option maxRecDepth 100000 in
set_option maxHeartbeats 4000000 in
theorem c_X12_goesDown (l : Launch) (D : va_G) (cA : Nat → ClassId) (ad : Nat → Nat) (bs : Nat) (X : State → Prop) (hAd : Ax ad bs) (hX : Stb bs X) (x0 : Nat) (x1 : Int32) (x2 : Int32) (I : MI) (L : ML) (R : MR) (I' : MI) (h : F_X12_goesDown x0 x1 x2 I L R = some (I')) : Cn l D cA ad bs X yX12_goesDown cX12_goesDown 3 none 1 23 [.ref (ad x0), .int x1, .int x2] I L R (none, I', L, R) := by
  refine Cn.ofV hAd hX [(0, .ref (ad x0)), (1, .int x1), (2, .int x2)] rfl (Nat.le_of_ble_eq_true rfl) (by decide) ?_
  intro G el eD ecA ead ebs eX erm eNL C0
  subst el eD ecA ead ebs eX
  unfold F_X12_goesDown at h
  obtain ⟨c_x0, h⟩ := ite_some h
  refine V_aload_n C0 0 rfl rfl dX12_goesDown_0 ?_
  obtain ⟨a1, qa1, h⟩ := bnd_some h
  refine V_getR C0 11 51 fl_X12_77 c_x0.2 c_x0.1 rfl (rf_at qa1) dX12_goesDown_1 ?_
  refine V_aload_n C0 0 rfl rfl dX12_goesDown_4 ?_
  refine V_getI C0 11 43 fl_X12_324 c_x0.2 c_x0.1 rfl dX12_goesDown_5 ?_
  refine V_sipush C0 (v := (500 : Int32)) (by decide) dX12_goesDown_8 ?_
  refine V_irem C0 (by decide) dX12_goesDown_11 ?_
  refine V_iload_n C0 2 rfl rfl dX12_goesDown_12 ?_
  obtain ⟨I2, qI2, h⟩ := bnd_some h
  refine V_wi C0 (rf_lt qa1) (rf_kd qa1) qI2 dX12_goesDown_13 ?_
  refine V_aload_n C0 0 rfl rfl dX12_goesDown_14 ?_
  refine V_dup C0 rfl dX12_goesDown_15 ?_
  refine V_getI C0 11 43 fl_X12_324 c_x0.2 c_x0.1 rfl dX12_goesDown_16 ?_
  refine V_iconst C0 (v := (1 : Int32)) (by decide) dX12_goesDown_19 ?_
  refine V_iadd C0 dX12_goesDown_20 ?_
  obtain ⟨I3, eI3, h⟩ := wr_some h
  refine V_putI C0 11 43 fp_X12_324 c_x0.2 c_x0.1 rfl dX12_goesDown_21 ?_
  rw [← eI3]
  refine V_aload_n C0 0 rfl rfl dX12_goesDown_24 ?_
  refine V_iload_n C0 1 rfl rfl dX12_goesDown_25 ?_
  refine V_bipush C0 (v := (51 : Int32)) (by decide) dX12_goesDown_26 ?_
  refine V_iconst C0 (v := (1 : Int32)) (by decide) dX12_goesDown_28 ?_
  obtain ⟨I4, q5, h⟩ := bn1_some h
  refine V_callV C0 (st := []) (As := [.int x1, .int (51 : Int32), .int (1 : Int32)]) 11 (c_X12_grow G.l G.D G.cA G.ad G.bs G.X C0.2.2.2.2.2.2.2.2.2.1 C0.2.2.2.2.2.2.2.2.2.2.2.2 x0 x1 (51 : Int32) (1 : Int32) I3 L R I4 q5) lc_X12_grow lk_X12_259 c_x0.2 c_x0.1 ⟨_, rfl, rfl⟩ rfl (by rw [erm]; decide) (Nat.le_of_ble_eq_true rfl) dX12_goesDown_29 ?_
  show V G _ 32 [(0, .ref (G.ad x0)), (1, .int x1), (2, .int x2)] [] I4 L R
  cases h
  exact V_vret C0 dX12_goesDown_32
theorem dX12_firstKeeping_0 : decode cX12_firstKeeping 0 = .ok (.iconst (-1), 1) := by decide +kernel
theorem dX12_firstKeeping_1 : decode cX12_firstKeeping 1 = .ok (.istore_n 1, 1) := by decide +kernel
theorem dX12_firstKeeping_2 : decode cX12_firstKeeping 2 = .ok (.aload_n 0, 1) := by decide +kernel
theorem dX12_firstKeeping_3 : decode cX12_firstKeeping 3 = .ok (.getfield 297, 3) := by decide +kernel
theorem dX12_firstKeeping_6 : decode cX12_firstKeeping 6 = .ok (.iconst 1, 1) := by decide +kernel
theorem dX12_firstKeeping_7 : decode cX12_firstKeeping 7 = .ok (.isub, 1) := by decide +kernel
theorem dX12_firstKeeping_8 : decode cX12_firstKeeping 8 = .ok (.istore_n 2, 1) := by decide +kernel
theorem dX12_firstKeeping_9 : decode cX12_firstKeeping 9 = .ok (.iload_n 2, 1) := by decide +kernel
theorem dX12_firstKeeping_10 : decode cX12_firstKeeping 10 = .ok (.ifCond .lt 42, 3) := by decide +kernel
theorem dX12_firstKeeping_13 : decode cX12_firstKeeping 13 = .ok (.aload_n 0, 1) := by decide +kernel
theorem dX12_firstKeeping_14 : decode cX12_firstKeeping 14 = .ok (.iload_n 2, 1) := by decide +kernel
theorem dX12_firstKeeping_15 : decode cX12_firstKeeping 15 = .ok (.iconst 5, 1) := by decide +kernel
theorem dX12_firstKeeping_16 : decode cX12_firstKeeping 16 = .ok (.invokevirtual 217, 3) := by decide +kernel
theorem dX12_firstKeeping_19 : decode cX12_firstKeeping 19 = .ok (.ifCond .eq 25, 3) := by decide +kernel
theorem dX12_firstKeeping_22 : decode cX12_firstKeeping 22 = .ok (.aload_n 0, 1) := by decide +kernel
theorem dX12_firstKeeping_23 : decode cX12_firstKeeping 23 = .ok (.iload_n 2, 1) := by decide +kernel
theorem dX12_firstKeeping_24 : decode cX12_firstKeeping 24 = .ok (.invokevirtual 366, 3) := by decide +kernel
theorem dX12_firstKeeping_27 : decode cX12_firstKeeping 27 = .ok (.ifCond .eq 17, 3) := by decide +kernel
theorem dX12_firstKeeping_30 : decode cX12_firstKeeping 30 = .ok (.aload_n 0, 1) := by decide +kernel
theorem dX12_firstKeeping_31 : decode cX12_firstKeeping 31 = .ok (.iload_n 2, 1) := by decide +kernel
theorem dX12_firstKeeping_32 : decode cX12_firstKeeping 32 = .ok (.bipush 10, 2) := by decide +kernel
theorem dX12_firstKeeping_34 : decode cX12_firstKeeping 34 = .ok (.invokevirtual 211, 3) := by decide +kernel
theorem dX12_firstKeeping_37 : decode cX12_firstKeeping 37 = .ok (.ifCond .le 7, 3) := by decide +kernel
theorem dX12_firstKeeping_40 : decode cX12_firstKeeping 40 = .ok (.iload_n 2, 1) := by decide +kernel
theorem dX12_firstKeeping_41 : decode cX12_firstKeeping 41 = .ok (.goto 4, 3) := by decide +kernel
theorem dX12_firstKeeping_44 : decode cX12_firstKeeping 44 = .ok (.iload_n 1, 1) := by decide +kernel
theorem dX12_firstKeeping_45 : decode cX12_firstKeeping 45 = .ok (.istore_n 1, 1) := by decide +kernel
theorem dX12_firstKeeping_46 : decode cX12_firstKeeping 46 = .ok (.iinc 2 (-1), 3) := by decide +kernel
theorem dX12_firstKeeping_49 : decode cX12_firstKeeping 49 = .ok (.goto (-40), 3) := by decide +kernel
theorem dX12_firstKeeping_52 : decode cX12_firstKeeping 52 = .ok (.iload_n 1, 1) := by decide +kernel
theorem dX12_firstKeeping_53 : decode cX12_firstKeeping 53 = .ok (.ireturn, 1) := by decide +kernel
def LF_X12_firstKeeping_9 (N : Nat) : Nat → Nat → Int32 → Int32 → MI → ML → MR → Option (Int32)
  | 0, _, _, _, _, _, _ => none
  | k + 1, y0, y1, y2, I, L, R =>
    if y2 < 0 then
      some (y1)
    else
      bn1 (F_X12_isA N y0 y2 (5 : Int32) I L R) fun b3 =>
      bn1 (
        if (b2i b3) = 0 then
          some (y1)
        else
          bn1 (F_X12_isWhole y0 y2 I L R) fun b9 =>
          bn1 (
            if (b2i b9) = 0 then
              some (y1)
            else
              bn1 (F_X12_get y0 y2 (10 : Int32) I L R) fun v15 =>
              bn1 (
                if v15 ≤ 0 then
                  some (y1)
                else
                  some (y2)
              ) fun (s17 : Int32) =>
              some (s17)
          ) fun (s11 : Int32) =>
          some (s11)
      ) fun (s5 : Int32) =>
      wr (y2 + (-1 : Int32)) fun (u21 : Int32) =>
      LF_X12_firstKeeping_9 N k y0 s5 u21 I L R
def F_X12_firstKeeping (N : Nat) (x0 : Nat) (I : MI) (L : ML) (R : MR) : Option (Int32) :=
  if kd x0 = 11 ∧ x0 < NN then
  wr ((I x0 21) - (1 : Int32)) fun (u1 : Int32) =>
  bn1 (LF_X12_firstKeeping_9 N N x0 (-1 : Int32) u1 I L R) fun z22 =>
  some (z22)
  else none
set_option maxRecDepth 100000 in
set_option maxHeartbeats 4000000 in
theorem lp_X12_firstKeeping_9 {G : Gm} (C0 : Cx G (yX12_firstKeeping.cls) cX12_firstKeeping (some .int)) (eNL : G.nL = 3) (erm : G.rm = ({ frames := 2, cells := 0, slots := 0, locals := 45 } : Room)) (N : Nat) : ∀ (k : Nat) (y0 : Nat) (y1 : Int32) (y2 : Int32) (I : MI) (L : ML) (R : MR) (z : Int32) (hk0 : kd y0 = 11) (ho0 : y0 < NN), LF_X12_firstKeeping_9 N k y0 y1 y2 I L R = some z → ∀ f : State → Prop, V G f 52 [(1, .int z)] [] I L R → V G f 9 [(0, .ref (G.ad y0)), (1, .int y1), (2, .int y2)] [] I L R := by
  intro k
  induction k with
  | zero =>
    intro y0 y1 y2 I L R q hk0 ho0 h
    exact absurd h (by simp [LF_X12_firstKeeping_9])
  | succ k ih =>
    intro y0 y1 y2 I L R q hk0 ho0 h f kx
    rw [LF_X12_firstKeeping_9] at h
    refine V_iload_n C0 2 rfl rfl dX12_firstKeeping_9 ?_
    refine V_if_lt C0 (tgt := 52) (by decide) dX12_firstKeeping_10 (fun c2 => ?_) (fun c2 => ?_)
    · have h := (if_pos c2).symm.trans h
      cases h
      exact V_sub [1] rfl kx
    · have h := (if_neg c2).symm.trans h
      refine V_aload_n C0 0 rfl rfl dX12_firstKeeping_13 ?_
      refine V_iload_n C0 2 rfl rfl dX12_firstKeeping_14 ?_
      refine V_iconst C0 (v := (5 : Int32)) (by decide) dX12_firstKeeping_15 ?_
      obtain ⟨b3, q4, h⟩ := bn1_some h
      refine V_callV C0 (st := []) (As := [.int y2, .int (5 : Int32)]) 11 (c_X12_isA G.l G.D G.cA G.ad G.bs G.X C0.2.2.2.2.2.2.2.2.2.1 C0.2.2.2.2.2.2.2.2.2.2.2.2 N y0 y2 (5 : Int32) I L R b3 q4) lc_X12_isA lk_X12_217 ho0 hk0 ⟨_, rfl, rfl⟩ rfl (by rw [erm]; decide) (Nat.le_of_ble_eq_true rfl) dX12_firstKeeping_16 ?_
      show V G _ 19 [(0, .ref (G.ad y0)), (1, .int y1), (2, .int y2)] [.int (b2i b3)] I L R
      obtain ⟨s5, q6, h⟩ := bn1_some h
      have k7 : V G f 45 [(0, .ref (G.ad y0)), (2, .int y2)] [.int s5] I L R := by
        refine V_istore_n C0 [(1, .int s5), (0, .ref (G.ad y0)), (2, .int y2)] rfl (by rw [eNL]; decide) rfl dX12_firstKeeping_45 ?_
        obtain ⟨u21, eu21, h⟩ := wr_some h
        refine V_iinc C0 2 [(2, .int u21), (1, .int s5), (0, .ref (G.ad y0))] rfl (n := -1) (by rw [eu21]; rfl) (by rw [eNL]; decide) rfl dX12_firstKeeping_46 ?_
        refine V_goto C0 (tgt := 9) (by decide) dX12_firstKeeping_49 ?_
        exact V_sub [2, 1, 0] rfl (ih y0 s5 u21 I L R _ hk0 ho0 h f kx)
      refine V_if_eq C0 (tgt := 44) (by decide) dX12_firstKeeping_19 (fun c8 => ?_) (fun c8 => ?_)
      · have q6 := (if_pos c8).symm.trans q6
        refine V_iload_n C0 1 rfl rfl dX12_firstKeeping_44 ?_
        cases q6
        exact V_sub [0, 2] rfl k7
      · have q6 := (if_neg c8).symm.trans q6
        refine V_aload_n C0 0 rfl rfl dX12_firstKeeping_22 ?_
        refine V_iload_n C0 2 rfl rfl dX12_firstKeeping_23 ?_
        obtain ⟨b9, q10, q6⟩ := bn1_some q6
        refine V_callV C0 (st := []) (As := [.int y2]) 11 (c_X12_isWhole G.l G.D G.cA G.ad G.bs G.X C0.2.2.2.2.2.2.2.2.2.1 C0.2.2.2.2.2.2.2.2.2.2.2.2 y0 y2 I L R b9 q10) lc_X12_isWhole lk_X12_366 ho0 hk0 ⟨_, rfl, rfl⟩ rfl (by rw [erm]; decide) (Nat.le_of_ble_eq_true rfl) dX12_firstKeeping_24 ?_
        show V G _ 27 [(0, .ref (G.ad y0)), (1, .int y1), (2, .int y2)] [.int (b2i b9)] I L R
        obtain ⟨s11, q12, q6⟩ := bn1_some q6
        have k13 : V G f 45 [(0, .ref (G.ad y0)), (2, .int y2)] [.int s11] I L R := by
          cases q6
          exact V_sub [0, 1] rfl k7
        refine V_if_eq C0 (tgt := 44) (by decide) dX12_firstKeeping_27 (fun c14 => ?_) (fun c14 => ?_)
        · have q12 := (if_pos c14).symm.trans q12
          refine V_iload_n C0 1 rfl rfl dX12_firstKeeping_44 ?_
          cases q12
          exact V_sub [0, 2] rfl k13
        · have q12 := (if_neg c14).symm.trans q12
          refine V_aload_n C0 0 rfl rfl dX12_firstKeeping_30 ?_
          refine V_iload_n C0 2 rfl rfl dX12_firstKeeping_31 ?_
          refine V_bipush C0 (v := (10 : Int32)) (by decide) dX12_firstKeeping_32 ?_
          obtain ⟨v15, q16, q12⟩ := bn1_some q12
          refine V_callV C0 (st := []) (As := [.int y2, .int (10 : Int32)]) 11 (c_X12_get G.l G.D G.cA G.ad G.bs G.X C0.2.2.2.2.2.2.2.2.2.1 C0.2.2.2.2.2.2.2.2.2.2.2.2 y0 y2 (10 : Int32) I L R v15 q16) lc_X12_get lk_X12_211 ho0 hk0 ⟨_, rfl, rfl⟩ rfl (by rw [erm]; decide) (Nat.le_of_ble_eq_true rfl) dX12_firstKeeping_34 ?_
          show V G _ 37 [(0, .ref (G.ad y0)), (1, .int y1), (2, .int y2)] [.int v15] I L R
          obtain ⟨s17, q18, q12⟩ := bn1_some q12
          have k19 : V G f 45 [(0, .ref (G.ad y0)), (2, .int y2)] [.int s17] I L R := by
            cases q12
            exact V_sub [0, 1] rfl k13
          refine V_if_le C0 (tgt := 44) (by decide) dX12_firstKeeping_37 (fun c20 => ?_) (fun c20 => ?_)
          · have q18 := (if_pos c20).symm.trans q18
            refine V_iload_n C0 1 rfl rfl dX12_firstKeeping_44 ?_
            cases q18
            exact V_sub [0, 2] rfl k19
          · have q18 := (if_neg c20).symm.trans q18
            refine V_iload_n C0 2 rfl rfl dX12_firstKeeping_40 ?_
            refine V_goto C0 (tgt := 45) (by decide) dX12_firstKeeping_41 ?_
            cases q18
            exact V_sub [0, 2] rfl k19
set_option maxRecDepth 100000 in
set_option maxHeartbeats 4000000 in
theorem c_X12_firstKeeping (l : Launch) (D : va_G) (cA : Nat → ClassId) (ad : Nat → Nat) (bs : Nat) (X : State → Prop) (hAd : Ax ad bs) (hX : Stb bs X) (N : Nat) (x0 : Nat) (I : MI) (L : ML) (R : MR) (r : Int32) (h : F_X12_firstKeeping N x0 I L R = some (r)) : Cn l D cA ad bs X yX12_firstKeeping cX12_firstKeeping 3 (some .int) 2 45 [.ref (ad x0)] I L R (some (.int r), I, L, R) := by
  refine Cn.ofV hAd hX [(0, .ref (ad x0))] rfl (Nat.le_of_ble_eq_true rfl) (by decide) ?_
  intro G el eD ecA ead ebs eX erm eNL C0
  subst el eD ecA ead ebs eX
  unfold F_X12_firstKeeping at h
  obtain ⟨c_x0, h⟩ := ite_some h
  refine V_iconst C0 (v := (-1 : Int32)) (by decide) dX12_firstKeeping_0 ?_
  refine V_istore_n C0 [(1, .int (-1 : Int32)), (0, .ref (G.ad x0))] rfl (by rw [eNL]; decide) rfl dX12_firstKeeping_1 ?_
  refine V_aload_n C0 1 rfl rfl dX12_firstKeeping_2 ?_
  refine V_getI C0 11 21 fl_X12_297 c_x0.2 c_x0.1 rfl dX12_firstKeeping_3 ?_
  refine V_iconst C0 (v := (1 : Int32)) (by decide) dX12_firstKeeping_6 ?_
  refine V_isub C0 dX12_firstKeeping_7 ?_
  obtain ⟨u1, eu1, h⟩ := wr_some h
  rw [← eu1]
  refine V_istore_n C0 [(2, .int u1), (1, .int (-1 : Int32)), (0, .ref (G.ad x0))] rfl (by rw [eNL]; decide) rfl dX12_firstKeeping_8 ?_
  obtain ⟨z22, q23, h⟩ := bn1_some h
  refine V_sub [2, 1, 0] rfl (lp_X12_firstKeeping_9 C0 eNL erm N N x0 (-1 : Int32) u1 I L R _ c_x0.1 c_x0.2 q23 _ ?_)
  show V G _ 52 [(1, .int z22)] [] I L R
  refine V_iload_n C0 0 rfl rfl dX12_firstKeeping_52 ?_
  cases h
  exact V_iret C0 dX12_firstKeeping_53
theorem dX12_send_0 : decode cX12_send 0 = .ok (.aload_n 0, 1) := by decide +kernel
theorem dX12_send_1 : decode cX12_send 1 = .ok (.iload_n 1, 1) := by decide +kernel
theorem dX12_send_2 : decode cX12_send 2 = .ok (.bipush 50, 2) := by decide +kernel
theorem dX12_send_4 : decode cX12_send 4 = .ok (.invokevirtual 211, 3) := by decide +kernel
theorem dX12_send_7 : decode cX12_send 7 = .ok (.istore_n 2, 1) := by decide +kernel
theorem dX12_send_8 : decode cX12_send 8 = .ok (.aload_n 0, 1) := by decide +kernel
theorem dX12_send_9 : decode cX12_send 9 = .ok (.invokevirtual 446, 3) := by decide +kernel
theorem dX12_send_12 : decode cX12_send 12 = .ok (.istore_n 3, 1) := by decide +kernel
theorem dX12_send_13 : decode cX12_send 13 = .ok (.iload_n 2, 1) := by decide +kernel
theorem dX12_send_14 : decode cX12_send 14 = .ok (.ifCond .le 129, 3) := by decide +kernel
theorem dX12_send_17 : decode cX12_send 17 = .ok (.iload_n 3, 1) := by decide +kernel
theorem dX12_send_18 : decode cX12_send 18 = .ok (.iconst (-1), 1) := by decide +kernel
theorem dX12_send_19 : decode cX12_send 19 = .ok (.if_icmp .eq 124, 3) := by decide +kernel
theorem dX12_send_22 : decode cX12_send 22 = .ok (.iload_n 2, 1) := by decide +kernel
theorem dX12_send_23 : decode cX12_send 23 = .ok (.aload_n 0, 1) := by decide +kernel
theorem dX12_send_24 : decode cX12_send 24 = .ok (.iload_n 3, 1) := by decide +kernel
theorem dX12_send_25 : decode cX12_send 25 = .ok (.bipush 10, 2) := by decide +kernel
theorem dX12_send_27 : decode cX12_send 27 = .ok (.invokevirtual 211, 3) := by decide +kernel
theorem dX12_send_30 : decode cX12_send 30 = .ok (.invokestatic 423, 3) := by decide +kernel
theorem dX12_send_33 : decode cX12_send 33 = .ok (.istore 4, 2) := by decide +kernel
theorem dX12_send_35 : decode cX12_send 35 = .ok (.iconst 0, 1) := by decide +kernel
theorem dX12_send_36 : decode cX12_send 36 = .ok (.istore 5, 2) := by decide +kernel
theorem dX12_send_38 : decode cX12_send 38 = .ok (.iload 5, 2) := by decide +kernel
theorem dX12_send_40 : decode cX12_send 40 = .ok (.iload 4, 2) := by decide +kernel
theorem dX12_send_42 : decode cX12_send 42 = .ok (.if_icmp .ge 27, 3) := by decide +kernel
theorem dX12_send_45 : decode cX12_send 45 = .ok (.aload_n 0, 1) := by decide +kernel
theorem dX12_send_46 : decode cX12_send 46 = .ok (.iload_n 1, 1) := by decide +kernel
theorem dX12_send_47 : decode cX12_send 47 = .ok (.aload_n 0, 1) := by decide +kernel
theorem dX12_send_48 : decode cX12_send 48 = .ok (.getfield 81, 3) := by decide +kernel
theorem dX12_send_51 : decode cX12_send 51 = .ok (.sipush 2000, 3) := by decide +kernel
theorem dX12_send_54 : decode cX12_send 54 = .ok (.iload_n 3, 1) := by decide +kernel
theorem dX12_send_55 : decode cX12_send 55 = .ok (.imul, 1) := by decide +kernel
theorem dX12_send_56 : decode cX12_send 56 = .ok (.iload 5, 2) := by decide +kernel
theorem dX12_send_58 : decode cX12_send 58 = .ok (.iadd, 1) := by decide +kernel
theorem dX12_send_59 : decode cX12_send 59 = .ok (.iaload, 1) := by decide +kernel
theorem dX12_send_60 : decode cX12_send 60 = .ok (.invokevirtual 449, 3) := by decide +kernel
theorem dX12_send_63 : decode cX12_send 63 = .ok (.iinc 5 1, 3) := by decide +kernel
theorem dX12_send_66 : decode cX12_send 66 = .ok (.goto (-28), 3) := by decide +kernel
theorem dX12_send_69 : decode cX12_send 69 = .ok (.iload 4, 2) := by decide +kernel
theorem dX12_send_71 : decode cX12_send 71 = .ok (.istore 5, 2) := by decide +kernel
theorem dX12_send_73 : decode cX12_send 73 = .ok (.iload 5, 2) := by decide +kernel
theorem dX12_send_75 : decode cX12_send 75 = .ok (.aload_n 0, 1) := by decide +kernel
theorem dX12_send_76 : decode cX12_send 76 = .ok (.iload_n 3, 1) := by decide +kernel
theorem dX12_send_77 : decode cX12_send 77 = .ok (.bipush 10, 2) := by decide +kernel
theorem dX12_send_79 : decode cX12_send 79 = .ok (.invokevirtual 211, 3) := by decide +kernel
theorem dX12_send_82 : decode cX12_send 82 = .ok (.if_icmp .ge 38, 3) := by decide +kernel
theorem dX12_send_85 : decode cX12_send 85 = .ok (.aload_n 0, 1) := by decide +kernel
theorem dX12_send_86 : decode cX12_send 86 = .ok (.getfield 81, 3) := by decide +kernel
theorem dX12_send_89 : decode cX12_send 89 = .ok (.sipush 2000, 3) := by decide +kernel
theorem dX12_send_92 : decode cX12_send 92 = .ok (.iload_n 3, 1) := by decide +kernel
theorem dX12_send_93 : decode cX12_send 93 = .ok (.imul, 1) := by decide +kernel
theorem dX12_send_94 : decode cX12_send 94 = .ok (.iload 5, 2) := by decide +kernel
theorem dX12_send_96 : decode cX12_send 96 = .ok (.iadd, 1) := by decide +kernel
theorem dX12_send_97 : decode cX12_send 97 = .ok (.iload 4, 2) := by decide +kernel
theorem dX12_send_99 : decode cX12_send 99 = .ok (.isub, 1) := by decide +kernel
theorem dX12_send_100 : decode cX12_send 100 = .ok (.aload_n 0, 1) := by decide +kernel
theorem dX12_send_101 : decode cX12_send 101 = .ok (.getfield 81, 3) := by decide +kernel
theorem dX12_send_104 : decode cX12_send 104 = .ok (.sipush 2000, 3) := by decide +kernel
theorem dX12_send_107 : decode cX12_send 107 = .ok (.iload_n 3, 1) := by decide +kernel
theorem dX12_send_108 : decode cX12_send 108 = .ok (.imul, 1) := by decide +kernel
theorem dX12_send_109 : decode cX12_send 109 = .ok (.iload 5, 2) := by decide +kernel
theorem dX12_send_111 : decode cX12_send 111 = .ok (.iadd, 1) := by decide +kernel
theorem dX12_send_112 : decode cX12_send 112 = .ok (.iaload, 1) := by decide +kernel
theorem dX12_send_113 : decode cX12_send 113 = .ok (.iastore, 1) := by decide +kernel
theorem dX12_send_114 : decode cX12_send 114 = .ok (.iinc 5 1, 3) := by decide +kernel
theorem dX12_send_117 : decode cX12_send 117 = .ok (.goto (-44), 3) := by decide +kernel
theorem dX12_send_120 : decode cX12_send 120 = .ok (.aload_n 0, 1) := by decide +kernel
theorem dX12_send_121 : decode cX12_send 121 = .ok (.iload_n 3, 1) := by decide +kernel
theorem dX12_send_122 : decode cX12_send 122 = .ok (.bipush 10, 2) := by decide +kernel
theorem dX12_send_124 : decode cX12_send 124 = .ok (.iload 4, 2) := by decide +kernel
theorem dX12_send_126 : decode cX12_send 126 = .ok (.ineg, 1) := by decide +kernel
theorem dX12_send_127 : decode cX12_send 127 = .ok (.invokevirtual 259, 3) := by decide +kernel
theorem dX12_send_130 : decode cX12_send 130 = .ok (.iload_n 2, 1) := by decide +kernel
theorem dX12_send_131 : decode cX12_send 131 = .ok (.iload 4, 2) := by decide +kernel
theorem dX12_send_133 : decode cX12_send 133 = .ok (.isub, 1) := by decide +kernel
theorem dX12_send_134 : decode cX12_send 134 = .ok (.istore_n 2, 1) := by decide +kernel
theorem dX12_send_135 : decode cX12_send 135 = .ok (.aload_n 0, 1) := by decide +kernel
theorem dX12_send_136 : decode cX12_send 136 = .ok (.invokevirtual 446, 3) := by decide +kernel
theorem dX12_send_139 : decode cX12_send 139 = .ok (.istore_n 3, 1) := by decide +kernel
theorem dX12_send_140 : decode cX12_send 140 = .ok (.goto (-127), 3) := by decide +kernel
theorem dX12_send_143 : decode cX12_send 143 = .ok (.return_, 1) := by decide +kernel
def LF_X12_send_38 (N : Nat) : Nat → Nat → Int32 → Int32 → Int32 → Int32 → Int32 → MI → ML → MR → Option (MI)
  | 0, _, _, _, _, _, _, _, _, _ => none
  | k + 1, y0, y1, y2, y3, y4, y5, I, L, R =>
    if y4 ≤ y5 then
      some (I)
    else
      (rf R y0 52 20).bind fun a12 =>
      (ri I a12 (((2000 : Int32) * y3) + y5)).bind fun v13 =>
      bn1 (F_X12_goesDown y0 y1 v13 I L R) fun I14 =>
      wr (y5 + (1 : Int32)) fun (u16 : Int32) =>
      LF_X12_send_38 N k y0 y1 y2 y3 y4 u16 I14 L R
def LF_X12_send_73 (N : Nat) : Nat → Nat → Int32 → Int32 → Int32 → Int32 → Int32 → MI → ML → MR → Option (MI)
  | 0, _, _, _, _, _, _, _, _, _ => none
  | k + 1, y0, y1, y2, y3, y4, y5, I, L, R =>
    bn1 (F_X12_get y0 y3 (10 : Int32) I L R) fun v19 =>
    if v19 ≤ y5 then
      some (I)
    else
      (rf R y0 52 20).bind fun a22 =>
      (ri I a22 (((2000 : Int32) * y3) + y5)).bind fun v23 =>
      (wi I a22 ((((2000 : Int32) * y3) + y5) - y4) v23).bind fun I24 =>
      wr (y5 + (1 : Int32)) fun (u25 : Int32) =>
      LF_X12_send_73 N k y0 y1 y2 y3 y4 u25 I24 L R
def LF_X12_send_13 (N : Nat) : Nat → Nat → Int32 → Int32 → Int32 → MI → ML → MR → Option (MI)
  | 0, _, _, _, _, _, _, _ => none
  | k + 1, y0, y1, y2, y3, I, L, R =>
    if y2 ≤ 0 then
      some (I)
    else
      if y3 = (-1 : Int32) then
        some (I)
      else
        bn1 (F_X12_get y0 y3 (10 : Int32) I L R) fun v7 =>
        bn1 (F_X12_least y2 v7 I L R) fun v9 =>
        bn1 (LF_X12_send_38 N N y0 y1 y2 y3 v9 (0 : Int32) I L R) fun z17 =>
        bn1 (LF_X12_send_73 N N y0 y1 y2 y3 v9 v9 z17 L R) fun z26 =>
        bn1 (F_X12_grow y0 y3 (10 : Int32) (-v9) z26 L R) fun I28 =>
        wr (y2 - v9) fun (u30 : Int32) =>
        bn1 (F_X12_firstKeeping N y0 I28 L R) fun v31 =>
        LF_X12_send_13 N k y0 y1 u30 v31 I28 L R
def F_X12_send (N : Nat) (x0 : Nat) (x1 : Int32) (I : MI) (L : ML) (R : MR) : Option (MI) :=
  if kd x0 = 11 ∧ x0 < NN then
  bn1 (F_X12_get x0 x1 (50 : Int32) I L R) fun v1 =>
  bn1 (F_X12_firstKeeping N x0 I L R) fun v3 =>
  bn1 (LF_X12_send_13 N N x0 x1 v1 v3 I L R) fun z33 =>
  some (z33)
  else none
set_option maxRecDepth 100000 in
set_option maxHeartbeats 4000000 in
theorem lp_X12_send_38 {G : Gm} (C0 : Cx G (yX12_send.cls) cX12_send none) (eNL : G.nL = 6) (erm : G.rm = ({ frames := 3, cells := 0, slots := 0, locals := 67 } : Room)) (N : Nat) : ∀ (k : Nat) (y0 : Nat) (y1 : Int32) (y2 : Int32) (y3 : Int32) (y4 : Int32) (y5 : Int32) (I : MI) (L : ML) (R : MR) (z : MI) (hk0 : kd y0 = 11) (ho0 : y0 < NN), LF_X12_send_38 N k y0 y1 y2 y3 y4 y5 I L R = some z → ∀ f : State → Prop, V G f 69 [(0, .ref (G.ad y0)), (1, .int y1), (2, .int y2), (3, .int y3), (4, .int y4)] [] z L R → V G f 38 [(0, .ref (G.ad y0)), (1, .int y1), (2, .int y2), (3, .int y3), (4, .int y4), (5, .int y5)] [] I L R := by
  intro k
  induction k with
  | zero =>
    intro y0 y1 y2 y3 y4 y5 I L R q hk0 ho0 h
    exact absurd h (by simp [LF_X12_send_38])
  | succ k ih =>
    intro y0 y1 y2 y3 y4 y5 I L R q hk0 ho0 h f kx
    rw [LF_X12_send_38] at h
    refine V_iload C0 5 rfl dX12_send_38 ?_
    refine V_iload C0 4 rfl dX12_send_40 ?_
    refine V_icmp_ge C0 (tgt := 69) (by decide) dX12_send_42 (fun c11 => ?_) (fun c11 => ?_)
    · have h := (if_pos c11).symm.trans h
      cases h
      exact V_sub [0, 1, 2, 3, 4] rfl kx
    · have h := (if_neg c11).symm.trans h
      refine V_aload_n C0 0 rfl rfl dX12_send_45 ?_
      refine V_iload_n C0 1 rfl rfl dX12_send_46 ?_
      refine V_aload_n C0 0 rfl rfl dX12_send_47 ?_
      obtain ⟨a12, qa12, h⟩ := bnd_some h
      refine V_getR C0 11 52 fl_X12_81 ho0 hk0 rfl (rf_at qa12) dX12_send_48 ?_
      refine V_sipush C0 (v := (2000 : Int32)) (by decide) dX12_send_51 ?_
      refine V_iload_n C0 3 rfl rfl dX12_send_54 ?_
      refine V_imul C0 dX12_send_55 ?_
      refine V_iload C0 5 rfl dX12_send_56 ?_
      refine V_iadd C0 dX12_send_58 ?_
      obtain ⟨v13, qv13, h⟩ := bnd_some h
      refine V_ri C0 (rf_lt qa12) (rf_kd qa12) qv13 dX12_send_59 ?_
      obtain ⟨I14, q15, h⟩ := bn1_some h
      refine V_callV C0 (st := []) (As := [.int y1, .int v13]) 11 (c_X12_goesDown G.l G.D G.cA G.ad G.bs G.X C0.2.2.2.2.2.2.2.2.2.1 C0.2.2.2.2.2.2.2.2.2.2.2.2 y0 y1 v13 I L R I14 q15) lc_X12_goesDown lk_X12_449 ho0 hk0 ⟨_, rfl, rfl⟩ rfl (by rw [erm]; decide) (Nat.le_of_ble_eq_true rfl) dX12_send_60 ?_
      show V G _ 63 [(0, .ref (G.ad y0)), (1, .int y1), (2, .int y2), (3, .int y3), (4, .int y4), (5, .int y5)] [] I14 L R
      obtain ⟨u16, eu16, h⟩ := wr_some h
      refine V_iinc C0 5 [(5, .int u16), (0, .ref (G.ad y0)), (1, .int y1), (2, .int y2), (3, .int y3), (4, .int y4)] rfl (n := 1) (by rw [eu16]; rfl) (by rw [eNL]; decide) rfl dX12_send_63 ?_
      refine V_goto C0 (tgt := 38) (by decide) dX12_send_66 ?_
      exact V_sub [1, 2, 3, 4, 5, 0] rfl (ih y0 y1 y2 y3 y4 u16 I14 L R _ hk0 ho0 h f kx)
set_option maxRecDepth 100000 in
set_option maxHeartbeats 4000000 in
theorem lp_X12_send_73 {G : Gm} (C0 : Cx G (yX12_send.cls) cX12_send none) (eNL : G.nL = 6) (erm : G.rm = ({ frames := 3, cells := 0, slots := 0, locals := 67 } : Room)) (N : Nat) : ∀ (k : Nat) (y0 : Nat) (y1 : Int32) (y2 : Int32) (y3 : Int32) (y4 : Int32) (y5 : Int32) (I : MI) (L : ML) (R : MR) (z : MI) (hk0 : kd y0 = 11) (ho0 : y0 < NN), LF_X12_send_73 N k y0 y1 y2 y3 y4 y5 I L R = some z → ∀ f : State → Prop, V G f 120 [(0, .ref (G.ad y0)), (1, .int y1), (2, .int y2), (3, .int y3), (4, .int y4)] [] z L R → V G f 73 [(0, .ref (G.ad y0)), (1, .int y1), (2, .int y2), (3, .int y3), (4, .int y4), (5, .int y5)] [] I L R := by
  intro k
  induction k with
  | zero =>
    intro y0 y1 y2 y3 y4 y5 I L R q hk0 ho0 h
    exact absurd h (by simp [LF_X12_send_73])
  | succ k ih =>
    intro y0 y1 y2 y3 y4 y5 I L R q hk0 ho0 h f kx
    rw [LF_X12_send_73] at h
    refine V_iload C0 5 rfl dX12_send_73 ?_
    refine V_aload_n C0 0 rfl rfl dX12_send_75 ?_
    refine V_iload_n C0 3 rfl rfl dX12_send_76 ?_
    refine V_bipush C0 (v := (10 : Int32)) (by decide) dX12_send_77 ?_
    obtain ⟨v19, q20, h⟩ := bn1_some h
    refine V_callV C0 (st := [.int y5]) (As := [.int y3, .int (10 : Int32)]) 11 (c_X12_get G.l G.D G.cA G.ad G.bs G.X C0.2.2.2.2.2.2.2.2.2.1 C0.2.2.2.2.2.2.2.2.2.2.2.2 y0 y3 (10 : Int32) I L R v19 q20) lc_X12_get lk_X12_211 ho0 hk0 ⟨_, rfl, rfl⟩ rfl (by rw [erm]; decide) (Nat.le_of_ble_eq_true rfl) dX12_send_79 ?_
    show V G _ 82 [(0, .ref (G.ad y0)), (1, .int y1), (2, .int y2), (3, .int y3), (4, .int y4), (5, .int y5)] [.int v19, .int y5] I L R
    refine V_icmp_ge C0 (tgt := 120) (by decide) dX12_send_82 (fun c21 => ?_) (fun c21 => ?_)
    · have h := (if_pos c21).symm.trans h
      cases h
      exact V_sub [0, 1, 2, 3, 4] rfl kx
    · have h := (if_neg c21).symm.trans h
      refine V_aload_n C0 0 rfl rfl dX12_send_85 ?_
      obtain ⟨a22, qa22, h⟩ := bnd_some h
      refine V_getR C0 11 52 fl_X12_81 ho0 hk0 rfl (rf_at qa22) dX12_send_86 ?_
      refine V_sipush C0 (v := (2000 : Int32)) (by decide) dX12_send_89 ?_
      refine V_iload_n C0 3 rfl rfl dX12_send_92 ?_
      refine V_imul C0 dX12_send_93 ?_
      refine V_iload C0 5 rfl dX12_send_94 ?_
      refine V_iadd C0 dX12_send_96 ?_
      refine V_iload C0 4 rfl dX12_send_97 ?_
      refine V_isub C0 dX12_send_99 ?_
      refine V_aload_n C0 0 rfl rfl dX12_send_100 ?_
      refine V_getR C0 11 52 fl_X12_81 ho0 hk0 rfl (rf_at qa22) dX12_send_101 ?_
      refine V_sipush C0 (v := (2000 : Int32)) (by decide) dX12_send_104 ?_
      refine V_iload_n C0 3 rfl rfl dX12_send_107 ?_
      refine V_imul C0 dX12_send_108 ?_
      refine V_iload C0 5 rfl dX12_send_109 ?_
      refine V_iadd C0 dX12_send_111 ?_
      obtain ⟨v23, qv23, h⟩ := bnd_some h
      refine V_ri C0 (rf_lt qa22) (rf_kd qa22) qv23 dX12_send_112 ?_
      obtain ⟨I24, qI24, h⟩ := bnd_some h
      refine V_wi C0 (rf_lt qa22) (rf_kd qa22) qI24 dX12_send_113 ?_
      obtain ⟨u25, eu25, h⟩ := wr_some h
      refine V_iinc C0 5 [(5, .int u25), (0, .ref (G.ad y0)), (1, .int y1), (2, .int y2), (3, .int y3), (4, .int y4)] rfl (n := 1) (by rw [eu25]; rfl) (by rw [eNL]; decide) rfl dX12_send_114 ?_
      refine V_goto C0 (tgt := 73) (by decide) dX12_send_117 ?_
      exact V_sub [1, 2, 3, 4, 5, 0] rfl (ih y0 y1 y2 y3 y4 u25 I24 L R _ hk0 ho0 h f kx)
set_option maxRecDepth 100000 in
set_option maxHeartbeats 4000000 in
theorem lp_X12_send_13 {G : Gm} (C0 : Cx G (yX12_send.cls) cX12_send none) (eNL : G.nL = 6) (erm : G.rm = ({ frames := 3, cells := 0, slots := 0, locals := 67 } : Room)) (N : Nat) : ∀ (k : Nat) (y0 : Nat) (y1 : Int32) (y2 : Int32) (y3 : Int32) (I : MI) (L : ML) (R : MR) (z : MI) (hk0 : kd y0 = 11) (ho0 : y0 < NN), LF_X12_send_13 N k y0 y1 y2 y3 I L R = some z → ∀ f : State → Prop, V G f 143 [] [] z L R → V G f 13 [(0, .ref (G.ad y0)), (1, .int y1), (2, .int y2), (3, .int y3)] [] I L R := by
  intro k
  induction k with
  | zero =>
    intro y0 y1 y2 y3 I L R q hk0 ho0 h
    exact absurd h (by simp [LF_X12_send_13])
  | succ k ih =>
    intro y0 y1 y2 y3 I L R q hk0 ho0 h f kx
    rw [LF_X12_send_13] at h
    refine V_iload_n C0 2 rfl rfl dX12_send_13 ?_
    refine V_if_le C0 (tgt := 143) (by decide) dX12_send_14 (fun c5 => ?_) (fun c5 => ?_)
    · have h := (if_pos c5).symm.trans h
      cases h
      exact V_sub [] rfl kx
    · have h := (if_neg c5).symm.trans h
      refine V_iload_n C0 3 rfl rfl dX12_send_17 ?_
      refine V_iconst C0 (v := (-1 : Int32)) (by decide) dX12_send_18 ?_
      refine V_icmp_eq C0 (tgt := 143) (by decide) dX12_send_19 (fun c6 => ?_) (fun c6 => ?_)
      · have h := (if_pos c6).symm.trans h
        cases h
        exact V_sub [] rfl kx
      · have h := (if_neg c6).symm.trans h
        refine V_iload_n C0 2 rfl rfl dX12_send_22 ?_
        refine V_aload_n C0 0 rfl rfl dX12_send_23 ?_
        refine V_iload_n C0 3 rfl rfl dX12_send_24 ?_
        refine V_bipush C0 (v := (10 : Int32)) (by decide) dX12_send_25 ?_
        obtain ⟨v7, q8, h⟩ := bn1_some h
        refine V_callV C0 (st := [.int y2]) (As := [.int y3, .int (10 : Int32)]) 11 (c_X12_get G.l G.D G.cA G.ad G.bs G.X C0.2.2.2.2.2.2.2.2.2.1 C0.2.2.2.2.2.2.2.2.2.2.2.2 y0 y3 (10 : Int32) I L R v7 q8) lc_X12_get lk_X12_211 ho0 hk0 ⟨_, rfl, rfl⟩ rfl (by rw [erm]; decide) (Nat.le_of_ble_eq_true rfl) dX12_send_27 ?_
        show V G _ 30 [(0, .ref (G.ad y0)), (1, .int y1), (2, .int y2), (3, .int y3)] [.int v7, .int y2] I L R
        obtain ⟨v9, q10, h⟩ := bn1_some h
        refine V_callS C0 (st := []) (As := [.int y2, .int v7]) (c_X12_least G.l G.D G.cA G.ad G.bs G.X C0.2.2.2.2.2.2.2.2.2.1 C0.2.2.2.2.2.2.2.2.2.2.2.2 y2 v7 I L R v9 q10) lc_X12_least lk_X12_423 rfl (by rw [erm]; decide) (Nat.le_of_ble_eq_true rfl) dX12_send_30 ?_
        show V G _ 33 [(0, .ref (G.ad y0)), (1, .int y1), (2, .int y2), (3, .int y3)] [.int v9] I L R
        refine V_istore C0 [(4, .int v9), (0, .ref (G.ad y0)), (1, .int y1), (2, .int y2), (3, .int y3)] (by rw [eNL]; decide) rfl dX12_send_33 ?_
        refine V_iconst C0 (v := (0 : Int32)) (by decide) dX12_send_35 ?_
        refine V_istore C0 [(5, .int (0 : Int32)), (4, .int v9), (0, .ref (G.ad y0)), (1, .int y1), (2, .int y2), (3, .int y3)] (by rw [eNL]; decide) rfl dX12_send_36 ?_
        obtain ⟨z17, q18, h⟩ := bn1_some h
        refine V_sub [2, 3, 4, 5, 1, 0] rfl (lp_X12_send_38 C0 eNL erm N N y0 y1 y2 y3 v9 (0 : Int32) I L R _ hk0 ho0 q18 _ ?_)
        show V G _ 69 [(0, .ref (G.ad y0)), (1, .int y1), (2, .int y2), (3, .int y3), (4, .int v9)] [] z17 L R
        refine V_iload C0 4 rfl dX12_send_69 ?_
        refine V_istore C0 [(5, .int v9), (0, .ref (G.ad y0)), (1, .int y1), (2, .int y2), (3, .int y3), (4, .int v9)] (by rw [eNL]; decide) rfl dX12_send_71 ?_
        obtain ⟨z26, q27, h⟩ := bn1_some h
        refine V_sub [1, 2, 3, 4, 5, 0] rfl (lp_X12_send_73 C0 eNL erm N N y0 y1 y2 y3 v9 v9 z17 L R _ hk0 ho0 q27 _ ?_)
        show V G _ 120 [(0, .ref (G.ad y0)), (1, .int y1), (2, .int y2), (3, .int y3), (4, .int v9)] [] z26 L R
        refine V_aload_n C0 0 rfl rfl dX12_send_120 ?_
        refine V_iload_n C0 3 rfl rfl dX12_send_121 ?_
        refine V_bipush C0 (v := (10 : Int32)) (by decide) dX12_send_122 ?_
        refine V_iload C0 4 rfl dX12_send_124 ?_
        refine V_ineg C0 dX12_send_126 ?_
        obtain ⟨I28, q29, h⟩ := bn1_some h
        refine V_callV C0 (st := []) (As := [.int y3, .int (10 : Int32), .int (-v9)]) 11 (c_X12_grow G.l G.D G.cA G.ad G.bs G.X C0.2.2.2.2.2.2.2.2.2.1 C0.2.2.2.2.2.2.2.2.2.2.2.2 y0 y3 (10 : Int32) (-v9) z26 L R I28 q29) lc_X12_grow lk_X12_259 ho0 hk0 ⟨_, rfl, rfl⟩ rfl (by rw [erm]; decide) (Nat.le_of_ble_eq_true rfl) dX12_send_127 ?_
        show V G _ 130 [(0, .ref (G.ad y0)), (1, .int y1), (2, .int y2), (3, .int y3), (4, .int v9)] [] I28 L R
        refine V_iload_n C0 2 rfl rfl dX12_send_130 ?_
        refine V_iload C0 4 rfl dX12_send_131 ?_
        refine V_isub C0 dX12_send_133 ?_
        obtain ⟨u30, eu30, h⟩ := wr_some h
        rw [← eu30]
        refine V_istore_n C0 [(2, .int u30), (0, .ref (G.ad y0)), (1, .int y1), (3, .int y3), (4, .int v9)] rfl (by rw [eNL]; decide) rfl dX12_send_134 ?_
        refine V_aload_n C0 1 rfl rfl dX12_send_135 ?_
        obtain ⟨v31, q32, h⟩ := bn1_some h
        refine V_callV C0 (st := []) (As := []) 11 (c_X12_firstKeeping G.l G.D G.cA G.ad G.bs G.X C0.2.2.2.2.2.2.2.2.2.1 C0.2.2.2.2.2.2.2.2.2.2.2.2 N y0 I28 L R v31 q32) lc_X12_firstKeeping lk_X12_446 ho0 hk0 ⟨_, rfl, rfl⟩ rfl (by rw [erm]; decide) (Nat.le_of_ble_eq_true rfl) dX12_send_136 ?_
        show V G _ 139 [(2, .int u30), (0, .ref (G.ad y0)), (1, .int y1), (3, .int y3), (4, .int v9)] [.int v31] I28 L R
        refine V_istore_n C0 [(3, .int v31), (2, .int u30), (0, .ref (G.ad y0)), (1, .int y1), (4, .int v9)] rfl (by rw [eNL]; decide) rfl dX12_send_139 ?_
        refine V_goto C0 (tgt := 13) (by decide) dX12_send_140 ?_
        exact V_sub [2, 3, 1, 0] rfl (ih y0 y1 u30 v31 I28 L R _ hk0 ho0 h f kx)
set_option maxRecDepth 100000 in
set_option maxHeartbeats 4000000 in
theorem c_X12_send (l : Launch) (D : va_G) (cA : Nat → ClassId) (ad : Nat → Nat) (bs : Nat) (X : State → Prop) (hAd : Ax ad bs) (hX : Stb bs X) (N : Nat) (x0 : Nat) (x1 : Int32) (I : MI) (L : ML) (R : MR) (I' : MI) (h : F_X12_send N x0 x1 I L R = some (I')) : Cn l D cA ad bs X yX12_send cX12_send 6 none 3 67 [.ref (ad x0), .int x1] I L R (none, I', L, R) := by
  refine Cn.ofV hAd hX [(0, .ref (ad x0)), (1, .int x1)] rfl (Nat.le_of_ble_eq_true rfl) (by decide) ?_
  intro G el eD ecA ead ebs eX erm eNL C0
  subst el eD ecA ead ebs eX
  unfold F_X12_send at h
  obtain ⟨c_x0, h⟩ := ite_some h
  refine V_aload_n C0 0 rfl rfl dX12_send_0 ?_
  refine V_iload_n C0 1 rfl rfl dX12_send_1 ?_
  refine V_bipush C0 (v := (50 : Int32)) (by decide) dX12_send_2 ?_
  obtain ⟨v1, q2, h⟩ := bn1_some h
  refine V_callV C0 (st := []) (As := [.int x1, .int (50 : Int32)]) 11 (c_X12_get G.l G.D G.cA G.ad G.bs G.X C0.2.2.2.2.2.2.2.2.2.1 C0.2.2.2.2.2.2.2.2.2.2.2.2 x0 x1 (50 : Int32) I L R v1 q2) lc_X12_get lk_X12_211 c_x0.2 c_x0.1 ⟨_, rfl, rfl⟩ rfl (by rw [erm]; decide) (Nat.le_of_ble_eq_true rfl) dX12_send_4 ?_
  show V G _ 7 [(0, .ref (G.ad x0)), (1, .int x1)] [.int v1] I L R
  refine V_istore_n C0 [(2, .int v1), (0, .ref (G.ad x0)), (1, .int x1)] rfl (by rw [eNL]; decide) rfl dX12_send_7 ?_
  refine V_aload_n C0 1 rfl rfl dX12_send_8 ?_
  obtain ⟨v3, q4, h⟩ := bn1_some h
  refine V_callV C0 (st := []) (As := []) 11 (c_X12_firstKeeping G.l G.D G.cA G.ad G.bs G.X C0.2.2.2.2.2.2.2.2.2.1 C0.2.2.2.2.2.2.2.2.2.2.2.2 N x0 I L R v3 q4) lc_X12_firstKeeping lk_X12_446 c_x0.2 c_x0.1 ⟨_, rfl, rfl⟩ rfl (by rw [erm]; decide) (Nat.le_of_ble_eq_true rfl) dX12_send_9 ?_
  show V G _ 12 [(2, .int v1), (0, .ref (G.ad x0)), (1, .int x1)] [.int v3] I L R
  refine V_istore_n C0 [(3, .int v3), (2, .int v1), (0, .ref (G.ad x0)), (1, .int x1)] rfl (by rw [eNL]; decide) rfl dX12_send_12 ?_
  obtain ⟨z33, q34, h⟩ := bn1_some h
  refine V_sub [2, 3, 1, 0] rfl (lp_X12_send_13 C0 eNL erm N N x0 x1 v1 v3 I L R _ c_x0.1 c_x0.2 q34 _ ?_)
  show V G _ 143 [] [] z33 L R
  cases h
  exact V_vret C0 dX12_send_143
theorem dX12_downlink_0 : decode cX12_downlink 0 = .ok (.iconst 0, 1) := by decide +kernel
theorem dX12_downlink_1 : decode cX12_downlink 1 = .ok (.istore_n 1, 1) := by decide +kernel
theorem dX12_downlink_2 : decode cX12_downlink 2 = .ok (.iload_n 1, 1) := by decide +kernel
theorem dX12_downlink_3 : decode cX12_downlink 3 = .ok (.aload_n 0, 1) := by decide +kernel
theorem dX12_downlink_4 : decode cX12_downlink 4 = .ok (.getfield 297, 3) := by decide +kernel
theorem dX12_downlink_7 : decode cX12_downlink 7 = .ok (.if_icmp .ge 79, 3) := by decide +kernel
theorem dX12_downlink_10 : decode cX12_downlink 10 = .ok (.aload_n 0, 1) := by decide +kernel
theorem dX12_downlink_11 : decode cX12_downlink 11 = .ok (.iload_n 1, 1) := by decide +kernel
theorem dX12_downlink_12 : decode cX12_downlink 12 = .ok (.bipush 20, 2) := by decide +kernel
theorem dX12_downlink_14 : decode cX12_downlink 14 = .ok (.invokevirtual 217, 3) := by decide +kernel
theorem dX12_downlink_17 : decode cX12_downlink 17 = .ok (.ifCond .eq 63, 3) := by decide +kernel
theorem dX12_downlink_20 : decode cX12_downlink 20 = .ok (.aload_n 0, 1) := by decide +kernel
theorem dX12_downlink_21 : decode cX12_downlink 21 = .ok (.iload_n 1, 1) := by decide +kernel
theorem dX12_downlink_22 : decode cX12_downlink 22 = .ok (.invokevirtual 393, 3) := by decide +kernel
theorem dX12_downlink_25 : decode cX12_downlink 25 = .ok (.ifCond .ne 6, 3) := by decide +kernel
theorem dX12_downlink_28 : decode cX12_downlink 28 = .ok (.goto 52, 3) := by decide +kernel
theorem dX12_downlink_31 : decode cX12_downlink 31 = .ok (.aload_n 0, 1) := by decide +kernel
theorem dX12_downlink_32 : decode cX12_downlink 32 = .ok (.iload_n 1, 1) := by decide +kernel
theorem dX12_downlink_33 : decode cX12_downlink 33 = .ok (.bipush 21, 2) := by decide +kernel
theorem dX12_downlink_35 : decode cX12_downlink 35 = .ok (.invokevirtual 217, 3) := by decide +kernel
theorem dX12_downlink_38 : decode cX12_downlink 38 = .ok (.ifCond .eq 30, 3) := by decide +kernel
theorem dX12_downlink_41 : decode cX12_downlink 41 = .ok (.aload_n 0, 1) := by decide +kernel
theorem dX12_downlink_42 : decode cX12_downlink 42 = .ok (.getfield 306, 3) := by decide +kernel
theorem dX12_downlink_45 : decode cX12_downlink 45 = .ok (.aload_n 0, 1) := by decide +kernel
theorem dX12_downlink_46 : decode cX12_downlink 46 = .ok (.iload_n 1, 1) := by decide +kernel
theorem dX12_downlink_47 : decode cX12_downlink 47 = .ok (.bipush 31, 2) := by decide +kernel
theorem dX12_downlink_49 : decode cX12_downlink 49 = .ok (.invokevirtual 211, 3) := by decide +kernel
theorem dX12_downlink_52 : decode cX12_downlink 52 = .ok (.irem, 1) := by decide +kernel
theorem dX12_downlink_53 : decode cX12_downlink 53 = .ok (.ifCond .ne 15, 3) := by decide +kernel
theorem dX12_downlink_56 : decode cX12_downlink 56 = .ok (.aload_n 0, 1) := by decide +kernel
theorem dX12_downlink_57 : decode cX12_downlink 57 = .ok (.iload_n 1, 1) := by decide +kernel
theorem dX12_downlink_58 : decode cX12_downlink 58 = .ok (.bipush 48, 2) := by decide +kernel
theorem dX12_downlink_60 : decode cX12_downlink 60 = .ok (.aload_n 0, 1) := by decide +kernel
theorem dX12_downlink_61 : decode cX12_downlink 61 = .ok (.getfield 309, 3) := by decide +kernel
theorem dX12_downlink_64 : decode cX12_downlink 64 = .ok (.iadd, 1) := by decide +kernel
theorem dX12_downlink_65 : decode cX12_downlink 65 = .ok (.invokevirtual 449, 3) := by decide +kernel
theorem dX12_downlink_68 : decode cX12_downlink 68 = .ok (.aload_n 0, 1) := by decide +kernel
theorem dX12_downlink_69 : decode cX12_downlink 69 = .ok (.invokevirtual 452, 3) := by decide +kernel
theorem dX12_downlink_72 : decode cX12_downlink 72 = .ok (.ifCond .eq 8, 3) := by decide +kernel
theorem dX12_downlink_75 : decode cX12_downlink 75 = .ok (.aload_n 0, 1) := by decide +kernel
theorem dX12_downlink_76 : decode cX12_downlink 76 = .ok (.iload_n 1, 1) := by decide +kernel
theorem dX12_downlink_77 : decode cX12_downlink 77 = .ok (.invokevirtual 455, 3) := by decide +kernel
theorem dX12_downlink_80 : decode cX12_downlink 80 = .ok (.iinc 1 1, 3) := by decide +kernel
theorem dX12_downlink_83 : decode cX12_downlink 83 = .ok (.goto (-81), 3) := by decide +kernel
theorem dX12_downlink_86 : decode cX12_downlink 86 = .ok (.return_, 1) := by decide +kernel
def LF_X12_downlink_2 (N : Nat) : Nat → Nat → Int32 → MI → ML → MR → Option (MI)
  | 0, _, _, _, _, _ => none
  | k + 1, y0, y1, I, L, R =>
    if (I y0 21) ≤ y1 then
      some (I)
    else
      bn1 (F_X12_isA N y0 y1 (20 : Int32) I L R) fun b2 =>
      bn1 (
        if (b2i b2) = 0 then
          some (I)
        else
          bn1 (F_X12_isOn N y0 y1 I L R) fun b8 =>
          bn1 (
            if (b2i b8) = 0 then
              some (I)
            else
              bn1 (F_X12_isA N y0 y1 (21 : Int32) I L R) fun b14 =>
              bn1 (
                if (b2i b14) = 0 then
                  some (I)
                else
                  bn1 (F_X12_get y0 y1 (31 : Int32) I L R) fun v20 =>
                  if v20 = 0 then none else
                  bn1 (
                    if (iR (I y0 34) v20) = 0 then
                      bn1 (F_X12_goesDown y0 y1 ((48 : Int32) + (I y0 35)) I L R) fun I27 =>
                      some (I27)
                    else
                      some (I)
                  ) fun (I23 : MI) =>
                  some (I23)
              ) fun (I16 : MI) =>
              bn1 (F_X12_inView y0 I16 L R) fun b29 =>
              bn1 (
                if (b2i b29) = 0 then
                  some (I16)
                else
                  bn1 (F_X12_send N y0 y1 I16 L R) fun I35 =>
                  some (I35)
              ) fun (I31 : MI) =>
              some (I31)
          ) fun (I10 : MI) =>
          some (I10)
      ) fun (I4 : MI) =>
      wr (y1 + (1 : Int32)) fun (u37 : Int32) =>
      LF_X12_downlink_2 N k y0 u37 I4 L R
def F_X12_downlink (N : Nat) (x0 : Nat) (I : MI) (L : ML) (R : MR) : Option (MI) :=
  if kd x0 = 11 ∧ x0 < NN then
  bn1 (LF_X12_downlink_2 N N x0 (0 : Int32) I L R) fun z38 =>
  some (z38)
  else none
set_option maxRecDepth 100000 in
set_option maxHeartbeats 4000000 in
theorem lp_X12_downlink_2 {G : Gm} (C0 : Cx G (yX12_downlink.cls) cX12_downlink none) (eNL : G.nL = 2) (erm : G.rm = ({ frames := 4, cells := 0, slots := 0, locals := 92 } : Room)) (N : Nat) : ∀ (k : Nat) (y0 : Nat) (y1 : Int32) (I : MI) (L : ML) (R : MR) (z : MI) (hk0 : kd y0 = 11) (ho0 : y0 < NN), LF_X12_downlink_2 N k y0 y1 I L R = some z → ∀ f : State → Prop, V G f 86 [] [] z L R → V G f 2 [(0, .ref (G.ad y0)), (1, .int y1)] [] I L R := by
  intro k
  induction k with
  | zero =>
    intro y0 y1 I L R q hk0 ho0 h
    exact absurd h (by simp [LF_X12_downlink_2])
  | succ k ih =>
    intro y0 y1 I L R q hk0 ho0 h f kx
    rw [LF_X12_downlink_2] at h
    refine V_iload_n C0 1 rfl rfl dX12_downlink_2 ?_
    refine V_aload_n C0 0 rfl rfl dX12_downlink_3 ?_
    refine V_getI C0 11 21 fl_X12_297 ho0 hk0 rfl dX12_downlink_4 ?_
    refine V_icmp_ge C0 (tgt := 86) (by decide) dX12_downlink_7 (fun c1 => ?_) (fun c1 => ?_)
    · have h := (if_pos c1).symm.trans h
      cases h
      exact V_sub [] rfl kx
    · have h := (if_neg c1).symm.trans h
      refine V_aload_n C0 0 rfl rfl dX12_downlink_10 ?_
      refine V_iload_n C0 1 rfl rfl dX12_downlink_11 ?_
      refine V_bipush C0 (v := (20 : Int32)) (by decide) dX12_downlink_12 ?_
      obtain ⟨b2, q3, h⟩ := bn1_some h
      refine V_callV C0 (st := []) (As := [.int y1, .int (20 : Int32)]) 11 (c_X12_isA G.l G.D G.cA G.ad G.bs G.X C0.2.2.2.2.2.2.2.2.2.1 C0.2.2.2.2.2.2.2.2.2.2.2.2 N y0 y1 (20 : Int32) I L R b2 q3) lc_X12_isA lk_X12_217 ho0 hk0 ⟨_, rfl, rfl⟩ rfl (by rw [erm]; decide) (Nat.le_of_ble_eq_true rfl) dX12_downlink_14 ?_
      show V G _ 17 [(0, .ref (G.ad y0)), (1, .int y1)] [.int (b2i b2)] I L R
      obtain ⟨I4, q5, h⟩ := bn1_some h
      have k6 : V G f 80 [(0, .ref (G.ad y0)), (1, .int y1)] [] I4 L R := by
        obtain ⟨u37, eu37, h⟩ := wr_some h
        refine V_iinc C0 1 [(1, .int u37), (0, .ref (G.ad y0))] rfl (n := 1) (by rw [eu37]; rfl) (by rw [eNL]; decide) rfl dX12_downlink_80 ?_
        refine V_goto C0 (tgt := 2) (by decide) dX12_downlink_83 ?_
        exact V_sub [1, 0] rfl (ih y0 u37 I4 L R _ hk0 ho0 h f kx)
      refine V_if_eq C0 (tgt := 80) (by decide) dX12_downlink_17 (fun c7 => ?_) (fun c7 => ?_)
      · have q5 := (if_pos c7).symm.trans q5
        cases q5
        exact V_sub [0, 1] rfl k6
      · have q5 := (if_neg c7).symm.trans q5
        refine V_aload_n C0 0 rfl rfl dX12_downlink_20 ?_
        refine V_iload_n C0 1 rfl rfl dX12_downlink_21 ?_
        obtain ⟨b8, q9, q5⟩ := bn1_some q5
        refine V_callV C0 (st := []) (As := [.int y1]) 11 (c_X12_isOn G.l G.D G.cA G.ad G.bs G.X C0.2.2.2.2.2.2.2.2.2.1 C0.2.2.2.2.2.2.2.2.2.2.2.2 N y0 y1 I L R b8 q9) lc_X12_isOn lk_X12_393 ho0 hk0 ⟨_, rfl, rfl⟩ rfl (by rw [erm]; decide) (Nat.le_of_ble_eq_true rfl) dX12_downlink_22 ?_
        show V G _ 25 [(0, .ref (G.ad y0)), (1, .int y1)] [.int (b2i b8)] I L R
        obtain ⟨I10, q11, q5⟩ := bn1_some q5
        have k12 : V G f 80 [(0, .ref (G.ad y0)), (1, .int y1)] [] I10 L R := by
          cases q5
          exact V_sub [0, 1] rfl k6
        refine V_if_ne C0 (tgt := 31) (by decide) dX12_downlink_25 (fun c13 => ?_) (fun c13 => ?_)
        · have q11 := (if_neg c13).symm.trans q11
          refine V_aload_n C0 0 rfl rfl dX12_downlink_31 ?_
          refine V_iload_n C0 1 rfl rfl dX12_downlink_32 ?_
          refine V_bipush C0 (v := (21 : Int32)) (by decide) dX12_downlink_33 ?_
          obtain ⟨b14, q15, q11⟩ := bn1_some q11
          refine V_callV C0 (st := []) (As := [.int y1, .int (21 : Int32)]) 11 (c_X12_isA G.l G.D G.cA G.ad G.bs G.X C0.2.2.2.2.2.2.2.2.2.1 C0.2.2.2.2.2.2.2.2.2.2.2.2 N y0 y1 (21 : Int32) I L R b14 q15) lc_X12_isA lk_X12_217 ho0 hk0 ⟨_, rfl, rfl⟩ rfl (by rw [erm]; decide) (Nat.le_of_ble_eq_true rfl) dX12_downlink_35 ?_
          show V G _ 38 [(0, .ref (G.ad y0)), (1, .int y1)] [.int (b2i b14)] I L R
          obtain ⟨I16, q17, q11⟩ := bn1_some q11
          have k18 : V G f 68 [(0, .ref (G.ad y0)), (1, .int y1)] [] I16 L R := by
            refine V_aload_n C0 0 rfl rfl dX12_downlink_68 ?_
            obtain ⟨b29, q30, q11⟩ := bn1_some q11
            refine V_callV C0 (st := []) (As := []) 11 (c_X12_inView G.l G.D G.cA G.ad G.bs G.X C0.2.2.2.2.2.2.2.2.2.1 C0.2.2.2.2.2.2.2.2.2.2.2.2 y0 I16 L R b29 q30) lc_X12_inView lk_X12_452 ho0 hk0 ⟨_, rfl, rfl⟩ rfl (by rw [erm]; decide) (Nat.le_of_ble_eq_true rfl) dX12_downlink_69 ?_
            show V G _ 72 [(0, .ref (G.ad y0)), (1, .int y1)] [.int (b2i b29)] I16 L R
            obtain ⟨I31, q32, q11⟩ := bn1_some q11
            have k33 : V G f 80 [(0, .ref (G.ad y0)), (1, .int y1)] [] I31 L R := by
              cases q11
              exact V_sub [0, 1] rfl k12
            refine V_if_eq C0 (tgt := 80) (by decide) dX12_downlink_72 (fun c34 => ?_) (fun c34 => ?_)
            · have q32 := (if_pos c34).symm.trans q32
              cases q32
              exact V_sub [0, 1] rfl k33
            · have q32 := (if_neg c34).symm.trans q32
              refine V_aload_n C0 0 rfl rfl dX12_downlink_75 ?_
              refine V_iload_n C0 1 rfl rfl dX12_downlink_76 ?_
              obtain ⟨I35, q36, q32⟩ := bn1_some q32
              refine V_callV C0 (st := []) (As := [.int y1]) 11 (c_X12_send G.l G.D G.cA G.ad G.bs G.X C0.2.2.2.2.2.2.2.2.2.1 C0.2.2.2.2.2.2.2.2.2.2.2.2 N y0 y1 I16 L R I35 q36) lc_X12_send lk_X12_455 ho0 hk0 ⟨_, rfl, rfl⟩ rfl (by rw [erm]; decide) (Nat.le_of_ble_eq_true rfl) dX12_downlink_77 ?_
              show V G _ 80 [(0, .ref (G.ad y0)), (1, .int y1)] [] I35 L R
              cases q32
              exact V_sub [0, 1] rfl k33
          refine V_if_eq C0 (tgt := 68) (by decide) dX12_downlink_38 (fun c19 => ?_) (fun c19 => ?_)
          · have q17 := (if_pos c19).symm.trans q17
            cases q17
            exact V_sub [0, 1] rfl k18
          · have q17 := (if_neg c19).symm.trans q17
            refine V_aload_n C0 0 rfl rfl dX12_downlink_41 ?_
            refine V_getI C0 11 34 fl_X12_306 ho0 hk0 rfl dX12_downlink_42 ?_
            refine V_aload_n C0 0 rfl rfl dX12_downlink_45 ?_
            refine V_iload_n C0 1 rfl rfl dX12_downlink_46 ?_
            refine V_bipush C0 (v := (31 : Int32)) (by decide) dX12_downlink_47 ?_
            obtain ⟨v20, q21, q17⟩ := bn1_some q17
            refine V_callV C0 (st := [.int (I y0 34)]) (As := [.int y1, .int (31 : Int32)]) 11 (c_X12_get G.l G.D G.cA G.ad G.bs G.X C0.2.2.2.2.2.2.2.2.2.1 C0.2.2.2.2.2.2.2.2.2.2.2.2 y0 y1 (31 : Int32) I L R v20 q21) lc_X12_get lk_X12_211 ho0 hk0 ⟨_, rfl, rfl⟩ rfl (by rw [erm]; decide) (Nat.le_of_ble_eq_true rfl) dX12_downlink_49 ?_
            show V G _ 52 [(0, .ref (G.ad y0)), (1, .int y1)] [.int v20, .int (I y0 34)] I L R
            obtain ⟨c22, q17⟩ := ite_none q17
            refine V_irem C0 c22 dX12_downlink_52 ?_
            obtain ⟨I23, q24, q17⟩ := bn1_some q17
            have k25 : V G f 68 [(0, .ref (G.ad y0)), (1, .int y1)] [] I23 L R := by
              cases q17
              exact V_sub [0, 1] rfl k18
            refine V_if_ne C0 (tgt := 68) (by decide) dX12_downlink_53 (fun c26 => ?_) (fun c26 => ?_)
            · have q24 := (if_neg c26).symm.trans q24
              cases q24
              exact V_sub [0, 1] rfl k25
            · have q24 := (if_pos c26).symm.trans q24
              refine V_aload_n C0 0 rfl rfl dX12_downlink_56 ?_
              refine V_iload_n C0 1 rfl rfl dX12_downlink_57 ?_
              refine V_bipush C0 (v := (48 : Int32)) (by decide) dX12_downlink_58 ?_
              refine V_aload_n C0 0 rfl rfl dX12_downlink_60 ?_
              refine V_getI C0 11 35 fl_X12_309 ho0 hk0 rfl dX12_downlink_61 ?_
              refine V_iadd C0 dX12_downlink_64 ?_
              obtain ⟨I27, q28, q24⟩ := bn1_some q24
              refine V_callV C0 (st := []) (As := [.int y1, .int ((48 : Int32) + (I y0 35))]) 11 (c_X12_goesDown G.l G.D G.cA G.ad G.bs G.X C0.2.2.2.2.2.2.2.2.2.1 C0.2.2.2.2.2.2.2.2.2.2.2.2 y0 y1 ((48 : Int32) + (I y0 35)) I L R I27 q28) lc_X12_goesDown lk_X12_449 ho0 hk0 ⟨_, rfl, rfl⟩ rfl (by rw [erm]; decide) (Nat.le_of_ble_eq_true rfl) dX12_downlink_65 ?_
              show V G _ 68 [(0, .ref (G.ad y0)), (1, .int y1)] [] I27 L R
              cases q24
              exact V_sub [0, 1] rfl k25
        · have q11 := (if_pos c13).symm.trans q11
          refine V_goto C0 (tgt := 80) (by decide) dX12_downlink_28 ?_
          cases q11
          exact V_sub [0, 1] rfl k12
set_option maxRecDepth 100000 in
set_option maxHeartbeats 4000000 in
theorem c_X12_downlink (l : Launch) (D : va_G) (cA : Nat → ClassId) (ad : Nat → Nat) (bs : Nat) (X : State → Prop) (hAd : Ax ad bs) (hX : Stb bs X) (N : Nat) (x0 : Nat) (I : MI) (L : ML) (R : MR) (I' : MI) (h : F_X12_downlink N x0 I L R = some (I')) : Cn l D cA ad bs X yX12_downlink cX12_downlink 2 none 4 92 [.ref (ad x0)] I L R (none, I', L, R) := by
  refine Cn.ofV hAd hX [(0, .ref (ad x0))] rfl (Nat.le_of_ble_eq_true rfl) (by decide) ?_
  intro G el eD ecA ead ebs eX erm eNL C0
  subst el eD ecA ead ebs eX
  unfold F_X12_downlink at h
  obtain ⟨c_x0, h⟩ := ite_some h
  refine V_iconst C0 (v := (0 : Int32)) (by decide) dX12_downlink_0 ?_
  refine V_istore_n C0 [(1, .int (0 : Int32)), (0, .ref (G.ad x0))] rfl (by rw [eNL]; decide) rfl dX12_downlink_1 ?_
  obtain ⟨z38, q39, h⟩ := bn1_some h
  refine V_sub [1, 0] rfl (lp_X12_downlink_2 C0 eNL erm N N x0 (0 : Int32) I L R _ c_x0.1 c_x0.2 q39 _ ?_)
  show V G _ 86 [] [] z38 L R
  cases h
  exact V_vret C0 dX12_downlink_86
theorem dX12_doTick_0 : decode cX12_doTick 0 = .ok (.aload_n 0, 1) := by decide +kernel
theorem dX12_doTick_1 : decode cX12_doTick 1 = .ok (.iconst 0, 1) := by decide +kernel
theorem dX12_doTick_2 : decode cX12_doTick 2 = .ok (.putfield 429, 3) := by decide +kernel
theorem dX12_doTick_5 : decode cX12_doTick 5 = .ok (.aload_n 0, 1) := by decide +kernel
theorem dX12_doTick_6 : decode cX12_doTick 6 = .ok (.invokevirtual 458, 3) := by decide +kernel
theorem dX12_doTick_9 : decode cX12_doTick 9 = .ok (.aload_n 0, 1) := by decide +kernel
theorem dX12_doTick_10 : decode cX12_doTick 10 = .ok (.invokevirtual 461, 3) := by decide +kernel
theorem dX12_doTick_13 : decode cX12_doTick 13 = .ok (.aload_n 0, 1) := by decide +kernel
theorem dX12_doTick_14 : decode cX12_doTick 14 = .ok (.invokevirtual 464, 3) := by decide +kernel
theorem dX12_doTick_17 : decode cX12_doTick 17 = .ok (.aload_n 0, 1) := by decide +kernel
theorem dX12_doTick_18 : decode cX12_doTick 18 = .ok (.invokevirtual 467, 3) := by decide +kernel
theorem dX12_doTick_21 : decode cX12_doTick 21 = .ok (.aload_n 0, 1) := by decide +kernel
theorem dX12_doTick_22 : decode cX12_doTick 22 = .ok (.invokevirtual 470, 3) := by decide +kernel
theorem dX12_doTick_25 : decode cX12_doTick 25 = .ok (.aload_n 0, 1) := by decide +kernel
theorem dX12_doTick_26 : decode cX12_doTick 26 = .ok (.invokevirtual 473, 3) := by decide +kernel
theorem dX12_doTick_29 : decode cX12_doTick 29 = .ok (.aload_n 0, 1) := by decide +kernel
theorem dX12_doTick_30 : decode cX12_doTick 30 = .ok (.invokevirtual 476, 3) := by decide +kernel
theorem dX12_doTick_33 : decode cX12_doTick 33 = .ok (.aload_n 0, 1) := by decide +kernel
theorem dX12_doTick_34 : decode cX12_doTick 34 = .ok (.invokevirtual 479, 3) := by decide +kernel
theorem dX12_doTick_37 : decode cX12_doTick 37 = .ok (.aload_n 0, 1) := by decide +kernel
theorem dX12_doTick_38 : decode cX12_doTick 38 = .ok (.invokevirtual 482, 3) := by decide +kernel
theorem dX12_doTick_41 : decode cX12_doTick 41 = .ok (.aload_n 0, 1) := by decide +kernel
theorem dX12_doTick_42 : decode cX12_doTick 42 = .ok (.invokevirtual 485, 3) := by decide +kernel
theorem dX12_doTick_45 : decode cX12_doTick 45 = .ok (.aload_n 0, 1) := by decide +kernel
theorem dX12_doTick_46 : decode cX12_doTick 46 = .ok (.aload_n 0, 1) := by decide +kernel
theorem dX12_doTick_47 : decode cX12_doTick 47 = .ok (.getfield 429, 3) := by decide +kernel
theorem dX12_doTick_50 : decode cX12_doTick 50 = .ok (.ifCond .eq 14, 3) := by decide +kernel
theorem dX12_doTick_53 : decode cX12_doTick 53 = .ok (.aload_n 0, 1) := by decide +kernel
theorem dX12_doTick_54 : decode cX12_doTick 54 = .ok (.getfield 309, 3) := by decide +kernel
theorem dX12_doTick_57 : decode cX12_doTick 57 = .ok (.ifCond .eq 7, 3) := by decide +kernel
theorem dX12_doTick_60 : decode cX12_doTick 60 = .ok (.iconst 3, 1) := by decide +kernel
theorem dX12_doTick_61 : decode cX12_doTick 61 = .ok (.goto 7, 3) := by decide +kernel
theorem dX12_doTick_64 : decode cX12_doTick 64 = .ok (.aload_n 0, 1) := by decide +kernel
theorem dX12_doTick_65 : decode cX12_doTick 65 = .ok (.getfield 309, 3) := by decide +kernel
theorem dX12_doTick_68 : decode cX12_doTick 68 = .ok (.putfield 309, 3) := by decide +kernel
theorem dX12_doTick_71 : decode cX12_doTick 71 = .ok (.aload_n 0, 1) := by decide +kernel
theorem dX12_doTick_72 : decode cX12_doTick 72 = .ok (.dup, 1) := by decide +kernel
theorem dX12_doTick_73 : decode cX12_doTick 73 = .ok (.getfield 306, 3) := by decide +kernel
theorem dX12_doTick_76 : decode cX12_doTick 76 = .ok (.iconst 1, 1) := by decide +kernel
theorem dX12_doTick_77 : decode cX12_doTick 77 = .ok (.iadd, 1) := by decide +kernel
theorem dX12_doTick_78 : decode cX12_doTick 78 = .ok (.putfield 306, 3) := by decide +kernel
theorem dX12_doTick_81 : decode cX12_doTick 81 = .ok (.return_, 1) := by decide +kernel
def F_X12_doTick (N : Nat) (x0 : Nat) (I : MI) (L : ML) (R : MR) : Option (MI) :=
  if kd x0 = 11 ∧ x0 < NN then
  wr (uI I x0 50 (0 : Int32)) fun (I1 : MI) =>
  bn1 (F_X12_shine x0 I1 L R) fun I2 =>
  bn1 (F_X12_doPlan N x0 I2 L R) fun I4 =>
  bn1 (F_X12_readSensors N x0 I4 L R) fun I6 =>
  bn1 (F_X12_control N x0 I6 L R) fun I8 =>
  bn1 (F_X12_turn N x0 I8 L R) fun I10 =>
  bn1 (F_X12_power N x0 I10 L R) fun I12 =>
  bn1 (F_X12_flow N x0 I12 L R) fun I14 =>
  bn1 (F_X12_heat N x0 I14 L R) fun I16 =>
  bn1 (F_X12_frames N x0 I16 L R) fun I18 =>
  bn1 (F_X12_downlink N x0 I18 L R) fun I20 =>
  bn1 (
    if (I20 x0 50) = 0 then
      some ((I20 x0 35))
    else
      bn1 (
        if (I20 x0 35) = 0 then
          some ((I20 x0 35))
        else
          some ((3 : Int32))
      ) fun (s26 : Int32) =>
      some (s26)
  ) fun (s22 : Int32) =>
  wr (uI I20 x0 35 s22) fun (I30 : MI) =>
  wr (uI I30 x0 34 ((I30 x0 34) + (1 : Int32))) fun (I31 : MI) =>
  some (I31)
  else none
set_option maxRecDepth 100000 in
set_option maxHeartbeats 4000000 in
theorem c_X12_doTick (l : Launch) (D : va_G) (cA : Nat → ClassId) (ad : Nat → Nat) (bs : Nat) (X : State → Prop) (hAd : Ax ad bs) (hX : Stb bs X) (N : Nat) (x0 : Nat) (I : MI) (L : ML) (R : MR) (I' : MI) (h : F_X12_doTick N x0 I L R = some (I')) : Cn l D cA ad bs X yX12_doTick cX12_doTick 1 none 8 191 [.ref (ad x0)] I L R (none, I', L, R) := by
  refine Cn.ofV hAd hX [(0, .ref (ad x0))] rfl (Nat.le_of_ble_eq_true rfl) (by decide) ?_
  intro G el eD ecA ead ebs eX erm eNL C0
  subst el eD ecA ead ebs eX
  unfold F_X12_doTick at h
  obtain ⟨c_x0, h⟩ := ite_some h
  refine V_aload_n C0 0 rfl rfl dX12_doTick_0 ?_
  refine V_iconst C0 (v := (0 : Int32)) (by decide) dX12_doTick_1 ?_
  obtain ⟨I1, eI1, h⟩ := wr_some h
  refine V_putZ C0 11 50 fp_X12_429 c_x0.2 c_x0.1 rfl (by decide) dX12_doTick_2 ?_
  rw [← eI1]
  refine V_aload_n C0 0 rfl rfl dX12_doTick_5 ?_
  obtain ⟨I2, q3, h⟩ := bn1_some h
  refine V_callV C0 (st := []) (As := []) 11 (c_X12_shine G.l G.D G.cA G.ad G.bs G.X C0.2.2.2.2.2.2.2.2.2.1 C0.2.2.2.2.2.2.2.2.2.2.2.2 x0 I1 L R I2 q3) lc_X12_shine lk_X12_458 c_x0.2 c_x0.1 ⟨_, rfl, rfl⟩ rfl (by rw [erm]; decide) (Nat.le_of_ble_eq_true rfl) dX12_doTick_6 ?_
  show V G _ 9 [(0, .ref (G.ad x0))] [] I2 L R
  refine V_aload_n C0 0 rfl rfl dX12_doTick_9 ?_
  obtain ⟨I4, q5, h⟩ := bn1_some h
  refine V_callV C0 (st := []) (As := []) 11 (c_X12_doPlan G.l G.D G.cA G.ad G.bs G.X C0.2.2.2.2.2.2.2.2.2.1 C0.2.2.2.2.2.2.2.2.2.2.2.2 N x0 I2 L R I4 q5) lc_X12_doPlan lk_X12_461 c_x0.2 c_x0.1 ⟨_, rfl, rfl⟩ rfl (by rw [erm]; decide) (Nat.le_of_ble_eq_true rfl) dX12_doTick_10 ?_
  show V G _ 13 [(0, .ref (G.ad x0))] [] I4 L R
  refine V_aload_n C0 0 rfl rfl dX12_doTick_13 ?_
  obtain ⟨I6, q7, h⟩ := bn1_some h
  refine V_callV C0 (st := []) (As := []) 11 (c_X12_readSensors G.l G.D G.cA G.ad G.bs G.X C0.2.2.2.2.2.2.2.2.2.1 C0.2.2.2.2.2.2.2.2.2.2.2.2 N x0 I4 L R I6 q7) lc_X12_readSensors lk_X12_464 c_x0.2 c_x0.1 ⟨_, rfl, rfl⟩ rfl (by rw [erm]; decide) (Nat.le_of_ble_eq_true rfl) dX12_doTick_14 ?_
  show V G _ 17 [(0, .ref (G.ad x0))] [] I6 L R
  refine V_aload_n C0 0 rfl rfl dX12_doTick_17 ?_
  obtain ⟨I8, q9, h⟩ := bn1_some h
  refine V_callV C0 (st := []) (As := []) 11 (c_X12_control G.l G.D G.cA G.ad G.bs G.X C0.2.2.2.2.2.2.2.2.2.1 C0.2.2.2.2.2.2.2.2.2.2.2.2 N x0 I6 L R I8 q9) lc_X12_control lk_X12_467 c_x0.2 c_x0.1 ⟨_, rfl, rfl⟩ rfl (by rw [erm]; decide) (Nat.le_of_ble_eq_true rfl) dX12_doTick_18 ?_
  show V G _ 21 [(0, .ref (G.ad x0))] [] I8 L R
  refine V_aload_n C0 0 rfl rfl dX12_doTick_21 ?_
  obtain ⟨I10, q11, h⟩ := bn1_some h
  refine V_callV C0 (st := []) (As := []) 11 (c_X12_turn G.l G.D G.cA G.ad G.bs G.X C0.2.2.2.2.2.2.2.2.2.1 C0.2.2.2.2.2.2.2.2.2.2.2.2 N x0 I8 L R I10 q11) lc_X12_turn lk_X12_470 c_x0.2 c_x0.1 ⟨_, rfl, rfl⟩ rfl (by rw [erm]; decide) (Nat.le_of_ble_eq_true rfl) dX12_doTick_22 ?_
  show V G _ 25 [(0, .ref (G.ad x0))] [] I10 L R
  refine V_aload_n C0 0 rfl rfl dX12_doTick_25 ?_
  obtain ⟨I12, q13, h⟩ := bn1_some h
  refine V_callV C0 (st := []) (As := []) 11 (c_X12_power G.l G.D G.cA G.ad G.bs G.X C0.2.2.2.2.2.2.2.2.2.1 C0.2.2.2.2.2.2.2.2.2.2.2.2 N x0 I10 L R I12 q13) lc_X12_power lk_X12_473 c_x0.2 c_x0.1 ⟨_, rfl, rfl⟩ rfl (by rw [erm]; decide) (Nat.le_of_ble_eq_true rfl) dX12_doTick_26 ?_
  show V G _ 29 [(0, .ref (G.ad x0))] [] I12 L R
  refine V_aload_n C0 0 rfl rfl dX12_doTick_29 ?_
  obtain ⟨I14, q15, h⟩ := bn1_some h
  refine V_callV C0 (st := []) (As := []) 11 (c_X12_flow G.l G.D G.cA G.ad G.bs G.X C0.2.2.2.2.2.2.2.2.2.1 C0.2.2.2.2.2.2.2.2.2.2.2.2 N x0 I12 L R I14 q15) lc_X12_flow lk_X12_476 c_x0.2 c_x0.1 ⟨_, rfl, rfl⟩ rfl (by rw [erm]; decide) (Nat.le_of_ble_eq_true rfl) dX12_doTick_30 ?_
  show V G _ 33 [(0, .ref (G.ad x0))] [] I14 L R
  refine V_aload_n C0 0 rfl rfl dX12_doTick_33 ?_
  obtain ⟨I16, q17, h⟩ := bn1_some h
  refine V_callV C0 (st := []) (As := []) 11 (c_X12_heat G.l G.D G.cA G.ad G.bs G.X C0.2.2.2.2.2.2.2.2.2.1 C0.2.2.2.2.2.2.2.2.2.2.2.2 N x0 I14 L R I16 q17) lc_X12_heat lk_X12_479 c_x0.2 c_x0.1 ⟨_, rfl, rfl⟩ rfl (by rw [erm]; decide) (Nat.le_of_ble_eq_true rfl) dX12_doTick_34 ?_
  show V G _ 37 [(0, .ref (G.ad x0))] [] I16 L R
  refine V_aload_n C0 0 rfl rfl dX12_doTick_37 ?_
  obtain ⟨I18, q19, h⟩ := bn1_some h
  refine V_callV C0 (st := []) (As := []) 11 (c_X12_frames G.l G.D G.cA G.ad G.bs G.X C0.2.2.2.2.2.2.2.2.2.1 C0.2.2.2.2.2.2.2.2.2.2.2.2 N x0 I16 L R I18 q19) lc_X12_frames lk_X12_482 c_x0.2 c_x0.1 ⟨_, rfl, rfl⟩ rfl (by rw [erm]; decide) (Nat.le_of_ble_eq_true rfl) dX12_doTick_38 ?_
  show V G _ 41 [(0, .ref (G.ad x0))] [] I18 L R
  refine V_aload_n C0 0 rfl rfl dX12_doTick_41 ?_
  obtain ⟨I20, q21, h⟩ := bn1_some h
  refine V_callV C0 (st := []) (As := []) 11 (c_X12_downlink G.l G.D G.cA G.ad G.bs G.X C0.2.2.2.2.2.2.2.2.2.1 C0.2.2.2.2.2.2.2.2.2.2.2.2 N x0 I18 L R I20 q21) lc_X12_downlink lk_X12_485 c_x0.2 c_x0.1 ⟨_, rfl, rfl⟩ rfl (by rw [erm]; decide) (Nat.le_of_ble_eq_true rfl) dX12_doTick_42 ?_
  show V G _ 45 [(0, .ref (G.ad x0))] [] I20 L R
  refine V_aload_n C0 0 rfl rfl dX12_doTick_45 ?_
  refine V_aload_n C0 0 rfl rfl dX12_doTick_46 ?_
  refine V_getI C0 11 50 fl_X12_429 c_x0.2 c_x0.1 rfl dX12_doTick_47 ?_
  obtain ⟨s22, q23, h⟩ := bn1_some h
  have k24 : V G (qf G (none, I', L, R)) 68 [(0, .ref (G.ad x0))] [.int s22, .ref (G.ad x0)] I20 L R := by
    obtain ⟨I30, eI30, h⟩ := wr_some h
    refine V_putI C0 11 35 fp_X12_309 c_x0.2 c_x0.1 rfl dX12_doTick_68 ?_
    rw [← eI30]
    refine V_aload_n C0 0 rfl rfl dX12_doTick_71 ?_
    refine V_dup C0 rfl dX12_doTick_72 ?_
    refine V_getI C0 11 34 fl_X12_306 c_x0.2 c_x0.1 rfl dX12_doTick_73 ?_
    refine V_iconst C0 (v := (1 : Int32)) (by decide) dX12_doTick_76 ?_
    refine V_iadd C0 dX12_doTick_77 ?_
    obtain ⟨I31, eI31, h⟩ := wr_some h
    refine V_putI C0 11 34 fp_X12_306 c_x0.2 c_x0.1 rfl dX12_doTick_78 ?_
    rw [← eI31]
    cases h
    exact V_vret C0 dX12_doTick_81
  refine V_if_eq C0 (tgt := 64) (by decide) dX12_doTick_50 (fun c25 => ?_) (fun c25 => ?_)
  · have q23 := (if_pos c25).symm.trans q23
    refine V_aload_n C0 0 rfl rfl dX12_doTick_64 ?_
    refine V_getI C0 11 35 fl_X12_309 c_x0.2 c_x0.1 rfl dX12_doTick_65 ?_
    cases q23
    exact V_sub [0] rfl k24
  · have q23 := (if_neg c25).symm.trans q23
    refine V_aload_n C0 0 rfl rfl dX12_doTick_53 ?_
    refine V_getI C0 11 35 fl_X12_309 c_x0.2 c_x0.1 rfl dX12_doTick_54 ?_
    obtain ⟨s26, q27, q23⟩ := bn1_some q23
    have k28 : V G (qf G (none, I', L, R)) 68 [(0, .ref (G.ad x0))] [.int s26, .ref (G.ad x0)] I20 L R := by
      cases q23
      exact V_sub [0] rfl k24
    refine V_if_eq C0 (tgt := 64) (by decide) dX12_doTick_57 (fun c29 => ?_) (fun c29 => ?_)
    · have q27 := (if_pos c29).symm.trans q27
      refine V_aload_n C0 0 rfl rfl dX12_doTick_64 ?_
      refine V_getI C0 11 35 fl_X12_309 c_x0.2 c_x0.1 rfl dX12_doTick_65 ?_
      cases q27
      exact V_sub [0] rfl k28
    · have q27 := (if_neg c29).symm.trans q27
      refine V_iconst C0 (v := (3 : Int32)) (by decide) dX12_doTick_60 ?_
      refine V_goto C0 (tgt := 68) (by decide) dX12_doTick_61 ?_
      cases q27
      exact V_sub [0] rfl k28
theorem dX12_run_0 : decode cX12_run 0 = .ok (.aload_n 0, 1) := by decide +kernel
theorem dX12_run_1 : decode cX12_run 1 = .ok (.iconst 0, 1) := by decide +kernel
theorem dX12_run_2 : decode cX12_run 2 = .ok (.putfield 112, 3) := by decide +kernel
theorem dX12_run_5 : decode cX12_run 5 = .ok (.aload_n 0, 1) := by decide +kernel
theorem dX12_run_6 : decode cX12_run 6 = .ok (.getfield 297, 3) := by decide +kernel
theorem dX12_run_9 : decode cX12_run 9 = .ok (.ifCond .ne 9, 3) := by decide +kernel
theorem dX12_run_12 : decode cX12_run 12 = .ok (.aload_n 0, 1) := by decide +kernel
theorem dX12_run_13 : decode cX12_run 13 = .ok (.iconst 1, 1) := by decide +kernel
theorem dX12_run_14 : decode cX12_run 14 = .ok (.invokevirtual 488, 3) := by decide +kernel
theorem dX12_run_17 : decode cX12_run 17 = .ok (.ireturn, 1) := by decide +kernel
theorem dX12_run_18 : decode cX12_run 18 = .ok (.iload_n 1, 1) := by decide +kernel
theorem dX12_run_19 : decode cX12_run 19 = .ok (.ifCond .lt 10, 3) := by decide +kernel
theorem dX12_run_22 : decode cX12_run 22 = .ok (.iload_n 1, 1) := by decide +kernel
theorem dX12_run_23 : decode cX12_run 23 = .ok (.sipush 1000, 3) := by decide +kernel
theorem dX12_run_26 : decode cX12_run 26 = .ok (.if_icmp .le 9, 3) := by decide +kernel
theorem dX12_run_29 : decode cX12_run 29 = .ok (.aload_n 0, 1) := by decide +kernel
theorem dX12_run_30 : decode cX12_run 30 = .ok (.iconst 2, 1) := by decide +kernel
theorem dX12_run_31 : decode cX12_run 31 = .ok (.invokevirtual 488, 3) := by decide +kernel
theorem dX12_run_34 : decode cX12_run 34 = .ok (.ireturn, 1) := by decide +kernel
theorem dX12_run_35 : decode cX12_run 35 = .ok (.iconst 0, 1) := by decide +kernel
theorem dX12_run_36 : decode cX12_run 36 = .ok (.istore_n 2, 1) := by decide +kernel
theorem dX12_run_37 : decode cX12_run 37 = .ok (.iload_n 2, 1) := by decide +kernel
theorem dX12_run_38 : decode cX12_run 38 = .ok (.iload_n 1, 1) := by decide +kernel
theorem dX12_run_39 : decode cX12_run 39 = .ok (.if_icmp .ge 13, 3) := by decide +kernel
theorem dX12_run_42 : decode cX12_run 42 = .ok (.aload_n 0, 1) := by decide +kernel
theorem dX12_run_43 : decode cX12_run 43 = .ok (.invokevirtual 491, 3) := by decide +kernel
theorem dX12_run_46 : decode cX12_run 46 = .ok (.iinc 2 1, 3) := by decide +kernel
theorem dX12_run_49 : decode cX12_run 49 = .ok (.goto (-12), 3) := by decide +kernel
theorem dX12_run_52 : decode cX12_run 52 = .ok (.aload_n 0, 1) := by decide +kernel
theorem dX12_run_53 : decode cX12_run 53 = .ok (.getfield 306, 3) := by decide +kernel
theorem dX12_run_56 : decode cX12_run 56 = .ok (.ireturn, 1) := by decide +kernel
def LF_X12_run_37 (N : Nat) : Nat → Nat → Int32 → Int32 → MI → ML → MR → Option (MI)
  | 0, _, _, _, _, _, _ => none
  | k + 1, y0, y1, y2, I, L, R =>
    if y1 ≤ y2 then
      some (I)
    else
      bn1 (F_X12_doTick N y0 I L R) fun I9 =>
      wr (y2 + (1 : Int32)) fun (u11 : Int32) =>
      LF_X12_run_37 N k y0 y1 u11 I9 L R
def F_X12_run (N : Nat) (x0 : Nat) (x1 : Int32) (I : MI) (L : ML) (R : MR) : Option (Int32 × MI) :=
  if kd x0 = 11 ∧ x0 < NN then
  wr (uI I x0 5 (0 : Int32)) fun (I1 : MI) =>
  if (I1 x0 21) = 0 then
    bn2 (F_X12_fail x0 (1 : Int32) I1 L R) fun v17 I18 =>
    some (v17, I18)
  else
    if x1 < 0 then
      bn2 (F_X12_fail x0 (2 : Int32) I1 L R) fun v4 I5 =>
      some (v4, I5)
    else
      if x1 ≤ (1000 : Int32) then
        bn1 (LF_X12_run_37 N N x0 x1 (0 : Int32) I1 L R) fun z12 =>
        some ((z12 x0 34), z12)
      else
        bn2 (F_X12_fail x0 (2 : Int32) I1 L R) fun v14 I15 =>
        some (v14, I15)
  else none
set_option maxRecDepth 100000 in
set_option maxHeartbeats 4000000 in
theorem lp_X12_run_37 {G : Gm} (C0 : Cx G (yX12_run.cls) cX12_run (some .int)) (eNL : G.nL = 3) (erm : G.rm = ({ frames := 9, cells := 0, slots := 0, locals := 211 } : Room)) (N : Nat) : ∀ (k : Nat) (y0 : Nat) (y1 : Int32) (y2 : Int32) (I : MI) (L : ML) (R : MR) (z : MI) (hk0 : kd y0 = 11) (ho0 : y0 < NN), LF_X12_run_37 N k y0 y1 y2 I L R = some z → ∀ f : State → Prop, V G f 52 [(0, .ref (G.ad y0))] [] z L R → V G f 37 [(0, .ref (G.ad y0)), (1, .int y1), (2, .int y2)] [] I L R := by
  intro k
  induction k with
  | zero =>
    intro y0 y1 y2 I L R q hk0 ho0 h
    exact absurd h (by simp [LF_X12_run_37])
  | succ k ih =>
    intro y0 y1 y2 I L R q hk0 ho0 h f kx
    rw [LF_X12_run_37] at h
    refine V_iload_n C0 2 rfl rfl dX12_run_37 ?_
    refine V_iload_n C0 1 rfl rfl dX12_run_38 ?_
    refine V_icmp_ge C0 (tgt := 52) (by decide) dX12_run_39 (fun c8 => ?_) (fun c8 => ?_)
    · have h := (if_pos c8).symm.trans h
      cases h
      exact V_sub [0] rfl kx
    · have h := (if_neg c8).symm.trans h
      refine V_aload_n C0 0 rfl rfl dX12_run_42 ?_
      obtain ⟨I9, q10, h⟩ := bn1_some h
      refine V_callV C0 (st := []) (As := []) 11 (c_X12_doTick G.l G.D G.cA G.ad G.bs G.X C0.2.2.2.2.2.2.2.2.2.1 C0.2.2.2.2.2.2.2.2.2.2.2.2 N y0 I L R I9 q10) lc_X12_doTick lk_X12_491 ho0 hk0 ⟨_, rfl, rfl⟩ rfl (by rw [erm]; decide) (Nat.le_of_ble_eq_true rfl) dX12_run_43 ?_
      show V G _ 46 [(0, .ref (G.ad y0)), (1, .int y1), (2, .int y2)] [] I9 L R
      obtain ⟨u11, eu11, h⟩ := wr_some h
      refine V_iinc C0 2 [(2, .int u11), (0, .ref (G.ad y0)), (1, .int y1)] rfl (n := 1) (by rw [eu11]; rfl) (by rw [eNL]; decide) rfl dX12_run_46 ?_
      refine V_goto C0 (tgt := 37) (by decide) dX12_run_49 ?_
      exact V_sub [1, 2, 0] rfl (ih y0 y1 u11 I9 L R _ hk0 ho0 h f kx)
set_option maxRecDepth 100000 in
set_option maxHeartbeats 4000000 in
theorem c_X12_run (l : Launch) (D : va_G) (cA : Nat → ClassId) (ad : Nat → Nat) (bs : Nat) (X : State → Prop) (hAd : Ax ad bs) (hX : Stb bs X) (N : Nat) (x0 : Nat) (x1 : Int32) (I : MI) (L : ML) (R : MR) (r : Int32) (I' : MI) (h : F_X12_run N x0 x1 I L R = some (r, I')) : Cn l D cA ad bs X yX12_run cX12_run 3 (some .int) 9 211 [.ref (ad x0), .int x1] I L R (some (.int r), I', L, R) := by
  refine Cn.ofV hAd hX [(0, .ref (ad x0)), (1, .int x1)] rfl (Nat.le_of_ble_eq_true rfl) (by decide) ?_
  intro G el eD ecA ead ebs eX erm eNL C0
  subst el eD ecA ead ebs eX
  unfold F_X12_run at h
  obtain ⟨c_x0, h⟩ := ite_some h
  refine V_aload_n C0 0 rfl rfl dX12_run_0 ?_
  refine V_iconst C0 (v := (0 : Int32)) (by decide) dX12_run_1 ?_
  obtain ⟨I1, eI1, h⟩ := wr_some h
  refine V_putI C0 11 5 fp_X12_112 c_x0.2 c_x0.1 rfl dX12_run_2 ?_
  rw [← eI1]
  refine V_aload_n C0 0 rfl rfl dX12_run_5 ?_
  refine V_getI C0 11 21 fl_X12_297 c_x0.2 c_x0.1 rfl dX12_run_6 ?_
  refine V_if_ne C0 (tgt := 18) (by decide) dX12_run_9 (fun c2 => ?_) (fun c2 => ?_)
  · have h := (if_neg c2).symm.trans h
    refine V_iload_n C0 1 rfl rfl dX12_run_18 ?_
    refine V_if_lt C0 (tgt := 29) (by decide) dX12_run_19 (fun c3 => ?_) (fun c3 => ?_)
    · have h := (if_pos c3).symm.trans h
      refine V_aload_n C0 0 rfl rfl dX12_run_29 ?_
      refine V_iconst C0 (v := (2 : Int32)) (by decide) dX12_run_30 ?_
      obtain ⟨v4, I5, q6, h⟩ := bn2_some h
      refine V_callV C0 (st := []) (As := [.int (2 : Int32)]) 11 (c_X12_fail G.l G.D G.cA G.ad G.bs G.X C0.2.2.2.2.2.2.2.2.2.1 C0.2.2.2.2.2.2.2.2.2.2.2.2 x0 (2 : Int32) I1 L R v4 I5 q6) lc_X12_fail lk_X12_488 c_x0.2 c_x0.1 ⟨_, rfl, rfl⟩ rfl (by rw [erm]; decide) (Nat.le_of_ble_eq_true rfl) dX12_run_31 ?_
      show V G _ 34 [(0, .ref (G.ad x0)), (1, .int x1)] [.int v4] I5 L R
      cases h
      exact V_iret C0 dX12_run_34
    · have h := (if_neg c3).symm.trans h
      refine V_iload_n C0 1 rfl rfl dX12_run_22 ?_
      refine V_sipush C0 (v := (1000 : Int32)) (by decide) dX12_run_23 ?_
      refine V_icmp_le C0 (tgt := 35) (by decide) dX12_run_26 (fun c7 => ?_) (fun c7 => ?_)
      · have h := (if_pos c7).symm.trans h
        refine V_iconst C0 (v := (0 : Int32)) (by decide) dX12_run_35 ?_
        refine V_istore_n C0 [(2, .int (0 : Int32)), (0, .ref (G.ad x0)), (1, .int x1)] rfl (by rw [eNL]; decide) rfl dX12_run_36 ?_
        obtain ⟨z12, q13, h⟩ := bn1_some h
        refine V_sub [1, 2, 0] rfl (lp_X12_run_37 C0 eNL erm N N x0 x1 (0 : Int32) I1 L R _ c_x0.1 c_x0.2 q13 _ ?_)
        show V G _ 52 [(0, .ref (G.ad x0))] [] z12 L R
        refine V_aload_n C0 0 rfl rfl dX12_run_52 ?_
        refine V_getI C0 11 34 fl_X12_306 c_x0.2 c_x0.1 rfl dX12_run_53 ?_
        cases h
        exact V_iret C0 dX12_run_56
      · have h := (if_neg c7).symm.trans h
        refine V_aload_n C0 0 rfl rfl dX12_run_29 ?_
        refine V_iconst C0 (v := (2 : Int32)) (by decide) dX12_run_30 ?_
        obtain ⟨v14, I15, q16, h⟩ := bn2_some h
        refine V_callV C0 (st := []) (As := [.int (2 : Int32)]) 11 (c_X12_fail G.l G.D G.cA G.ad G.bs G.X C0.2.2.2.2.2.2.2.2.2.1 C0.2.2.2.2.2.2.2.2.2.2.2.2 x0 (2 : Int32) I1 L R v14 I15 q16) lc_X12_fail lk_X12_488 c_x0.2 c_x0.1 ⟨_, rfl, rfl⟩ rfl (by rw [erm]; decide) (Nat.le_of_ble_eq_true rfl) dX12_run_31 ?_
        show V G _ 34 [(0, .ref (G.ad x0)), (1, .int x1)] [.int v14] I15 L R
        cases h
        exact V_iret C0 dX12_run_34
  · have h := (if_pos c2).symm.trans h
    refine V_aload_n C0 0 rfl rfl dX12_run_12 ?_
    refine V_iconst C0 (v := (1 : Int32)) (by decide) dX12_run_13 ?_
    obtain ⟨v17, I18, q19, h⟩ := bn2_some h
    refine V_callV C0 (st := []) (As := [.int (1 : Int32)]) 11 (c_X12_fail G.l G.D G.cA G.ad G.bs G.X C0.2.2.2.2.2.2.2.2.2.1 C0.2.2.2.2.2.2.2.2.2.2.2.2 x0 (1 : Int32) I1 L R v17 I18 q19) lc_X12_fail lk_X12_488 c_x0.2 c_x0.1 ⟨_, rfl, rfl⟩ rfl (by rw [erm]; decide) (Nat.le_of_ble_eq_true rfl) dX12_run_14 ?_
    show V G _ 17 [(0, .ref (G.ad x0)), (1, .int x1)] [.int v17] I18 L R
    cases h
    exact V_iret C0 dX12_run_17
theorem dX12_isUnit_0 : decode cX12_isUnit 0 = .ok (.iload_n 1, 1) := by decide +kernel
theorem dX12_isUnit_1 : decode cX12_isUnit 1 = .ok (.ifCond .lt 15, 3) := by decide +kernel
theorem dX12_isUnit_4 : decode cX12_isUnit 4 = .ok (.iload_n 1, 1) := by decide +kernel
theorem dX12_isUnit_5 : decode cX12_isUnit 5 = .ok (.aload_n 0, 1) := by decide +kernel
theorem dX12_isUnit_6 : decode cX12_isUnit 6 = .ok (.getfield 297, 3) := by decide +kernel
theorem dX12_isUnit_9 : decode cX12_isUnit 9 = .ok (.if_icmp .ge 7, 3) := by decide +kernel
theorem dX12_isUnit_12 : decode cX12_isUnit 12 = .ok (.iconst 1, 1) := by decide +kernel
theorem dX12_isUnit_13 : decode cX12_isUnit 13 = .ok (.goto 4, 3) := by decide +kernel
theorem dX12_isUnit_16 : decode cX12_isUnit 16 = .ok (.iconst 0, 1) := by decide +kernel
theorem dX12_isUnit_17 : decode cX12_isUnit 17 = .ok (.ireturn, 1) := by decide +kernel
def F_X12_isUnit (x0 : Nat) (x1 : Int32) (I : MI) (L : ML) (R : MR) : Option (Bool) :=
  if kd x0 = 11 ∧ x0 < NN then
  if x1 < 0 then
    some (false)
  else
    if (I x0 21) ≤ x1 then
      some (false)
    else
      some (true)
  else none
set_option maxRecDepth 100000 in
set_option maxHeartbeats 4000000 in
theorem c_X12_isUnit (l : Launch) (D : va_G) (cA : Nat → ClassId) (ad : Nat → Nat) (bs : Nat) (X : State → Prop) (hAd : Ax ad bs) (hX : Stb bs X) (x0 : Nat) (x1 : Int32) (I : MI) (L : ML) (R : MR) (r : Bool) (h : F_X12_isUnit x0 x1 I L R = some (r)) : Cn l D cA ad bs X yX12_isUnit cX12_isUnit 2 (some .boolean) 0 0 [.ref (ad x0), .int x1] I L R (some (.int (b2i r)), I, L, R) := by
  refine Cn.ofV hAd hX [(0, .ref (ad x0)), (1, .int x1)] rfl (Nat.le_of_ble_eq_true rfl) (by decide) ?_
  intro G el eD ecA ead ebs eX erm eNL C0
  subst el eD ecA ead ebs eX
  unfold F_X12_isUnit at h
  obtain ⟨c_x0, h⟩ := ite_some h
  refine V_iload_n C0 1 rfl rfl dX12_isUnit_0 ?_
  refine V_if_lt C0 (tgt := 16) (by decide) dX12_isUnit_1 (fun c1 => ?_) (fun c1 => ?_)
  · have h := (if_pos c1).symm.trans h
    refine V_iconst C0 (v := (0 : Int32)) (by decide) dX12_isUnit_16 ?_
    cases h
    exact V_zret C0 (by decide) dX12_isUnit_17
  · have h := (if_neg c1).symm.trans h
    refine V_iload_n C0 1 rfl rfl dX12_isUnit_4 ?_
    refine V_aload_n C0 0 rfl rfl dX12_isUnit_5 ?_
    refine V_getI C0 11 21 fl_X12_297 c_x0.2 c_x0.1 rfl dX12_isUnit_6 ?_
    refine V_icmp_ge C0 (tgt := 16) (by decide) dX12_isUnit_9 (fun c2 => ?_) (fun c2 => ?_)
    · have h := (if_pos c2).symm.trans h
      refine V_iconst C0 (v := (0 : Int32)) (by decide) dX12_isUnit_16 ?_
      cases h
      exact V_zret C0 (by decide) dX12_isUnit_17
    · have h := (if_neg c2).symm.trans h
      refine V_iconst C0 (v := (1 : Int32)) (by decide) dX12_isUnit_12 ?_
      refine V_goto C0 (tgt := 17) (by decide) dX12_isUnit_13 ?_
      cases h
      exact V_zret C0 (by decide) dX12_isUnit_17
theorem dX12_canAct_0 : decode cX12_canAct 0 = .ok (.iload_n 1, 1) := by decide +kernel
theorem dX12_canAct_1 : decode cX12_canAct 1 = .ok (.tableswitch 113 0 6 #[43, 43, 72, 79, 43, 49, 105], 43) := by decide +kernel
theorem dX12_canAct_44 : decode cX12_canAct 44 = .ok (.aload_n 0, 1) := by decide +kernel
theorem dX12_canAct_45 : decode cX12_canAct 45 = .ok (.iload_n 2, 1) := by decide +kernel
theorem dX12_canAct_46 : decode cX12_canAct 46 = .ok (.invokevirtual 494, 3) := by decide +kernel
theorem dX12_canAct_49 : decode cX12_canAct 49 = .ok (.ireturn, 1) := by decide +kernel
theorem dX12_canAct_50 : decode cX12_canAct 50 = .ok (.aload_n 0, 1) := by decide +kernel
theorem dX12_canAct_51 : decode cX12_canAct 51 = .ok (.iload_n 2, 1) := by decide +kernel
theorem dX12_canAct_52 : decode cX12_canAct 52 = .ok (.invokevirtual 494, 3) := by decide +kernel
theorem dX12_canAct_55 : decode cX12_canAct 55 = .ok (.ifCond .eq 16, 3) := by decide +kernel
theorem dX12_canAct_58 : decode cX12_canAct 58 = .ok (.aload_n 0, 1) := by decide +kernel
theorem dX12_canAct_59 : decode cX12_canAct 59 = .ok (.iload_n 2, 1) := by decide +kernel
theorem dX12_canAct_60 : decode cX12_canAct 60 = .ok (.iconst 5, 1) := by decide +kernel
theorem dX12_canAct_61 : decode cX12_canAct 61 = .ok (.invokevirtual 217, 3) := by decide +kernel
theorem dX12_canAct_64 : decode cX12_canAct 64 = .ok (.ifCond .eq 7, 3) := by decide +kernel
theorem dX12_canAct_67 : decode cX12_canAct 67 = .ok (.iconst 1, 1) := by decide +kernel
theorem dX12_canAct_68 : decode cX12_canAct 68 = .ok (.goto 4, 3) := by decide +kernel
theorem dX12_canAct_71 : decode cX12_canAct 71 = .ok (.iconst 0, 1) := by decide +kernel
theorem dX12_canAct_72 : decode cX12_canAct 72 = .ok (.ireturn, 1) := by decide +kernel
theorem dX12_canAct_73 : decode cX12_canAct 73 = .ok (.iload_n 2, 1) := by decide +kernel
theorem dX12_canAct_74 : decode cX12_canAct 74 = .ok (.iconst 0, 1) := by decide +kernel
theorem dX12_canAct_75 : decode cX12_canAct 75 = .ok (.iconst 3, 1) := by decide +kernel
theorem dX12_canAct_76 : decode cX12_canAct 76 = .ok (.invokestatic 171, 3) := by decide +kernel
theorem dX12_canAct_79 : decode cX12_canAct 79 = .ok (.ireturn, 1) := by decide +kernel
theorem dX12_canAct_80 : decode cX12_canAct 80 = .ok (.iload_n 2, 1) := by decide +kernel
theorem dX12_canAct_81 : decode cX12_canAct 81 = .ok (.iconst 0, 1) := by decide +kernel
theorem dX12_canAct_82 : decode cX12_canAct 82 = .ok (.iconst 2, 1) := by decide +kernel
theorem dX12_canAct_83 : decode cX12_canAct 83 = .ok (.invokestatic 171, 3) := by decide +kernel
theorem dX12_canAct_86 : decode cX12_canAct 86 = .ok (.ifCond .eq 18, 3) := by decide +kernel
theorem dX12_canAct_89 : decode cX12_canAct 89 = .ok (.iload_n 3, 1) := by decide +kernel
theorem dX12_canAct_90 : decode cX12_canAct 90 = .ok (.iconst 0, 1) := by decide +kernel
theorem dX12_canAct_91 : decode cX12_canAct 91 = .ok (.sipush 3599, 3) := by decide +kernel
theorem dX12_canAct_94 : decode cX12_canAct 94 = .ok (.invokestatic 171, 3) := by decide +kernel
theorem dX12_canAct_97 : decode cX12_canAct 97 = .ok (.ifCond .eq 7, 3) := by decide +kernel
theorem dX12_canAct_100 : decode cX12_canAct 100 = .ok (.iconst 1, 1) := by decide +kernel
theorem dX12_canAct_101 : decode cX12_canAct 101 = .ok (.goto 4, 3) := by decide +kernel
theorem dX12_canAct_104 : decode cX12_canAct 104 = .ok (.iconst 0, 1) := by decide +kernel
theorem dX12_canAct_105 : decode cX12_canAct 105 = .ok (.ireturn, 1) := by decide +kernel
theorem dX12_canAct_106 : decode cX12_canAct 106 = .ok (.iload_n 2, 1) := by decide +kernel
theorem dX12_canAct_107 : decode cX12_canAct 107 = .ok (.iconst 0, 1) := by decide +kernel
theorem dX12_canAct_108 : decode cX12_canAct 108 = .ok (.bipush 29, 2) := by decide +kernel
theorem dX12_canAct_110 : decode cX12_canAct 110 = .ok (.invokestatic 171, 3) := by decide +kernel
theorem dX12_canAct_113 : decode cX12_canAct 113 = .ok (.ireturn, 1) := by decide +kernel
theorem dX12_canAct_114 : decode cX12_canAct 114 = .ok (.iconst 0, 1) := by decide +kernel
theorem dX12_canAct_115 : decode cX12_canAct 115 = .ok (.ireturn, 1) := by decide +kernel
def F_X12_canAct (N : Nat) (x0 : Nat) (x1 : Int32) (x2 : Int32) (x3 : Int32) (I : MI) (L : ML) (R : MR) : Option (Bool) :=
  if kd x0 = 11 ∧ x0 < NN then
  if x1 = (0 : Int32) then
    bn1 (F_X12_isUnit x0 x2 I L R) fun b3 =>
    some (b3)
  else
    if x1 = (1 : Int32) then
      bn1 (F_X12_isUnit x0 x2 I L R) fun b6 =>
      some (b6)
    else
      if x1 = (2 : Int32) then
        bn1 (F_X12_in x2 (0 : Int32) (3 : Int32) I L R) fun b9 =>
        some (b9)
      else
        if x1 = (3 : Int32) then
          bn1 (F_X12_in x2 (0 : Int32) (2 : Int32) I L R) fun b12 =>
          if (b2i b12) = 0 then
            some (false)
          else
            bn1 (F_X12_in x3 (0 : Int32) (3599 : Int32) I L R) fun b15 =>
            if (b2i b15) = 0 then
              some (false)
            else
              some (true)
        else
          if x1 = (4 : Int32) then
            bn1 (F_X12_isUnit x0 x2 I L R) fun b19 =>
            some (b19)
          else
            if x1 = (5 : Int32) then
              bn1 (F_X12_isUnit x0 x2 I L R) fun b22 =>
              if (b2i b22) = 0 then
                some (false)
              else
                bn1 (F_X12_isA N x0 x2 (5 : Int32) I L R) fun b25 =>
                if (b2i b25) = 0 then
                  some (false)
                else
                  some (true)
            else
              if x1 = (6 : Int32) then
                bn1 (F_X12_in x2 (0 : Int32) (29 : Int32) I L R) fun b29 =>
                some (b29)
              else
                some (false)
  else none
set_option maxRecDepth 100000 in
set_option maxHeartbeats 4000000 in
theorem c_X12_canAct (l : Launch) (D : va_G) (cA : Nat → ClassId) (ad : Nat → Nat) (bs : Nat) (X : State → Prop) (hAd : Ax ad bs) (hX : Stb bs X) (N : Nat) (x0 : Nat) (x1 : Int32) (x2 : Int32) (x3 : Int32) (I : MI) (L : ML) (R : MR) (r : Bool) (h : F_X12_canAct N x0 x1 x2 x3 I L R = some (r)) : Cn l D cA ad bs X yX12_canAct cX12_canAct 4 (some .boolean) 2 45 [.ref (ad x0), .int x1, .int x2, .int x3] I L R (some (.int (b2i r)), I, L, R) := by
  refine Cn.ofV hAd hX [(0, .ref (ad x0)), (1, .int x1), (2, .int x2), (3, .int x3)] rfl (Nat.le_of_ble_eq_true rfl) (by decide) ?_
  intro G el eD ecA ead ebs eX erm eNL C0
  subst el eD ecA ead ebs eX
  unfold F_X12_canAct at h
  obtain ⟨c_x0, h⟩ := ite_some h
  refine V_iload_n C0 1 rfl rfl dX12_canAct_0 ?_
  have nd1 := nd_0 x1
  by_cases c2 : x1 = (0 : Int32)
  · have h := (if_pos c2).symm.trans h
    refine V_tableC C0 (tgt := 44) (v := (0 : Int32)) c2 (by decide) (by decide) dX12_canAct_1 ?_
    refine V_aload_n C0 0 rfl rfl dX12_canAct_44 ?_
    refine V_iload_n C0 2 rfl rfl dX12_canAct_45 ?_
    obtain ⟨b3, q4, h⟩ := bn1_some h
    refine V_callV C0 (st := []) (As := [.int x2]) 11 (c_X12_isUnit G.l G.D G.cA G.ad G.bs G.X C0.2.2.2.2.2.2.2.2.2.1 C0.2.2.2.2.2.2.2.2.2.2.2.2 x0 x2 I L R b3 q4) lc_X12_isUnit lk_X12_494 c_x0.2 c_x0.1 ⟨_, rfl, rfl⟩ rfl (by rw [erm]; decide) (Nat.le_of_ble_eq_true rfl) dX12_canAct_46 ?_
    show V G _ 49 [(0, .ref (G.ad x0)), (1, .int x1), (2, .int x2), (3, .int x3)] [.int (b2i b3)] I L R
    cases h
    exact V_zret C0 (b2i01 _) dX12_canAct_49
  · have h := (if_neg c2).symm.trans h
    have nd1 := nd_add nd1 c2
    by_cases c5 : x1 = (1 : Int32)
    · have h := (if_pos c5).symm.trans h
      refine V_tableC C0 (tgt := 44) (v := (1 : Int32)) c5 (by decide) (by decide) dX12_canAct_1 ?_
      refine V_aload_n C0 0 rfl rfl dX12_canAct_44 ?_
      refine V_iload_n C0 2 rfl rfl dX12_canAct_45 ?_
      obtain ⟨b6, q7, h⟩ := bn1_some h
      refine V_callV C0 (st := []) (As := [.int x2]) 11 (c_X12_isUnit G.l G.D G.cA G.ad G.bs G.X C0.2.2.2.2.2.2.2.2.2.1 C0.2.2.2.2.2.2.2.2.2.2.2.2 x0 x2 I L R b6 q7) lc_X12_isUnit lk_X12_494 c_x0.2 c_x0.1 ⟨_, rfl, rfl⟩ rfl (by rw [erm]; decide) (Nat.le_of_ble_eq_true rfl) dX12_canAct_46 ?_
      show V G _ 49 [(0, .ref (G.ad x0)), (1, .int x1), (2, .int x2), (3, .int x3)] [.int (b2i b6)] I L R
      cases h
      exact V_zret C0 (b2i01 _) dX12_canAct_49
    · have h := (if_neg c5).symm.trans h
      have nd1 := nd_add nd1 c5
      by_cases c8 : x1 = (2 : Int32)
      · have h := (if_pos c8).symm.trans h
        refine V_tableC C0 (tgt := 73) (v := (2 : Int32)) c8 (by decide) (by decide) dX12_canAct_1 ?_
        refine V_iload_n C0 2 rfl rfl dX12_canAct_73 ?_
        refine V_iconst C0 (v := (0 : Int32)) (by decide) dX12_canAct_74 ?_
        refine V_iconst C0 (v := (3 : Int32)) (by decide) dX12_canAct_75 ?_
        obtain ⟨b9, q10, h⟩ := bn1_some h
        refine V_callS C0 (st := []) (As := [.int x2, .int (0 : Int32), .int (3 : Int32)]) (c_X12_in G.l G.D G.cA G.ad G.bs G.X C0.2.2.2.2.2.2.2.2.2.1 C0.2.2.2.2.2.2.2.2.2.2.2.2 x2 (0 : Int32) (3 : Int32) I L R b9 q10) lc_X12_in lk_X12_171 rfl (by rw [erm]; decide) (Nat.le_of_ble_eq_true rfl) dX12_canAct_76 ?_
        show V G _ 79 [(0, .ref (G.ad x0)), (1, .int x1), (2, .int x2), (3, .int x3)] [.int (b2i b9)] I L R
        cases h
        exact V_zret C0 (b2i01 _) dX12_canAct_79
      · have h := (if_neg c8).symm.trans h
        have nd1 := nd_add nd1 c8
        by_cases c11 : x1 = (3 : Int32)
        · have h := (if_pos c11).symm.trans h
          refine V_tableC C0 (tgt := 80) (v := (3 : Int32)) c11 (by decide) (by decide) dX12_canAct_1 ?_
          refine V_iload_n C0 2 rfl rfl dX12_canAct_80 ?_
          refine V_iconst C0 (v := (0 : Int32)) (by decide) dX12_canAct_81 ?_
          refine V_iconst C0 (v := (2 : Int32)) (by decide) dX12_canAct_82 ?_
          obtain ⟨b12, q13, h⟩ := bn1_some h
          refine V_callS C0 (st := []) (As := [.int x2, .int (0 : Int32), .int (2 : Int32)]) (c_X12_in G.l G.D G.cA G.ad G.bs G.X C0.2.2.2.2.2.2.2.2.2.1 C0.2.2.2.2.2.2.2.2.2.2.2.2 x2 (0 : Int32) (2 : Int32) I L R b12 q13) lc_X12_in lk_X12_171 rfl (by rw [erm]; decide) (Nat.le_of_ble_eq_true rfl) dX12_canAct_83 ?_
          show V G _ 86 [(0, .ref (G.ad x0)), (1, .int x1), (2, .int x2), (3, .int x3)] [.int (b2i b12)] I L R
          refine V_if_eq C0 (tgt := 104) (by decide) dX12_canAct_86 (fun c14 => ?_) (fun c14 => ?_)
          · have h := (if_pos c14).symm.trans h
            refine V_iconst C0 (v := (0 : Int32)) (by decide) dX12_canAct_104 ?_
            cases h
            exact V_zret C0 (by decide) dX12_canAct_105
          · have h := (if_neg c14).symm.trans h
            refine V_iload_n C0 3 rfl rfl dX12_canAct_89 ?_
            refine V_iconst C0 (v := (0 : Int32)) (by decide) dX12_canAct_90 ?_
            refine V_sipush C0 (v := (3599 : Int32)) (by decide) dX12_canAct_91 ?_
            obtain ⟨b15, q16, h⟩ := bn1_some h
            refine V_callS C0 (st := []) (As := [.int x3, .int (0 : Int32), .int (3599 : Int32)]) (c_X12_in G.l G.D G.cA G.ad G.bs G.X C0.2.2.2.2.2.2.2.2.2.1 C0.2.2.2.2.2.2.2.2.2.2.2.2 x3 (0 : Int32) (3599 : Int32) I L R b15 q16) lc_X12_in lk_X12_171 rfl (by rw [erm]; decide) (Nat.le_of_ble_eq_true rfl) dX12_canAct_94 ?_
            show V G _ 97 [(0, .ref (G.ad x0)), (1, .int x1), (2, .int x2), (3, .int x3)] [.int (b2i b15)] I L R
            refine V_if_eq C0 (tgt := 104) (by decide) dX12_canAct_97 (fun c17 => ?_) (fun c17 => ?_)
            · have h := (if_pos c17).symm.trans h
              refine V_iconst C0 (v := (0 : Int32)) (by decide) dX12_canAct_104 ?_
              cases h
              exact V_zret C0 (by decide) dX12_canAct_105
            · have h := (if_neg c17).symm.trans h
              refine V_iconst C0 (v := (1 : Int32)) (by decide) dX12_canAct_100 ?_
              refine V_goto C0 (tgt := 105) (by decide) dX12_canAct_101 ?_
              cases h
              exact V_zret C0 (by decide) dX12_canAct_105
        · have h := (if_neg c11).symm.trans h
          have nd1 := nd_add nd1 c11
          by_cases c18 : x1 = (4 : Int32)
          · have h := (if_pos c18).symm.trans h
            refine V_tableC C0 (tgt := 44) (v := (4 : Int32)) c18 (by decide) (by decide) dX12_canAct_1 ?_
            refine V_aload_n C0 0 rfl rfl dX12_canAct_44 ?_
            refine V_iload_n C0 2 rfl rfl dX12_canAct_45 ?_
            obtain ⟨b19, q20, h⟩ := bn1_some h
            refine V_callV C0 (st := []) (As := [.int x2]) 11 (c_X12_isUnit G.l G.D G.cA G.ad G.bs G.X C0.2.2.2.2.2.2.2.2.2.1 C0.2.2.2.2.2.2.2.2.2.2.2.2 x0 x2 I L R b19 q20) lc_X12_isUnit lk_X12_494 c_x0.2 c_x0.1 ⟨_, rfl, rfl⟩ rfl (by rw [erm]; decide) (Nat.le_of_ble_eq_true rfl) dX12_canAct_46 ?_
            show V G _ 49 [(0, .ref (G.ad x0)), (1, .int x1), (2, .int x2), (3, .int x3)] [.int (b2i b19)] I L R
            cases h
            exact V_zret C0 (b2i01 _) dX12_canAct_49
          · have h := (if_neg c18).symm.trans h
            have nd1 := nd_add nd1 c18
            by_cases c21 : x1 = (5 : Int32)
            · have h := (if_pos c21).symm.trans h
              refine V_tableC C0 (tgt := 50) (v := (5 : Int32)) c21 (by decide) (by decide) dX12_canAct_1 ?_
              refine V_aload_n C0 0 rfl rfl dX12_canAct_50 ?_
              refine V_iload_n C0 2 rfl rfl dX12_canAct_51 ?_
              obtain ⟨b22, q23, h⟩ := bn1_some h
              refine V_callV C0 (st := []) (As := [.int x2]) 11 (c_X12_isUnit G.l G.D G.cA G.ad G.bs G.X C0.2.2.2.2.2.2.2.2.2.1 C0.2.2.2.2.2.2.2.2.2.2.2.2 x0 x2 I L R b22 q23) lc_X12_isUnit lk_X12_494 c_x0.2 c_x0.1 ⟨_, rfl, rfl⟩ rfl (by rw [erm]; decide) (Nat.le_of_ble_eq_true rfl) dX12_canAct_52 ?_
              show V G _ 55 [(0, .ref (G.ad x0)), (1, .int x1), (2, .int x2), (3, .int x3)] [.int (b2i b22)] I L R
              refine V_if_eq C0 (tgt := 71) (by decide) dX12_canAct_55 (fun c24 => ?_) (fun c24 => ?_)
              · have h := (if_pos c24).symm.trans h
                refine V_iconst C0 (v := (0 : Int32)) (by decide) dX12_canAct_71 ?_
                cases h
                exact V_zret C0 (by decide) dX12_canAct_72
              · have h := (if_neg c24).symm.trans h
                refine V_aload_n C0 0 rfl rfl dX12_canAct_58 ?_
                refine V_iload_n C0 2 rfl rfl dX12_canAct_59 ?_
                refine V_iconst C0 (v := (5 : Int32)) (by decide) dX12_canAct_60 ?_
                obtain ⟨b25, q26, h⟩ := bn1_some h
                refine V_callV C0 (st := []) (As := [.int x2, .int (5 : Int32)]) 11 (c_X12_isA G.l G.D G.cA G.ad G.bs G.X C0.2.2.2.2.2.2.2.2.2.1 C0.2.2.2.2.2.2.2.2.2.2.2.2 N x0 x2 (5 : Int32) I L R b25 q26) lc_X12_isA lk_X12_217 c_x0.2 c_x0.1 ⟨_, rfl, rfl⟩ rfl (by rw [erm]; decide) (Nat.le_of_ble_eq_true rfl) dX12_canAct_61 ?_
                show V G _ 64 [(0, .ref (G.ad x0)), (1, .int x1), (2, .int x2), (3, .int x3)] [.int (b2i b25)] I L R
                refine V_if_eq C0 (tgt := 71) (by decide) dX12_canAct_64 (fun c27 => ?_) (fun c27 => ?_)
                · have h := (if_pos c27).symm.trans h
                  refine V_iconst C0 (v := (0 : Int32)) (by decide) dX12_canAct_71 ?_
                  cases h
                  exact V_zret C0 (by decide) dX12_canAct_72
                · have h := (if_neg c27).symm.trans h
                  refine V_iconst C0 (v := (1 : Int32)) (by decide) dX12_canAct_67 ?_
                  refine V_goto C0 (tgt := 72) (by decide) dX12_canAct_68 ?_
                  cases h
                  exact V_zret C0 (by decide) dX12_canAct_72
            · have h := (if_neg c21).symm.trans h
              have nd1 := nd_add nd1 c21
              by_cases c28 : x1 = (6 : Int32)
              · have h := (if_pos c28).symm.trans h
                refine V_tableC C0 (tgt := 106) (v := (6 : Int32)) c28 (by decide) (by decide) dX12_canAct_1 ?_
                refine V_iload_n C0 2 rfl rfl dX12_canAct_106 ?_
                refine V_iconst C0 (v := (0 : Int32)) (by decide) dX12_canAct_107 ?_
                refine V_bipush C0 (v := (29 : Int32)) (by decide) dX12_canAct_108 ?_
                obtain ⟨b29, q30, h⟩ := bn1_some h
                refine V_callS C0 (st := []) (As := [.int x2, .int (0 : Int32), .int (29 : Int32)]) (c_X12_in G.l G.D G.cA G.ad G.bs G.X C0.2.2.2.2.2.2.2.2.2.1 C0.2.2.2.2.2.2.2.2.2.2.2.2 x2 (0 : Int32) (29 : Int32) I L R b29 q30) lc_X12_in lk_X12_171 rfl (by rw [erm]; decide) (Nat.le_of_ble_eq_true rfl) dX12_canAct_110 ?_
                show V G _ 113 [(0, .ref (G.ad x0)), (1, .int x1), (2, .int x2), (3, .int x3)] [.int (b2i b29)] I L R
                cases h
                exact V_zret C0 (b2i01 _) dX12_canAct_113
              · have h := (if_neg c28).symm.trans h
                have nd1 := nd_add nd1 c28
                refine V_tableN C0 (tgt := 114) nd1 (by decide) (by decide) dX12_canAct_1 ?_
                refine V_iconst C0 (v := (0 : Int32)) (by decide) dX12_canAct_114 ?_
                cases h
                exact V_zret C0 (by decide) dX12_canAct_115
theorem dX12_command_0 : decode cX12_command 0 = .ok (.aload_n 0, 1) := by decide +kernel
theorem dX12_command_1 : decode cX12_command 1 = .ok (.iconst 0, 1) := by decide +kernel
theorem dX12_command_2 : decode cX12_command 2 = .ok (.putfield 112, 3) := by decide +kernel
theorem dX12_command_5 : decode cX12_command 5 = .ok (.aload_n 0, 1) := by decide +kernel
theorem dX12_command_6 : decode cX12_command 6 = .ok (.getfield 297, 3) := by decide +kernel
theorem dX12_command_9 : decode cX12_command 9 = .ok (.ifCond .eq 13, 3) := by decide +kernel
theorem dX12_command_12 : decode cX12_command 12 = .ok (.aload_n 0, 1) := by decide +kernel
theorem dX12_command_13 : decode cX12_command 13 = .ok (.iload_n 1, 1) := by decide +kernel
theorem dX12_command_14 : decode cX12_command 14 = .ok (.iload_n 2, 1) := by decide +kernel
theorem dX12_command_15 : decode cX12_command 15 = .ok (.iload_n 3, 1) := by decide +kernel
theorem dX12_command_16 : decode cX12_command 16 = .ok (.invokevirtual 497, 3) := by decide +kernel
theorem dX12_command_19 : decode cX12_command 19 = .ok (.ifCond .ne 17, 3) := by decide +kernel
theorem dX12_command_22 : decode cX12_command 22 = .ok (.aload_n 0, 1) := by decide +kernel
theorem dX12_command_23 : decode cX12_command 23 = .ok (.iconst 1, 1) := by decide +kernel
theorem dX12_command_24 : decode cX12_command 24 = .ok (.invokevirtual 488, 3) := by decide +kernel
theorem dX12_command_27 : decode cX12_command 27 = .ok (.ifCond .le 7, 3) := by decide +kernel
theorem dX12_command_30 : decode cX12_command 30 = .ok (.iconst 1, 1) := by decide +kernel
theorem dX12_command_31 : decode cX12_command 31 = .ok (.goto 4, 3) := by decide +kernel
theorem dX12_command_34 : decode cX12_command 34 = .ok (.iconst 0, 1) := by decide +kernel
theorem dX12_command_35 : decode cX12_command 35 = .ok (.ireturn, 1) := by decide +kernel
theorem dX12_command_36 : decode cX12_command 36 = .ok (.aload_n 0, 1) := by decide +kernel
theorem dX12_command_37 : decode cX12_command 37 = .ok (.iload_n 1, 1) := by decide +kernel
theorem dX12_command_38 : decode cX12_command 38 = .ok (.iload_n 2, 1) := by decide +kernel
theorem dX12_command_39 : decode cX12_command 39 = .ok (.iload_n 3, 1) := by decide +kernel
theorem dX12_command_40 : decode cX12_command 40 = .ok (.invokevirtual 378, 3) := by decide +kernel
theorem dX12_command_43 : decode cX12_command 43 = .ok (.ireturn, 1) := by decide +kernel
def F_X12_command (N : Nat) (x0 : Nat) (x1 : Int32) (x2 : Int32) (x3 : Int32) (I : MI) (L : ML) (R : MR) : Option (Bool × MI) :=
  if kd x0 = 11 ∧ x0 < NN then
  wr (uI I x0 5 (0 : Int32)) fun (I1 : MI) =>
  if (I1 x0 21) = 0 then
    bn2 (F_X12_fail x0 (1 : Int32) I1 L R) fun v3 I4 =>
    if v3 ≤ 0 then
      some (false, I4)
    else
      some (true, I4)
  else
    bn1 (F_X12_canAct N x0 x1 x2 x3 I1 L R) fun b7 =>
    if (b2i b7) = 0 then
      bn2 (F_X12_fail x0 (1 : Int32) I1 L R) fun v13 I14 =>
      if v13 ≤ 0 then
        some (false, I14)
      else
        some (true, I14)
    else
      bn2 (F_X12_acts N x0 x1 x2 x3 I1 L R) fun b10 I11 =>
      some (b10, I11)
  else none
set_option maxRecDepth 100000 in
set_option maxHeartbeats 4000000 in
theorem c_X12_command (l : Launch) (D : va_G) (cA : Nat → ClassId) (ad : Nat → Nat) (bs : Nat) (X : State → Prop) (hAd : Ax ad bs) (hX : Stb bs X) (N : Nat) (x0 : Nat) (x1 : Int32) (x2 : Int32) (x3 : Int32) (I : MI) (L : ML) (R : MR) (r : Bool) (I' : MI) (h : F_X12_command N x0 x1 x2 x3 I L R = some (r, I')) : Cn l D cA ad bs X yX12_command cX12_command 4 (some .boolean) 7 170 [.ref (ad x0), .int x1, .int x2, .int x3] I L R (some (.int (b2i r)), I', L, R) := by
  refine Cn.ofV hAd hX [(0, .ref (ad x0)), (1, .int x1), (2, .int x2), (3, .int x3)] rfl (Nat.le_of_ble_eq_true rfl) (by decide) ?_
  intro G el eD ecA ead ebs eX erm eNL C0
  subst el eD ecA ead ebs eX
  unfold F_X12_command at h
  obtain ⟨c_x0, h⟩ := ite_some h
  refine V_aload_n C0 0 rfl rfl dX12_command_0 ?_
  refine V_iconst C0 (v := (0 : Int32)) (by decide) dX12_command_1 ?_
  obtain ⟨I1, eI1, h⟩ := wr_some h
  refine V_putI C0 11 5 fp_X12_112 c_x0.2 c_x0.1 rfl dX12_command_2 ?_
  rw [← eI1]
  refine V_aload_n C0 0 rfl rfl dX12_command_5 ?_
  refine V_getI C0 11 21 fl_X12_297 c_x0.2 c_x0.1 rfl dX12_command_6 ?_
  refine V_if_eq C0 (tgt := 22) (by decide) dX12_command_9 (fun c2 => ?_) (fun c2 => ?_)
  · have h := (if_pos c2).symm.trans h
    refine V_aload_n C0 0 rfl rfl dX12_command_22 ?_
    refine V_iconst C0 (v := (1 : Int32)) (by decide) dX12_command_23 ?_
    obtain ⟨v3, I4, q5, h⟩ := bn2_some h
    refine V_callV C0 (st := []) (As := [.int (1 : Int32)]) 11 (c_X12_fail G.l G.D G.cA G.ad G.bs G.X C0.2.2.2.2.2.2.2.2.2.1 C0.2.2.2.2.2.2.2.2.2.2.2.2 x0 (1 : Int32) I1 L R v3 I4 q5) lc_X12_fail lk_X12_488 c_x0.2 c_x0.1 ⟨_, rfl, rfl⟩ rfl (by rw [erm]; decide) (Nat.le_of_ble_eq_true rfl) dX12_command_24 ?_
    show V G _ 27 [(0, .ref (G.ad x0)), (1, .int x1), (2, .int x2), (3, .int x3)] [.int v3] I4 L R
    refine V_if_le C0 (tgt := 34) (by decide) dX12_command_27 (fun c6 => ?_) (fun c6 => ?_)
    · have h := (if_pos c6).symm.trans h
      refine V_iconst C0 (v := (0 : Int32)) (by decide) dX12_command_34 ?_
      cases h
      exact V_zret C0 (by decide) dX12_command_35
    · have h := (if_neg c6).symm.trans h
      refine V_iconst C0 (v := (1 : Int32)) (by decide) dX12_command_30 ?_
      refine V_goto C0 (tgt := 35) (by decide) dX12_command_31 ?_
      cases h
      exact V_zret C0 (by decide) dX12_command_35
  · have h := (if_neg c2).symm.trans h
    refine V_aload_n C0 0 rfl rfl dX12_command_12 ?_
    refine V_iload_n C0 1 rfl rfl dX12_command_13 ?_
    refine V_iload_n C0 2 rfl rfl dX12_command_14 ?_
    refine V_iload_n C0 3 rfl rfl dX12_command_15 ?_
    obtain ⟨b7, q8, h⟩ := bn1_some h
    refine V_callV C0 (st := []) (As := [.int x1, .int x2, .int x3]) 11 (c_X12_canAct G.l G.D G.cA G.ad G.bs G.X C0.2.2.2.2.2.2.2.2.2.1 C0.2.2.2.2.2.2.2.2.2.2.2.2 N x0 x1 x2 x3 I1 L R b7 q8) lc_X12_canAct lk_X12_497 c_x0.2 c_x0.1 ⟨_, rfl, rfl⟩ rfl (by rw [erm]; decide) (Nat.le_of_ble_eq_true rfl) dX12_command_16 ?_
    show V G _ 19 [(0, .ref (G.ad x0)), (1, .int x1), (2, .int x2), (3, .int x3)] [.int (b2i b7)] I1 L R
    refine V_if_ne C0 (tgt := 36) (by decide) dX12_command_19 (fun c9 => ?_) (fun c9 => ?_)
    · have h := (if_neg c9).symm.trans h
      refine V_aload_n C0 0 rfl rfl dX12_command_36 ?_
      refine V_iload_n C0 1 rfl rfl dX12_command_37 ?_
      refine V_iload_n C0 2 rfl rfl dX12_command_38 ?_
      refine V_iload_n C0 3 rfl rfl dX12_command_39 ?_
      obtain ⟨b10, I11, q12, h⟩ := bn2_some h
      refine V_callV C0 (st := []) (As := [.int x1, .int x2, .int x3]) 11 (c_X12_acts G.l G.D G.cA G.ad G.bs G.X C0.2.2.2.2.2.2.2.2.2.1 C0.2.2.2.2.2.2.2.2.2.2.2.2 N x0 x1 x2 x3 I1 L R b10 I11 q12) lc_X12_acts lk_X12_378 c_x0.2 c_x0.1 ⟨_, rfl, rfl⟩ rfl (by rw [erm]; decide) (Nat.le_of_ble_eq_true rfl) dX12_command_40 ?_
      show V G _ 43 [(0, .ref (G.ad x0)), (1, .int x1), (2, .int x2), (3, .int x3)] [.int (b2i b10)] I11 L R
      cases h
      exact V_zret C0 (b2i01 _) dX12_command_43
    · have h := (if_pos c9).symm.trans h
      refine V_aload_n C0 0 rfl rfl dX12_command_22 ?_
      refine V_iconst C0 (v := (1 : Int32)) (by decide) dX12_command_23 ?_
      obtain ⟨v13, I14, q15, h⟩ := bn2_some h
      refine V_callV C0 (st := []) (As := [.int (1 : Int32)]) 11 (c_X12_fail G.l G.D G.cA G.ad G.bs G.X C0.2.2.2.2.2.2.2.2.2.1 C0.2.2.2.2.2.2.2.2.2.2.2.2 x0 (1 : Int32) I1 L R v13 I14 q15) lc_X12_fail lk_X12_488 c_x0.2 c_x0.1 ⟨_, rfl, rfl⟩ rfl (by rw [erm]; decide) (Nat.le_of_ble_eq_true rfl) dX12_command_24 ?_
      show V G _ 27 [(0, .ref (G.ad x0)), (1, .int x1), (2, .int x2), (3, .int x3)] [.int v13] I14 L R
      refine V_if_le C0 (tgt := 34) (by decide) dX12_command_27 (fun c16 => ?_) (fun c16 => ?_)
      · have h := (if_pos c16).symm.trans h
        refine V_iconst C0 (v := (0 : Int32)) (by decide) dX12_command_34 ?_
        cases h
        exact V_zret C0 (by decide) dX12_command_35
      · have h := (if_neg c16).symm.trans h
        refine V_iconst C0 (v := (1 : Int32)) (by decide) dX12_command_30 ?_
        refine V_goto C0 (tgt := 35) (by decide) dX12_command_31 ?_
        cases h
        exact V_zret C0 (by decide) dX12_command_35
theorem dX12_hasPart_0 : decode cX12_hasPart 0 = .ok (.iload_n 2, 1) := by decide +kernel
theorem dX12_hasPart_1 : decode cX12_hasPart 1 = .ok (.lookupswitch 209 #[(27, 59), (31, 99), (35, 121), (40, 147), (43, 169), (61, 191)], 59) := by decide +kernel
theorem dX12_hasPart_60 : decode cX12_hasPart 60 = .ok (.iload_n 1, 1) := by decide +kernel
theorem dX12_hasPart_61 : decode cX12_hasPart 61 = .ok (.bipush 8, 2) := by decide +kernel
theorem dX12_hasPart_63 : decode cX12_hasPart 63 = .ok (.if_icmp .eq 31, 3) := by decide +kernel
theorem dX12_hasPart_66 : decode cX12_hasPart 66 = .ok (.iload_n 1, 1) := by decide +kernel
theorem dX12_hasPart_67 : decode cX12_hasPart 67 = .ok (.bipush 13, 2) := by decide +kernel
theorem dX12_hasPart_69 : decode cX12_hasPart 69 = .ok (.if_icmp .eq 25, 3) := by decide +kernel
theorem dX12_hasPart_72 : decode cX12_hasPart 72 = .ok (.iload_n 1, 1) := by decide +kernel
theorem dX12_hasPart_73 : decode cX12_hasPart 73 = .ok (.bipush 14, 2) := by decide +kernel
theorem dX12_hasPart_75 : decode cX12_hasPart 75 = .ok (.if_icmp .eq 19, 3) := by decide +kernel
theorem dX12_hasPart_78 : decode cX12_hasPart 78 = .ok (.aload_n 0, 1) := by decide +kernel
theorem dX12_hasPart_79 : decode cX12_hasPart 79 = .ok (.iload_n 1, 1) := by decide +kernel
theorem dX12_hasPart_80 : decode cX12_hasPart 80 = .ok (.bipush 18, 2) := by decide +kernel
theorem dX12_hasPart_82 : decode cX12_hasPart 82 = .ok (.invokevirtual 214, 3) := by decide +kernel
theorem dX12_hasPart_85 : decode cX12_hasPart 85 = .ok (.ifCond .ne 9, 3) := by decide +kernel
theorem dX12_hasPart_88 : decode cX12_hasPart 88 = .ok (.iload_n 1, 1) := by decide +kernel
theorem dX12_hasPart_89 : decode cX12_hasPart 89 = .ok (.bipush 25, 2) := by decide +kernel
theorem dX12_hasPart_91 : decode cX12_hasPart 91 = .ok (.if_icmp .ne 7, 3) := by decide +kernel
theorem dX12_hasPart_94 : decode cX12_hasPart 94 = .ok (.iconst 1, 1) := by decide +kernel
theorem dX12_hasPart_95 : decode cX12_hasPart 95 = .ok (.goto 4, 3) := by decide +kernel
theorem dX12_hasPart_98 : decode cX12_hasPart 98 = .ok (.iconst 0, 1) := by decide +kernel
theorem dX12_hasPart_99 : decode cX12_hasPart 99 = .ok (.ireturn, 1) := by decide +kernel
theorem dX12_hasPart_100 : decode cX12_hasPart 100 = .ok (.aload_n 0, 1) := by decide +kernel
theorem dX12_hasPart_101 : decode cX12_hasPart 101 = .ok (.iload_n 1, 1) := by decide +kernel
theorem dX12_hasPart_102 : decode cX12_hasPart 102 = .ok (.bipush 9, 2) := by decide +kernel
theorem dX12_hasPart_104 : decode cX12_hasPart 104 = .ok (.invokevirtual 214, 3) := by decide +kernel
theorem dX12_hasPart_107 : decode cX12_hasPart 107 = .ok (.ifCond .ne 9, 3) := by decide +kernel
theorem dX12_hasPart_110 : decode cX12_hasPart 110 = .ok (.iload_n 1, 1) := by decide +kernel
theorem dX12_hasPart_111 : decode cX12_hasPart 111 = .ok (.bipush 21, 2) := by decide +kernel
theorem dX12_hasPart_113 : decode cX12_hasPart 113 = .ok (.if_icmp .ne 7, 3) := by decide +kernel
theorem dX12_hasPart_116 : decode cX12_hasPart 116 = .ok (.iconst 1, 1) := by decide +kernel
theorem dX12_hasPart_117 : decode cX12_hasPart 117 = .ok (.goto 4, 3) := by decide +kernel
theorem dX12_hasPart_120 : decode cX12_hasPart 120 = .ok (.iconst 0, 1) := by decide +kernel
theorem dX12_hasPart_121 : decode cX12_hasPart 121 = .ok (.ireturn, 1) := by decide +kernel
theorem dX12_hasPart_122 : decode cX12_hasPart 122 = .ok (.aload_n 0, 1) := by decide +kernel
theorem dX12_hasPart_123 : decode cX12_hasPart 123 = .ok (.iload_n 1, 1) := by decide +kernel
theorem dX12_hasPart_124 : decode cX12_hasPart 124 = .ok (.bipush 10, 2) := by decide +kernel
theorem dX12_hasPart_126 : decode cX12_hasPart 126 = .ok (.invokevirtual 214, 3) := by decide +kernel
theorem dX12_hasPart_129 : decode cX12_hasPart 129 = .ok (.ifCond .ne 13, 3) := by decide +kernel
theorem dX12_hasPart_132 : decode cX12_hasPart 132 = .ok (.aload_n 0, 1) := by decide +kernel
theorem dX12_hasPart_133 : decode cX12_hasPart 133 = .ok (.iload_n 1, 1) := by decide +kernel
theorem dX12_hasPart_134 : decode cX12_hasPart 134 = .ok (.bipush 15, 2) := by decide +kernel
theorem dX12_hasPart_136 : decode cX12_hasPart 136 = .ok (.invokevirtual 214, 3) := by decide +kernel
theorem dX12_hasPart_139 : decode cX12_hasPart 139 = .ok (.ifCond .eq 7, 3) := by decide +kernel
theorem dX12_hasPart_142 : decode cX12_hasPart 142 = .ok (.iconst 1, 1) := by decide +kernel
theorem dX12_hasPart_143 : decode cX12_hasPart 143 = .ok (.goto 4, 3) := by decide +kernel
theorem dX12_hasPart_146 : decode cX12_hasPart 146 = .ok (.iconst 0, 1) := by decide +kernel
theorem dX12_hasPart_147 : decode cX12_hasPart 147 = .ok (.ireturn, 1) := by decide +kernel
theorem dX12_hasPart_148 : decode cX12_hasPart 148 = .ok (.iload_n 1, 1) := by decide +kernel
theorem dX12_hasPart_149 : decode cX12_hasPart 149 = .ok (.bipush 14, 2) := by decide +kernel
theorem dX12_hasPart_151 : decode cX12_hasPart 151 = .ok (.if_icmp .eq 13, 3) := by decide +kernel
theorem dX12_hasPart_154 : decode cX12_hasPart 154 = .ok (.aload_n 0, 1) := by decide +kernel
theorem dX12_hasPart_155 : decode cX12_hasPart 155 = .ok (.iload_n 1, 1) := by decide +kernel
theorem dX12_hasPart_156 : decode cX12_hasPart 156 = .ok (.bipush 18, 2) := by decide +kernel
theorem dX12_hasPart_158 : decode cX12_hasPart 158 = .ok (.invokevirtual 214, 3) := by decide +kernel
theorem dX12_hasPart_161 : decode cX12_hasPart 161 = .ok (.ifCond .eq 7, 3) := by decide +kernel
theorem dX12_hasPart_164 : decode cX12_hasPart 164 = .ok (.iconst 1, 1) := by decide +kernel
theorem dX12_hasPart_165 : decode cX12_hasPart 165 = .ok (.goto 4, 3) := by decide +kernel
theorem dX12_hasPart_168 : decode cX12_hasPart 168 = .ok (.iconst 0, 1) := by decide +kernel
theorem dX12_hasPart_169 : decode cX12_hasPart 169 = .ok (.ireturn, 1) := by decide +kernel
theorem dX12_hasPart_170 : decode cX12_hasPart 170 = .ok (.iload_n 1, 1) := by decide +kernel
theorem dX12_hasPart_171 : decode cX12_hasPart 171 = .ok (.bipush 16, 2) := by decide +kernel
theorem dX12_hasPart_173 : decode cX12_hasPart 173 = .ok (.if_icmp .eq 13, 3) := by decide +kernel
theorem dX12_hasPart_176 : decode cX12_hasPart 176 = .ok (.aload_n 0, 1) := by decide +kernel
theorem dX12_hasPart_177 : decode cX12_hasPart 177 = .ok (.iload_n 1, 1) := by decide +kernel
theorem dX12_hasPart_178 : decode cX12_hasPart 178 = .ok (.bipush 22, 2) := by decide +kernel
theorem dX12_hasPart_180 : decode cX12_hasPart 180 = .ok (.invokevirtual 214, 3) := by decide +kernel
theorem dX12_hasPart_183 : decode cX12_hasPart 183 = .ok (.ifCond .eq 7, 3) := by decide +kernel
theorem dX12_hasPart_186 : decode cX12_hasPart 186 = .ok (.iconst 1, 1) := by decide +kernel
theorem dX12_hasPart_187 : decode cX12_hasPart 187 = .ok (.goto 4, 3) := by decide +kernel
theorem dX12_hasPart_190 : decode cX12_hasPart 190 = .ok (.iconst 0, 1) := by decide +kernel
theorem dX12_hasPart_191 : decode cX12_hasPart 191 = .ok (.ireturn, 1) := by decide +kernel
theorem dX12_hasPart_192 : decode cX12_hasPart 192 = .ok (.iload_n 1, 1) := by decide +kernel
theorem dX12_hasPart_193 : decode cX12_hasPart 193 = .ok (.bipush 27, 2) := by decide +kernel
theorem dX12_hasPart_195 : decode cX12_hasPart 195 = .ok (.if_icmp .eq 9, 3) := by decide +kernel
theorem dX12_hasPart_198 : decode cX12_hasPart 198 = .ok (.iload_n 1, 1) := by decide +kernel
theorem dX12_hasPart_199 : decode cX12_hasPart 199 = .ok (.bipush 28, 2) := by decide +kernel
theorem dX12_hasPart_201 : decode cX12_hasPart 201 = .ok (.if_icmp .ne 7, 3) := by decide +kernel
theorem dX12_hasPart_204 : decode cX12_hasPart 204 = .ok (.iconst 1, 1) := by decide +kernel
theorem dX12_hasPart_205 : decode cX12_hasPart 205 = .ok (.goto 4, 3) := by decide +kernel
theorem dX12_hasPart_208 : decode cX12_hasPart 208 = .ok (.iconst 0, 1) := by decide +kernel
theorem dX12_hasPart_209 : decode cX12_hasPart 209 = .ok (.ireturn, 1) := by decide +kernel
theorem dX12_hasPart_210 : decode cX12_hasPart 210 = .ok (.aload_n 0, 1) := by decide +kernel
theorem dX12_hasPart_211 : decode cX12_hasPart 211 = .ok (.iload_n 1, 1) := by decide +kernel
theorem dX12_hasPart_212 : decode cX12_hasPart 212 = .ok (.aload_n 0, 1) := by decide +kernel
theorem dX12_hasPart_213 : decode cX12_hasPart 213 = .ok (.getfield 13, 3) := by decide +kernel
theorem dX12_hasPart_216 : decode cX12_hasPart 216 = .ok (.iload_n 2, 1) := by decide +kernel
theorem dX12_hasPart_217 : decode cX12_hasPart 217 = .ok (.iaload, 1) := by decide +kernel
theorem dX12_hasPart_218 : decode cX12_hasPart 218 = .ok (.invokevirtual 214, 3) := by decide +kernel
theorem dX12_hasPart_221 : decode cX12_hasPart 221 = .ok (.ireturn, 1) := by decide +kernel
def F_X12_hasPart (N : Nat) (x0 : Nat) (x1 : Int32) (x2 : Int32) (I : MI) (L : ML) (R : MR) : Option (Bool) :=
  if kd x0 = 11 ∧ x0 < NN then
  if x2 = (27 : Int32) then
    if x1 = (8 : Int32) then
      some (true)
    else
      if x1 = (13 : Int32) then
        some (true)
      else
        if x1 = (14 : Int32) then
          some (true)
        else
          bn1 (F_X12_has N x0 x1 (18 : Int32) I L R) fun b6 =>
          if (b2i b6) = 0 then
            if x1 = (25 : Int32) then
              some (true)
            else
              some (false)
          else
            some (true)
  else
    if x2 = (31 : Int32) then
      bn1 (F_X12_has N x0 x1 (9 : Int32) I L R) fun b11 =>
      if (b2i b11) = 0 then
        if x1 = (21 : Int32) then
          some (true)
        else
          some (false)
      else
        some (true)
    else
      if x2 = (35 : Int32) then
        bn1 (F_X12_has N x0 x1 (10 : Int32) I L R) fun b16 =>
        if (b2i b16) = 0 then
          bn1 (F_X12_has N x0 x1 (15 : Int32) I L R) fun b19 =>
          if (b2i b19) = 0 then
            some (false)
          else
            some (true)
        else
          some (true)
      else
        if x2 = (40 : Int32) then
          if x1 = (14 : Int32) then
            some (true)
          else
            bn1 (F_X12_has N x0 x1 (18 : Int32) I L R) fun b24 =>
            if (b2i b24) = 0 then
              some (false)
            else
              some (true)
        else
          if x2 = (43 : Int32) then
            if x1 = (16 : Int32) then
              some (true)
            else
              bn1 (F_X12_has N x0 x1 (22 : Int32) I L R) fun b29 =>
              if (b2i b29) = 0 then
                some (false)
              else
                some (true)
          else
            if x2 = (61 : Int32) then
              if x1 = (27 : Int32) then
                some (true)
              else
                if x1 = (28 : Int32) then
                  some (true)
                else
                  some (false)
            else
              (rf R x0 1 20).bind fun a35 =>
              (ri I a35 x2).bind fun v36 =>
              bn1 (F_X12_has N x0 x1 v36 I L R) fun b37 =>
              some (b37)
  else none
set_option maxRecDepth 100000 in
set_option maxHeartbeats 4000000 in
theorem c_X12_hasPart (l : Launch) (D : va_G) (cA : Nat → ClassId) (ad : Nat → Nat) (bs : Nat) (X : State → Prop) (hAd : Ax ad bs) (hX : Stb bs X) (N : Nat) (x0 : Nat) (x1 : Int32) (x2 : Int32) (I : MI) (L : ML) (R : MR) (r : Bool) (h : F_X12_hasPart N x0 x1 x2 I L R = some (r)) : Cn l D cA ad bs X yX12_hasPart cX12_hasPart 3 (some .boolean) 1 23 [.ref (ad x0), .int x1, .int x2] I L R (some (.int (b2i r)), I, L, R) := by
  refine Cn.ofV hAd hX [(0, .ref (ad x0)), (1, .int x1), (2, .int x2)] rfl (Nat.le_of_ble_eq_true rfl) (by decide) ?_
  intro G el eD ecA ead ebs eX erm eNL C0
  subst el eD ecA ead ebs eX
  unfold F_X12_hasPart at h
  obtain ⟨c_x0, h⟩ := ite_some h
  refine V_iload_n C0 2 rfl rfl dX12_hasPart_0 ?_
  have nd1 := nd_0 x2
  by_cases c2 : x2 = (27 : Int32)
  · have h := (if_pos c2).symm.trans h
    refine V_lookC C0 (tgt := 60) (v := (27 : Int32)) c2 (by decide) (by decide) dX12_hasPart_1 ?_
    refine V_iload_n C0 1 rfl rfl dX12_hasPart_60 ?_
    refine V_bipush C0 (v := (8 : Int32)) (by decide) dX12_hasPart_61 ?_
    refine V_icmp_eq C0 (tgt := 94) (by decide) dX12_hasPart_63 (fun c3 => ?_) (fun c3 => ?_)
    · have h := (if_pos c3).symm.trans h
      refine V_iconst C0 (v := (1 : Int32)) (by decide) dX12_hasPart_94 ?_
      refine V_goto C0 (tgt := 99) (by decide) dX12_hasPart_95 ?_
      cases h
      exact V_zret C0 (by decide) dX12_hasPart_99
    · have h := (if_neg c3).symm.trans h
      refine V_iload_n C0 1 rfl rfl dX12_hasPart_66 ?_
      refine V_bipush C0 (v := (13 : Int32)) (by decide) dX12_hasPart_67 ?_
      refine V_icmp_eq C0 (tgt := 94) (by decide) dX12_hasPart_69 (fun c4 => ?_) (fun c4 => ?_)
      · have h := (if_pos c4).symm.trans h
        refine V_iconst C0 (v := (1 : Int32)) (by decide) dX12_hasPart_94 ?_
        refine V_goto C0 (tgt := 99) (by decide) dX12_hasPart_95 ?_
        cases h
        exact V_zret C0 (by decide) dX12_hasPart_99
      · have h := (if_neg c4).symm.trans h
        refine V_iload_n C0 1 rfl rfl dX12_hasPart_72 ?_
        refine V_bipush C0 (v := (14 : Int32)) (by decide) dX12_hasPart_73 ?_
        refine V_icmp_eq C0 (tgt := 94) (by decide) dX12_hasPart_75 (fun c5 => ?_) (fun c5 => ?_)
        · have h := (if_pos c5).symm.trans h
          refine V_iconst C0 (v := (1 : Int32)) (by decide) dX12_hasPart_94 ?_
          refine V_goto C0 (tgt := 99) (by decide) dX12_hasPart_95 ?_
          cases h
          exact V_zret C0 (by decide) dX12_hasPart_99
        · have h := (if_neg c5).symm.trans h
          refine V_aload_n C0 0 rfl rfl dX12_hasPart_78 ?_
          refine V_iload_n C0 1 rfl rfl dX12_hasPart_79 ?_
          refine V_bipush C0 (v := (18 : Int32)) (by decide) dX12_hasPart_80 ?_
          obtain ⟨b6, q7, h⟩ := bn1_some h
          refine V_callV C0 (st := []) (As := [.int x1, .int (18 : Int32)]) 11 (c_X12_has G.l G.D G.cA G.ad G.bs G.X C0.2.2.2.2.2.2.2.2.2.1 C0.2.2.2.2.2.2.2.2.2.2.2.2 N x0 x1 (18 : Int32) I L R b6 q7) lc_X12_has lk_X12_214 c_x0.2 c_x0.1 ⟨_, rfl, rfl⟩ rfl (by rw [erm]; decide) (Nat.le_of_ble_eq_true rfl) dX12_hasPart_82 ?_
          show V G _ 85 [(0, .ref (G.ad x0)), (1, .int x1), (2, .int x2)] [.int (b2i b6)] I L R
          refine V_if_ne C0 (tgt := 94) (by decide) dX12_hasPart_85 (fun c8 => ?_) (fun c8 => ?_)
          · have h := (if_neg c8).symm.trans h
            refine V_iconst C0 (v := (1 : Int32)) (by decide) dX12_hasPart_94 ?_
            refine V_goto C0 (tgt := 99) (by decide) dX12_hasPart_95 ?_
            cases h
            exact V_zret C0 (by decide) dX12_hasPart_99
          · have h := (if_pos c8).symm.trans h
            refine V_iload_n C0 1 rfl rfl dX12_hasPart_88 ?_
            refine V_bipush C0 (v := (25 : Int32)) (by decide) dX12_hasPart_89 ?_
            refine V_icmp_ne C0 (tgt := 98) (by decide) dX12_hasPart_91 (fun c9 => ?_) (fun c9 => ?_)
            · have h := (if_neg c9).symm.trans h
              refine V_iconst C0 (v := (0 : Int32)) (by decide) dX12_hasPart_98 ?_
              cases h
              exact V_zret C0 (by decide) dX12_hasPart_99
            · have h := (if_pos c9).symm.trans h
              refine V_iconst C0 (v := (1 : Int32)) (by decide) dX12_hasPart_94 ?_
              refine V_goto C0 (tgt := 99) (by decide) dX12_hasPart_95 ?_
              cases h
              exact V_zret C0 (by decide) dX12_hasPart_99
  · have h := (if_neg c2).symm.trans h
    have nd1 := nd_add nd1 c2
    by_cases c10 : x2 = (31 : Int32)
    · have h := (if_pos c10).symm.trans h
      refine V_lookC C0 (tgt := 100) (v := (31 : Int32)) c10 (by decide) (by decide) dX12_hasPart_1 ?_
      refine V_aload_n C0 0 rfl rfl dX12_hasPart_100 ?_
      refine V_iload_n C0 1 rfl rfl dX12_hasPart_101 ?_
      refine V_bipush C0 (v := (9 : Int32)) (by decide) dX12_hasPart_102 ?_
      obtain ⟨b11, q12, h⟩ := bn1_some h
      refine V_callV C0 (st := []) (As := [.int x1, .int (9 : Int32)]) 11 (c_X12_has G.l G.D G.cA G.ad G.bs G.X C0.2.2.2.2.2.2.2.2.2.1 C0.2.2.2.2.2.2.2.2.2.2.2.2 N x0 x1 (9 : Int32) I L R b11 q12) lc_X12_has lk_X12_214 c_x0.2 c_x0.1 ⟨_, rfl, rfl⟩ rfl (by rw [erm]; decide) (Nat.le_of_ble_eq_true rfl) dX12_hasPart_104 ?_
      show V G _ 107 [(0, .ref (G.ad x0)), (1, .int x1), (2, .int x2)] [.int (b2i b11)] I L R
      refine V_if_ne C0 (tgt := 116) (by decide) dX12_hasPart_107 (fun c13 => ?_) (fun c13 => ?_)
      · have h := (if_neg c13).symm.trans h
        refine V_iconst C0 (v := (1 : Int32)) (by decide) dX12_hasPart_116 ?_
        refine V_goto C0 (tgt := 121) (by decide) dX12_hasPart_117 ?_
        cases h
        exact V_zret C0 (by decide) dX12_hasPart_121
      · have h := (if_pos c13).symm.trans h
        refine V_iload_n C0 1 rfl rfl dX12_hasPart_110 ?_
        refine V_bipush C0 (v := (21 : Int32)) (by decide) dX12_hasPart_111 ?_
        refine V_icmp_ne C0 (tgt := 120) (by decide) dX12_hasPart_113 (fun c14 => ?_) (fun c14 => ?_)
        · have h := (if_neg c14).symm.trans h
          refine V_iconst C0 (v := (0 : Int32)) (by decide) dX12_hasPart_120 ?_
          cases h
          exact V_zret C0 (by decide) dX12_hasPart_121
        · have h := (if_pos c14).symm.trans h
          refine V_iconst C0 (v := (1 : Int32)) (by decide) dX12_hasPart_116 ?_
          refine V_goto C0 (tgt := 121) (by decide) dX12_hasPart_117 ?_
          cases h
          exact V_zret C0 (by decide) dX12_hasPart_121
    · have h := (if_neg c10).symm.trans h
      have nd1 := nd_add nd1 c10
      by_cases c15 : x2 = (35 : Int32)
      · have h := (if_pos c15).symm.trans h
        refine V_lookC C0 (tgt := 122) (v := (35 : Int32)) c15 (by decide) (by decide) dX12_hasPart_1 ?_
        refine V_aload_n C0 0 rfl rfl dX12_hasPart_122 ?_
        refine V_iload_n C0 1 rfl rfl dX12_hasPart_123 ?_
        refine V_bipush C0 (v := (10 : Int32)) (by decide) dX12_hasPart_124 ?_
        obtain ⟨b16, q17, h⟩ := bn1_some h
        refine V_callV C0 (st := []) (As := [.int x1, .int (10 : Int32)]) 11 (c_X12_has G.l G.D G.cA G.ad G.bs G.X C0.2.2.2.2.2.2.2.2.2.1 C0.2.2.2.2.2.2.2.2.2.2.2.2 N x0 x1 (10 : Int32) I L R b16 q17) lc_X12_has lk_X12_214 c_x0.2 c_x0.1 ⟨_, rfl, rfl⟩ rfl (by rw [erm]; decide) (Nat.le_of_ble_eq_true rfl) dX12_hasPart_126 ?_
        show V G _ 129 [(0, .ref (G.ad x0)), (1, .int x1), (2, .int x2)] [.int (b2i b16)] I L R
        refine V_if_ne C0 (tgt := 142) (by decide) dX12_hasPart_129 (fun c18 => ?_) (fun c18 => ?_)
        · have h := (if_neg c18).symm.trans h
          refine V_iconst C0 (v := (1 : Int32)) (by decide) dX12_hasPart_142 ?_
          refine V_goto C0 (tgt := 147) (by decide) dX12_hasPart_143 ?_
          cases h
          exact V_zret C0 (by decide) dX12_hasPart_147
        · have h := (if_pos c18).symm.trans h
          refine V_aload_n C0 0 rfl rfl dX12_hasPart_132 ?_
          refine V_iload_n C0 1 rfl rfl dX12_hasPart_133 ?_
          refine V_bipush C0 (v := (15 : Int32)) (by decide) dX12_hasPart_134 ?_
          obtain ⟨b19, q20, h⟩ := bn1_some h
          refine V_callV C0 (st := []) (As := [.int x1, .int (15 : Int32)]) 11 (c_X12_has G.l G.D G.cA G.ad G.bs G.X C0.2.2.2.2.2.2.2.2.2.1 C0.2.2.2.2.2.2.2.2.2.2.2.2 N x0 x1 (15 : Int32) I L R b19 q20) lc_X12_has lk_X12_214 c_x0.2 c_x0.1 ⟨_, rfl, rfl⟩ rfl (by rw [erm]; decide) (Nat.le_of_ble_eq_true rfl) dX12_hasPart_136 ?_
          show V G _ 139 [(0, .ref (G.ad x0)), (1, .int x1), (2, .int x2)] [.int (b2i b19)] I L R
          refine V_if_eq C0 (tgt := 146) (by decide) dX12_hasPart_139 (fun c21 => ?_) (fun c21 => ?_)
          · have h := (if_pos c21).symm.trans h
            refine V_iconst C0 (v := (0 : Int32)) (by decide) dX12_hasPart_146 ?_
            cases h
            exact V_zret C0 (by decide) dX12_hasPart_147
          · have h := (if_neg c21).symm.trans h
            refine V_iconst C0 (v := (1 : Int32)) (by decide) dX12_hasPart_142 ?_
            refine V_goto C0 (tgt := 147) (by decide) dX12_hasPart_143 ?_
            cases h
            exact V_zret C0 (by decide) dX12_hasPart_147
      · have h := (if_neg c15).symm.trans h
        have nd1 := nd_add nd1 c15
        by_cases c22 : x2 = (40 : Int32)
        · have h := (if_pos c22).symm.trans h
          refine V_lookC C0 (tgt := 148) (v := (40 : Int32)) c22 (by decide) (by decide) dX12_hasPart_1 ?_
          refine V_iload_n C0 1 rfl rfl dX12_hasPart_148 ?_
          refine V_bipush C0 (v := (14 : Int32)) (by decide) dX12_hasPart_149 ?_
          refine V_icmp_eq C0 (tgt := 164) (by decide) dX12_hasPart_151 (fun c23 => ?_) (fun c23 => ?_)
          · have h := (if_pos c23).symm.trans h
            refine V_iconst C0 (v := (1 : Int32)) (by decide) dX12_hasPart_164 ?_
            refine V_goto C0 (tgt := 169) (by decide) dX12_hasPart_165 ?_
            cases h
            exact V_zret C0 (by decide) dX12_hasPart_169
          · have h := (if_neg c23).symm.trans h
            refine V_aload_n C0 0 rfl rfl dX12_hasPart_154 ?_
            refine V_iload_n C0 1 rfl rfl dX12_hasPart_155 ?_
            refine V_bipush C0 (v := (18 : Int32)) (by decide) dX12_hasPart_156 ?_
            obtain ⟨b24, q25, h⟩ := bn1_some h
            refine V_callV C0 (st := []) (As := [.int x1, .int (18 : Int32)]) 11 (c_X12_has G.l G.D G.cA G.ad G.bs G.X C0.2.2.2.2.2.2.2.2.2.1 C0.2.2.2.2.2.2.2.2.2.2.2.2 N x0 x1 (18 : Int32) I L R b24 q25) lc_X12_has lk_X12_214 c_x0.2 c_x0.1 ⟨_, rfl, rfl⟩ rfl (by rw [erm]; decide) (Nat.le_of_ble_eq_true rfl) dX12_hasPart_158 ?_
            show V G _ 161 [(0, .ref (G.ad x0)), (1, .int x1), (2, .int x2)] [.int (b2i b24)] I L R
            refine V_if_eq C0 (tgt := 168) (by decide) dX12_hasPart_161 (fun c26 => ?_) (fun c26 => ?_)
            · have h := (if_pos c26).symm.trans h
              refine V_iconst C0 (v := (0 : Int32)) (by decide) dX12_hasPart_168 ?_
              cases h
              exact V_zret C0 (by decide) dX12_hasPart_169
            · have h := (if_neg c26).symm.trans h
              refine V_iconst C0 (v := (1 : Int32)) (by decide) dX12_hasPart_164 ?_
              refine V_goto C0 (tgt := 169) (by decide) dX12_hasPart_165 ?_
              cases h
              exact V_zret C0 (by decide) dX12_hasPart_169
        · have h := (if_neg c22).symm.trans h
          have nd1 := nd_add nd1 c22
          by_cases c27 : x2 = (43 : Int32)
          · have h := (if_pos c27).symm.trans h
            refine V_lookC C0 (tgt := 170) (v := (43 : Int32)) c27 (by decide) (by decide) dX12_hasPart_1 ?_
            refine V_iload_n C0 1 rfl rfl dX12_hasPart_170 ?_
            refine V_bipush C0 (v := (16 : Int32)) (by decide) dX12_hasPart_171 ?_
            refine V_icmp_eq C0 (tgt := 186) (by decide) dX12_hasPart_173 (fun c28 => ?_) (fun c28 => ?_)
            · have h := (if_pos c28).symm.trans h
              refine V_iconst C0 (v := (1 : Int32)) (by decide) dX12_hasPart_186 ?_
              refine V_goto C0 (tgt := 191) (by decide) dX12_hasPart_187 ?_
              cases h
              exact V_zret C0 (by decide) dX12_hasPart_191
            · have h := (if_neg c28).symm.trans h
              refine V_aload_n C0 0 rfl rfl dX12_hasPart_176 ?_
              refine V_iload_n C0 1 rfl rfl dX12_hasPart_177 ?_
              refine V_bipush C0 (v := (22 : Int32)) (by decide) dX12_hasPart_178 ?_
              obtain ⟨b29, q30, h⟩ := bn1_some h
              refine V_callV C0 (st := []) (As := [.int x1, .int (22 : Int32)]) 11 (c_X12_has G.l G.D G.cA G.ad G.bs G.X C0.2.2.2.2.2.2.2.2.2.1 C0.2.2.2.2.2.2.2.2.2.2.2.2 N x0 x1 (22 : Int32) I L R b29 q30) lc_X12_has lk_X12_214 c_x0.2 c_x0.1 ⟨_, rfl, rfl⟩ rfl (by rw [erm]; decide) (Nat.le_of_ble_eq_true rfl) dX12_hasPart_180 ?_
              show V G _ 183 [(0, .ref (G.ad x0)), (1, .int x1), (2, .int x2)] [.int (b2i b29)] I L R
              refine V_if_eq C0 (tgt := 190) (by decide) dX12_hasPart_183 (fun c31 => ?_) (fun c31 => ?_)
              · have h := (if_pos c31).symm.trans h
                refine V_iconst C0 (v := (0 : Int32)) (by decide) dX12_hasPart_190 ?_
                cases h
                exact V_zret C0 (by decide) dX12_hasPart_191
              · have h := (if_neg c31).symm.trans h
                refine V_iconst C0 (v := (1 : Int32)) (by decide) dX12_hasPart_186 ?_
                refine V_goto C0 (tgt := 191) (by decide) dX12_hasPart_187 ?_
                cases h
                exact V_zret C0 (by decide) dX12_hasPart_191
          · have h := (if_neg c27).symm.trans h
            have nd1 := nd_add nd1 c27
            by_cases c32 : x2 = (61 : Int32)
            · have h := (if_pos c32).symm.trans h
              refine V_lookC C0 (tgt := 192) (v := (61 : Int32)) c32 (by decide) (by decide) dX12_hasPart_1 ?_
              refine V_iload_n C0 1 rfl rfl dX12_hasPart_192 ?_
              refine V_bipush C0 (v := (27 : Int32)) (by decide) dX12_hasPart_193 ?_
              refine V_icmp_eq C0 (tgt := 204) (by decide) dX12_hasPart_195 (fun c33 => ?_) (fun c33 => ?_)
              · have h := (if_pos c33).symm.trans h
                refine V_iconst C0 (v := (1 : Int32)) (by decide) dX12_hasPart_204 ?_
                refine V_goto C0 (tgt := 209) (by decide) dX12_hasPart_205 ?_
                cases h
                exact V_zret C0 (by decide) dX12_hasPart_209
              · have h := (if_neg c33).symm.trans h
                refine V_iload_n C0 1 rfl rfl dX12_hasPart_198 ?_
                refine V_bipush C0 (v := (28 : Int32)) (by decide) dX12_hasPart_199 ?_
                refine V_icmp_ne C0 (tgt := 208) (by decide) dX12_hasPart_201 (fun c34 => ?_) (fun c34 => ?_)
                · have h := (if_neg c34).symm.trans h
                  refine V_iconst C0 (v := (0 : Int32)) (by decide) dX12_hasPart_208 ?_
                  cases h
                  exact V_zret C0 (by decide) dX12_hasPart_209
                · have h := (if_pos c34).symm.trans h
                  refine V_iconst C0 (v := (1 : Int32)) (by decide) dX12_hasPart_204 ?_
                  refine V_goto C0 (tgt := 209) (by decide) dX12_hasPart_205 ?_
                  cases h
                  exact V_zret C0 (by decide) dX12_hasPart_209
            · have h := (if_neg c32).symm.trans h
              have nd1 := nd_add nd1 c32
              refine V_lookN C0 (tgt := 210) nd1 (by decide) (by decide) dX12_hasPart_1 ?_
              refine V_aload_n C0 0 rfl rfl dX12_hasPart_210 ?_
              refine V_iload_n C0 1 rfl rfl dX12_hasPart_211 ?_
              refine V_aload_n C0 0 rfl rfl dX12_hasPart_212 ?_
              obtain ⟨a35, qa35, h⟩ := bnd_some h
              refine V_getR C0 11 1 fl_X12_13 c_x0.2 c_x0.1 rfl (rf_at qa35) dX12_hasPart_213 ?_
              refine V_iload_n C0 2 rfl rfl dX12_hasPart_216 ?_
              obtain ⟨v36, qv36, h⟩ := bnd_some h
              refine V_ri C0 (rf_lt qa35) (rf_kd qa35) qv36 dX12_hasPart_217 ?_
              obtain ⟨b37, q38, h⟩ := bn1_some h
              refine V_callV C0 (st := []) (As := [.int x1, .int v36]) 11 (c_X12_has G.l G.D G.cA G.ad G.bs G.X C0.2.2.2.2.2.2.2.2.2.1 C0.2.2.2.2.2.2.2.2.2.2.2.2 N x0 x1 v36 I L R b37 q38) lc_X12_has lk_X12_214 c_x0.2 c_x0.1 ⟨_, rfl, rfl⟩ rfl (by rw [erm]; decide) (Nat.le_of_ble_eq_true rfl) dX12_hasPart_218 ?_
              show V G _ 221 [(0, .ref (G.ad x0)), (1, .int x1), (2, .int x2)] [.int (b2i b37)] I L R
              cases h
              exact V_zret C0 (b2i01 _) dX12_hasPart_221
theorem dX12_part_0 : decode cX12_part 0 = .ok (.aload_n 0, 1) := by decide +kernel
theorem dX12_part_1 : decode cX12_part 1 = .ok (.iconst 0, 1) := by decide +kernel
theorem dX12_part_2 : decode cX12_part 2 = .ok (.putfield 112, 3) := by decide +kernel
theorem dX12_part_5 : decode cX12_part 5 = .ok (.aload_n 0, 1) := by decide +kernel
theorem dX12_part_6 : decode cX12_part 6 = .ok (.iload_n 1, 1) := by decide +kernel
theorem dX12_part_7 : decode cX12_part 7 = .ok (.invokevirtual 494, 3) := by decide +kernel
theorem dX12_part_10 : decode cX12_part 10 = .ok (.ifCond .ne 9, 3) := by decide +kernel
theorem dX12_part_13 : decode cX12_part 13 = .ok (.aload_n 0, 1) := by decide +kernel
theorem dX12_part_14 : decode cX12_part 14 = .ok (.iconst 1, 1) := by decide +kernel
theorem dX12_part_15 : decode cX12_part 15 = .ok (.invokevirtual 488, 3) := by decide +kernel
theorem dX12_part_18 : decode cX12_part 18 = .ok (.ireturn, 1) := by decide +kernel
theorem dX12_part_19 : decode cX12_part 19 = .ok (.iload_n 2, 1) := by decide +kernel
theorem dX12_part_20 : decode cX12_part 20 = .ok (.ifCond .lt 23, 3) := by decide +kernel
theorem dX12_part_23 : decode cX12_part 23 = .ok (.iload_n 2, 1) := by decide +kernel
theorem dX12_part_24 : decode cX12_part 24 = .ok (.bipush 65, 2) := by decide +kernel
theorem dX12_part_26 : decode cX12_part 26 = .ok (.if_icmp .ge 17, 3) := by decide +kernel
theorem dX12_part_29 : decode cX12_part 29 = .ok (.aload_n 0, 1) := by decide +kernel
theorem dX12_part_30 : decode cX12_part 30 = .ok (.aload_n 0, 1) := by decide +kernel
theorem dX12_part_31 : decode cX12_part 31 = .ok (.iload_n 1, 1) := by decide +kernel
theorem dX12_part_32 : decode cX12_part 32 = .ok (.iconst 0, 1) := by decide +kernel
theorem dX12_part_33 : decode cX12_part 33 = .ok (.invokevirtual 211, 3) := by decide +kernel
theorem dX12_part_36 : decode cX12_part 36 = .ok (.iload_n 2, 1) := by decide +kernel
theorem dX12_part_37 : decode cX12_part 37 = .ok (.invokevirtual 500, 3) := by decide +kernel
theorem dX12_part_40 : decode cX12_part 40 = .ok (.ifCond .ne 9, 3) := by decide +kernel
theorem dX12_part_43 : decode cX12_part 43 = .ok (.aload_n 0, 1) := by decide +kernel
theorem dX12_part_44 : decode cX12_part 44 = .ok (.iconst 2, 1) := by decide +kernel
theorem dX12_part_45 : decode cX12_part 45 = .ok (.invokevirtual 488, 3) := by decide +kernel
theorem dX12_part_48 : decode cX12_part 48 = .ok (.ireturn, 1) := by decide +kernel
theorem dX12_part_49 : decode cX12_part 49 = .ok (.aload_n 0, 1) := by decide +kernel
theorem dX12_part_50 : decode cX12_part 50 = .ok (.iload_n 1, 1) := by decide +kernel
theorem dX12_part_51 : decode cX12_part 51 = .ok (.iload_n 2, 1) := by decide +kernel
theorem dX12_part_52 : decode cX12_part 52 = .ok (.invokevirtual 211, 3) := by decide +kernel
theorem dX12_part_55 : decode cX12_part 55 = .ok (.ireturn, 1) := by decide +kernel
def F_X12_part (N : Nat) (x0 : Nat) (x1 : Int32) (x2 : Int32) (I : MI) (L : ML) (R : MR) : Option (Int32 × MI) :=
  if kd x0 = 11 ∧ x0 < NN then
  wr (uI I x0 5 (0 : Int32)) fun (I1 : MI) =>
  bn1 (F_X12_isUnit x0 x1 I1 L R) fun b2 =>
  if (b2i b2) = 0 then
    bn2 (F_X12_fail x0 (1 : Int32) I1 L R) fun v23 I24 =>
    some (v23, I24)
  else
    if x2 < 0 then
      bn2 (F_X12_fail x0 (2 : Int32) I1 L R) fun v6 I7 =>
      some (v6, I7)
    else
      if (65 : Int32) ≤ x2 then
        bn2 (F_X12_fail x0 (2 : Int32) I1 L R) fun v10 I11 =>
        some (v10, I11)
      else
        bn1 (F_X12_get x0 x1 (0 : Int32) I1 L R) fun v13 =>
        bn1 (F_X12_hasPart N x0 v13 x2 I1 L R) fun b15 =>
        if (b2i b15) = 0 then
          bn2 (F_X12_fail x0 (2 : Int32) I1 L R) fun v20 I21 =>
          some (v20, I21)
        else
          bn1 (F_X12_get x0 x1 x2 I1 L R) fun v18 =>
          some (v18, I1)
  else none
set_option maxRecDepth 100000 in
set_option maxHeartbeats 4000000 in
theorem c_X12_part (l : Launch) (D : va_G) (cA : Nat → ClassId) (ad : Nat → Nat) (bs : Nat) (X : State → Prop) (hAd : Ax ad bs) (hX : Stb bs X) (N : Nat) (x0 : Nat) (x1 : Int32) (x2 : Int32) (I : MI) (L : ML) (R : MR) (r : Int32) (I' : MI) (h : F_X12_part N x0 x1 x2 I L R = some (r, I')) : Cn l D cA ad bs X yX12_part cX12_part 3 (some .int) 2 45 [.ref (ad x0), .int x1, .int x2] I L R (some (.int r), I', L, R) := by
  refine Cn.ofV hAd hX [(0, .ref (ad x0)), (1, .int x1), (2, .int x2)] rfl (Nat.le_of_ble_eq_true rfl) (by decide) ?_
  intro G el eD ecA ead ebs eX erm eNL C0
  subst el eD ecA ead ebs eX
  unfold F_X12_part at h
  obtain ⟨c_x0, h⟩ := ite_some h
  refine V_aload_n C0 0 rfl rfl dX12_part_0 ?_
  refine V_iconst C0 (v := (0 : Int32)) (by decide) dX12_part_1 ?_
  obtain ⟨I1, eI1, h⟩ := wr_some h
  refine V_putI C0 11 5 fp_X12_112 c_x0.2 c_x0.1 rfl dX12_part_2 ?_
  rw [← eI1]
  refine V_aload_n C0 0 rfl rfl dX12_part_5 ?_
  refine V_iload_n C0 1 rfl rfl dX12_part_6 ?_
  obtain ⟨b2, q3, h⟩ := bn1_some h
  refine V_callV C0 (st := []) (As := [.int x1]) 11 (c_X12_isUnit G.l G.D G.cA G.ad G.bs G.X C0.2.2.2.2.2.2.2.2.2.1 C0.2.2.2.2.2.2.2.2.2.2.2.2 x0 x1 I1 L R b2 q3) lc_X12_isUnit lk_X12_494 c_x0.2 c_x0.1 ⟨_, rfl, rfl⟩ rfl (by rw [erm]; decide) (Nat.le_of_ble_eq_true rfl) dX12_part_7 ?_
  show V G _ 10 [(0, .ref (G.ad x0)), (1, .int x1), (2, .int x2)] [.int (b2i b2)] I1 L R
  refine V_if_ne C0 (tgt := 19) (by decide) dX12_part_10 (fun c4 => ?_) (fun c4 => ?_)
  · have h := (if_neg c4).symm.trans h
    refine V_iload_n C0 2 rfl rfl dX12_part_19 ?_
    refine V_if_lt C0 (tgt := 43) (by decide) dX12_part_20 (fun c5 => ?_) (fun c5 => ?_)
    · have h := (if_pos c5).symm.trans h
      refine V_aload_n C0 0 rfl rfl dX12_part_43 ?_
      refine V_iconst C0 (v := (2 : Int32)) (by decide) dX12_part_44 ?_
      obtain ⟨v6, I7, q8, h⟩ := bn2_some h
      refine V_callV C0 (st := []) (As := [.int (2 : Int32)]) 11 (c_X12_fail G.l G.D G.cA G.ad G.bs G.X C0.2.2.2.2.2.2.2.2.2.1 C0.2.2.2.2.2.2.2.2.2.2.2.2 x0 (2 : Int32) I1 L R v6 I7 q8) lc_X12_fail lk_X12_488 c_x0.2 c_x0.1 ⟨_, rfl, rfl⟩ rfl (by rw [erm]; decide) (Nat.le_of_ble_eq_true rfl) dX12_part_45 ?_
      show V G _ 48 [(0, .ref (G.ad x0)), (1, .int x1), (2, .int x2)] [.int v6] I7 L R
      cases h
      exact V_iret C0 dX12_part_48
    · have h := (if_neg c5).symm.trans h
      refine V_iload_n C0 2 rfl rfl dX12_part_23 ?_
      refine V_bipush C0 (v := (65 : Int32)) (by decide) dX12_part_24 ?_
      refine V_icmp_ge C0 (tgt := 43) (by decide) dX12_part_26 (fun c9 => ?_) (fun c9 => ?_)
      · have h := (if_pos c9).symm.trans h
        refine V_aload_n C0 0 rfl rfl dX12_part_43 ?_
        refine V_iconst C0 (v := (2 : Int32)) (by decide) dX12_part_44 ?_
        obtain ⟨v10, I11, q12, h⟩ := bn2_some h
        refine V_callV C0 (st := []) (As := [.int (2 : Int32)]) 11 (c_X12_fail G.l G.D G.cA G.ad G.bs G.X C0.2.2.2.2.2.2.2.2.2.1 C0.2.2.2.2.2.2.2.2.2.2.2.2 x0 (2 : Int32) I1 L R v10 I11 q12) lc_X12_fail lk_X12_488 c_x0.2 c_x0.1 ⟨_, rfl, rfl⟩ rfl (by rw [erm]; decide) (Nat.le_of_ble_eq_true rfl) dX12_part_45 ?_
        show V G _ 48 [(0, .ref (G.ad x0)), (1, .int x1), (2, .int x2)] [.int v10] I11 L R
        cases h
        exact V_iret C0 dX12_part_48
      · have h := (if_neg c9).symm.trans h
        refine V_aload_n C0 0 rfl rfl dX12_part_29 ?_
        refine V_aload_n C0 0 rfl rfl dX12_part_30 ?_
        refine V_iload_n C0 1 rfl rfl dX12_part_31 ?_
        refine V_iconst C0 (v := (0 : Int32)) (by decide) dX12_part_32 ?_
        obtain ⟨v13, q14, h⟩ := bn1_some h
        refine V_callV C0 (st := [.ref (G.ad x0)]) (As := [.int x1, .int (0 : Int32)]) 11 (c_X12_get G.l G.D G.cA G.ad G.bs G.X C0.2.2.2.2.2.2.2.2.2.1 C0.2.2.2.2.2.2.2.2.2.2.2.2 x0 x1 (0 : Int32) I1 L R v13 q14) lc_X12_get lk_X12_211 c_x0.2 c_x0.1 ⟨_, rfl, rfl⟩ rfl (by rw [erm]; decide) (Nat.le_of_ble_eq_true rfl) dX12_part_33 ?_
        show V G _ 36 [(0, .ref (G.ad x0)), (1, .int x1), (2, .int x2)] [.int v13, .ref (G.ad x0)] I1 L R
        refine V_iload_n C0 2 rfl rfl dX12_part_36 ?_
        obtain ⟨b15, q16, h⟩ := bn1_some h
        refine V_callV C0 (st := []) (As := [.int v13, .int x2]) 11 (c_X12_hasPart G.l G.D G.cA G.ad G.bs G.X C0.2.2.2.2.2.2.2.2.2.1 C0.2.2.2.2.2.2.2.2.2.2.2.2 N x0 v13 x2 I1 L R b15 q16) lc_X12_hasPart lk_X12_500 c_x0.2 c_x0.1 ⟨_, rfl, rfl⟩ rfl (by rw [erm]; decide) (Nat.le_of_ble_eq_true rfl) dX12_part_37 ?_
        show V G _ 40 [(0, .ref (G.ad x0)), (1, .int x1), (2, .int x2)] [.int (b2i b15)] I1 L R
        refine V_if_ne C0 (tgt := 49) (by decide) dX12_part_40 (fun c17 => ?_) (fun c17 => ?_)
        · have h := (if_neg c17).symm.trans h
          refine V_aload_n C0 0 rfl rfl dX12_part_49 ?_
          refine V_iload_n C0 1 rfl rfl dX12_part_50 ?_
          refine V_iload_n C0 2 rfl rfl dX12_part_51 ?_
          obtain ⟨v18, q19, h⟩ := bn1_some h
          refine V_callV C0 (st := []) (As := [.int x1, .int x2]) 11 (c_X12_get G.l G.D G.cA G.ad G.bs G.X C0.2.2.2.2.2.2.2.2.2.1 C0.2.2.2.2.2.2.2.2.2.2.2.2 x0 x1 x2 I1 L R v18 q19) lc_X12_get lk_X12_211 c_x0.2 c_x0.1 ⟨_, rfl, rfl⟩ rfl (by rw [erm]; decide) (Nat.le_of_ble_eq_true rfl) dX12_part_52 ?_
          show V G _ 55 [(0, .ref (G.ad x0)), (1, .int x1), (2, .int x2)] [.int v18] I1 L R
          cases h
          exact V_iret C0 dX12_part_55
        · have h := (if_pos c17).symm.trans h
          refine V_aload_n C0 0 rfl rfl dX12_part_43 ?_
          refine V_iconst C0 (v := (2 : Int32)) (by decide) dX12_part_44 ?_
          obtain ⟨v20, I21, q22, h⟩ := bn2_some h
          refine V_callV C0 (st := []) (As := [.int (2 : Int32)]) 11 (c_X12_fail G.l G.D G.cA G.ad G.bs G.X C0.2.2.2.2.2.2.2.2.2.1 C0.2.2.2.2.2.2.2.2.2.2.2.2 x0 (2 : Int32) I1 L R v20 I21 q22) lc_X12_fail lk_X12_488 c_x0.2 c_x0.1 ⟨_, rfl, rfl⟩ rfl (by rw [erm]; decide) (Nat.le_of_ble_eq_true rfl) dX12_part_45 ?_
          show V G _ 48 [(0, .ref (G.ad x0)), (1, .int x1), (2, .int x2)] [.int v20] I21 L R
          cases h
          exact V_iret C0 dX12_part_48
  · have h := (if_pos c4).symm.trans h
    refine V_aload_n C0 0 rfl rfl dX12_part_13 ?_
    refine V_iconst C0 (v := (1 : Int32)) (by decide) dX12_part_14 ?_
    obtain ⟨v23, I24, q25, h⟩ := bn2_some h
    refine V_callV C0 (st := []) (As := [.int (1 : Int32)]) 11 (c_X12_fail G.l G.D G.cA G.ad G.bs G.X C0.2.2.2.2.2.2.2.2.2.1 C0.2.2.2.2.2.2.2.2.2.2.2.2 x0 (1 : Int32) I1 L R v23 I24 q25) lc_X12_fail lk_X12_488 c_x0.2 c_x0.1 ⟨_, rfl, rfl⟩ rfl (by rw [erm]; decide) (Nat.le_of_ble_eq_true rfl) dX12_part_15 ?_
    show V G _ 18 [(0, .ref (G.ad x0)), (1, .int x1), (2, .int x2)] [.int v23] I24 L R
    cases h
    exact V_iret C0 dX12_part_18
theorem dX12_ask_0 : decode cX12_ask 0 = .ok (.aload_n 0, 1) := by decide +kernel
theorem dX12_ask_1 : decode cX12_ask 1 = .ok (.iconst 0, 1) := by decide +kernel
theorem dX12_ask_2 : decode cX12_ask 2 = .ok (.putfield 112, 3) := by decide +kernel
theorem dX12_ask_5 : decode cX12_ask 5 = .ok (.aload_n 0, 1) := by decide +kernel
theorem dX12_ask_6 : decode cX12_ask 6 = .ok (.iload_n 1, 1) := by decide +kernel
theorem dX12_ask_7 : decode cX12_ask 7 = .ok (.invokevirtual 494, 3) := by decide +kernel
theorem dX12_ask_10 : decode cX12_ask 10 = .ok (.ifCond .ne 9, 3) := by decide +kernel
theorem dX12_ask_13 : decode cX12_ask 13 = .ok (.aload_n 0, 1) := by decide +kernel
theorem dX12_ask_14 : decode cX12_ask 14 = .ok (.iconst 1, 1) := by decide +kernel
theorem dX12_ask_15 : decode cX12_ask 15 = .ok (.invokevirtual 488, 3) := by decide +kernel
theorem dX12_ask_18 : decode cX12_ask 18 = .ok (.ireturn, 1) := by decide +kernel
theorem dX12_ask_19 : decode cX12_ask 19 = .ok (.iload_n 2, 1) := by decide +kernel
theorem dX12_ask_20 : decode cX12_ask 20 = .ok (.iconst 0, 1) := by decide +kernel
theorem dX12_ask_21 : decode cX12_ask 21 = .ok (.iconst 3, 1) := by decide +kernel
theorem dX12_ask_22 : decode cX12_ask 22 = .ok (.invokestatic 171, 3) := by decide +kernel
theorem dX12_ask_25 : decode cX12_ask 25 = .ok (.ifCond .ne 33, 3) := by decide +kernel
theorem dX12_ask_28 : decode cX12_ask 28 = .ok (.iload_n 2, 1) := by decide +kernel
theorem dX12_ask_29 : decode cX12_ask 29 = .ok (.iconst 4, 1) := by decide +kernel
theorem dX12_ask_30 : decode cX12_ask 30 = .ok (.if_icmp .ne 13, 3) := by decide +kernel
theorem dX12_ask_33 : decode cX12_ask 33 = .ok (.aload_n 0, 1) := by decide +kernel
theorem dX12_ask_34 : decode cX12_ask 34 = .ok (.iload_n 1, 1) := by decide +kernel
theorem dX12_ask_35 : decode cX12_ask 35 = .ok (.bipush 9, 2) := by decide +kernel
theorem dX12_ask_37 : decode cX12_ask 37 = .ok (.invokevirtual 217, 3) := by decide +kernel
theorem dX12_ask_40 : decode cX12_ask 40 = .ok (.ifCond .ne 18, 3) := by decide +kernel
theorem dX12_ask_43 : decode cX12_ask 43 = .ok (.iload_n 2, 1) := by decide +kernel
theorem dX12_ask_44 : decode cX12_ask 44 = .ok (.iconst 5, 1) := by decide +kernel
theorem dX12_ask_45 : decode cX12_ask 45 = .ok (.if_icmp .ne 17, 3) := by decide +kernel
theorem dX12_ask_48 : decode cX12_ask 48 = .ok (.aload_n 0, 1) := by decide +kernel
theorem dX12_ask_49 : decode cX12_ask 49 = .ok (.iload_n 1, 1) := by decide +kernel
theorem dX12_ask_50 : decode cX12_ask 50 = .ok (.bipush 15, 2) := by decide +kernel
theorem dX12_ask_52 : decode cX12_ask 52 = .ok (.invokevirtual 217, 3) := by decide +kernel
theorem dX12_ask_55 : decode cX12_ask 55 = .ok (.ifCond .eq 7, 3) := by decide +kernel
theorem dX12_ask_58 : decode cX12_ask 58 = .ok (.iconst 1, 1) := by decide +kernel
theorem dX12_ask_59 : decode cX12_ask 59 = .ok (.goto 4, 3) := by decide +kernel
theorem dX12_ask_62 : decode cX12_ask 62 = .ok (.iconst 0, 1) := by decide +kernel
theorem dX12_ask_63 : decode cX12_ask 63 = .ok (.istore_n 3, 1) := by decide +kernel
theorem dX12_ask_64 : decode cX12_ask 64 = .ok (.iload_n 3, 1) := by decide +kernel
theorem dX12_ask_65 : decode cX12_ask 65 = .ok (.ifCond .eq 12, 3) := by decide +kernel
theorem dX12_ask_68 : decode cX12_ask 68 = .ok (.aload_n 0, 1) := by decide +kernel
theorem dX12_ask_69 : decode cX12_ask 69 = .ok (.iload_n 1, 1) := by decide +kernel
theorem dX12_ask_70 : decode cX12_ask 70 = .ok (.iload_n 2, 1) := by decide +kernel
theorem dX12_ask_71 : decode cX12_ask 71 = .ok (.invokevirtual 250, 3) := by decide +kernel
theorem dX12_ask_74 : decode cX12_ask 74 = .ok (.goto 8, 3) := by decide +kernel
theorem dX12_ask_77 : decode cX12_ask 77 = .ok (.aload_n 0, 1) := by decide +kernel
theorem dX12_ask_78 : decode cX12_ask 78 = .ok (.iconst 2, 1) := by decide +kernel
theorem dX12_ask_79 : decode cX12_ask 79 = .ok (.invokevirtual 488, 3) := by decide +kernel
theorem dX12_ask_82 : decode cX12_ask 82 = .ok (.ireturn, 1) := by decide +kernel
def F_X12_ask (N : Nat) (x0 : Nat) (x1 : Int32) (x2 : Int32) (I : MI) (L : ML) (R : MR) : Option (Int32 × MI) :=
  if kd x0 = 11 ∧ x0 < NN then
  wr (uI I x0 5 (0 : Int32)) fun (I1 : MI) =>
  bn1 (F_X12_isUnit x0 x1 I1 L R) fun b2 =>
  if (b2i b2) = 0 then
    bn2 (F_X12_fail x0 (1 : Int32) I1 L R) fun v48 I49 =>
    some (v48, I49)
  else
    bn1 (F_X12_in x2 (0 : Int32) (3 : Int32) I1 L R) fun b5 =>
    bn1 (
      if (b2i b5) = 0 then
        bn1 (
          if x2 = (4 : Int32) then
            bn1 (F_X12_isA N x0 x1 (9 : Int32) I1 L R) fun b25 =>
            bn1 (
              if (b2i b25) = 0 then
                bn1 (
                  if x2 = (5 : Int32) then
                    bn1 (F_X12_isA N x0 x1 (15 : Int32) I1 L R) fun b35 =>
                    bn1 (
                      if (b2i b35) = 0 then
                        some ((0 : Int32))
                      else
                        some ((1 : Int32))
                    ) fun (s37 : Int32) =>
                    some (s37)
                  else
                    some ((0 : Int32))
                ) fun (s31 : Int32) =>
                some (s31)
              else
                some ((1 : Int32))
            ) fun (s27 : Int32) =>
            some (s27)
          else
            bn1 (
              if x2 = (5 : Int32) then
                bn1 (F_X12_isA N x0 x1 (15 : Int32) I1 L R) fun b19 =>
                bn1 (
                  if (b2i b19) = 0 then
                    some ((0 : Int32))
                  else
                    some ((1 : Int32))
                ) fun (s21 : Int32) =>
                some (s21)
              else
                some ((0 : Int32))
            ) fun (s15 : Int32) =>
            some (s15)
        ) fun (s11 : Int32) =>
        some (s11)
      else
        some ((1 : Int32))
    ) fun (s7 : Int32) =>
    if s7 = 0 then
      bn2 (F_X12_fail x0 (2 : Int32) I1 L R) fun v42 I43 =>
      some (v42, I43)
    else
      bn2 (F_X12_answer N x0 x1 x2 I1 L R) fun v45 I46 =>
      some (v45, I46)
  else none
set_option maxRecDepth 100000 in
set_option maxHeartbeats 4000000 in
theorem c_X12_ask (l : Launch) (D : va_G) (cA : Nat → ClassId) (ad : Nat → Nat) (bs : Nat) (X : State → Prop) (hAd : Ax ad bs) (hX : Stb bs X) (N : Nat) (x0 : Nat) (x1 : Int32) (x2 : Int32) (I : MI) (L : ML) (R : MR) (r : Int32) (I' : MI) (h : F_X12_ask N x0 x1 x2 I L R = some (r, I')) : Cn l D cA ad bs X yX12_ask cX12_ask 4 (some .int) 3 71 [.ref (ad x0), .int x1, .int x2] I L R (some (.int r), I', L, R) := by
  refine Cn.ofV hAd hX [(0, .ref (ad x0)), (1, .int x1), (2, .int x2)] rfl (Nat.le_of_ble_eq_true rfl) (by decide) ?_
  intro G el eD ecA ead ebs eX erm eNL C0
  subst el eD ecA ead ebs eX
  unfold F_X12_ask at h
  obtain ⟨c_x0, h⟩ := ite_some h
  refine V_aload_n C0 0 rfl rfl dX12_ask_0 ?_
  refine V_iconst C0 (v := (0 : Int32)) (by decide) dX12_ask_1 ?_
  obtain ⟨I1, eI1, h⟩ := wr_some h
  refine V_putI C0 11 5 fp_X12_112 c_x0.2 c_x0.1 rfl dX12_ask_2 ?_
  rw [← eI1]
  refine V_aload_n C0 0 rfl rfl dX12_ask_5 ?_
  refine V_iload_n C0 1 rfl rfl dX12_ask_6 ?_
  obtain ⟨b2, q3, h⟩ := bn1_some h
  refine V_callV C0 (st := []) (As := [.int x1]) 11 (c_X12_isUnit G.l G.D G.cA G.ad G.bs G.X C0.2.2.2.2.2.2.2.2.2.1 C0.2.2.2.2.2.2.2.2.2.2.2.2 x0 x1 I1 L R b2 q3) lc_X12_isUnit lk_X12_494 c_x0.2 c_x0.1 ⟨_, rfl, rfl⟩ rfl (by rw [erm]; decide) (Nat.le_of_ble_eq_true rfl) dX12_ask_7 ?_
  show V G _ 10 [(0, .ref (G.ad x0)), (1, .int x1), (2, .int x2)] [.int (b2i b2)] I1 L R
  refine V_if_ne C0 (tgt := 19) (by decide) dX12_ask_10 (fun c4 => ?_) (fun c4 => ?_)
  · have h := (if_neg c4).symm.trans h
    refine V_iload_n C0 2 rfl rfl dX12_ask_19 ?_
    refine V_iconst C0 (v := (0 : Int32)) (by decide) dX12_ask_20 ?_
    refine V_iconst C0 (v := (3 : Int32)) (by decide) dX12_ask_21 ?_
    obtain ⟨b5, q6, h⟩ := bn1_some h
    refine V_callS C0 (st := []) (As := [.int x2, .int (0 : Int32), .int (3 : Int32)]) (c_X12_in G.l G.D G.cA G.ad G.bs G.X C0.2.2.2.2.2.2.2.2.2.1 C0.2.2.2.2.2.2.2.2.2.2.2.2 x2 (0 : Int32) (3 : Int32) I1 L R b5 q6) lc_X12_in lk_X12_171 rfl (by rw [erm]; decide) (Nat.le_of_ble_eq_true rfl) dX12_ask_22 ?_
    show V G _ 25 [(0, .ref (G.ad x0)), (1, .int x1), (2, .int x2)] [.int (b2i b5)] I1 L R
    obtain ⟨s7, q8, h⟩ := bn1_some h
    have k9 : V G (qf G (some (.int r), I', L, R)) 63 [(0, .ref (G.ad x0)), (1, .int x1), (2, .int x2)] [.int s7] I1 L R := by
      refine V_istore_n C0 [(3, .int s7), (0, .ref (G.ad x0)), (1, .int x1), (2, .int x2)] rfl (by rw [eNL]; decide) rfl dX12_ask_63 ?_
      refine V_iload_n C0 0 rfl rfl dX12_ask_64 ?_
      refine V_if_eq C0 (tgt := 77) (by decide) dX12_ask_65 (fun c41 => ?_) (fun c41 => ?_)
      · have h := (if_pos c41).symm.trans h
        refine V_aload_n C0 1 rfl rfl dX12_ask_77 ?_
        refine V_iconst C0 (v := (2 : Int32)) (by decide) dX12_ask_78 ?_
        obtain ⟨v42, I43, q44, h⟩ := bn2_some h
        refine V_callV C0 (st := []) (As := [.int (2 : Int32)]) 11 (c_X12_fail G.l G.D G.cA G.ad G.bs G.X C0.2.2.2.2.2.2.2.2.2.1 C0.2.2.2.2.2.2.2.2.2.2.2.2 x0 (2 : Int32) I1 L R v42 I43 q44) lc_X12_fail lk_X12_488 c_x0.2 c_x0.1 ⟨_, rfl, rfl⟩ rfl (by rw [erm]; decide) (Nat.le_of_ble_eq_true rfl) dX12_ask_79 ?_
        show V G _ 82 [(3, .int s7), (0, .ref (G.ad x0)), (1, .int x1), (2, .int x2)] [.int v42] I43 L R
        cases h
        exact V_iret C0 dX12_ask_82
      · have h := (if_neg c41).symm.trans h
        refine V_aload_n C0 1 rfl rfl dX12_ask_68 ?_
        refine V_iload_n C0 2 rfl rfl dX12_ask_69 ?_
        refine V_iload_n C0 3 rfl rfl dX12_ask_70 ?_
        obtain ⟨v45, I46, q47, h⟩ := bn2_some h
        refine V_callV C0 (st := []) (As := [.int x1, .int x2]) 11 (c_X12_answer G.l G.D G.cA G.ad G.bs G.X C0.2.2.2.2.2.2.2.2.2.1 C0.2.2.2.2.2.2.2.2.2.2.2.2 N x0 x1 x2 I1 L R v45 I46 q47) lc_X12_answer lk_X12_250 c_x0.2 c_x0.1 ⟨_, rfl, rfl⟩ rfl (by rw [erm]; decide) (Nat.le_of_ble_eq_true rfl) dX12_ask_71 ?_
        show V G _ 74 [(3, .int s7), (0, .ref (G.ad x0)), (1, .int x1), (2, .int x2)] [.int v45] I46 L R
        refine V_goto C0 (tgt := 82) (by decide) dX12_ask_74 ?_
        cases h
        exact V_iret C0 dX12_ask_82
    refine V_if_ne C0 (tgt := 58) (by decide) dX12_ask_25 (fun c10 => ?_) (fun c10 => ?_)
    · have q8 := (if_neg c10).symm.trans q8
      refine V_iconst C0 (v := (1 : Int32)) (by decide) dX12_ask_58 ?_
      refine V_goto C0 (tgt := 63) (by decide) dX12_ask_59 ?_
      cases q8
      exact V_sub [0, 1, 2] rfl k9
    · have q8 := (if_pos c10).symm.trans q8
      refine V_iload_n C0 2 rfl rfl dX12_ask_28 ?_
      refine V_iconst C0 (v := (4 : Int32)) (by decide) dX12_ask_29 ?_
      obtain ⟨s11, q12, q8⟩ := bn1_some q8
      have k13 : V G (qf G (some (.int r), I', L, R)) 63 [(0, .ref (G.ad x0)), (1, .int x1), (2, .int x2)] [.int s11] I1 L R := by
        cases q8
        exact V_sub [0, 1, 2] rfl k9
      refine V_icmp_ne C0 (tgt := 43) (by decide) dX12_ask_30 (fun c14 => ?_) (fun c14 => ?_)
      · have q12 := (if_neg c14).symm.trans q12
        refine V_iload_n C0 2 rfl rfl dX12_ask_43 ?_
        refine V_iconst C0 (v := (5 : Int32)) (by decide) dX12_ask_44 ?_
        obtain ⟨s15, q16, q12⟩ := bn1_some q12
        have k17 : V G (qf G (some (.int r), I', L, R)) 63 [(0, .ref (G.ad x0)), (1, .int x1), (2, .int x2)] [.int s15] I1 L R := by
          cases q12
          exact V_sub [0, 1, 2] rfl k13
        refine V_icmp_ne C0 (tgt := 62) (by decide) dX12_ask_45 (fun c18 => ?_) (fun c18 => ?_)
        · have q16 := (if_neg c18).symm.trans q16
          refine V_iconst C0 (v := (0 : Int32)) (by decide) dX12_ask_62 ?_
          cases q16
          exact V_sub [0, 1, 2] rfl k17
        · have q16 := (if_pos c18).symm.trans q16
          refine V_aload_n C0 0 rfl rfl dX12_ask_48 ?_
          refine V_iload_n C0 1 rfl rfl dX12_ask_49 ?_
          refine V_bipush C0 (v := (15 : Int32)) (by decide) dX12_ask_50 ?_
          obtain ⟨b19, q20, q16⟩ := bn1_some q16
          refine V_callV C0 (st := []) (As := [.int x1, .int (15 : Int32)]) 11 (c_X12_isA G.l G.D G.cA G.ad G.bs G.X C0.2.2.2.2.2.2.2.2.2.1 C0.2.2.2.2.2.2.2.2.2.2.2.2 N x0 x1 (15 : Int32) I1 L R b19 q20) lc_X12_isA lk_X12_217 c_x0.2 c_x0.1 ⟨_, rfl, rfl⟩ rfl (by rw [erm]; decide) (Nat.le_of_ble_eq_true rfl) dX12_ask_52 ?_
          show V G _ 55 [(0, .ref (G.ad x0)), (1, .int x1), (2, .int x2)] [.int (b2i b19)] I1 L R
          obtain ⟨s21, q22, q16⟩ := bn1_some q16
          have k23 : V G (qf G (some (.int r), I', L, R)) 63 [(0, .ref (G.ad x0)), (1, .int x1), (2, .int x2)] [.int s21] I1 L R := by
            cases q16
            exact V_sub [0, 1, 2] rfl k17
          refine V_if_eq C0 (tgt := 62) (by decide) dX12_ask_55 (fun c24 => ?_) (fun c24 => ?_)
          · have q22 := (if_pos c24).symm.trans q22
            refine V_iconst C0 (v := (0 : Int32)) (by decide) dX12_ask_62 ?_
            cases q22
            exact V_sub [0, 1, 2] rfl k23
          · have q22 := (if_neg c24).symm.trans q22
            refine V_iconst C0 (v := (1 : Int32)) (by decide) dX12_ask_58 ?_
            refine V_goto C0 (tgt := 63) (by decide) dX12_ask_59 ?_
            cases q22
            exact V_sub [0, 1, 2] rfl k23
      · have q12 := (if_pos c14).symm.trans q12
        refine V_aload_n C0 0 rfl rfl dX12_ask_33 ?_
        refine V_iload_n C0 1 rfl rfl dX12_ask_34 ?_
        refine V_bipush C0 (v := (9 : Int32)) (by decide) dX12_ask_35 ?_
        obtain ⟨b25, q26, q12⟩ := bn1_some q12
        refine V_callV C0 (st := []) (As := [.int x1, .int (9 : Int32)]) 11 (c_X12_isA G.l G.D G.cA G.ad G.bs G.X C0.2.2.2.2.2.2.2.2.2.1 C0.2.2.2.2.2.2.2.2.2.2.2.2 N x0 x1 (9 : Int32) I1 L R b25 q26) lc_X12_isA lk_X12_217 c_x0.2 c_x0.1 ⟨_, rfl, rfl⟩ rfl (by rw [erm]; decide) (Nat.le_of_ble_eq_true rfl) dX12_ask_37 ?_
        show V G _ 40 [(0, .ref (G.ad x0)), (1, .int x1), (2, .int x2)] [.int (b2i b25)] I1 L R
        obtain ⟨s27, q28, q12⟩ := bn1_some q12
        have k29 : V G (qf G (some (.int r), I', L, R)) 63 [(0, .ref (G.ad x0)), (1, .int x1), (2, .int x2)] [.int s27] I1 L R := by
          cases q12
          exact V_sub [0, 1, 2] rfl k13
        refine V_if_ne C0 (tgt := 58) (by decide) dX12_ask_40 (fun c30 => ?_) (fun c30 => ?_)
        · have q28 := (if_neg c30).symm.trans q28
          refine V_iconst C0 (v := (1 : Int32)) (by decide) dX12_ask_58 ?_
          refine V_goto C0 (tgt := 63) (by decide) dX12_ask_59 ?_
          cases q28
          exact V_sub [0, 1, 2] rfl k29
        · have q28 := (if_pos c30).symm.trans q28
          refine V_iload_n C0 2 rfl rfl dX12_ask_43 ?_
          refine V_iconst C0 (v := (5 : Int32)) (by decide) dX12_ask_44 ?_
          obtain ⟨s31, q32, q28⟩ := bn1_some q28
          have k33 : V G (qf G (some (.int r), I', L, R)) 63 [(0, .ref (G.ad x0)), (1, .int x1), (2, .int x2)] [.int s31] I1 L R := by
            cases q28
            exact V_sub [0, 1, 2] rfl k29
          refine V_icmp_ne C0 (tgt := 62) (by decide) dX12_ask_45 (fun c34 => ?_) (fun c34 => ?_)
          · have q32 := (if_neg c34).symm.trans q32
            refine V_iconst C0 (v := (0 : Int32)) (by decide) dX12_ask_62 ?_
            cases q32
            exact V_sub [0, 1, 2] rfl k33
          · have q32 := (if_pos c34).symm.trans q32
            refine V_aload_n C0 0 rfl rfl dX12_ask_48 ?_
            refine V_iload_n C0 1 rfl rfl dX12_ask_49 ?_
            refine V_bipush C0 (v := (15 : Int32)) (by decide) dX12_ask_50 ?_
            obtain ⟨b35, q36, q32⟩ := bn1_some q32
            refine V_callV C0 (st := []) (As := [.int x1, .int (15 : Int32)]) 11 (c_X12_isA G.l G.D G.cA G.ad G.bs G.X C0.2.2.2.2.2.2.2.2.2.1 C0.2.2.2.2.2.2.2.2.2.2.2.2 N x0 x1 (15 : Int32) I1 L R b35 q36) lc_X12_isA lk_X12_217 c_x0.2 c_x0.1 ⟨_, rfl, rfl⟩ rfl (by rw [erm]; decide) (Nat.le_of_ble_eq_true rfl) dX12_ask_52 ?_
            show V G _ 55 [(0, .ref (G.ad x0)), (1, .int x1), (2, .int x2)] [.int (b2i b35)] I1 L R
            obtain ⟨s37, q38, q32⟩ := bn1_some q32
            have k39 : V G (qf G (some (.int r), I', L, R)) 63 [(0, .ref (G.ad x0)), (1, .int x1), (2, .int x2)] [.int s37] I1 L R := by
              cases q32
              exact V_sub [0, 1, 2] rfl k33
            refine V_if_eq C0 (tgt := 62) (by decide) dX12_ask_55 (fun c40 => ?_) (fun c40 => ?_)
            · have q38 := (if_pos c40).symm.trans q38
              refine V_iconst C0 (v := (0 : Int32)) (by decide) dX12_ask_62 ?_
              cases q38
              exact V_sub [0, 1, 2] rfl k39
            · have q38 := (if_neg c40).symm.trans q38
              refine V_iconst C0 (v := (1 : Int32)) (by decide) dX12_ask_58 ?_
              refine V_goto C0 (tgt := 63) (by decide) dX12_ask_59 ?_
              cases q38
              exact V_sub [0, 1, 2] rfl k39
  · have h := (if_pos c4).symm.trans h
    refine V_aload_n C0 0 rfl rfl dX12_ask_13 ?_
    refine V_iconst C0 (v := (1 : Int32)) (by decide) dX12_ask_14 ?_
    obtain ⟨v48, I49, q50, h⟩ := bn2_some h
    refine V_callV C0 (st := []) (As := [.int (1 : Int32)]) 11 (c_X12_fail G.l G.D G.cA G.ad G.bs G.X C0.2.2.2.2.2.2.2.2.2.1 C0.2.2.2.2.2.2.2.2.2.2.2.2 x0 (1 : Int32) I1 L R v48 I49 q50) lc_X12_fail lk_X12_488 c_x0.2 c_x0.1 ⟨_, rfl, rfl⟩ rfl (by rw [erm]; decide) (Nat.le_of_ble_eq_true rfl) dX12_ask_15 ?_
    show V G _ 18 [(0, .ref (G.ad x0)), (1, .int x1), (2, .int x2)] [.int v48] I49 L R
    cases h
    exact V_iret C0 dX12_ask_18
theorem dX12_note_0 : decode cX12_note 0 = .ok (.aload_n 0, 1) := by decide +kernel
theorem dX12_note_1 : decode cX12_note 1 = .ok (.iconst 0, 1) := by decide +kernel
theorem dX12_note_2 : decode cX12_note 2 = .ok (.putfield 112, 3) := by decide +kernel
theorem dX12_note_5 : decode cX12_note 5 = .ok (.iload_n 1, 1) := by decide +kernel
theorem dX12_note_6 : decode cX12_note 6 = .ok (.ifCond .lt 26, 3) := by decide +kernel
theorem dX12_note_9 : decode cX12_note 9 = .ok (.iload_n 1, 1) := by decide +kernel
theorem dX12_note_10 : decode cX12_note 10 = .ok (.aload_n 0, 1) := by decide +kernel
theorem dX12_note_11 : decode cX12_note 11 = .ok (.getfield 208, 3) := by decide +kernel
theorem dX12_note_14 : decode cX12_note 14 = .ok (.if_icmp .ge 18, 3) := by decide +kernel
theorem dX12_note_17 : decode cX12_note 17 = .ok (.iload_n 1, 1) := by decide +kernel
theorem dX12_note_18 : decode cX12_note 18 = .ok (.bipush 100, 2) := by decide +kernel
theorem dX12_note_20 : decode cX12_note 20 = .ok (.if_icmp .ge 12, 3) := by decide +kernel
theorem dX12_note_23 : decode cX12_note 23 = .ok (.iload_n 2, 1) := by decide +kernel
theorem dX12_note_24 : decode cX12_note 24 = .ok (.ifCond .lt 8, 3) := by decide +kernel
theorem dX12_note_27 : decode cX12_note 27 = .ok (.iload_n 2, 1) := by decide +kernel
theorem dX12_note_28 : decode cX12_note 28 = .ok (.iconst 2, 1) := by decide +kernel
theorem dX12_note_29 : decode cX12_note 29 = .ok (.if_icmp .le 9, 3) := by decide +kernel
theorem dX12_note_32 : decode cX12_note 32 = .ok (.aload_n 0, 1) := by decide +kernel
theorem dX12_note_33 : decode cX12_note 33 = .ok (.iconst 1, 1) := by decide +kernel
theorem dX12_note_34 : decode cX12_note 34 = .ok (.invokevirtual 488, 3) := by decide +kernel
theorem dX12_note_37 : decode cX12_note 37 = .ok (.ireturn, 1) := by decide +kernel
theorem dX12_note_38 : decode cX12_note 38 = .ok (.iload_n 2, 1) := by decide +kernel
theorem dX12_note_39 : decode cX12_note 39 = .ok (.ifCond .ne 12, 3) := by decide +kernel
theorem dX12_note_42 : decode cX12_note 42 = .ok (.aload_n 0, 1) := by decide +kernel
theorem dX12_note_43 : decode cX12_note 43 = .ok (.getfield 53, 3) := by decide +kernel
theorem dX12_note_46 : decode cX12_note 46 = .ok (.iload_n 1, 1) := by decide +kernel
theorem dX12_note_47 : decode cX12_note 47 = .ok (.iaload, 1) := by decide +kernel
theorem dX12_note_48 : decode cX12_note 48 = .ok (.goto 23, 3) := by decide +kernel
theorem dX12_note_51 : decode cX12_note 51 = .ok (.iload_n 2, 1) := by decide +kernel
theorem dX12_note_52 : decode cX12_note 52 = .ok (.iconst 1, 1) := by decide +kernel
theorem dX12_note_53 : decode cX12_note 53 = .ok (.if_icmp .ne 12, 3) := by decide +kernel
theorem dX12_note_56 : decode cX12_note 56 = .ok (.aload_n 0, 1) := by decide +kernel
theorem dX12_note_57 : decode cX12_note 57 = .ok (.getfield 56, 3) := by decide +kernel
theorem dX12_note_60 : decode cX12_note 60 = .ok (.iload_n 1, 1) := by decide +kernel
theorem dX12_note_61 : decode cX12_note 61 = .ok (.iaload, 1) := by decide +kernel
theorem dX12_note_62 : decode cX12_note 62 = .ok (.goto 9, 3) := by decide +kernel
theorem dX12_note_65 : decode cX12_note 65 = .ok (.aload_n 0, 1) := by decide +kernel
theorem dX12_note_66 : decode cX12_note 66 = .ok (.getfield 59, 3) := by decide +kernel
theorem dX12_note_69 : decode cX12_note 69 = .ok (.iload_n 1, 1) := by decide +kernel
theorem dX12_note_70 : decode cX12_note 70 = .ok (.iaload, 1) := by decide +kernel
theorem dX12_note_71 : decode cX12_note 71 = .ok (.ireturn, 1) := by decide +kernel
def F_X12_note (x0 : Nat) (x1 : Int32) (x2 : Int32) (I : MI) (L : ML) (R : MR) : Option (Int32 × MI) :=
  if kd x0 = 11 ∧ x0 < NN then
  wr (uI I x0 5 (0 : Int32)) fun (I1 : MI) =>
  if x1 < 0 then
    bn2 (F_X12_fail x0 (1 : Int32) I1 L R) fun v3 I4 =>
    some (v3, I4)
  else
    if (I1 x0 28) ≤ x1 then
      bn2 (F_X12_fail x0 (1 : Int32) I1 L R) fun v7 I8 =>
      some (v7, I8)
    else
      if (100 : Int32) ≤ x1 then
        bn2 (F_X12_fail x0 (1 : Int32) I1 L R) fun v11 I12 =>
        some (v11, I12)
      else
        if x2 < 0 then
          bn2 (F_X12_fail x0 (1 : Int32) I1 L R) fun v15 I16 =>
          some (v15, I16)
        else
          if x2 ≤ (2 : Int32) then
            if x2 = 0 then
              (rf R x0 29 20).bind fun a25 =>
              (ri I1 a25 x1).bind fun v26 =>
              some (v26, I1)
            else
              if x2 = (1 : Int32) then
                (rf R x0 30 20).bind fun a23 =>
                (ri I1 a23 x1).bind fun v24 =>
                some (v24, I1)
              else
                (rf R x0 31 20).bind fun a21 =>
                (ri I1 a21 x1).bind fun v22 =>
                some (v22, I1)
          else
            bn2 (F_X12_fail x0 (1 : Int32) I1 L R) fun v27 I28 =>
            some (v27, I28)
  else none
set_option maxRecDepth 100000 in
set_option maxHeartbeats 4000000 in
theorem c_X12_note (l : Launch) (D : va_G) (cA : Nat → ClassId) (ad : Nat → Nat) (bs : Nat) (X : State → Prop) (hAd : Ax ad bs) (hX : Stb bs X) (x0 : Nat) (x1 : Int32) (x2 : Int32) (I : MI) (L : ML) (R : MR) (r : Int32) (I' : MI) (h : F_X12_note x0 x1 x2 I L R = some (r, I')) : Cn l D cA ad bs X yX12_note cX12_note 3 (some .int) 1 21 [.ref (ad x0), .int x1, .int x2] I L R (some (.int r), I', L, R) := by
  refine Cn.ofV hAd hX [(0, .ref (ad x0)), (1, .int x1), (2, .int x2)] rfl (Nat.le_of_ble_eq_true rfl) (by decide) ?_
  intro G el eD ecA ead ebs eX erm eNL C0
  subst el eD ecA ead ebs eX
  unfold F_X12_note at h
  obtain ⟨c_x0, h⟩ := ite_some h
  refine V_aload_n C0 0 rfl rfl dX12_note_0 ?_
  refine V_iconst C0 (v := (0 : Int32)) (by decide) dX12_note_1 ?_
  obtain ⟨I1, eI1, h⟩ := wr_some h
  refine V_putI C0 11 5 fp_X12_112 c_x0.2 c_x0.1 rfl dX12_note_2 ?_
  rw [← eI1]
  refine V_iload_n C0 1 rfl rfl dX12_note_5 ?_
  refine V_if_lt C0 (tgt := 32) (by decide) dX12_note_6 (fun c2 => ?_) (fun c2 => ?_)
  · have h := (if_pos c2).symm.trans h
    refine V_aload_n C0 0 rfl rfl dX12_note_32 ?_
    refine V_iconst C0 (v := (1 : Int32)) (by decide) dX12_note_33 ?_
    obtain ⟨v3, I4, q5, h⟩ := bn2_some h
    refine V_callV C0 (st := []) (As := [.int (1 : Int32)]) 11 (c_X12_fail G.l G.D G.cA G.ad G.bs G.X C0.2.2.2.2.2.2.2.2.2.1 C0.2.2.2.2.2.2.2.2.2.2.2.2 x0 (1 : Int32) I1 L R v3 I4 q5) lc_X12_fail lk_X12_488 c_x0.2 c_x0.1 ⟨_, rfl, rfl⟩ rfl (by rw [erm]; decide) (Nat.le_of_ble_eq_true rfl) dX12_note_34 ?_
    show V G _ 37 [(0, .ref (G.ad x0)), (1, .int x1), (2, .int x2)] [.int v3] I4 L R
    cases h
    exact V_iret C0 dX12_note_37
  · have h := (if_neg c2).symm.trans h
    refine V_iload_n C0 1 rfl rfl dX12_note_9 ?_
    refine V_aload_n C0 0 rfl rfl dX12_note_10 ?_
    refine V_getI C0 11 28 fl_X12_208 c_x0.2 c_x0.1 rfl dX12_note_11 ?_
    refine V_icmp_ge C0 (tgt := 32) (by decide) dX12_note_14 (fun c6 => ?_) (fun c6 => ?_)
    · have h := (if_pos c6).symm.trans h
      refine V_aload_n C0 0 rfl rfl dX12_note_32 ?_
      refine V_iconst C0 (v := (1 : Int32)) (by decide) dX12_note_33 ?_
      obtain ⟨v7, I8, q9, h⟩ := bn2_some h
      refine V_callV C0 (st := []) (As := [.int (1 : Int32)]) 11 (c_X12_fail G.l G.D G.cA G.ad G.bs G.X C0.2.2.2.2.2.2.2.2.2.1 C0.2.2.2.2.2.2.2.2.2.2.2.2 x0 (1 : Int32) I1 L R v7 I8 q9) lc_X12_fail lk_X12_488 c_x0.2 c_x0.1 ⟨_, rfl, rfl⟩ rfl (by rw [erm]; decide) (Nat.le_of_ble_eq_true rfl) dX12_note_34 ?_
      show V G _ 37 [(0, .ref (G.ad x0)), (1, .int x1), (2, .int x2)] [.int v7] I8 L R
      cases h
      exact V_iret C0 dX12_note_37
    · have h := (if_neg c6).symm.trans h
      refine V_iload_n C0 1 rfl rfl dX12_note_17 ?_
      refine V_bipush C0 (v := (100 : Int32)) (by decide) dX12_note_18 ?_
      refine V_icmp_ge C0 (tgt := 32) (by decide) dX12_note_20 (fun c10 => ?_) (fun c10 => ?_)
      · have h := (if_pos c10).symm.trans h
        refine V_aload_n C0 0 rfl rfl dX12_note_32 ?_
        refine V_iconst C0 (v := (1 : Int32)) (by decide) dX12_note_33 ?_
        obtain ⟨v11, I12, q13, h⟩ := bn2_some h
        refine V_callV C0 (st := []) (As := [.int (1 : Int32)]) 11 (c_X12_fail G.l G.D G.cA G.ad G.bs G.X C0.2.2.2.2.2.2.2.2.2.1 C0.2.2.2.2.2.2.2.2.2.2.2.2 x0 (1 : Int32) I1 L R v11 I12 q13) lc_X12_fail lk_X12_488 c_x0.2 c_x0.1 ⟨_, rfl, rfl⟩ rfl (by rw [erm]; decide) (Nat.le_of_ble_eq_true rfl) dX12_note_34 ?_
        show V G _ 37 [(0, .ref (G.ad x0)), (1, .int x1), (2, .int x2)] [.int v11] I12 L R
        cases h
        exact V_iret C0 dX12_note_37
      · have h := (if_neg c10).symm.trans h
        refine V_iload_n C0 2 rfl rfl dX12_note_23 ?_
        refine V_if_lt C0 (tgt := 32) (by decide) dX12_note_24 (fun c14 => ?_) (fun c14 => ?_)
        · have h := (if_pos c14).symm.trans h
          refine V_aload_n C0 0 rfl rfl dX12_note_32 ?_
          refine V_iconst C0 (v := (1 : Int32)) (by decide) dX12_note_33 ?_
          obtain ⟨v15, I16, q17, h⟩ := bn2_some h
          refine V_callV C0 (st := []) (As := [.int (1 : Int32)]) 11 (c_X12_fail G.l G.D G.cA G.ad G.bs G.X C0.2.2.2.2.2.2.2.2.2.1 C0.2.2.2.2.2.2.2.2.2.2.2.2 x0 (1 : Int32) I1 L R v15 I16 q17) lc_X12_fail lk_X12_488 c_x0.2 c_x0.1 ⟨_, rfl, rfl⟩ rfl (by rw [erm]; decide) (Nat.le_of_ble_eq_true rfl) dX12_note_34 ?_
          show V G _ 37 [(0, .ref (G.ad x0)), (1, .int x1), (2, .int x2)] [.int v15] I16 L R
          cases h
          exact V_iret C0 dX12_note_37
        · have h := (if_neg c14).symm.trans h
          refine V_iload_n C0 2 rfl rfl dX12_note_27 ?_
          refine V_iconst C0 (v := (2 : Int32)) (by decide) dX12_note_28 ?_
          refine V_icmp_le C0 (tgt := 38) (by decide) dX12_note_29 (fun c18 => ?_) (fun c18 => ?_)
          · have h := (if_pos c18).symm.trans h
            refine V_iload_n C0 2 rfl rfl dX12_note_38 ?_
            refine V_if_ne C0 (tgt := 51) (by decide) dX12_note_39 (fun c19 => ?_) (fun c19 => ?_)
            · have h := (if_neg c19).symm.trans h
              refine V_iload_n C0 2 rfl rfl dX12_note_51 ?_
              refine V_iconst C0 (v := (1 : Int32)) (by decide) dX12_note_52 ?_
              refine V_icmp_ne C0 (tgt := 65) (by decide) dX12_note_53 (fun c20 => ?_) (fun c20 => ?_)
              · have h := (if_neg c20).symm.trans h
                refine V_aload_n C0 0 rfl rfl dX12_note_65 ?_
                obtain ⟨a21, qa21, h⟩ := bnd_some h
                refine V_getR C0 11 31 fl_X12_59 c_x0.2 c_x0.1 rfl (rf_at qa21) dX12_note_66 ?_
                refine V_iload_n C0 1 rfl rfl dX12_note_69 ?_
                obtain ⟨v22, qv22, h⟩ := bnd_some h
                refine V_ri C0 (rf_lt qa21) (rf_kd qa21) qv22 dX12_note_70 ?_
                cases h
                exact V_iret C0 dX12_note_71
              · have h := (if_pos c20).symm.trans h
                refine V_aload_n C0 0 rfl rfl dX12_note_56 ?_
                obtain ⟨a23, qa23, h⟩ := bnd_some h
                refine V_getR C0 11 30 fl_X12_56 c_x0.2 c_x0.1 rfl (rf_at qa23) dX12_note_57 ?_
                refine V_iload_n C0 1 rfl rfl dX12_note_60 ?_
                obtain ⟨v24, qv24, h⟩ := bnd_some h
                refine V_ri C0 (rf_lt qa23) (rf_kd qa23) qv24 dX12_note_61 ?_
                refine V_goto C0 (tgt := 71) (by decide) dX12_note_62 ?_
                cases h
                exact V_iret C0 dX12_note_71
            · have h := (if_pos c19).symm.trans h
              refine V_aload_n C0 0 rfl rfl dX12_note_42 ?_
              obtain ⟨a25, qa25, h⟩ := bnd_some h
              refine V_getR C0 11 29 fl_X12_53 c_x0.2 c_x0.1 rfl (rf_at qa25) dX12_note_43 ?_
              refine V_iload_n C0 1 rfl rfl dX12_note_46 ?_
              obtain ⟨v26, qv26, h⟩ := bnd_some h
              refine V_ri C0 (rf_lt qa25) (rf_kd qa25) qv26 dX12_note_47 ?_
              refine V_goto C0 (tgt := 71) (by decide) dX12_note_48 ?_
              cases h
              exact V_iret C0 dX12_note_71
          · have h := (if_neg c18).symm.trans h
            refine V_aload_n C0 0 rfl rfl dX12_note_32 ?_
            refine V_iconst C0 (v := (1 : Int32)) (by decide) dX12_note_33 ?_
            obtain ⟨v27, I28, q29, h⟩ := bn2_some h
            refine V_callV C0 (st := []) (As := [.int (1 : Int32)]) 11 (c_X12_fail G.l G.D G.cA G.ad G.bs G.X C0.2.2.2.2.2.2.2.2.2.1 C0.2.2.2.2.2.2.2.2.2.2.2.2 x0 (1 : Int32) I1 L R v27 I28 q29) lc_X12_fail lk_X12_488 c_x0.2 c_x0.1 ⟨_, rfl, rfl⟩ rfl (by rw [erm]; decide) (Nat.le_of_ble_eq_true rfl) dX12_note_34 ?_
            show V G _ 37 [(0, .ref (G.ad x0)), (1, .int x1), (2, .int x2)] [.int v27] I28 L R
            cases h
            exact V_iret C0 dX12_note_37
theorem dX12_at_0 : decode cX12_at 0 = .ok (.aload_n 0, 1) := by decide +kernel
theorem dX12_at_1 : decode cX12_at 1 = .ok (.iconst 0, 1) := by decide +kernel
theorem dX12_at_2 : decode cX12_at 2 = .ok (.putfield 112, 3) := by decide +kernel
theorem dX12_at_5 : decode cX12_at 5 = .ok (.iconst (-1), 1) := by decide +kernel
theorem dX12_at_6 : decode cX12_at 6 = .ok (.istore_n 2, 1) := by decide +kernel
theorem dX12_at_7 : decode cX12_at 7 = .ok (.iconst 0, 1) := by decide +kernel
theorem dX12_at_8 : decode cX12_at 8 = .ok (.istore_n 3, 1) := by decide +kernel
theorem dX12_at_9 : decode cX12_at 9 = .ok (.iload_n 3, 1) := by decide +kernel
theorem dX12_at_10 : decode cX12_at 10 = .ok (.aload_n 0, 1) := by decide +kernel
theorem dX12_at_11 : decode cX12_at 11 = .ok (.getfield 297, 3) := by decide +kernel
theorem dX12_at_14 : decode cX12_at 14 = .ok (.if_icmp .ge 70, 3) := by decide +kernel
theorem dX12_at_17 : decode cX12_at 17 = .ok (.aload_n 0, 1) := by decide +kernel
theorem dX12_at_18 : decode cX12_at 18 = .ok (.iload_n 3, 1) := by decide +kernel
theorem dX12_at_19 : decode cX12_at 19 = .ok (.iconst 4, 1) := by decide +kernel
theorem dX12_at_20 : decode cX12_at 20 = .ok (.invokevirtual 211, 3) := by decide +kernel
theorem dX12_at_23 : decode cX12_at 23 = .ok (.istore 4, 2) := by decide +kernel
theorem dX12_at_25 : decode cX12_at 25 = .ok (.iload_n 1, 1) := by decide +kernel
theorem dX12_at_26 : decode cX12_at 26 = .ok (.iload 4, 2) := by decide +kernel
theorem dX12_at_28 : decode cX12_at 28 = .ok (.if_icmp .lt 20, 3) := by decide +kernel
theorem dX12_at_31 : decode cX12_at 31 = .ok (.iload_n 1, 1) := by decide +kernel
theorem dX12_at_32 : decode cX12_at 32 = .ok (.iload 4, 2) := by decide +kernel
theorem dX12_at_34 : decode cX12_at 34 = .ok (.aload_n 0, 1) := by decide +kernel
theorem dX12_at_35 : decode cX12_at 35 = .ok (.iload_n 3, 1) := by decide +kernel
theorem dX12_at_36 : decode cX12_at 36 = .ok (.iconst 5, 1) := by decide +kernel
theorem dX12_at_37 : decode cX12_at 37 = .ok (.invokevirtual 211, 3) := by decide +kernel
theorem dX12_at_40 : decode cX12_at 40 = .ok (.iadd, 1) := by decide +kernel
theorem dX12_at_41 : decode cX12_at 41 = .ok (.if_icmp .ge 7, 3) := by decide +kernel
theorem dX12_at_44 : decode cX12_at 44 = .ok (.iconst 1, 1) := by decide +kernel
theorem dX12_at_45 : decode cX12_at 45 = .ok (.goto 4, 3) := by decide +kernel
theorem dX12_at_48 : decode cX12_at 48 = .ok (.iconst 0, 1) := by decide +kernel
theorem dX12_at_49 : decode cX12_at 49 = .ok (.istore 5, 2) := by decide +kernel
theorem dX12_at_51 : decode cX12_at 51 = .ok (.iload 5, 2) := by decide +kernel
theorem dX12_at_53 : decode cX12_at 53 = .ok (.ifCond .eq 23, 3) := by decide +kernel
theorem dX12_at_56 : decode cX12_at 56 = .ok (.iload_n 2, 1) := by decide +kernel
theorem dX12_at_57 : decode cX12_at 57 = .ok (.iconst (-1), 1) := by decide +kernel
theorem dX12_at_58 : decode cX12_at 58 = .ok (.if_icmp .eq 14, 3) := by decide +kernel
theorem dX12_at_61 : decode cX12_at 61 = .ok (.iload 4, 2) := by decide +kernel
theorem dX12_at_63 : decode cX12_at 63 = .ok (.aload_n 0, 1) := by decide +kernel
theorem dX12_at_64 : decode cX12_at 64 = .ok (.iload_n 2, 1) := by decide +kernel
theorem dX12_at_65 : decode cX12_at 65 = .ok (.iconst 4, 1) := by decide +kernel
theorem dX12_at_66 : decode cX12_at 66 = .ok (.invokevirtual 211, 3) := by decide +kernel
theorem dX12_at_69 : decode cX12_at 69 = .ok (.if_icmp .le 7, 3) := by decide +kernel
theorem dX12_at_72 : decode cX12_at 72 = .ok (.iload_n 3, 1) := by decide +kernel
theorem dX12_at_73 : decode cX12_at 73 = .ok (.goto 4, 3) := by decide +kernel
theorem dX12_at_76 : decode cX12_at 76 = .ok (.iload_n 2, 1) := by decide +kernel
theorem dX12_at_77 : decode cX12_at 77 = .ok (.istore_n 2, 1) := by decide +kernel
theorem dX12_at_78 : decode cX12_at 78 = .ok (.iinc 3 1, 3) := by decide +kernel
theorem dX12_at_81 : decode cX12_at 81 = .ok (.goto (-72), 3) := by decide +kernel
theorem dX12_at_84 : decode cX12_at 84 = .ok (.iload_n 2, 1) := by decide +kernel
theorem dX12_at_85 : decode cX12_at 85 = .ok (.ireturn, 1) := by decide +kernel
def LF_X12_at_9 (N : Nat) : Nat → Nat → Int32 → Int32 → Int32 → MI → ML → MR → Option (Int32)
  | 0, _, _, _, _, _, _, _ => none
  | k + 1, y0, y1, y2, y3, I, L, R =>
    if (I y0 21) ≤ y3 then
      some (y2)
    else
      bn1 (F_X12_get y0 y3 (4 : Int32) I L R) fun v3 =>
      bn1 (
        if y1 < v3 then
          some ((0 : Int32))
        else
          bn1 (F_X12_get y0 y3 (5 : Int32) I L R) fun v9 =>
          bn1 (
            if (v3 + v9) ≤ y1 then
              some ((0 : Int32))
            else
              some ((1 : Int32))
          ) fun (s11 : Int32) =>
          some (s11)
      ) fun (s5 : Int32) =>
      bn1 (
        if s5 = 0 then
          some (y2)
        else
          bn1 (
            if y2 = (-1 : Int32) then
              some (y3)
            else
              bn1 (F_X12_get y0 y2 (4 : Int32) I L R) fun v23 =>
              bn1 (
                if v3 ≤ v23 then
                  some (y2)
                else
                  some (y3)
              ) fun (s25 : Int32) =>
              some (s25)
          ) fun (s19 : Int32) =>
          some (s19)
      ) fun (s15 : Int32) =>
      wr (y3 + (1 : Int32)) fun (u29 : Int32) =>
      LF_X12_at_9 N k y0 y1 s15 u29 I L R
def F_X12_at (N : Nat) (x0 : Nat) (x1 : Int32) (I : MI) (L : ML) (R : MR) : Option (Int32 × MI) :=
  if kd x0 = 11 ∧ x0 < NN then
  wr (uI I x0 5 (0 : Int32)) fun (I1 : MI) =>
  bn1 (LF_X12_at_9 N N x0 x1 (-1 : Int32) (0 : Int32) I1 L R) fun z30 =>
  some (z30, I1)
  else none
set_option maxRecDepth 100000 in
set_option maxHeartbeats 4000000 in
theorem lp_X12_at_9 {G : Gm} (C0 : Cx G (yX12_at.cls) cX12_at (some .int)) (eNL : G.nL = 6) (erm : G.rm = ({ frames := 1, cells := 0, slots := 0, locals := 22 } : Room)) (N : Nat) : ∀ (k : Nat) (y0 : Nat) (y1 : Int32) (y2 : Int32) (y3 : Int32) (I : MI) (L : ML) (R : MR) (z : Int32) (hk0 : kd y0 = 11) (ho0 : y0 < NN), LF_X12_at_9 N k y0 y1 y2 y3 I L R = some z → ∀ f : State → Prop, V G f 84 [(2, .int z)] [] I L R → V G f 9 [(0, .ref (G.ad y0)), (1, .int y1), (2, .int y2), (3, .int y3)] [] I L R := by
  intro k
  induction k with
  | zero =>
    intro y0 y1 y2 y3 I L R q hk0 ho0 h
    exact absurd h (by simp [LF_X12_at_9])
  | succ k ih =>
    intro y0 y1 y2 y3 I L R q hk0 ho0 h f kx
    rw [LF_X12_at_9] at h
    refine V_iload_n C0 3 rfl rfl dX12_at_9 ?_
    refine V_aload_n C0 0 rfl rfl dX12_at_10 ?_
    refine V_getI C0 11 21 fl_X12_297 ho0 hk0 rfl dX12_at_11 ?_
    refine V_icmp_ge C0 (tgt := 84) (by decide) dX12_at_14 (fun c2 => ?_) (fun c2 => ?_)
    · have h := (if_pos c2).symm.trans h
      cases h
      exact V_sub [2] rfl kx
    · have h := (if_neg c2).symm.trans h
      refine V_aload_n C0 0 rfl rfl dX12_at_17 ?_
      refine V_iload_n C0 3 rfl rfl dX12_at_18 ?_
      refine V_iconst C0 (v := (4 : Int32)) (by decide) dX12_at_19 ?_
      obtain ⟨v3, q4, h⟩ := bn1_some h
      refine V_callV C0 (st := []) (As := [.int y3, .int (4 : Int32)]) 11 (c_X12_get G.l G.D G.cA G.ad G.bs G.X C0.2.2.2.2.2.2.2.2.2.1 C0.2.2.2.2.2.2.2.2.2.2.2.2 y0 y3 (4 : Int32) I L R v3 q4) lc_X12_get lk_X12_211 ho0 hk0 ⟨_, rfl, rfl⟩ rfl (by rw [erm]; decide) (Nat.le_of_ble_eq_true rfl) dX12_at_20 ?_
      show V G _ 23 [(0, .ref (G.ad y0)), (1, .int y1), (2, .int y2), (3, .int y3)] [.int v3] I L R
      refine V_istore C0 [(4, .int v3), (0, .ref (G.ad y0)), (1, .int y1), (2, .int y2), (3, .int y3)] (by rw [eNL]; decide) rfl dX12_at_23 ?_
      refine V_iload_n C0 2 rfl rfl dX12_at_25 ?_
      refine V_iload C0 0 rfl dX12_at_26 ?_
      obtain ⟨s5, q6, h⟩ := bn1_some h
      have k7 : V G f 49 [(0, .ref (G.ad y0)), (1, .int y1), (2, .int y2), (3, .int y3), (4, .int v3)] [.int s5] I L R := by
        refine V_istore C0 [(5, .int s5), (0, .ref (G.ad y0)), (1, .int y1), (2, .int y2), (3, .int y3), (4, .int v3)] (by rw [eNL]; decide) rfl dX12_at_49 ?_
        refine V_iload C0 0 rfl dX12_at_51 ?_
        obtain ⟨s15, q16, h⟩ := bn1_some h
        have k17 : V G f 77 [(0, .ref (G.ad y0)), (1, .int y1), (3, .int y3)] [.int s15] I L R := by
          refine V_istore_n C0 [(2, .int s15), (0, .ref (G.ad y0)), (1, .int y1), (3, .int y3)] rfl (by rw [eNL]; decide) rfl dX12_at_77 ?_
          obtain ⟨u29, eu29, h⟩ := wr_some h
          refine V_iinc C0 3 [(3, .int u29), (2, .int s15), (0, .ref (G.ad y0)), (1, .int y1)] rfl (n := 1) (by rw [eu29]; rfl) (by rw [eNL]; decide) rfl dX12_at_78 ?_
          refine V_goto C0 (tgt := 9) (by decide) dX12_at_81 ?_
          exact V_sub [2, 3, 1, 0] rfl (ih y0 y1 s15 u29 I L R _ hk0 ho0 h f kx)
        refine V_if_eq C0 (tgt := 76) (by decide) dX12_at_53 (fun c18 => ?_) (fun c18 => ?_)
        · have q16 := (if_pos c18).symm.trans q16
          refine V_iload_n C0 3 rfl rfl dX12_at_76 ?_
          cases q16
          exact V_sub [1, 2, 4] rfl k17
        · have q16 := (if_neg c18).symm.trans q16
          refine V_iload_n C0 3 rfl rfl dX12_at_56 ?_
          refine V_iconst C0 (v := (-1 : Int32)) (by decide) dX12_at_57 ?_
          obtain ⟨s19, q20, q16⟩ := bn1_some q16
          have k21 : V G f 77 [(0, .ref (G.ad y0)), (1, .int y1), (3, .int y3)] [.int s19] I L R := by
            cases q16
            exact V_sub [0, 1, 2] rfl k17
          refine V_icmp_eq C0 (tgt := 72) (by decide) dX12_at_58 (fun c22 => ?_) (fun c22 => ?_)
          · have q20 := (if_pos c22).symm.trans q20
            refine V_iload_n C0 4 rfl rfl dX12_at_72 ?_
            refine V_goto C0 (tgt := 77) (by decide) dX12_at_73 ?_
            cases q20
            exact V_sub [1, 2, 4] rfl k21
          · have q20 := (if_neg c22).symm.trans q20
            refine V_iload C0 5 rfl dX12_at_61 ?_
            refine V_aload_n C0 1 rfl rfl dX12_at_63 ?_
            refine V_iload_n C0 3 rfl rfl dX12_at_64 ?_
            refine V_iconst C0 (v := (4 : Int32)) (by decide) dX12_at_65 ?_
            obtain ⟨v23, q24, q20⟩ := bn1_some q20
            refine V_callV C0 (st := [.int v3]) (As := [.int y2, .int (4 : Int32)]) 11 (c_X12_get G.l G.D G.cA G.ad G.bs G.X C0.2.2.2.2.2.2.2.2.2.1 C0.2.2.2.2.2.2.2.2.2.2.2.2 y0 y2 (4 : Int32) I L R v23 q24) lc_X12_get lk_X12_211 ho0 hk0 ⟨_, rfl, rfl⟩ rfl (by rw [erm]; decide) (Nat.le_of_ble_eq_true rfl) dX12_at_66 ?_
            show V G _ 69 [(5, .int s5), (0, .ref (G.ad y0)), (1, .int y1), (2, .int y2), (3, .int y3), (4, .int v3)] [.int v23, .int v3] I L R
            obtain ⟨s25, q26, q20⟩ := bn1_some q20
            have k27 : V G f 77 [(0, .ref (G.ad y0)), (1, .int y1), (3, .int y3)] [.int s25] I L R := by
              cases q20
              exact V_sub [0, 1, 2] rfl k21
            refine V_icmp_le C0 (tgt := 76) (by decide) dX12_at_69 (fun c28 => ?_) (fun c28 => ?_)
            · have q26 := (if_pos c28).symm.trans q26
              refine V_iload_n C0 3 rfl rfl dX12_at_76 ?_
              cases q26
              exact V_sub [1, 2, 4] rfl k27
            · have q26 := (if_neg c28).symm.trans q26
              refine V_iload_n C0 4 rfl rfl dX12_at_72 ?_
              refine V_goto C0 (tgt := 77) (by decide) dX12_at_73 ?_
              cases q26
              exact V_sub [1, 2, 4] rfl k27
      refine V_icmp_lt C0 (tgt := 48) (by decide) dX12_at_28 (fun c8 => ?_) (fun c8 => ?_)
      · have q6 := (if_pos c8).symm.trans q6
        refine V_iconst C0 (v := (0 : Int32)) (by decide) dX12_at_48 ?_
        cases q6
        exact V_sub [1, 2, 3, 4, 0] rfl k7
      · have q6 := (if_neg c8).symm.trans q6
        refine V_iload_n C0 2 rfl rfl dX12_at_31 ?_
        refine V_iload C0 0 rfl dX12_at_32 ?_
        refine V_aload_n C0 1 rfl rfl dX12_at_34 ?_
        refine V_iload_n C0 4 rfl rfl dX12_at_35 ?_
        refine V_iconst C0 (v := (5 : Int32)) (by decide) dX12_at_36 ?_
        obtain ⟨v9, q10, q6⟩ := bn1_some q6
        refine V_callV C0 (st := [.int v3, .int y1]) (As := [.int y3, .int (5 : Int32)]) 11 (c_X12_get G.l G.D G.cA G.ad G.bs G.X C0.2.2.2.2.2.2.2.2.2.1 C0.2.2.2.2.2.2.2.2.2.2.2.2 y0 y3 (5 : Int32) I L R v9 q10) lc_X12_get lk_X12_211 ho0 hk0 ⟨_, rfl, rfl⟩ rfl (by rw [erm]; decide) (Nat.le_of_ble_eq_true rfl) dX12_at_37 ?_
        show V G _ 40 [(4, .int v3), (0, .ref (G.ad y0)), (1, .int y1), (2, .int y2), (3, .int y3)] [.int v9, .int v3, .int y1] I L R
        refine V_iadd C0 dX12_at_40 ?_
        obtain ⟨s11, q12, q6⟩ := bn1_some q6
        have k13 : V G f 49 [(0, .ref (G.ad y0)), (1, .int y1), (2, .int y2), (3, .int y3), (4, .int v3)] [.int s11] I L R := by
          cases q6
          exact V_sub [0, 1, 2, 3, 4] rfl k7
        refine V_icmp_ge C0 (tgt := 48) (by decide) dX12_at_41 (fun c14 => ?_) (fun c14 => ?_)
        · have q12 := (if_pos c14).symm.trans q12
          refine V_iconst C0 (v := (0 : Int32)) (by decide) dX12_at_48 ?_
          cases q12
          exact V_sub [1, 2, 3, 4, 0] rfl k13
        · have q12 := (if_neg c14).symm.trans q12
          refine V_iconst C0 (v := (1 : Int32)) (by decide) dX12_at_44 ?_
          refine V_goto C0 (tgt := 49) (by decide) dX12_at_45 ?_
          cases q12
          exact V_sub [1, 2, 3, 4, 0] rfl k13
set_option maxRecDepth 100000 in
set_option maxHeartbeats 4000000 in
theorem c_X12_at (l : Launch) (D : va_G) (cA : Nat → ClassId) (ad : Nat → Nat) (bs : Nat) (X : State → Prop) (hAd : Ax ad bs) (hX : Stb bs X) (N : Nat) (x0 : Nat) (x1 : Int32) (I : MI) (L : ML) (R : MR) (r : Int32) (I' : MI) (h : F_X12_at N x0 x1 I L R = some (r, I')) : Cn l D cA ad bs X yX12_at cX12_at 6 (some .int) 1 22 [.ref (ad x0), .int x1] I L R (some (.int r), I', L, R) := by
  refine Cn.ofV hAd hX [(0, .ref (ad x0)), (1, .int x1)] rfl (Nat.le_of_ble_eq_true rfl) (by decide) ?_
  intro G el eD ecA ead ebs eX erm eNL C0
  subst el eD ecA ead ebs eX
  unfold F_X12_at at h
  obtain ⟨c_x0, h⟩ := ite_some h
  refine V_aload_n C0 0 rfl rfl dX12_at_0 ?_
  refine V_iconst C0 (v := (0 : Int32)) (by decide) dX12_at_1 ?_
  obtain ⟨I1, eI1, h⟩ := wr_some h
  refine V_putI C0 11 5 fp_X12_112 c_x0.2 c_x0.1 rfl dX12_at_2 ?_
  rw [← eI1]
  refine V_iconst C0 (v := (-1 : Int32)) (by decide) dX12_at_5 ?_
  refine V_istore_n C0 [(2, .int (-1 : Int32)), (0, .ref (G.ad x0)), (1, .int x1)] rfl (by rw [eNL]; decide) rfl dX12_at_6 ?_
  refine V_iconst C0 (v := (0 : Int32)) (by decide) dX12_at_7 ?_
  refine V_istore_n C0 [(3, .int (0 : Int32)), (2, .int (-1 : Int32)), (0, .ref (G.ad x0)), (1, .int x1)] rfl (by rw [eNL]; decide) rfl dX12_at_8 ?_
  obtain ⟨z30, q31, h⟩ := bn1_some h
  refine V_sub [2, 3, 1, 0] rfl (lp_X12_at_9 C0 eNL erm N N x0 x1 (-1 : Int32) (0 : Int32) I1 L R _ c_x0.1 c_x0.2 q31 _ ?_)
  show V G _ 84 [(2, .int z30)] [] I1 L R
  refine V_iload_n C0 0 rfl rfl dX12_at_84 ?_
  cases h
  exact V_iret C0 dX12_at_85
theorem dX12_name_0 : decode cX12_name 0 = .ok (.aload_n 0, 1) := by decide +kernel
theorem dX12_name_1 : decode cX12_name 1 = .ok (.iconst 0, 1) := by decide +kernel
theorem dX12_name_2 : decode cX12_name 2 = .ok (.putfield 112, 3) := by decide +kernel
theorem dX12_name_5 : decode cX12_name 5 = .ok (.aload_n 0, 1) := by decide +kernel
theorem dX12_name_6 : decode cX12_name 6 = .ok (.iload_n 1, 1) := by decide +kernel
theorem dX12_name_7 : decode cX12_name 7 = .ok (.invokevirtual 494, 3) := by decide +kernel
theorem dX12_name_10 : decode cX12_name 10 = .ok (.ifCond .eq 7, 3) := by decide +kernel
theorem dX12_name_13 : decode cX12_name 13 = .ok (.iload_n 2, 1) := by decide +kernel
theorem dX12_name_14 : decode cX12_name 14 = .ok (.ifCond .ge 9, 3) := by decide +kernel
theorem dX12_name_17 : decode cX12_name 17 = .ok (.aload_n 0, 1) := by decide +kernel
theorem dX12_name_18 : decode cX12_name 18 = .ok (.iconst 1, 1) := by decide +kernel
theorem dX12_name_19 : decode cX12_name 19 = .ok (.invokevirtual 488, 3) := by decide +kernel
theorem dX12_name_22 : decode cX12_name 22 = .ok (.ireturn, 1) := by decide +kernel
theorem dX12_name_23 : decode cX12_name 23 = .ok (.iload_n 2, 1) := by decide +kernel
theorem dX12_name_24 : decode cX12_name 24 = .ok (.bipush 8, 2) := by decide +kernel
theorem dX12_name_26 : decode cX12_name 26 = .ok (.if_icmp .ge 31, 3) := by decide +kernel
theorem dX12_name_29 : decode cX12_name 29 = .ok (.aload_n 0, 1) := by decide +kernel
theorem dX12_name_30 : decode cX12_name 30 = .ok (.getfield 44, 3) := by decide +kernel
theorem dX12_name_33 : decode cX12_name 33 = .ok (.bipush 8, 2) := by decide +kernel
theorem dX12_name_35 : decode cX12_name 35 = .ok (.iload_n 1, 1) := by decide +kernel
theorem dX12_name_36 : decode cX12_name 36 = .ok (.imul, 1) := by decide +kernel
theorem dX12_name_37 : decode cX12_name 37 = .ok (.iload_n 2, 1) := by decide +kernel
theorem dX12_name_38 : decode cX12_name 38 = .ok (.iadd, 1) := by decide +kernel
theorem dX12_name_39 : decode cX12_name 39 = .ok (.iaload, 1) := by decide +kernel
theorem dX12_name_40 : decode cX12_name 40 = .ok (.ifCond .le 17, 3) := by decide +kernel
theorem dX12_name_43 : decode cX12_name 43 = .ok (.aload_n 0, 1) := by decide +kernel
theorem dX12_name_44 : decode cX12_name 44 = .ok (.getfield 44, 3) := by decide +kernel
theorem dX12_name_47 : decode cX12_name 47 = .ok (.bipush 8, 2) := by decide +kernel
theorem dX12_name_49 : decode cX12_name 49 = .ok (.iload_n 1, 1) := by decide +kernel
theorem dX12_name_50 : decode cX12_name 50 = .ok (.imul, 1) := by decide +kernel
theorem dX12_name_51 : decode cX12_name 51 = .ok (.iload_n 2, 1) := by decide +kernel
theorem dX12_name_52 : decode cX12_name 52 = .ok (.iadd, 1) := by decide +kernel
theorem dX12_name_53 : decode cX12_name 53 = .ok (.iaload, 1) := by decide +kernel
theorem dX12_name_54 : decode cX12_name 54 = .ok (.goto 4, 3) := by decide +kernel
theorem dX12_name_57 : decode cX12_name 57 = .ok (.iconst (-1), 1) := by decide +kernel
theorem dX12_name_58 : decode cX12_name 58 = .ok (.ireturn, 1) := by decide +kernel
def F_X12_name (x0 : Nat) (x1 : Int32) (x2 : Int32) (I : MI) (L : ML) (R : MR) : Option (Int32 × MI) :=
  if kd x0 = 11 ∧ x0 < NN then
  wr (uI I x0 5 (0 : Int32)) fun (I1 : MI) =>
  bn1 (F_X12_isUnit x0 x1 I1 L R) fun b2 =>
  if (b2i b2) = 0 then
    bn2 (F_X12_fail x0 (1 : Int32) I1 L R) fun v5 I6 =>
    some (v5, I6)
  else
    if 0 ≤ x2 then
      if (8 : Int32) ≤ x2 then
        some ((-1 : Int32), I1)
      else
        (rf R x0 22 20).bind fun a10 =>
        (ri I1 a10 (((8 : Int32) * x1) + x2)).bind fun v11 =>
        if v11 ≤ 0 then
          some ((-1 : Int32), I1)
        else
          (ri I1 a10 (((8 : Int32) * x1) + x2)).bind fun v13 =>
          some (v13, I1)
    else
      bn2 (F_X12_fail x0 (1 : Int32) I1 L R) fun v14 I15 =>
      some (v14, I15)
  else none
set_option maxRecDepth 100000 in
set_option maxHeartbeats 4000000 in
theorem c_X12_name (l : Launch) (D : va_G) (cA : Nat → ClassId) (ad : Nat → Nat) (bs : Nat) (X : State → Prop) (hAd : Ax ad bs) (hX : Stb bs X) (x0 : Nat) (x1 : Int32) (x2 : Int32) (I : MI) (L : ML) (R : MR) (r : Int32) (I' : MI) (h : F_X12_name x0 x1 x2 I L R = some (r, I')) : Cn l D cA ad bs X yX12_name cX12_name 3 (some .int) 1 21 [.ref (ad x0), .int x1, .int x2] I L R (some (.int r), I', L, R) := by
  refine Cn.ofV hAd hX [(0, .ref (ad x0)), (1, .int x1), (2, .int x2)] rfl (Nat.le_of_ble_eq_true rfl) (by decide) ?_
  intro G el eD ecA ead ebs eX erm eNL C0
  subst el eD ecA ead ebs eX
  unfold F_X12_name at h
  obtain ⟨c_x0, h⟩ := ite_some h
  refine V_aload_n C0 0 rfl rfl dX12_name_0 ?_
  refine V_iconst C0 (v := (0 : Int32)) (by decide) dX12_name_1 ?_
  obtain ⟨I1, eI1, h⟩ := wr_some h
  refine V_putI C0 11 5 fp_X12_112 c_x0.2 c_x0.1 rfl dX12_name_2 ?_
  rw [← eI1]
  refine V_aload_n C0 0 rfl rfl dX12_name_5 ?_
  refine V_iload_n C0 1 rfl rfl dX12_name_6 ?_
  obtain ⟨b2, q3, h⟩ := bn1_some h
  refine V_callV C0 (st := []) (As := [.int x1]) 11 (c_X12_isUnit G.l G.D G.cA G.ad G.bs G.X C0.2.2.2.2.2.2.2.2.2.1 C0.2.2.2.2.2.2.2.2.2.2.2.2 x0 x1 I1 L R b2 q3) lc_X12_isUnit lk_X12_494 c_x0.2 c_x0.1 ⟨_, rfl, rfl⟩ rfl (by rw [erm]; decide) (Nat.le_of_ble_eq_true rfl) dX12_name_7 ?_
  show V G _ 10 [(0, .ref (G.ad x0)), (1, .int x1), (2, .int x2)] [.int (b2i b2)] I1 L R
  refine V_if_eq C0 (tgt := 17) (by decide) dX12_name_10 (fun c4 => ?_) (fun c4 => ?_)
  · have h := (if_pos c4).symm.trans h
    refine V_aload_n C0 0 rfl rfl dX12_name_17 ?_
    refine V_iconst C0 (v := (1 : Int32)) (by decide) dX12_name_18 ?_
    obtain ⟨v5, I6, q7, h⟩ := bn2_some h
    refine V_callV C0 (st := []) (As := [.int (1 : Int32)]) 11 (c_X12_fail G.l G.D G.cA G.ad G.bs G.X C0.2.2.2.2.2.2.2.2.2.1 C0.2.2.2.2.2.2.2.2.2.2.2.2 x0 (1 : Int32) I1 L R v5 I6 q7) lc_X12_fail lk_X12_488 c_x0.2 c_x0.1 ⟨_, rfl, rfl⟩ rfl (by rw [erm]; decide) (Nat.le_of_ble_eq_true rfl) dX12_name_19 ?_
    show V G _ 22 [(0, .ref (G.ad x0)), (1, .int x1), (2, .int x2)] [.int v5] I6 L R
    cases h
    exact V_iret C0 dX12_name_22
  · have h := (if_neg c4).symm.trans h
    refine V_iload_n C0 2 rfl rfl dX12_name_13 ?_
    refine V_if_ge C0 (tgt := 23) (by decide) dX12_name_14 (fun c8 => ?_) (fun c8 => ?_)
    · have h := (if_pos c8).symm.trans h
      refine V_iload_n C0 2 rfl rfl dX12_name_23 ?_
      refine V_bipush C0 (v := (8 : Int32)) (by decide) dX12_name_24 ?_
      refine V_icmp_ge C0 (tgt := 57) (by decide) dX12_name_26 (fun c9 => ?_) (fun c9 => ?_)
      · have h := (if_pos c9).symm.trans h
        refine V_iconst C0 (v := (-1 : Int32)) (by decide) dX12_name_57 ?_
        cases h
        exact V_iret C0 dX12_name_58
      · have h := (if_neg c9).symm.trans h
        refine V_aload_n C0 0 rfl rfl dX12_name_29 ?_
        obtain ⟨a10, qa10, h⟩ := bnd_some h
        refine V_getR C0 11 22 fl_X12_44 c_x0.2 c_x0.1 rfl (rf_at qa10) dX12_name_30 ?_
        refine V_bipush C0 (v := (8 : Int32)) (by decide) dX12_name_33 ?_
        refine V_iload_n C0 1 rfl rfl dX12_name_35 ?_
        refine V_imul C0 dX12_name_36 ?_
        refine V_iload_n C0 2 rfl rfl dX12_name_37 ?_
        refine V_iadd C0 dX12_name_38 ?_
        obtain ⟨v11, qv11, h⟩ := bnd_some h
        refine V_ri C0 (rf_lt qa10) (rf_kd qa10) qv11 dX12_name_39 ?_
        refine V_if_le C0 (tgt := 57) (by decide) dX12_name_40 (fun c12 => ?_) (fun c12 => ?_)
        · have h := (if_pos c12).symm.trans h
          refine V_iconst C0 (v := (-1 : Int32)) (by decide) dX12_name_57 ?_
          cases h
          exact V_iret C0 dX12_name_58
        · have h := (if_neg c12).symm.trans h
          refine V_aload_n C0 0 rfl rfl dX12_name_43 ?_
          refine V_getR C0 11 22 fl_X12_44 c_x0.2 c_x0.1 rfl (rf_at qa10) dX12_name_44 ?_
          refine V_bipush C0 (v := (8 : Int32)) (by decide) dX12_name_47 ?_
          refine V_iload_n C0 1 rfl rfl dX12_name_49 ?_
          refine V_imul C0 dX12_name_50 ?_
          refine V_iload_n C0 2 rfl rfl dX12_name_51 ?_
          refine V_iadd C0 dX12_name_52 ?_
          obtain ⟨v13, qv13, h⟩ := bnd_some h
          refine V_ri C0 (rf_lt qa10) (rf_kd qa10) qv13 dX12_name_53 ?_
          refine V_goto C0 (tgt := 58) (by decide) dX12_name_54 ?_
          cases h
          exact V_iret C0 dX12_name_58
    · have h := (if_neg c8).symm.trans h
      refine V_aload_n C0 0 rfl rfl dX12_name_17 ?_
      refine V_iconst C0 (v := (1 : Int32)) (by decide) dX12_name_18 ?_
      obtain ⟨v14, I15, q16, h⟩ := bn2_some h
      refine V_callV C0 (st := []) (As := [.int (1 : Int32)]) 11 (c_X12_fail G.l G.D G.cA G.ad G.bs G.X C0.2.2.2.2.2.2.2.2.2.1 C0.2.2.2.2.2.2.2.2.2.2.2.2 x0 (1 : Int32) I1 L R v14 I15 q16) lc_X12_fail lk_X12_488 c_x0.2 c_x0.1 ⟨_, rfl, rfl⟩ rfl (by rw [erm]; decide) (Nat.le_of_ble_eq_true rfl) dX12_name_19 ?_
      show V G _ 22 [(0, .ref (G.ad x0)), (1, .int x1), (2, .int x2)] [.int v14] I15 L R
      cases h
      exact V_iret C0 dX12_name_22
theorem dX12_kept_0 : decode cX12_kept 0 = .ok (.aload_n 0, 1) := by decide +kernel
theorem dX12_kept_1 : decode cX12_kept 1 = .ok (.iconst 0, 1) := by decide +kernel
theorem dX12_kept_2 : decode cX12_kept 2 = .ok (.putfield 112, 3) := by decide +kernel
theorem dX12_kept_5 : decode cX12_kept 5 = .ok (.aload_n 0, 1) := by decide +kernel
theorem dX12_kept_6 : decode cX12_kept 6 = .ok (.iload_n 1, 1) := by decide +kernel
theorem dX12_kept_7 : decode cX12_kept 7 = .ok (.invokevirtual 494, 3) := by decide +kernel
theorem dX12_kept_10 : decode cX12_kept 10 = .ok (.ifCond .ne 9, 3) := by decide +kernel
theorem dX12_kept_13 : decode cX12_kept 13 = .ok (.aload_n 0, 1) := by decide +kernel
theorem dX12_kept_14 : decode cX12_kept 14 = .ok (.iconst 1, 1) := by decide +kernel
theorem dX12_kept_15 : decode cX12_kept 15 = .ok (.invokevirtual 488, 3) := by decide +kernel
theorem dX12_kept_18 : decode cX12_kept 18 = .ok (.ireturn, 1) := by decide +kernel
theorem dX12_kept_19 : decode cX12_kept 19 = .ok (.aload_n 0, 1) := by decide +kernel
theorem dX12_kept_20 : decode cX12_kept 20 = .ok (.iload_n 1, 1) := by decide +kernel
theorem dX12_kept_21 : decode cX12_kept 21 = .ok (.iconst 5, 1) := by decide +kernel
theorem dX12_kept_22 : decode cX12_kept 22 = .ok (.invokevirtual 217, 3) := by decide +kernel
theorem dX12_kept_25 : decode cX12_kept 25 = .ok (.ifCond .ne 9, 3) := by decide +kernel
theorem dX12_kept_28 : decode cX12_kept 28 = .ok (.aload_n 0, 1) := by decide +kernel
theorem dX12_kept_29 : decode cX12_kept 29 = .ok (.iconst 2, 1) := by decide +kernel
theorem dX12_kept_30 : decode cX12_kept 30 = .ok (.invokevirtual 488, 3) := by decide +kernel
theorem dX12_kept_33 : decode cX12_kept 33 = .ok (.ireturn, 1) := by decide +kernel
theorem dX12_kept_34 : decode cX12_kept 34 = .ok (.iload_n 2, 1) := by decide +kernel
theorem dX12_kept_35 : decode cX12_kept 35 = .ok (.ifCond .lt 29, 3) := by decide +kernel
theorem dX12_kept_38 : decode cX12_kept 38 = .ok (.iload_n 2, 1) := by decide +kernel
theorem dX12_kept_39 : decode cX12_kept 39 = .ok (.aload_n 0, 1) := by decide +kernel
theorem dX12_kept_40 : decode cX12_kept 40 = .ok (.iload_n 1, 1) := by decide +kernel
theorem dX12_kept_41 : decode cX12_kept 41 = .ok (.bipush 10, 2) := by decide +kernel
theorem dX12_kept_43 : decode cX12_kept 43 = .ok (.invokevirtual 211, 3) := by decide +kernel
theorem dX12_kept_46 : decode cX12_kept 46 = .ok (.if_icmp .ge 18, 3) := by decide +kernel
theorem dX12_kept_49 : decode cX12_kept 49 = .ok (.aload_n 0, 1) := by decide +kernel
theorem dX12_kept_50 : decode cX12_kept 50 = .ok (.getfield 81, 3) := by decide +kernel
theorem dX12_kept_53 : decode cX12_kept 53 = .ok (.sipush 2000, 3) := by decide +kernel
theorem dX12_kept_56 : decode cX12_kept 56 = .ok (.iload_n 1, 1) := by decide +kernel
theorem dX12_kept_57 : decode cX12_kept 57 = .ok (.imul, 1) := by decide +kernel
theorem dX12_kept_58 : decode cX12_kept 58 = .ok (.iload_n 2, 1) := by decide +kernel
theorem dX12_kept_59 : decode cX12_kept 59 = .ok (.iadd, 1) := by decide +kernel
theorem dX12_kept_60 : decode cX12_kept 60 = .ok (.iaload, 1) := by decide +kernel
theorem dX12_kept_61 : decode cX12_kept 61 = .ok (.goto 4, 3) := by decide +kernel
theorem dX12_kept_64 : decode cX12_kept 64 = .ok (.iconst (-1), 1) := by decide +kernel
theorem dX12_kept_65 : decode cX12_kept 65 = .ok (.ireturn, 1) := by decide +kernel
def F_X12_kept (N : Nat) (x0 : Nat) (x1 : Int32) (x2 : Int32) (I : MI) (L : ML) (R : MR) : Option (Int32 × MI) :=
  if kd x0 = 11 ∧ x0 < NN then
  wr (uI I x0 5 (0 : Int32)) fun (I1 : MI) =>
  bn1 (F_X12_isUnit x0 x1 I1 L R) fun b2 =>
  if (b2i b2) = 0 then
    bn2 (F_X12_fail x0 (1 : Int32) I1 L R) fun v17 I18 =>
    some (v17, I18)
  else
    bn1 (F_X12_isA N x0 x1 (5 : Int32) I1 L R) fun b5 =>
    if (b2i b5) = 0 then
      bn2 (F_X12_fail x0 (2 : Int32) I1 L R) fun v14 I15 =>
      some (v14, I15)
    else
      if x2 < 0 then
        some ((-1 : Int32), I1)
      else
        bn1 (F_X12_get x0 x1 (10 : Int32) I1 L R) fun v9 =>
        if v9 ≤ x2 then
          some ((-1 : Int32), I1)
        else
          (rf R x0 52 20).bind fun a12 =>
          (ri I1 a12 (((2000 : Int32) * x1) + x2)).bind fun v13 =>
          some (v13, I1)
  else none
set_option maxRecDepth 100000 in
set_option maxHeartbeats 4000000 in
theorem c_X12_kept (l : Launch) (D : va_G) (cA : Nat → ClassId) (ad : Nat → Nat) (bs : Nat) (X : State → Prop) (hAd : Ax ad bs) (hX : Stb bs X) (N : Nat) (x0 : Nat) (x1 : Int32) (x2 : Int32) (I : MI) (L : ML) (R : MR) (r : Int32) (I' : MI) (h : F_X12_kept N x0 x1 x2 I L R = some (r, I')) : Cn l D cA ad bs X yX12_kept cX12_kept 3 (some .int) 2 45 [.ref (ad x0), .int x1, .int x2] I L R (some (.int r), I', L, R) := by
  refine Cn.ofV hAd hX [(0, .ref (ad x0)), (1, .int x1), (2, .int x2)] rfl (Nat.le_of_ble_eq_true rfl) (by decide) ?_
  intro G el eD ecA ead ebs eX erm eNL C0
  subst el eD ecA ead ebs eX
  unfold F_X12_kept at h
  obtain ⟨c_x0, h⟩ := ite_some h
  refine V_aload_n C0 0 rfl rfl dX12_kept_0 ?_
  refine V_iconst C0 (v := (0 : Int32)) (by decide) dX12_kept_1 ?_
  obtain ⟨I1, eI1, h⟩ := wr_some h
  refine V_putI C0 11 5 fp_X12_112 c_x0.2 c_x0.1 rfl dX12_kept_2 ?_
  rw [← eI1]
  refine V_aload_n C0 0 rfl rfl dX12_kept_5 ?_
  refine V_iload_n C0 1 rfl rfl dX12_kept_6 ?_
  obtain ⟨b2, q3, h⟩ := bn1_some h
  refine V_callV C0 (st := []) (As := [.int x1]) 11 (c_X12_isUnit G.l G.D G.cA G.ad G.bs G.X C0.2.2.2.2.2.2.2.2.2.1 C0.2.2.2.2.2.2.2.2.2.2.2.2 x0 x1 I1 L R b2 q3) lc_X12_isUnit lk_X12_494 c_x0.2 c_x0.1 ⟨_, rfl, rfl⟩ rfl (by rw [erm]; decide) (Nat.le_of_ble_eq_true rfl) dX12_kept_7 ?_
  show V G _ 10 [(0, .ref (G.ad x0)), (1, .int x1), (2, .int x2)] [.int (b2i b2)] I1 L R
  refine V_if_ne C0 (tgt := 19) (by decide) dX12_kept_10 (fun c4 => ?_) (fun c4 => ?_)
  · have h := (if_neg c4).symm.trans h
    refine V_aload_n C0 0 rfl rfl dX12_kept_19 ?_
    refine V_iload_n C0 1 rfl rfl dX12_kept_20 ?_
    refine V_iconst C0 (v := (5 : Int32)) (by decide) dX12_kept_21 ?_
    obtain ⟨b5, q6, h⟩ := bn1_some h
    refine V_callV C0 (st := []) (As := [.int x1, .int (5 : Int32)]) 11 (c_X12_isA G.l G.D G.cA G.ad G.bs G.X C0.2.2.2.2.2.2.2.2.2.1 C0.2.2.2.2.2.2.2.2.2.2.2.2 N x0 x1 (5 : Int32) I1 L R b5 q6) lc_X12_isA lk_X12_217 c_x0.2 c_x0.1 ⟨_, rfl, rfl⟩ rfl (by rw [erm]; decide) (Nat.le_of_ble_eq_true rfl) dX12_kept_22 ?_
    show V G _ 25 [(0, .ref (G.ad x0)), (1, .int x1), (2, .int x2)] [.int (b2i b5)] I1 L R
    refine V_if_ne C0 (tgt := 34) (by decide) dX12_kept_25 (fun c7 => ?_) (fun c7 => ?_)
    · have h := (if_neg c7).symm.trans h
      refine V_iload_n C0 2 rfl rfl dX12_kept_34 ?_
      refine V_if_lt C0 (tgt := 64) (by decide) dX12_kept_35 (fun c8 => ?_) (fun c8 => ?_)
      · have h := (if_pos c8).symm.trans h
        refine V_iconst C0 (v := (-1 : Int32)) (by decide) dX12_kept_64 ?_
        cases h
        exact V_iret C0 dX12_kept_65
      · have h := (if_neg c8).symm.trans h
        refine V_iload_n C0 2 rfl rfl dX12_kept_38 ?_
        refine V_aload_n C0 0 rfl rfl dX12_kept_39 ?_
        refine V_iload_n C0 1 rfl rfl dX12_kept_40 ?_
        refine V_bipush C0 (v := (10 : Int32)) (by decide) dX12_kept_41 ?_
        obtain ⟨v9, q10, h⟩ := bn1_some h
        refine V_callV C0 (st := [.int x2]) (As := [.int x1, .int (10 : Int32)]) 11 (c_X12_get G.l G.D G.cA G.ad G.bs G.X C0.2.2.2.2.2.2.2.2.2.1 C0.2.2.2.2.2.2.2.2.2.2.2.2 x0 x1 (10 : Int32) I1 L R v9 q10) lc_X12_get lk_X12_211 c_x0.2 c_x0.1 ⟨_, rfl, rfl⟩ rfl (by rw [erm]; decide) (Nat.le_of_ble_eq_true rfl) dX12_kept_43 ?_
        show V G _ 46 [(0, .ref (G.ad x0)), (1, .int x1), (2, .int x2)] [.int v9, .int x2] I1 L R
        refine V_icmp_ge C0 (tgt := 64) (by decide) dX12_kept_46 (fun c11 => ?_) (fun c11 => ?_)
        · have h := (if_pos c11).symm.trans h
          refine V_iconst C0 (v := (-1 : Int32)) (by decide) dX12_kept_64 ?_
          cases h
          exact V_iret C0 dX12_kept_65
        · have h := (if_neg c11).symm.trans h
          refine V_aload_n C0 0 rfl rfl dX12_kept_49 ?_
          obtain ⟨a12, qa12, h⟩ := bnd_some h
          refine V_getR C0 11 52 fl_X12_81 c_x0.2 c_x0.1 rfl (rf_at qa12) dX12_kept_50 ?_
          refine V_sipush C0 (v := (2000 : Int32)) (by decide) dX12_kept_53 ?_
          refine V_iload_n C0 1 rfl rfl dX12_kept_56 ?_
          refine V_imul C0 dX12_kept_57 ?_
          refine V_iload_n C0 2 rfl rfl dX12_kept_58 ?_
          refine V_iadd C0 dX12_kept_59 ?_
          obtain ⟨v13, qv13, h⟩ := bnd_some h
          refine V_ri C0 (rf_lt qa12) (rf_kd qa12) qv13 dX12_kept_60 ?_
          refine V_goto C0 (tgt := 65) (by decide) dX12_kept_61 ?_
          cases h
          exact V_iret C0 dX12_kept_65
    · have h := (if_pos c7).symm.trans h
      refine V_aload_n C0 0 rfl rfl dX12_kept_28 ?_
      refine V_iconst C0 (v := (2 : Int32)) (by decide) dX12_kept_29 ?_
      obtain ⟨v14, I15, q16, h⟩ := bn2_some h
      refine V_callV C0 (st := []) (As := [.int (2 : Int32)]) 11 (c_X12_fail G.l G.D G.cA G.ad G.bs G.X C0.2.2.2.2.2.2.2.2.2.1 C0.2.2.2.2.2.2.2.2.2.2.2.2 x0 (2 : Int32) I1 L R v14 I15 q16) lc_X12_fail lk_X12_488 c_x0.2 c_x0.1 ⟨_, rfl, rfl⟩ rfl (by rw [erm]; decide) (Nat.le_of_ble_eq_true rfl) dX12_kept_30 ?_
      show V G _ 33 [(0, .ref (G.ad x0)), (1, .int x1), (2, .int x2)] [.int v14] I15 L R
      cases h
      exact V_iret C0 dX12_kept_33
  · have h := (if_pos c4).symm.trans h
    refine V_aload_n C0 0 rfl rfl dX12_kept_13 ?_
    refine V_iconst C0 (v := (1 : Int32)) (by decide) dX12_kept_14 ?_
    obtain ⟨v17, I18, q19, h⟩ := bn2_some h
    refine V_callV C0 (st := []) (As := [.int (1 : Int32)]) 11 (c_X12_fail G.l G.D G.cA G.ad G.bs G.X C0.2.2.2.2.2.2.2.2.2.1 C0.2.2.2.2.2.2.2.2.2.2.2.2 x0 (1 : Int32) I1 L R v17 I18 q19) lc_X12_fail lk_X12_488 c_x0.2 c_x0.1 ⟨_, rfl, rfl⟩ rfl (by rw [erm]; decide) (Nat.le_of_ble_eq_true rfl) dX12_kept_15 ?_
    show V G _ 18 [(0, .ref (G.ad x0)), (1, .int x1), (2, .int x2)] [.int v17] I18 L R
    cases h
    exact V_iret C0 dX12_kept_18
theorem dX12_down_0 : decode cX12_down 0 = .ok (.aload_n 0, 1) := by decide +kernel
theorem dX12_down_1 : decode cX12_down 1 = .ok (.iconst 0, 1) := by decide +kernel
theorem dX12_down_2 : decode cX12_down 2 = .ok (.putfield 112, 3) := by decide +kernel
theorem dX12_down_5 : decode cX12_down 5 = .ok (.iload_n 1, 1) := by decide +kernel
theorem dX12_down_6 : decode cX12_down 6 = .ok (.ifCond .lt 38, 3) := by decide +kernel
theorem dX12_down_9 : decode cX12_down 9 = .ok (.iload_n 1, 1) := by decide +kernel
theorem dX12_down_10 : decode cX12_down 10 = .ok (.aload_n 0, 1) := by decide +kernel
theorem dX12_down_11 : decode cX12_down 11 = .ok (.getfield 324, 3) := by decide +kernel
theorem dX12_down_14 : decode cX12_down 14 = .ok (.if_icmp .ge 30, 3) := by decide +kernel
theorem dX12_down_17 : decode cX12_down 17 = .ok (.iload_n 1, 1) := by decide +kernel
theorem dX12_down_18 : decode cX12_down 18 = .ok (.sipush 500, 3) := by decide +kernel
theorem dX12_down_21 : decode cX12_down 21 = .ok (.if_icmp .ge 23, 3) := by decide +kernel
theorem dX12_down_24 : decode cX12_down 24 = .ok (.aload_n 0, 1) := by decide +kernel
theorem dX12_down_25 : decode cX12_down 25 = .ok (.getfield 77, 3) := by decide +kernel
theorem dX12_down_28 : decode cX12_down 28 = .ok (.aload_n 0, 1) := by decide +kernel
theorem dX12_down_29 : decode cX12_down 29 = .ok (.getfield 324, 3) := by decide +kernel
theorem dX12_down_32 : decode cX12_down 32 = .ok (.iconst 1, 1) := by decide +kernel
theorem dX12_down_33 : decode cX12_down 33 = .ok (.isub, 1) := by decide +kernel
theorem dX12_down_34 : decode cX12_down 34 = .ok (.iload_n 1, 1) := by decide +kernel
theorem dX12_down_35 : decode cX12_down 35 = .ok (.isub, 1) := by decide +kernel
theorem dX12_down_36 : decode cX12_down 36 = .ok (.sipush 500, 3) := by decide +kernel
theorem dX12_down_39 : decode cX12_down 39 = .ok (.irem, 1) := by decide +kernel
theorem dX12_down_40 : decode cX12_down 40 = .ok (.iaload, 1) := by decide +kernel
theorem dX12_down_41 : decode cX12_down 41 = .ok (.goto 4, 3) := by decide +kernel
theorem dX12_down_44 : decode cX12_down 44 = .ok (.iconst (-1), 1) := by decide +kernel
theorem dX12_down_45 : decode cX12_down 45 = .ok (.ireturn, 1) := by decide +kernel
def F_X12_down (x0 : Nat) (x1 : Int32) (I : MI) (L : ML) (R : MR) : Option (Int32 × MI) :=
  if kd x0 = 11 ∧ x0 < NN then
  wr (uI I x0 5 (0 : Int32)) fun (I1 : MI) =>
  if x1 < 0 then
    some ((-1 : Int32), I1)
  else
    if (I1 x0 43) ≤ x1 then
      some ((-1 : Int32), I1)
    else
      if (500 : Int32) ≤ x1 then
        some ((-1 : Int32), I1)
      else
        (rf R x0 51 20).bind fun a5 =>
        (ri I1 a5 (iR (((I1 x0 43) - (1 : Int32)) - x1) (500 : Int32))).bind fun v6 =>
        some (v6, I1)
  else none
set_option maxRecDepth 100000 in
set_option maxHeartbeats 4000000 in
theorem c_X12_down (l : Launch) (D : va_G) (cA : Nat → ClassId) (ad : Nat → Nat) (bs : Nat) (X : State → Prop) (hAd : Ax ad bs) (hX : Stb bs X) (x0 : Nat) (x1 : Int32) (I : MI) (L : ML) (R : MR) (r : Int32) (I' : MI) (h : F_X12_down x0 x1 I L R = some (r, I')) : Cn l D cA ad bs X yX12_down cX12_down 2 (some .int) 0 0 [.ref (ad x0), .int x1] I L R (some (.int r), I', L, R) := by
  refine Cn.ofV hAd hX [(0, .ref (ad x0)), (1, .int x1)] rfl (Nat.le_of_ble_eq_true rfl) (by decide) ?_
  intro G el eD ecA ead ebs eX erm eNL C0
  subst el eD ecA ead ebs eX
  unfold F_X12_down at h
  obtain ⟨c_x0, h⟩ := ite_some h
  refine V_aload_n C0 0 rfl rfl dX12_down_0 ?_
  refine V_iconst C0 (v := (0 : Int32)) (by decide) dX12_down_1 ?_
  obtain ⟨I1, eI1, h⟩ := wr_some h
  refine V_putI C0 11 5 fp_X12_112 c_x0.2 c_x0.1 rfl dX12_down_2 ?_
  rw [← eI1]
  refine V_iload_n C0 1 rfl rfl dX12_down_5 ?_
  refine V_if_lt C0 (tgt := 44) (by decide) dX12_down_6 (fun c2 => ?_) (fun c2 => ?_)
  · have h := (if_pos c2).symm.trans h
    refine V_iconst C0 (v := (-1 : Int32)) (by decide) dX12_down_44 ?_
    cases h
    exact V_iret C0 dX12_down_45
  · have h := (if_neg c2).symm.trans h
    refine V_iload_n C0 1 rfl rfl dX12_down_9 ?_
    refine V_aload_n C0 0 rfl rfl dX12_down_10 ?_
    refine V_getI C0 11 43 fl_X12_324 c_x0.2 c_x0.1 rfl dX12_down_11 ?_
    refine V_icmp_ge C0 (tgt := 44) (by decide) dX12_down_14 (fun c3 => ?_) (fun c3 => ?_)
    · have h := (if_pos c3).symm.trans h
      refine V_iconst C0 (v := (-1 : Int32)) (by decide) dX12_down_44 ?_
      cases h
      exact V_iret C0 dX12_down_45
    · have h := (if_neg c3).symm.trans h
      refine V_iload_n C0 1 rfl rfl dX12_down_17 ?_
      refine V_sipush C0 (v := (500 : Int32)) (by decide) dX12_down_18 ?_
      refine V_icmp_ge C0 (tgt := 44) (by decide) dX12_down_21 (fun c4 => ?_) (fun c4 => ?_)
      · have h := (if_pos c4).symm.trans h
        refine V_iconst C0 (v := (-1 : Int32)) (by decide) dX12_down_44 ?_
        cases h
        exact V_iret C0 dX12_down_45
      · have h := (if_neg c4).symm.trans h
        refine V_aload_n C0 0 rfl rfl dX12_down_24 ?_
        obtain ⟨a5, qa5, h⟩ := bnd_some h
        refine V_getR C0 11 51 fl_X12_77 c_x0.2 c_x0.1 rfl (rf_at qa5) dX12_down_25 ?_
        refine V_aload_n C0 0 rfl rfl dX12_down_28 ?_
        refine V_getI C0 11 43 fl_X12_324 c_x0.2 c_x0.1 rfl dX12_down_29 ?_
        refine V_iconst C0 (v := (1 : Int32)) (by decide) dX12_down_32 ?_
        refine V_isub C0 dX12_down_33 ?_
        refine V_iload_n C0 1 rfl rfl dX12_down_34 ?_
        refine V_isub C0 dX12_down_35 ?_
        refine V_sipush C0 (v := (500 : Int32)) (by decide) dX12_down_36 ?_
        refine V_irem C0 (by decide) dX12_down_39 ?_
        obtain ⟨v6, qv6, h⟩ := bnd_some h
        refine V_ri C0 (rf_lt qa5) (rf_kd qa5) qv6 dX12_down_40 ?_
        refine V_goto C0 (tgt := 45) (by decide) dX12_down_41 ?_
        cases h
        exact V_iret C0 dX12_down_45
theorem dX12_item_0 : decode cX12_item 0 = .ok (.aload_n 0, 1) := by decide +kernel
theorem dX12_item_1 : decode cX12_item 1 = .ok (.iconst 0, 1) := by decide +kernel
theorem dX12_item_2 : decode cX12_item 2 = .ok (.putfield 112, 3) := by decide +kernel
theorem dX12_item_5 : decode cX12_item 5 = .ok (.iload_n 1, 1) := by decide +kernel
theorem dX12_item_6 : decode cX12_item 6 = .ok (.ifCond .lt 11, 3) := by decide +kernel
theorem dX12_item_9 : decode cX12_item 9 = .ok (.iload_n 1, 1) := by decide +kernel
theorem dX12_item_10 : decode cX12_item 10 = .ok (.aload_n 0, 1) := by decide +kernel
theorem dX12_item_11 : decode cX12_item 11 = .ok (.getfield 345, 3) := by decide +kernel
theorem dX12_item_14 : decode cX12_item 14 = .ok (.if_icmp .lt 5, 3) := by decide +kernel
theorem dX12_item_17 : decode cX12_item 17 = .ok (.iconst (-1), 1) := by decide +kernel
theorem dX12_item_18 : decode cX12_item 18 = .ok (.ireturn, 1) := by decide +kernel
theorem dX12_item_19 : decode cX12_item 19 = .ok (.iload_n 2, 1) := by decide +kernel
theorem dX12_item_20 : decode cX12_item 20 = .ok (.ifCond .ne 12, 3) := by decide +kernel
theorem dX12_item_23 : decode cX12_item 23 = .ok (.aload_n 0, 1) := by decide +kernel
theorem dX12_item_24 : decode cX12_item 24 = .ok (.getfield 90, 3) := by decide +kernel
theorem dX12_item_27 : decode cX12_item 27 = .ok (.iload_n 1, 1) := by decide +kernel
theorem dX12_item_28 : decode cX12_item 28 = .ok (.iaload, 1) := by decide +kernel
theorem dX12_item_29 : decode cX12_item 29 = .ok (.goto 40, 3) := by decide +kernel
theorem dX12_item_32 : decode cX12_item 32 = .ok (.iload_n 2, 1) := by decide +kernel
theorem dX12_item_33 : decode cX12_item 33 = .ok (.iconst 1, 1) := by decide +kernel
theorem dX12_item_34 : decode cX12_item 34 = .ok (.if_icmp .ne 12, 3) := by decide +kernel
theorem dX12_item_37 : decode cX12_item 37 = .ok (.aload_n 0, 1) := by decide +kernel
theorem dX12_item_38 : decode cX12_item 38 = .ok (.getfield 93, 3) := by decide +kernel
theorem dX12_item_41 : decode cX12_item 41 = .ok (.iload_n 1, 1) := by decide +kernel
theorem dX12_item_42 : decode cX12_item 42 = .ok (.iaload, 1) := by decide +kernel
theorem dX12_item_43 : decode cX12_item 43 = .ok (.goto 26, 3) := by decide +kernel
theorem dX12_item_46 : decode cX12_item 46 = .ok (.iload_n 2, 1) := by decide +kernel
theorem dX12_item_47 : decode cX12_item 47 = .ok (.iconst 2, 1) := by decide +kernel
theorem dX12_item_48 : decode cX12_item 48 = .ok (.if_icmp .ne 20, 3) := by decide +kernel
theorem dX12_item_51 : decode cX12_item 51 = .ok (.aload_n 0, 1) := by decide +kernel
theorem dX12_item_52 : decode cX12_item 52 = .ok (.getfield 96, 3) := by decide +kernel
theorem dX12_item_55 : decode cX12_item 55 = .ok (.iload_n 1, 1) := by decide +kernel
theorem dX12_item_56 : decode cX12_item 56 = .ok (.baload, 1) := by decide +kernel
theorem dX12_item_57 : decode cX12_item 57 = .ok (.ifCond .eq 7, 3) := by decide +kernel
theorem dX12_item_60 : decode cX12_item 60 = .ok (.iconst 1, 1) := by decide +kernel
theorem dX12_item_61 : decode cX12_item 61 = .ok (.goto 8, 3) := by decide +kernel
theorem dX12_item_64 : decode cX12_item 64 = .ok (.iconst 0, 1) := by decide +kernel
theorem dX12_item_65 : decode cX12_item 65 = .ok (.goto 4, 3) := by decide +kernel
theorem dX12_item_68 : decode cX12_item 68 = .ok (.iconst (-1), 1) := by decide +kernel
theorem dX12_item_69 : decode cX12_item 69 = .ok (.ireturn, 1) := by decide +kernel
def F_X12_item (x0 : Nat) (x1 : Int32) (x2 : Int32) (I : MI) (L : ML) (R : MR) : Option (Int32 × MI) :=
  if kd x0 = 11 ∧ x0 < NN then
  wr (uI I x0 5 (0 : Int32)) fun (I1 : MI) =>
  if x1 < 0 then
    some ((-1 : Int32), I1)
  else
    if x1 < (I1 x0 54) then
      if x2 = 0 then
        (rf R x0 57 20).bind fun a12 =>
        (ri I1 a12 x1).bind fun v13 =>
        some (v13, I1)
      else
        if x2 = (1 : Int32) then
          (rf R x0 58 20).bind fun a10 =>
          (ri I1 a10 x1).bind fun v11 =>
          some (v11, I1)
        else
          if x2 = (2 : Int32) then
            (rf R x0 59 22).bind fun a7 =>
            (ri I1 a7 x1).bind fun v8 =>
            if v8 = 0 then
              some ((0 : Int32), I1)
            else
              some ((1 : Int32), I1)
          else
            some ((-1 : Int32), I1)
    else
      some ((-1 : Int32), I1)
  else none
set_option maxRecDepth 100000 in
set_option maxHeartbeats 4000000 in
theorem c_X12_item (l : Launch) (D : va_G) (cA : Nat → ClassId) (ad : Nat → Nat) (bs : Nat) (X : State → Prop) (hAd : Ax ad bs) (hX : Stb bs X) (x0 : Nat) (x1 : Int32) (x2 : Int32) (I : MI) (L : ML) (R : MR) (r : Int32) (I' : MI) (h : F_X12_item x0 x1 x2 I L R = some (r, I')) : Cn l D cA ad bs X yX12_item cX12_item 3 (some .int) 0 0 [.ref (ad x0), .int x1, .int x2] I L R (some (.int r), I', L, R) := by
  refine Cn.ofV hAd hX [(0, .ref (ad x0)), (1, .int x1), (2, .int x2)] rfl (Nat.le_of_ble_eq_true rfl) (by decide) ?_
  intro G el eD ecA ead ebs eX erm eNL C0
  subst el eD ecA ead ebs eX
  unfold F_X12_item at h
  obtain ⟨c_x0, h⟩ := ite_some h
  refine V_aload_n C0 0 rfl rfl dX12_item_0 ?_
  refine V_iconst C0 (v := (0 : Int32)) (by decide) dX12_item_1 ?_
  obtain ⟨I1, eI1, h⟩ := wr_some h
  refine V_putI C0 11 5 fp_X12_112 c_x0.2 c_x0.1 rfl dX12_item_2 ?_
  rw [← eI1]
  refine V_iload_n C0 1 rfl rfl dX12_item_5 ?_
  refine V_if_lt C0 (tgt := 17) (by decide) dX12_item_6 (fun c2 => ?_) (fun c2 => ?_)
  · have h := (if_pos c2).symm.trans h
    refine V_iconst C0 (v := (-1 : Int32)) (by decide) dX12_item_17 ?_
    cases h
    exact V_iret C0 dX12_item_18
  · have h := (if_neg c2).symm.trans h
    refine V_iload_n C0 1 rfl rfl dX12_item_9 ?_
    refine V_aload_n C0 0 rfl rfl dX12_item_10 ?_
    refine V_getI C0 11 54 fl_X12_345 c_x0.2 c_x0.1 rfl dX12_item_11 ?_
    refine V_icmp_lt C0 (tgt := 19) (by decide) dX12_item_14 (fun c3 => ?_) (fun c3 => ?_)
    · have h := (if_pos c3).symm.trans h
      refine V_iload_n C0 2 rfl rfl dX12_item_19 ?_
      refine V_if_ne C0 (tgt := 32) (by decide) dX12_item_20 (fun c4 => ?_) (fun c4 => ?_)
      · have h := (if_neg c4).symm.trans h
        refine V_iload_n C0 2 rfl rfl dX12_item_32 ?_
        refine V_iconst C0 (v := (1 : Int32)) (by decide) dX12_item_33 ?_
        refine V_icmp_ne C0 (tgt := 46) (by decide) dX12_item_34 (fun c5 => ?_) (fun c5 => ?_)
        · have h := (if_neg c5).symm.trans h
          refine V_iload_n C0 2 rfl rfl dX12_item_46 ?_
          refine V_iconst C0 (v := (2 : Int32)) (by decide) dX12_item_47 ?_
          refine V_icmp_ne C0 (tgt := 68) (by decide) dX12_item_48 (fun c6 => ?_) (fun c6 => ?_)
          · have h := (if_neg c6).symm.trans h
            refine V_iconst C0 (v := (-1 : Int32)) (by decide) dX12_item_68 ?_
            cases h
            exact V_iret C0 dX12_item_69
          · have h := (if_pos c6).symm.trans h
            refine V_aload_n C0 0 rfl rfl dX12_item_51 ?_
            obtain ⟨a7, qa7, h⟩ := bnd_some h
            refine V_getR C0 11 59 fl_X12_96 c_x0.2 c_x0.1 rfl (rf_at qa7) dX12_item_52 ?_
            refine V_iload_n C0 1 rfl rfl dX12_item_55 ?_
            obtain ⟨v8, qv8, h⟩ := bnd_some h
            refine V_rz C0 (rf_lt qa7) (rf_kd qa7) qv8 dX12_item_56 ?_
            refine V_if_eq C0 (tgt := 64) (by decide) dX12_item_57 (fun c9 => ?_) (fun c9 => ?_)
            · have h := (if_pos c9).symm.trans h
              refine V_iconst C0 (v := (0 : Int32)) (by decide) dX12_item_64 ?_
              refine V_goto C0 (tgt := 69) (by decide) dX12_item_65 ?_
              cases h
              exact V_iret C0 dX12_item_69
            · have h := (if_neg c9).symm.trans h
              refine V_iconst C0 (v := (1 : Int32)) (by decide) dX12_item_60 ?_
              refine V_goto C0 (tgt := 69) (by decide) dX12_item_61 ?_
              cases h
              exact V_iret C0 dX12_item_69
        · have h := (if_pos c5).symm.trans h
          refine V_aload_n C0 0 rfl rfl dX12_item_37 ?_
          obtain ⟨a10, qa10, h⟩ := bnd_some h
          refine V_getR C0 11 58 fl_X12_93 c_x0.2 c_x0.1 rfl (rf_at qa10) dX12_item_38 ?_
          refine V_iload_n C0 1 rfl rfl dX12_item_41 ?_
          obtain ⟨v11, qv11, h⟩ := bnd_some h
          refine V_ri C0 (rf_lt qa10) (rf_kd qa10) qv11 dX12_item_42 ?_
          refine V_goto C0 (tgt := 69) (by decide) dX12_item_43 ?_
          cases h
          exact V_iret C0 dX12_item_69
      · have h := (if_pos c4).symm.trans h
        refine V_aload_n C0 0 rfl rfl dX12_item_23 ?_
        obtain ⟨a12, qa12, h⟩ := bnd_some h
        refine V_getR C0 11 57 fl_X12_90 c_x0.2 c_x0.1 rfl (rf_at qa12) dX12_item_24 ?_
        refine V_iload_n C0 1 rfl rfl dX12_item_27 ?_
        obtain ⟨v13, qv13, h⟩ := bnd_some h
        refine V_ri C0 (rf_lt qa12) (rf_kd qa12) qv13 dX12_item_28 ?_
        refine V_goto C0 (tgt := 69) (by decide) dX12_item_29 ?_
        cases h
        exact V_iret C0 dX12_item_69
    · have h := (if_neg c3).symm.trans h
      refine V_iconst C0 (v := (-1 : Int32)) (by decide) dX12_item_17 ?_
      cases h
      exact V_iret C0 dX12_item_18
theorem dX12_craft_0 : decode cX12_craft 0 = .ok (.aload_n 0, 1) := by decide +kernel
theorem dX12_craft_1 : decode cX12_craft 1 = .ok (.iconst 0, 1) := by decide +kernel
theorem dX12_craft_2 : decode cX12_craft 2 = .ok (.putfield 112, 3) := by decide +kernel
theorem dX12_craft_5 : decode cX12_craft 5 = .ok (.iload_n 1, 1) := by decide +kernel
theorem dX12_craft_6 : decode cX12_craft 6 = .ok (.iconst 3, 1) := by decide +kernel
theorem dX12_craft_7 : decode cX12_craft 7 = .ok (.if_icmp .lt 17, 3) := by decide +kernel
theorem dX12_craft_10 : decode cX12_craft 10 = .ok (.iload_n 1, 1) := by decide +kernel
theorem dX12_craft_11 : decode cX12_craft 11 = .ok (.iconst 5, 1) := by decide +kernel
theorem dX12_craft_12 : decode cX12_craft 12 = .ok (.if_icmp .gt 12, 3) := by decide +kernel
theorem dX12_craft_15 : decode cX12_craft 15 = .ok (.aload_n 0, 1) := by decide +kernel
theorem dX12_craft_16 : decode cX12_craft 16 = .ok (.getfield 68, 3) := by decide +kernel
theorem dX12_craft_19 : decode cX12_craft 19 = .ok (.iload_n 1, 1) := by decide +kernel
theorem dX12_craft_20 : decode cX12_craft 20 = .ok (.iconst 3, 1) := by decide +kernel
theorem dX12_craft_21 : decode cX12_craft 21 = .ok (.isub, 1) := by decide +kernel
theorem dX12_craft_22 : decode cX12_craft 22 = .ok (.iaload, 1) := by decide +kernel
theorem dX12_craft_23 : decode cX12_craft 23 = .ok (.ireturn, 1) := by decide +kernel
theorem dX12_craft_24 : decode cX12_craft 24 = .ok (.iload_n 1, 1) := by decide +kernel
theorem dX12_craft_25 : decode cX12_craft 25 = .ok (.bipush 6, 2) := by decide +kernel
theorem dX12_craft_27 : decode cX12_craft 27 = .ok (.if_icmp .lt 19, 3) := by decide +kernel
theorem dX12_craft_30 : decode cX12_craft 30 = .ok (.iload_n 1, 1) := by decide +kernel
theorem dX12_craft_31 : decode cX12_craft 31 = .ok (.bipush 8, 2) := by decide +kernel
theorem dX12_craft_33 : decode cX12_craft 33 = .ok (.if_icmp .gt 13, 3) := by decide +kernel
theorem dX12_craft_36 : decode cX12_craft 36 = .ok (.aload_n 0, 1) := by decide +kernel
theorem dX12_craft_37 : decode cX12_craft 37 = .ok (.getfield 71, 3) := by decide +kernel
theorem dX12_craft_40 : decode cX12_craft 40 = .ok (.iload_n 1, 1) := by decide +kernel
theorem dX12_craft_41 : decode cX12_craft 41 = .ok (.bipush 6, 2) := by decide +kernel
theorem dX12_craft_43 : decode cX12_craft 43 = .ok (.isub, 1) := by decide +kernel
theorem dX12_craft_44 : decode cX12_craft 44 = .ok (.iaload, 1) := by decide +kernel
theorem dX12_craft_45 : decode cX12_craft 45 = .ok (.ireturn, 1) := by decide +kernel
theorem dX12_craft_46 : decode cX12_craft 46 = .ok (.iload_n 1, 1) := by decide +kernel
theorem dX12_craft_47 : decode cX12_craft 47 = .ok (.bipush 9, 2) := by decide +kernel
theorem dX12_craft_49 : decode cX12_craft 49 = .ok (.if_icmp .lt 19, 3) := by decide +kernel
theorem dX12_craft_52 : decode cX12_craft 52 = .ok (.iload_n 1, 1) := by decide +kernel
theorem dX12_craft_53 : decode cX12_craft 53 = .ok (.bipush 11, 2) := by decide +kernel
theorem dX12_craft_55 : decode cX12_craft 55 = .ok (.if_icmp .gt 13, 3) := by decide +kernel
theorem dX12_craft_58 : decode cX12_craft 58 = .ok (.aload_n 0, 1) := by decide +kernel
theorem dX12_craft_59 : decode cX12_craft 59 = .ok (.getfield 74, 3) := by decide +kernel
theorem dX12_craft_62 : decode cX12_craft 62 = .ok (.iload_n 1, 1) := by decide +kernel
theorem dX12_craft_63 : decode cX12_craft 63 = .ok (.bipush 9, 2) := by decide +kernel
theorem dX12_craft_65 : decode cX12_craft 65 = .ok (.isub, 1) := by decide +kernel
theorem dX12_craft_66 : decode cX12_craft 66 = .ok (.iaload, 1) := by decide +kernel
theorem dX12_craft_67 : decode cX12_craft 67 = .ok (.ireturn, 1) := by decide +kernel
theorem dX12_craft_68 : decode cX12_craft 68 = .ok (.iload_n 1, 1) := by decide +kernel
theorem dX12_craft_69 : decode cX12_craft 69 = .ok (.tableswitch 222 0 27 #[127, 132, 137, 222, 222, 222, 222, 222, 222, 222, 222, 222, 142, 147, 152, 157, 162, 167, 172, 177, 182, 187, 192, 197, 202, 207, 212, 217], 127) := by decide +kernel
theorem dX12_craft_196 : decode cX12_craft 196 = .ok (.aload_n 0, 1) := by decide +kernel
theorem dX12_craft_197 : decode cX12_craft 197 = .ok (.getfield 297, 3) := by decide +kernel
theorem dX12_craft_200 : decode cX12_craft 200 = .ok (.ireturn, 1) := by decide +kernel
theorem dX12_craft_201 : decode cX12_craft 201 = .ok (.aload_n 0, 1) := by decide +kernel
theorem dX12_craft_202 : decode cX12_craft 202 = .ok (.getfield 306, 3) := by decide +kernel
theorem dX12_craft_205 : decode cX12_craft 205 = .ok (.ireturn, 1) := by decide +kernel
theorem dX12_craft_206 : decode cX12_craft 206 = .ok (.aload_n 0, 1) := by decide +kernel
theorem dX12_craft_207 : decode cX12_craft 207 = .ok (.getfield 309, 3) := by decide +kernel
theorem dX12_craft_210 : decode cX12_craft 210 = .ok (.ireturn, 1) := by decide +kernel
theorem dX12_craft_211 : decode cX12_craft 211 = .ok (.aload_n 0, 1) := by decide +kernel
theorem dX12_craft_212 : decode cX12_craft 212 = .ok (.getfield 205, 3) := by decide +kernel
theorem dX12_craft_215 : decode cX12_craft 215 = .ok (.ireturn, 1) := by decide +kernel
theorem dX12_craft_216 : decode cX12_craft 216 = .ok (.aload_n 0, 1) := by decide +kernel
theorem dX12_craft_217 : decode cX12_craft 217 = .ok (.getfield 262, 3) := by decide +kernel
theorem dX12_craft_220 : decode cX12_craft 220 = .ok (.ireturn, 1) := by decide +kernel
theorem dX12_craft_221 : decode cX12_craft 221 = .ok (.aload_n 0, 1) := by decide +kernel
theorem dX12_craft_222 : decode cX12_craft 222 = .ok (.getfield 256, 3) := by decide +kernel
theorem dX12_craft_225 : decode cX12_craft 225 = .ok (.ireturn, 1) := by decide +kernel
theorem dX12_craft_226 : decode cX12_craft 226 = .ok (.aload_n 0, 1) := by decide +kernel
theorem dX12_craft_227 : decode cX12_craft 227 = .ok (.getfield 208, 3) := by decide +kernel
theorem dX12_craft_230 : decode cX12_craft 230 = .ok (.ireturn, 1) := by decide +kernel
theorem dX12_craft_231 : decode cX12_craft 231 = .ok (.aload_n 0, 1) := by decide +kernel
theorem dX12_craft_232 : decode cX12_craft 232 = .ok (.getfield 312, 3) := by decide +kernel
theorem dX12_craft_235 : decode cX12_craft 235 = .ok (.ireturn, 1) := by decide +kernel
theorem dX12_craft_236 : decode cX12_craft 236 = .ok (.aload_n 0, 1) := by decide +kernel
theorem dX12_craft_237 : decode cX12_craft 237 = .ok (.getfield 315, 3) := by decide +kernel
theorem dX12_craft_240 : decode cX12_craft 240 = .ok (.ireturn, 1) := by decide +kernel
theorem dX12_craft_241 : decode cX12_craft 241 = .ok (.aload_n 0, 1) := by decide +kernel
theorem dX12_craft_242 : decode cX12_craft 242 = .ok (.getfield 318, 3) := by decide +kernel
theorem dX12_craft_245 : decode cX12_craft 245 = .ok (.ireturn, 1) := by decide +kernel
theorem dX12_craft_246 : decode cX12_craft 246 = .ok (.aload_n 0, 1) := by decide +kernel
theorem dX12_craft_247 : decode cX12_craft 247 = .ok (.getfield 321, 3) := by decide +kernel
theorem dX12_craft_250 : decode cX12_craft 250 = .ok (.ireturn, 1) := by decide +kernel
theorem dX12_craft_251 : decode cX12_craft 251 = .ok (.aload_n 0, 1) := by decide +kernel
theorem dX12_craft_252 : decode cX12_craft 252 = .ok (.getfield 324, 3) := by decide +kernel
theorem dX12_craft_255 : decode cX12_craft 255 = .ok (.ireturn, 1) := by decide +kernel
theorem dX12_craft_256 : decode cX12_craft 256 = .ok (.aload_n 0, 1) := by decide +kernel
theorem dX12_craft_257 : decode cX12_craft 257 = .ok (.getfield 327, 3) := by decide +kernel
theorem dX12_craft_260 : decode cX12_craft 260 = .ok (.ireturn, 1) := by decide +kernel
theorem dX12_craft_261 : decode cX12_craft 261 = .ok (.aload_n 0, 1) := by decide +kernel
theorem dX12_craft_262 : decode cX12_craft 262 = .ok (.getfield 330, 3) := by decide +kernel
theorem dX12_craft_265 : decode cX12_craft 265 = .ok (.ireturn, 1) := by decide +kernel
theorem dX12_craft_266 : decode cX12_craft 266 = .ok (.aload_n 0, 1) := by decide +kernel
theorem dX12_craft_267 : decode cX12_craft 267 = .ok (.getfield 333, 3) := by decide +kernel
theorem dX12_craft_270 : decode cX12_craft 270 = .ok (.ireturn, 1) := by decide +kernel
theorem dX12_craft_271 : decode cX12_craft 271 = .ok (.aload_n 0, 1) := by decide +kernel
theorem dX12_craft_272 : decode cX12_craft 272 = .ok (.getfield 345, 3) := by decide +kernel
theorem dX12_craft_275 : decode cX12_craft 275 = .ok (.ireturn, 1) := by decide +kernel
theorem dX12_craft_276 : decode cX12_craft 276 = .ok (.aload_n 0, 1) := by decide +kernel
theorem dX12_craft_277 : decode cX12_craft 277 = .ok (.getfield 336, 3) := by decide +kernel
theorem dX12_craft_280 : decode cX12_craft 280 = .ok (.ireturn, 1) := by decide +kernel
theorem dX12_craft_281 : decode cX12_craft 281 = .ok (.aload_n 0, 1) := by decide +kernel
theorem dX12_craft_282 : decode cX12_craft 282 = .ok (.getfield 339, 3) := by decide +kernel
theorem dX12_craft_285 : decode cX12_craft 285 = .ok (.ireturn, 1) := by decide +kernel
theorem dX12_craft_286 : decode cX12_craft 286 = .ok (.aload_n 0, 1) := by decide +kernel
theorem dX12_craft_287 : decode cX12_craft 287 = .ok (.getfield 342, 3) := by decide +kernel
theorem dX12_craft_290 : decode cX12_craft 290 = .ok (.ireturn, 1) := by decide +kernel
theorem dX12_craft_291 : decode cX12_craft 291 = .ok (.iconst 0, 1) := by decide +kernel
theorem dX12_craft_292 : decode cX12_craft 292 = .ok (.ireturn, 1) := by decide +kernel
def F_X12_craft (x0 : Nat) (x1 : Int32) (I : MI) (L : ML) (R : MR) : Option (Int32 × MI) :=
  if kd x0 = 11 ∧ x0 < NN then
  wr (uI I x0 5 (0 : Int32)) fun (I1 : MI) =>
  if x1 < (3 : Int32) then
    if x1 < (6 : Int32) then
      if x1 < (9 : Int32) then
        if x1 = (0 : Int32) then
          some ((I1 x0 21), I1)
        else
          if x1 = (1 : Int32) then
            some ((I1 x0 34), I1)
          else
            if x1 = (2 : Int32) then
              some ((I1 x0 35), I1)
            else
              if x1 = (12 : Int32) then
                some ((I1 x0 25), I1)
              else
                if x1 = (13 : Int32) then
                  some ((I1 x0 26), I1)
                else
                  if x1 = (14 : Int32) then
                    some ((I1 x0 27), I1)
                  else
                    if x1 = (15 : Int32) then
                      some ((I1 x0 28), I1)
                    else
                      if x1 = (16 : Int32) then
                        some ((I1 x0 39), I1)
                      else
                        if x1 = (17 : Int32) then
                          some ((I1 x0 40), I1)
                        else
                          if x1 = (18 : Int32) then
                            some ((I1 x0 41), I1)
                          else
                            if x1 = (19 : Int32) then
                              some ((I1 x0 42), I1)
                            else
                              if x1 = (20 : Int32) then
                                some ((I1 x0 43), I1)
                              else
                                if x1 = (21 : Int32) then
                                  some ((I1 x0 44), I1)
                                else
                                  if x1 = (22 : Int32) then
                                    some ((I1 x0 45), I1)
                                  else
                                    if x1 = (23 : Int32) then
                                      some ((I1 x0 46), I1)
                                    else
                                      if x1 = (24 : Int32) then
                                        some ((I1 x0 54), I1)
                                      else
                                        if x1 = (25 : Int32) then
                                          some ((I1 x0 47), I1)
                                        else
                                          if x1 = (26 : Int32) then
                                            some ((I1 x0 48), I1)
                                          else
                                            if x1 = (27 : Int32) then
                                              some ((I1 x0 49), I1)
                                            else
                                              some ((0 : Int32), I1)
      else
        if (11 : Int32) < x1 then
          if x1 = (0 : Int32) then
            some ((I1 x0 21), I1)
          else
            if x1 = (1 : Int32) then
              some ((I1 x0 34), I1)
            else
              if x1 = (2 : Int32) then
                some ((I1 x0 35), I1)
              else
                if x1 = (12 : Int32) then
                  some ((I1 x0 25), I1)
                else
                  if x1 = (13 : Int32) then
                    some ((I1 x0 26), I1)
                  else
                    if x1 = (14 : Int32) then
                      some ((I1 x0 27), I1)
                    else
                      if x1 = (15 : Int32) then
                        some ((I1 x0 28), I1)
                      else
                        if x1 = (16 : Int32) then
                          some ((I1 x0 39), I1)
                        else
                          if x1 = (17 : Int32) then
                            some ((I1 x0 40), I1)
                          else
                            if x1 = (18 : Int32) then
                              some ((I1 x0 41), I1)
                            else
                              if x1 = (19 : Int32) then
                                some ((I1 x0 42), I1)
                              else
                                if x1 = (20 : Int32) then
                                  some ((I1 x0 43), I1)
                                else
                                  if x1 = (21 : Int32) then
                                    some ((I1 x0 44), I1)
                                  else
                                    if x1 = (22 : Int32) then
                                      some ((I1 x0 45), I1)
                                    else
                                      if x1 = (23 : Int32) then
                                        some ((I1 x0 46), I1)
                                      else
                                        if x1 = (24 : Int32) then
                                          some ((I1 x0 54), I1)
                                        else
                                          if x1 = (25 : Int32) then
                                            some ((I1 x0 47), I1)
                                          else
                                            if x1 = (26 : Int32) then
                                              some ((I1 x0 48), I1)
                                            else
                                              if x1 = (27 : Int32) then
                                                some ((I1 x0 49), I1)
                                              else
                                                some ((0 : Int32), I1)
        else
          (rf R x0 38 20).bind fun a46 =>
          (ri I1 a46 (x1 - (9 : Int32))).bind fun v47 =>
          some (v47, I1)
    else
      if (8 : Int32) < x1 then
        if x1 < (9 : Int32) then
          if x1 = (0 : Int32) then
            some ((I1 x0 21), I1)
          else
            if x1 = (1 : Int32) then
              some ((I1 x0 34), I1)
            else
              if x1 = (2 : Int32) then
                some ((I1 x0 35), I1)
              else
                if x1 = (12 : Int32) then
                  some ((I1 x0 25), I1)
                else
                  if x1 = (13 : Int32) then
                    some ((I1 x0 26), I1)
                  else
                    if x1 = (14 : Int32) then
                      some ((I1 x0 27), I1)
                    else
                      if x1 = (15 : Int32) then
                        some ((I1 x0 28), I1)
                      else
                        if x1 = (16 : Int32) then
                          some ((I1 x0 39), I1)
                        else
                          if x1 = (17 : Int32) then
                            some ((I1 x0 40), I1)
                          else
                            if x1 = (18 : Int32) then
                              some ((I1 x0 41), I1)
                            else
                              if x1 = (19 : Int32) then
                                some ((I1 x0 42), I1)
                              else
                                if x1 = (20 : Int32) then
                                  some ((I1 x0 43), I1)
                                else
                                  if x1 = (21 : Int32) then
                                    some ((I1 x0 44), I1)
                                  else
                                    if x1 = (22 : Int32) then
                                      some ((I1 x0 45), I1)
                                    else
                                      if x1 = (23 : Int32) then
                                        some ((I1 x0 46), I1)
                                      else
                                        if x1 = (24 : Int32) then
                                          some ((I1 x0 54), I1)
                                        else
                                          if x1 = (25 : Int32) then
                                            some ((I1 x0 47), I1)
                                          else
                                            if x1 = (26 : Int32) then
                                              some ((I1 x0 48), I1)
                                            else
                                              if x1 = (27 : Int32) then
                                                some ((I1 x0 49), I1)
                                              else
                                                some ((0 : Int32), I1)
        else
          if (11 : Int32) < x1 then
            if x1 = (0 : Int32) then
              some ((I1 x0 21), I1)
            else
              if x1 = (1 : Int32) then
                some ((I1 x0 34), I1)
              else
                if x1 = (2 : Int32) then
                  some ((I1 x0 35), I1)
                else
                  if x1 = (12 : Int32) then
                    some ((I1 x0 25), I1)
                  else
                    if x1 = (13 : Int32) then
                      some ((I1 x0 26), I1)
                    else
                      if x1 = (14 : Int32) then
                        some ((I1 x0 27), I1)
                      else
                        if x1 = (15 : Int32) then
                          some ((I1 x0 28), I1)
                        else
                          if x1 = (16 : Int32) then
                            some ((I1 x0 39), I1)
                          else
                            if x1 = (17 : Int32) then
                              some ((I1 x0 40), I1)
                            else
                              if x1 = (18 : Int32) then
                                some ((I1 x0 41), I1)
                              else
                                if x1 = (19 : Int32) then
                                  some ((I1 x0 42), I1)
                                else
                                  if x1 = (20 : Int32) then
                                    some ((I1 x0 43), I1)
                                  else
                                    if x1 = (21 : Int32) then
                                      some ((I1 x0 44), I1)
                                    else
                                      if x1 = (22 : Int32) then
                                        some ((I1 x0 45), I1)
                                      else
                                        if x1 = (23 : Int32) then
                                          some ((I1 x0 46), I1)
                                        else
                                          if x1 = (24 : Int32) then
                                            some ((I1 x0 54), I1)
                                          else
                                            if x1 = (25 : Int32) then
                                              some ((I1 x0 47), I1)
                                            else
                                              if x1 = (26 : Int32) then
                                                some ((I1 x0 48), I1)
                                              else
                                                if x1 = (27 : Int32) then
                                                  some ((I1 x0 49), I1)
                                                else
                                                  some ((0 : Int32), I1)
          else
            (rf R x0 38 20).bind fun a91 =>
            (ri I1 a91 (x1 - (9 : Int32))).bind fun v92 =>
            some (v92, I1)
      else
        (rf R x0 37 20).bind fun a93 =>
        (ri I1 a93 (x1 - (6 : Int32))).bind fun v94 =>
        some (v94, I1)
  else
    if (5 : Int32) < x1 then
      if x1 < (6 : Int32) then
        if x1 < (9 : Int32) then
          if x1 = (0 : Int32) then
            some ((I1 x0 21), I1)
          else
            if x1 = (1 : Int32) then
              some ((I1 x0 34), I1)
            else
              if x1 = (2 : Int32) then
                some ((I1 x0 35), I1)
              else
                if x1 = (12 : Int32) then
                  some ((I1 x0 25), I1)
                else
                  if x1 = (13 : Int32) then
                    some ((I1 x0 26), I1)
                  else
                    if x1 = (14 : Int32) then
                      some ((I1 x0 27), I1)
                    else
                      if x1 = (15 : Int32) then
                        some ((I1 x0 28), I1)
                      else
                        if x1 = (16 : Int32) then
                          some ((I1 x0 39), I1)
                        else
                          if x1 = (17 : Int32) then
                            some ((I1 x0 40), I1)
                          else
                            if x1 = (18 : Int32) then
                              some ((I1 x0 41), I1)
                            else
                              if x1 = (19 : Int32) then
                                some ((I1 x0 42), I1)
                              else
                                if x1 = (20 : Int32) then
                                  some ((I1 x0 43), I1)
                                else
                                  if x1 = (21 : Int32) then
                                    some ((I1 x0 44), I1)
                                  else
                                    if x1 = (22 : Int32) then
                                      some ((I1 x0 45), I1)
                                    else
                                      if x1 = (23 : Int32) then
                                        some ((I1 x0 46), I1)
                                      else
                                        if x1 = (24 : Int32) then
                                          some ((I1 x0 54), I1)
                                        else
                                          if x1 = (25 : Int32) then
                                            some ((I1 x0 47), I1)
                                          else
                                            if x1 = (26 : Int32) then
                                              some ((I1 x0 48), I1)
                                            else
                                              if x1 = (27 : Int32) then
                                                some ((I1 x0 49), I1)
                                              else
                                                some ((0 : Int32), I1)
        else
          if (11 : Int32) < x1 then
            if x1 = (0 : Int32) then
              some ((I1 x0 21), I1)
            else
              if x1 = (1 : Int32) then
                some ((I1 x0 34), I1)
              else
                if x1 = (2 : Int32) then
                  some ((I1 x0 35), I1)
                else
                  if x1 = (12 : Int32) then
                    some ((I1 x0 25), I1)
                  else
                    if x1 = (13 : Int32) then
                      some ((I1 x0 26), I1)
                    else
                      if x1 = (14 : Int32) then
                        some ((I1 x0 27), I1)
                      else
                        if x1 = (15 : Int32) then
                          some ((I1 x0 28), I1)
                        else
                          if x1 = (16 : Int32) then
                            some ((I1 x0 39), I1)
                          else
                            if x1 = (17 : Int32) then
                              some ((I1 x0 40), I1)
                            else
                              if x1 = (18 : Int32) then
                                some ((I1 x0 41), I1)
                              else
                                if x1 = (19 : Int32) then
                                  some ((I1 x0 42), I1)
                                else
                                  if x1 = (20 : Int32) then
                                    some ((I1 x0 43), I1)
                                  else
                                    if x1 = (21 : Int32) then
                                      some ((I1 x0 44), I1)
                                    else
                                      if x1 = (22 : Int32) then
                                        some ((I1 x0 45), I1)
                                      else
                                        if x1 = (23 : Int32) then
                                          some ((I1 x0 46), I1)
                                        else
                                          if x1 = (24 : Int32) then
                                            some ((I1 x0 54), I1)
                                          else
                                            if x1 = (25 : Int32) then
                                              some ((I1 x0 47), I1)
                                            else
                                              if x1 = (26 : Int32) then
                                                some ((I1 x0 48), I1)
                                              else
                                                if x1 = (27 : Int32) then
                                                  some ((I1 x0 49), I1)
                                                else
                                                  some ((0 : Int32), I1)
          else
            (rf R x0 38 20).bind fun a139 =>
            (ri I1 a139 (x1 - (9 : Int32))).bind fun v140 =>
            some (v140, I1)
      else
        if (8 : Int32) < x1 then
          if x1 < (9 : Int32) then
            if x1 = (0 : Int32) then
              some ((I1 x0 21), I1)
            else
              if x1 = (1 : Int32) then
                some ((I1 x0 34), I1)
              else
                if x1 = (2 : Int32) then
                  some ((I1 x0 35), I1)
                else
                  if x1 = (12 : Int32) then
                    some ((I1 x0 25), I1)
                  else
                    if x1 = (13 : Int32) then
                      some ((I1 x0 26), I1)
                    else
                      if x1 = (14 : Int32) then
                        some ((I1 x0 27), I1)
                      else
                        if x1 = (15 : Int32) then
                          some ((I1 x0 28), I1)
                        else
                          if x1 = (16 : Int32) then
                            some ((I1 x0 39), I1)
                          else
                            if x1 = (17 : Int32) then
                              some ((I1 x0 40), I1)
                            else
                              if x1 = (18 : Int32) then
                                some ((I1 x0 41), I1)
                              else
                                if x1 = (19 : Int32) then
                                  some ((I1 x0 42), I1)
                                else
                                  if x1 = (20 : Int32) then
                                    some ((I1 x0 43), I1)
                                  else
                                    if x1 = (21 : Int32) then
                                      some ((I1 x0 44), I1)
                                    else
                                      if x1 = (22 : Int32) then
                                        some ((I1 x0 45), I1)
                                      else
                                        if x1 = (23 : Int32) then
                                          some ((I1 x0 46), I1)
                                        else
                                          if x1 = (24 : Int32) then
                                            some ((I1 x0 54), I1)
                                          else
                                            if x1 = (25 : Int32) then
                                              some ((I1 x0 47), I1)
                                            else
                                              if x1 = (26 : Int32) then
                                                some ((I1 x0 48), I1)
                                              else
                                                if x1 = (27 : Int32) then
                                                  some ((I1 x0 49), I1)
                                                else
                                                  some ((0 : Int32), I1)
          else
            if (11 : Int32) < x1 then
              if x1 = (0 : Int32) then
                some ((I1 x0 21), I1)
              else
                if x1 = (1 : Int32) then
                  some ((I1 x0 34), I1)
                else
                  if x1 = (2 : Int32) then
                    some ((I1 x0 35), I1)
                  else
                    if x1 = (12 : Int32) then
                      some ((I1 x0 25), I1)
                    else
                      if x1 = (13 : Int32) then
                        some ((I1 x0 26), I1)
                      else
                        if x1 = (14 : Int32) then
                          some ((I1 x0 27), I1)
                        else
                          if x1 = (15 : Int32) then
                            some ((I1 x0 28), I1)
                          else
                            if x1 = (16 : Int32) then
                              some ((I1 x0 39), I1)
                            else
                              if x1 = (17 : Int32) then
                                some ((I1 x0 40), I1)
                              else
                                if x1 = (18 : Int32) then
                                  some ((I1 x0 41), I1)
                                else
                                  if x1 = (19 : Int32) then
                                    some ((I1 x0 42), I1)
                                  else
                                    if x1 = (20 : Int32) then
                                      some ((I1 x0 43), I1)
                                    else
                                      if x1 = (21 : Int32) then
                                        some ((I1 x0 44), I1)
                                      else
                                        if x1 = (22 : Int32) then
                                          some ((I1 x0 45), I1)
                                        else
                                          if x1 = (23 : Int32) then
                                            some ((I1 x0 46), I1)
                                          else
                                            if x1 = (24 : Int32) then
                                              some ((I1 x0 54), I1)
                                            else
                                              if x1 = (25 : Int32) then
                                                some ((I1 x0 47), I1)
                                              else
                                                if x1 = (26 : Int32) then
                                                  some ((I1 x0 48), I1)
                                                else
                                                  if x1 = (27 : Int32) then
                                                    some ((I1 x0 49), I1)
                                                  else
                                                    some ((0 : Int32), I1)
            else
              (rf R x0 38 20).bind fun a184 =>
              (ri I1 a184 (x1 - (9 : Int32))).bind fun v185 =>
              some (v185, I1)
        else
          (rf R x0 37 20).bind fun a186 =>
          (ri I1 a186 (x1 - (6 : Int32))).bind fun v187 =>
          some (v187, I1)
    else
      (rf R x0 36 20).bind fun a188 =>
      (ri I1 a188 (x1 - (3 : Int32))).bind fun v189 =>
      some (v189, I1)
  else none
set_option maxRecDepth 100000 in
set_option maxHeartbeats 4000000 in
theorem c_X12_craft (l : Launch) (D : va_G) (cA : Nat → ClassId) (ad : Nat → Nat) (bs : Nat) (X : State → Prop) (hAd : Ax ad bs) (hX : Stb bs X) (x0 : Nat) (x1 : Int32) (I : MI) (L : ML) (R : MR) (r : Int32) (I' : MI) (h : F_X12_craft x0 x1 I L R = some (r, I')) : Cn l D cA ad bs X yX12_craft cX12_craft 2 (some .int) 0 0 [.ref (ad x0), .int x1] I L R (some (.int r), I', L, R) := by
  refine Cn.ofV hAd hX [(0, .ref (ad x0)), (1, .int x1)] rfl (Nat.le_of_ble_eq_true rfl) (by decide) ?_
  intro G el eD ecA ead ebs eX erm eNL C0
  subst el eD ecA ead ebs eX
  unfold F_X12_craft at h
  obtain ⟨c_x0, h⟩ := ite_some h
  refine V_aload_n C0 0 rfl rfl dX12_craft_0 ?_
  refine V_iconst C0 (v := (0 : Int32)) (by decide) dX12_craft_1 ?_
  obtain ⟨I1, eI1, h⟩ := wr_some h
  refine V_putI C0 11 5 fp_X12_112 c_x0.2 c_x0.1 rfl dX12_craft_2 ?_
  rw [← eI1]
  refine V_iload_n C0 1 rfl rfl dX12_craft_5 ?_
  refine V_iconst C0 (v := (3 : Int32)) (by decide) dX12_craft_6 ?_
  refine V_icmp_lt C0 (tgt := 24) (by decide) dX12_craft_7 (fun c2 => ?_) (fun c2 => ?_)
  · have h := (if_pos c2).symm.trans h
    refine V_iload_n C0 1 rfl rfl dX12_craft_24 ?_
    refine V_bipush C0 (v := (6 : Int32)) (by decide) dX12_craft_25 ?_
    refine V_icmp_lt C0 (tgt := 46) (by decide) dX12_craft_27 (fun c3 => ?_) (fun c3 => ?_)
    · have h := (if_pos c3).symm.trans h
      refine V_iload_n C0 1 rfl rfl dX12_craft_46 ?_
      refine V_bipush C0 (v := (9 : Int32)) (by decide) dX12_craft_47 ?_
      refine V_icmp_lt C0 (tgt := 68) (by decide) dX12_craft_49 (fun c4 => ?_) (fun c4 => ?_)
      · have h := (if_pos c4).symm.trans h
        refine V_iload_n C0 1 rfl rfl dX12_craft_68 ?_
        have nd5 := nd_0 x1
        by_cases c6 : x1 = (0 : Int32)
        · have h := (if_pos c6).symm.trans h
          refine V_tableC C0 (tgt := 196) (v := (0 : Int32)) c6 (by decide) (by decide) dX12_craft_69 ?_
          refine V_aload_n C0 0 rfl rfl dX12_craft_196 ?_
          refine V_getI C0 11 21 fl_X12_297 c_x0.2 c_x0.1 rfl dX12_craft_197 ?_
          cases h
          exact V_iret C0 dX12_craft_200
        · have h := (if_neg c6).symm.trans h
          have nd5 := nd_add nd5 c6
          by_cases c7 : x1 = (1 : Int32)
          · have h := (if_pos c7).symm.trans h
            refine V_tableC C0 (tgt := 201) (v := (1 : Int32)) c7 (by decide) (by decide) dX12_craft_69 ?_
            refine V_aload_n C0 0 rfl rfl dX12_craft_201 ?_
            refine V_getI C0 11 34 fl_X12_306 c_x0.2 c_x0.1 rfl dX12_craft_202 ?_
            cases h
            exact V_iret C0 dX12_craft_205
          · have h := (if_neg c7).symm.trans h
            have nd5 := nd_add nd5 c7
            by_cases c8 : x1 = (2 : Int32)
            · have h := (if_pos c8).symm.trans h
              refine V_tableC C0 (tgt := 206) (v := (2 : Int32)) c8 (by decide) (by decide) dX12_craft_69 ?_
              refine V_aload_n C0 0 rfl rfl dX12_craft_206 ?_
              refine V_getI C0 11 35 fl_X12_309 c_x0.2 c_x0.1 rfl dX12_craft_207 ?_
              cases h
              exact V_iret C0 dX12_craft_210
            · have h := (if_neg c8).symm.trans h
              have nd5 := nd_add nd5 c8
              by_cases c9 : x1 = (12 : Int32)
              · have h := (if_pos c9).symm.trans h
                refine V_tableC C0 (tgt := 211) (v := (12 : Int32)) c9 (by decide) (by decide) dX12_craft_69 ?_
                refine V_aload_n C0 0 rfl rfl dX12_craft_211 ?_
                refine V_getI C0 11 25 fl_X12_205 c_x0.2 c_x0.1 rfl dX12_craft_212 ?_
                cases h
                exact V_iret C0 dX12_craft_215
              · have h := (if_neg c9).symm.trans h
                have nd5 := nd_add nd5 c9
                by_cases c10 : x1 = (13 : Int32)
                · have h := (if_pos c10).symm.trans h
                  refine V_tableC C0 (tgt := 216) (v := (13 : Int32)) c10 (by decide) (by decide) dX12_craft_69 ?_
                  refine V_aload_n C0 0 rfl rfl dX12_craft_216 ?_
                  refine V_getI C0 11 26 fl_X12_262 c_x0.2 c_x0.1 rfl dX12_craft_217 ?_
                  cases h
                  exact V_iret C0 dX12_craft_220
                · have h := (if_neg c10).symm.trans h
                  have nd5 := nd_add nd5 c10
                  by_cases c11 : x1 = (14 : Int32)
                  · have h := (if_pos c11).symm.trans h
                    refine V_tableC C0 (tgt := 221) (v := (14 : Int32)) c11 (by decide) (by decide) dX12_craft_69 ?_
                    refine V_aload_n C0 0 rfl rfl dX12_craft_221 ?_
                    refine V_getI C0 11 27 fl_X12_256 c_x0.2 c_x0.1 rfl dX12_craft_222 ?_
                    cases h
                    exact V_iret C0 dX12_craft_225
                  · have h := (if_neg c11).symm.trans h
                    have nd5 := nd_add nd5 c11
                    by_cases c12 : x1 = (15 : Int32)
                    · have h := (if_pos c12).symm.trans h
                      refine V_tableC C0 (tgt := 226) (v := (15 : Int32)) c12 (by decide) (by decide) dX12_craft_69 ?_
                      refine V_aload_n C0 0 rfl rfl dX12_craft_226 ?_
                      refine V_getI C0 11 28 fl_X12_208 c_x0.2 c_x0.1 rfl dX12_craft_227 ?_
                      cases h
                      exact V_iret C0 dX12_craft_230
                    · have h := (if_neg c12).symm.trans h
                      have nd5 := nd_add nd5 c12
                      by_cases c13 : x1 = (16 : Int32)
                      · have h := (if_pos c13).symm.trans h
                        refine V_tableC C0 (tgt := 231) (v := (16 : Int32)) c13 (by decide) (by decide) dX12_craft_69 ?_
                        refine V_aload_n C0 0 rfl rfl dX12_craft_231 ?_
                        refine V_getI C0 11 39 fl_X12_312 c_x0.2 c_x0.1 rfl dX12_craft_232 ?_
                        cases h
                        exact V_iret C0 dX12_craft_235
                      · have h := (if_neg c13).symm.trans h
                        have nd5 := nd_add nd5 c13
                        by_cases c14 : x1 = (17 : Int32)
                        · have h := (if_pos c14).symm.trans h
                          refine V_tableC C0 (tgt := 236) (v := (17 : Int32)) c14 (by decide) (by decide) dX12_craft_69 ?_
                          refine V_aload_n C0 0 rfl rfl dX12_craft_236 ?_
                          refine V_getI C0 11 40 fl_X12_315 c_x0.2 c_x0.1 rfl dX12_craft_237 ?_
                          cases h
                          exact V_iret C0 dX12_craft_240
                        · have h := (if_neg c14).symm.trans h
                          have nd5 := nd_add nd5 c14
                          by_cases c15 : x1 = (18 : Int32)
                          · have h := (if_pos c15).symm.trans h
                            refine V_tableC C0 (tgt := 241) (v := (18 : Int32)) c15 (by decide) (by decide) dX12_craft_69 ?_
                            refine V_aload_n C0 0 rfl rfl dX12_craft_241 ?_
                            refine V_getI C0 11 41 fl_X12_318 c_x0.2 c_x0.1 rfl dX12_craft_242 ?_
                            cases h
                            exact V_iret C0 dX12_craft_245
                          · have h := (if_neg c15).symm.trans h
                            have nd5 := nd_add nd5 c15
                            by_cases c16 : x1 = (19 : Int32)
                            · have h := (if_pos c16).symm.trans h
                              refine V_tableC C0 (tgt := 246) (v := (19 : Int32)) c16 (by decide) (by decide) dX12_craft_69 ?_
                              refine V_aload_n C0 0 rfl rfl dX12_craft_246 ?_
                              refine V_getI C0 11 42 fl_X12_321 c_x0.2 c_x0.1 rfl dX12_craft_247 ?_
                              cases h
                              exact V_iret C0 dX12_craft_250
                            · have h := (if_neg c16).symm.trans h
                              have nd5 := nd_add nd5 c16
                              by_cases c17 : x1 = (20 : Int32)
                              · have h := (if_pos c17).symm.trans h
                                refine V_tableC C0 (tgt := 251) (v := (20 : Int32)) c17 (by decide) (by decide) dX12_craft_69 ?_
                                refine V_aload_n C0 0 rfl rfl dX12_craft_251 ?_
                                refine V_getI C0 11 43 fl_X12_324 c_x0.2 c_x0.1 rfl dX12_craft_252 ?_
                                cases h
                                exact V_iret C0 dX12_craft_255
                              · have h := (if_neg c17).symm.trans h
                                have nd5 := nd_add nd5 c17
                                by_cases c18 : x1 = (21 : Int32)
                                · have h := (if_pos c18).symm.trans h
                                  refine V_tableC C0 (tgt := 256) (v := (21 : Int32)) c18 (by decide) (by decide) dX12_craft_69 ?_
                                  refine V_aload_n C0 0 rfl rfl dX12_craft_256 ?_
                                  refine V_getI C0 11 44 fl_X12_327 c_x0.2 c_x0.1 rfl dX12_craft_257 ?_
                                  cases h
                                  exact V_iret C0 dX12_craft_260
                                · have h := (if_neg c18).symm.trans h
                                  have nd5 := nd_add nd5 c18
                                  by_cases c19 : x1 = (22 : Int32)
                                  · have h := (if_pos c19).symm.trans h
                                    refine V_tableC C0 (tgt := 261) (v := (22 : Int32)) c19 (by decide) (by decide) dX12_craft_69 ?_
                                    refine V_aload_n C0 0 rfl rfl dX12_craft_261 ?_
                                    refine V_getI C0 11 45 fl_X12_330 c_x0.2 c_x0.1 rfl dX12_craft_262 ?_
                                    cases h
                                    exact V_iret C0 dX12_craft_265
                                  · have h := (if_neg c19).symm.trans h
                                    have nd5 := nd_add nd5 c19
                                    by_cases c20 : x1 = (23 : Int32)
                                    · have h := (if_pos c20).symm.trans h
                                      refine V_tableC C0 (tgt := 266) (v := (23 : Int32)) c20 (by decide) (by decide) dX12_craft_69 ?_
                                      refine V_aload_n C0 0 rfl rfl dX12_craft_266 ?_
                                      refine V_getI C0 11 46 fl_X12_333 c_x0.2 c_x0.1 rfl dX12_craft_267 ?_
                                      cases h
                                      exact V_iret C0 dX12_craft_270
                                    · have h := (if_neg c20).symm.trans h
                                      have nd5 := nd_add nd5 c20
                                      by_cases c21 : x1 = (24 : Int32)
                                      · have h := (if_pos c21).symm.trans h
                                        refine V_tableC C0 (tgt := 271) (v := (24 : Int32)) c21 (by decide) (by decide) dX12_craft_69 ?_
                                        refine V_aload_n C0 0 rfl rfl dX12_craft_271 ?_
                                        refine V_getI C0 11 54 fl_X12_345 c_x0.2 c_x0.1 rfl dX12_craft_272 ?_
                                        cases h
                                        exact V_iret C0 dX12_craft_275
                                      · have h := (if_neg c21).symm.trans h
                                        have nd5 := nd_add nd5 c21
                                        by_cases c22 : x1 = (25 : Int32)
                                        · have h := (if_pos c22).symm.trans h
                                          refine V_tableC C0 (tgt := 276) (v := (25 : Int32)) c22 (by decide) (by decide) dX12_craft_69 ?_
                                          refine V_aload_n C0 0 rfl rfl dX12_craft_276 ?_
                                          refine V_getI C0 11 47 fl_X12_336 c_x0.2 c_x0.1 rfl dX12_craft_277 ?_
                                          cases h
                                          exact V_iret C0 dX12_craft_280
                                        · have h := (if_neg c22).symm.trans h
                                          have nd5 := nd_add nd5 c22
                                          by_cases c23 : x1 = (26 : Int32)
                                          · have h := (if_pos c23).symm.trans h
                                            refine V_tableC C0 (tgt := 281) (v := (26 : Int32)) c23 (by decide) (by decide) dX12_craft_69 ?_
                                            refine V_aload_n C0 0 rfl rfl dX12_craft_281 ?_
                                            refine V_getI C0 11 48 fl_X12_339 c_x0.2 c_x0.1 rfl dX12_craft_282 ?_
                                            cases h
                                            exact V_iret C0 dX12_craft_285
                                          · have h := (if_neg c23).symm.trans h
                                            have nd5 := nd_add nd5 c23
                                            by_cases c24 : x1 = (27 : Int32)
                                            · have h := (if_pos c24).symm.trans h
                                              refine V_tableC C0 (tgt := 286) (v := (27 : Int32)) c24 (by decide) (by decide) dX12_craft_69 ?_
                                              refine V_aload_n C0 0 rfl rfl dX12_craft_286 ?_
                                              refine V_getI C0 11 49 fl_X12_342 c_x0.2 c_x0.1 rfl dX12_craft_287 ?_
                                              cases h
                                              exact V_iret C0 dX12_craft_290
                                            · have h := (if_neg c24).symm.trans h
                                              have nd5 := nd_add nd5 c24
                                              refine V_tableN C0 (tgt := 291) nd5 (by decide) (by decide) dX12_craft_69 ?_
                                              refine V_iconst C0 (v := (0 : Int32)) (by decide) dX12_craft_291 ?_
                                              cases h
                                              exact V_iret C0 dX12_craft_292
      · have h := (if_neg c4).symm.trans h
        refine V_iload_n C0 1 rfl rfl dX12_craft_52 ?_
        refine V_bipush C0 (v := (11 : Int32)) (by decide) dX12_craft_53 ?_
        refine V_icmp_gt C0 (tgt := 68) (by decide) dX12_craft_55 (fun c25 => ?_) (fun c25 => ?_)
        · have h := (if_pos c25).symm.trans h
          refine V_iload_n C0 1 rfl rfl dX12_craft_68 ?_
          have nd26 := nd_0 x1
          by_cases c27 : x1 = (0 : Int32)
          · have h := (if_pos c27).symm.trans h
            refine V_tableC C0 (tgt := 196) (v := (0 : Int32)) c27 (by decide) (by decide) dX12_craft_69 ?_
            refine V_aload_n C0 0 rfl rfl dX12_craft_196 ?_
            refine V_getI C0 11 21 fl_X12_297 c_x0.2 c_x0.1 rfl dX12_craft_197 ?_
            cases h
            exact V_iret C0 dX12_craft_200
          · have h := (if_neg c27).symm.trans h
            have nd26 := nd_add nd26 c27
            by_cases c28 : x1 = (1 : Int32)
            · have h := (if_pos c28).symm.trans h
              refine V_tableC C0 (tgt := 201) (v := (1 : Int32)) c28 (by decide) (by decide) dX12_craft_69 ?_
              refine V_aload_n C0 0 rfl rfl dX12_craft_201 ?_
              refine V_getI C0 11 34 fl_X12_306 c_x0.2 c_x0.1 rfl dX12_craft_202 ?_
              cases h
              exact V_iret C0 dX12_craft_205
            · have h := (if_neg c28).symm.trans h
              have nd26 := nd_add nd26 c28
              by_cases c29 : x1 = (2 : Int32)
              · have h := (if_pos c29).symm.trans h
                refine V_tableC C0 (tgt := 206) (v := (2 : Int32)) c29 (by decide) (by decide) dX12_craft_69 ?_
                refine V_aload_n C0 0 rfl rfl dX12_craft_206 ?_
                refine V_getI C0 11 35 fl_X12_309 c_x0.2 c_x0.1 rfl dX12_craft_207 ?_
                cases h
                exact V_iret C0 dX12_craft_210
              · have h := (if_neg c29).symm.trans h
                have nd26 := nd_add nd26 c29
                by_cases c30 : x1 = (12 : Int32)
                · have h := (if_pos c30).symm.trans h
                  refine V_tableC C0 (tgt := 211) (v := (12 : Int32)) c30 (by decide) (by decide) dX12_craft_69 ?_
                  refine V_aload_n C0 0 rfl rfl dX12_craft_211 ?_
                  refine V_getI C0 11 25 fl_X12_205 c_x0.2 c_x0.1 rfl dX12_craft_212 ?_
                  cases h
                  exact V_iret C0 dX12_craft_215
                · have h := (if_neg c30).symm.trans h
                  have nd26 := nd_add nd26 c30
                  by_cases c31 : x1 = (13 : Int32)
                  · have h := (if_pos c31).symm.trans h
                    refine V_tableC C0 (tgt := 216) (v := (13 : Int32)) c31 (by decide) (by decide) dX12_craft_69 ?_
                    refine V_aload_n C0 0 rfl rfl dX12_craft_216 ?_
                    refine V_getI C0 11 26 fl_X12_262 c_x0.2 c_x0.1 rfl dX12_craft_217 ?_
                    cases h
                    exact V_iret C0 dX12_craft_220
                  · have h := (if_neg c31).symm.trans h
                    have nd26 := nd_add nd26 c31
                    by_cases c32 : x1 = (14 : Int32)
                    · have h := (if_pos c32).symm.trans h
                      refine V_tableC C0 (tgt := 221) (v := (14 : Int32)) c32 (by decide) (by decide) dX12_craft_69 ?_
                      refine V_aload_n C0 0 rfl rfl dX12_craft_221 ?_
                      refine V_getI C0 11 27 fl_X12_256 c_x0.2 c_x0.1 rfl dX12_craft_222 ?_
                      cases h
                      exact V_iret C0 dX12_craft_225
                    · have h := (if_neg c32).symm.trans h
                      have nd26 := nd_add nd26 c32
                      by_cases c33 : x1 = (15 : Int32)
                      · have h := (if_pos c33).symm.trans h
                        refine V_tableC C0 (tgt := 226) (v := (15 : Int32)) c33 (by decide) (by decide) dX12_craft_69 ?_
                        refine V_aload_n C0 0 rfl rfl dX12_craft_226 ?_
                        refine V_getI C0 11 28 fl_X12_208 c_x0.2 c_x0.1 rfl dX12_craft_227 ?_
                        cases h
                        exact V_iret C0 dX12_craft_230
                      · have h := (if_neg c33).symm.trans h
                        have nd26 := nd_add nd26 c33
                        by_cases c34 : x1 = (16 : Int32)
                        · have h := (if_pos c34).symm.trans h
                          refine V_tableC C0 (tgt := 231) (v := (16 : Int32)) c34 (by decide) (by decide) dX12_craft_69 ?_
                          refine V_aload_n C0 0 rfl rfl dX12_craft_231 ?_
                          refine V_getI C0 11 39 fl_X12_312 c_x0.2 c_x0.1 rfl dX12_craft_232 ?_
                          cases h
                          exact V_iret C0 dX12_craft_235
                        · have h := (if_neg c34).symm.trans h
                          have nd26 := nd_add nd26 c34
                          by_cases c35 : x1 = (17 : Int32)
                          · have h := (if_pos c35).symm.trans h
                            refine V_tableC C0 (tgt := 236) (v := (17 : Int32)) c35 (by decide) (by decide) dX12_craft_69 ?_
                            refine V_aload_n C0 0 rfl rfl dX12_craft_236 ?_
                            refine V_getI C0 11 40 fl_X12_315 c_x0.2 c_x0.1 rfl dX12_craft_237 ?_
                            cases h
                            exact V_iret C0 dX12_craft_240
                          · have h := (if_neg c35).symm.trans h
                            have nd26 := nd_add nd26 c35
                            by_cases c36 : x1 = (18 : Int32)
                            · have h := (if_pos c36).symm.trans h
                              refine V_tableC C0 (tgt := 241) (v := (18 : Int32)) c36 (by decide) (by decide) dX12_craft_69 ?_
                              refine V_aload_n C0 0 rfl rfl dX12_craft_241 ?_
                              refine V_getI C0 11 41 fl_X12_318 c_x0.2 c_x0.1 rfl dX12_craft_242 ?_
                              cases h
                              exact V_iret C0 dX12_craft_245
                            · have h := (if_neg c36).symm.trans h
                              have nd26 := nd_add nd26 c36
                              by_cases c37 : x1 = (19 : Int32)
                              · have h := (if_pos c37).symm.trans h
                                refine V_tableC C0 (tgt := 246) (v := (19 : Int32)) c37 (by decide) (by decide) dX12_craft_69 ?_
                                refine V_aload_n C0 0 rfl rfl dX12_craft_246 ?_
                                refine V_getI C0 11 42 fl_X12_321 c_x0.2 c_x0.1 rfl dX12_craft_247 ?_
                                cases h
                                exact V_iret C0 dX12_craft_250
                              · have h := (if_neg c37).symm.trans h
                                have nd26 := nd_add nd26 c37
                                by_cases c38 : x1 = (20 : Int32)
                                · have h := (if_pos c38).symm.trans h
                                  refine V_tableC C0 (tgt := 251) (v := (20 : Int32)) c38 (by decide) (by decide) dX12_craft_69 ?_
                                  refine V_aload_n C0 0 rfl rfl dX12_craft_251 ?_
                                  refine V_getI C0 11 43 fl_X12_324 c_x0.2 c_x0.1 rfl dX12_craft_252 ?_
                                  cases h
                                  exact V_iret C0 dX12_craft_255
                                · have h := (if_neg c38).symm.trans h
                                  have nd26 := nd_add nd26 c38
                                  by_cases c39 : x1 = (21 : Int32)
                                  · have h := (if_pos c39).symm.trans h
                                    refine V_tableC C0 (tgt := 256) (v := (21 : Int32)) c39 (by decide) (by decide) dX12_craft_69 ?_
                                    refine V_aload_n C0 0 rfl rfl dX12_craft_256 ?_
                                    refine V_getI C0 11 44 fl_X12_327 c_x0.2 c_x0.1 rfl dX12_craft_257 ?_
                                    cases h
                                    exact V_iret C0 dX12_craft_260
                                  · have h := (if_neg c39).symm.trans h
                                    have nd26 := nd_add nd26 c39
                                    by_cases c40 : x1 = (22 : Int32)
                                    · have h := (if_pos c40).symm.trans h
                                      refine V_tableC C0 (tgt := 261) (v := (22 : Int32)) c40 (by decide) (by decide) dX12_craft_69 ?_
                                      refine V_aload_n C0 0 rfl rfl dX12_craft_261 ?_
                                      refine V_getI C0 11 45 fl_X12_330 c_x0.2 c_x0.1 rfl dX12_craft_262 ?_
                                      cases h
                                      exact V_iret C0 dX12_craft_265
                                    · have h := (if_neg c40).symm.trans h
                                      have nd26 := nd_add nd26 c40
                                      by_cases c41 : x1 = (23 : Int32)
                                      · have h := (if_pos c41).symm.trans h
                                        refine V_tableC C0 (tgt := 266) (v := (23 : Int32)) c41 (by decide) (by decide) dX12_craft_69 ?_
                                        refine V_aload_n C0 0 rfl rfl dX12_craft_266 ?_
                                        refine V_getI C0 11 46 fl_X12_333 c_x0.2 c_x0.1 rfl dX12_craft_267 ?_
                                        cases h
                                        exact V_iret C0 dX12_craft_270
                                      · have h := (if_neg c41).symm.trans h
                                        have nd26 := nd_add nd26 c41
                                        by_cases c42 : x1 = (24 : Int32)
                                        · have h := (if_pos c42).symm.trans h
                                          refine V_tableC C0 (tgt := 271) (v := (24 : Int32)) c42 (by decide) (by decide) dX12_craft_69 ?_
                                          refine V_aload_n C0 0 rfl rfl dX12_craft_271 ?_
                                          refine V_getI C0 11 54 fl_X12_345 c_x0.2 c_x0.1 rfl dX12_craft_272 ?_
                                          cases h
                                          exact V_iret C0 dX12_craft_275
                                        · have h := (if_neg c42).symm.trans h
                                          have nd26 := nd_add nd26 c42
                                          by_cases c43 : x1 = (25 : Int32)
                                          · have h := (if_pos c43).symm.trans h
                                            refine V_tableC C0 (tgt := 276) (v := (25 : Int32)) c43 (by decide) (by decide) dX12_craft_69 ?_
                                            refine V_aload_n C0 0 rfl rfl dX12_craft_276 ?_
                                            refine V_getI C0 11 47 fl_X12_336 c_x0.2 c_x0.1 rfl dX12_craft_277 ?_
                                            cases h
                                            exact V_iret C0 dX12_craft_280
                                          · have h := (if_neg c43).symm.trans h
                                            have nd26 := nd_add nd26 c43
                                            by_cases c44 : x1 = (26 : Int32)
                                            · have h := (if_pos c44).symm.trans h
                                              refine V_tableC C0 (tgt := 281) (v := (26 : Int32)) c44 (by decide) (by decide) dX12_craft_69 ?_
                                              refine V_aload_n C0 0 rfl rfl dX12_craft_281 ?_
                                              refine V_getI C0 11 48 fl_X12_339 c_x0.2 c_x0.1 rfl dX12_craft_282 ?_
                                              cases h
                                              exact V_iret C0 dX12_craft_285
                                            · have h := (if_neg c44).symm.trans h
                                              have nd26 := nd_add nd26 c44
                                              by_cases c45 : x1 = (27 : Int32)
                                              · have h := (if_pos c45).symm.trans h
                                                refine V_tableC C0 (tgt := 286) (v := (27 : Int32)) c45 (by decide) (by decide) dX12_craft_69 ?_
                                                refine V_aload_n C0 0 rfl rfl dX12_craft_286 ?_
                                                refine V_getI C0 11 49 fl_X12_342 c_x0.2 c_x0.1 rfl dX12_craft_287 ?_
                                                cases h
                                                exact V_iret C0 dX12_craft_290
                                              · have h := (if_neg c45).symm.trans h
                                                have nd26 := nd_add nd26 c45
                                                refine V_tableN C0 (tgt := 291) nd26 (by decide) (by decide) dX12_craft_69 ?_
                                                refine V_iconst C0 (v := (0 : Int32)) (by decide) dX12_craft_291 ?_
                                                cases h
                                                exact V_iret C0 dX12_craft_292
        · have h := (if_neg c25).symm.trans h
          refine V_aload_n C0 0 rfl rfl dX12_craft_58 ?_
          obtain ⟨a46, qa46, h⟩ := bnd_some h
          refine V_getR C0 11 38 fl_X12_74 c_x0.2 c_x0.1 rfl (rf_at qa46) dX12_craft_59 ?_
          refine V_iload_n C0 1 rfl rfl dX12_craft_62 ?_
          refine V_bipush C0 (v := (9 : Int32)) (by decide) dX12_craft_63 ?_
          refine V_isub C0 dX12_craft_65 ?_
          obtain ⟨v47, qv47, h⟩ := bnd_some h
          refine V_ri C0 (rf_lt qa46) (rf_kd qa46) qv47 dX12_craft_66 ?_
          cases h
          exact V_iret C0 dX12_craft_67
    · have h := (if_neg c3).symm.trans h
      refine V_iload_n C0 1 rfl rfl dX12_craft_30 ?_
      refine V_bipush C0 (v := (8 : Int32)) (by decide) dX12_craft_31 ?_
      refine V_icmp_gt C0 (tgt := 46) (by decide) dX12_craft_33 (fun c48 => ?_) (fun c48 => ?_)
      · have h := (if_pos c48).symm.trans h
        refine V_iload_n C0 1 rfl rfl dX12_craft_46 ?_
        refine V_bipush C0 (v := (9 : Int32)) (by decide) dX12_craft_47 ?_
        refine V_icmp_lt C0 (tgt := 68) (by decide) dX12_craft_49 (fun c49 => ?_) (fun c49 => ?_)
        · have h := (if_pos c49).symm.trans h
          refine V_iload_n C0 1 rfl rfl dX12_craft_68 ?_
          have nd50 := nd_0 x1
          by_cases c51 : x1 = (0 : Int32)
          · have h := (if_pos c51).symm.trans h
            refine V_tableC C0 (tgt := 196) (v := (0 : Int32)) c51 (by decide) (by decide) dX12_craft_69 ?_
            refine V_aload_n C0 0 rfl rfl dX12_craft_196 ?_
            refine V_getI C0 11 21 fl_X12_297 c_x0.2 c_x0.1 rfl dX12_craft_197 ?_
            cases h
            exact V_iret C0 dX12_craft_200
          · have h := (if_neg c51).symm.trans h
            have nd50 := nd_add nd50 c51
            by_cases c52 : x1 = (1 : Int32)
            · have h := (if_pos c52).symm.trans h
              refine V_tableC C0 (tgt := 201) (v := (1 : Int32)) c52 (by decide) (by decide) dX12_craft_69 ?_
              refine V_aload_n C0 0 rfl rfl dX12_craft_201 ?_
              refine V_getI C0 11 34 fl_X12_306 c_x0.2 c_x0.1 rfl dX12_craft_202 ?_
              cases h
              exact V_iret C0 dX12_craft_205
            · have h := (if_neg c52).symm.trans h
              have nd50 := nd_add nd50 c52
              by_cases c53 : x1 = (2 : Int32)
              · have h := (if_pos c53).symm.trans h
                refine V_tableC C0 (tgt := 206) (v := (2 : Int32)) c53 (by decide) (by decide) dX12_craft_69 ?_
                refine V_aload_n C0 0 rfl rfl dX12_craft_206 ?_
                refine V_getI C0 11 35 fl_X12_309 c_x0.2 c_x0.1 rfl dX12_craft_207 ?_
                cases h
                exact V_iret C0 dX12_craft_210
              · have h := (if_neg c53).symm.trans h
                have nd50 := nd_add nd50 c53
                by_cases c54 : x1 = (12 : Int32)
                · have h := (if_pos c54).symm.trans h
                  refine V_tableC C0 (tgt := 211) (v := (12 : Int32)) c54 (by decide) (by decide) dX12_craft_69 ?_
                  refine V_aload_n C0 0 rfl rfl dX12_craft_211 ?_
                  refine V_getI C0 11 25 fl_X12_205 c_x0.2 c_x0.1 rfl dX12_craft_212 ?_
                  cases h
                  exact V_iret C0 dX12_craft_215
                · have h := (if_neg c54).symm.trans h
                  have nd50 := nd_add nd50 c54
                  by_cases c55 : x1 = (13 : Int32)
                  · have h := (if_pos c55).symm.trans h
                    refine V_tableC C0 (tgt := 216) (v := (13 : Int32)) c55 (by decide) (by decide) dX12_craft_69 ?_
                    refine V_aload_n C0 0 rfl rfl dX12_craft_216 ?_
                    refine V_getI C0 11 26 fl_X12_262 c_x0.2 c_x0.1 rfl dX12_craft_217 ?_
                    cases h
                    exact V_iret C0 dX12_craft_220
                  · have h := (if_neg c55).symm.trans h
                    have nd50 := nd_add nd50 c55
                    by_cases c56 : x1 = (14 : Int32)
                    · have h := (if_pos c56).symm.trans h
                      refine V_tableC C0 (tgt := 221) (v := (14 : Int32)) c56 (by decide) (by decide) dX12_craft_69 ?_
                      refine V_aload_n C0 0 rfl rfl dX12_craft_221 ?_
                      refine V_getI C0 11 27 fl_X12_256 c_x0.2 c_x0.1 rfl dX12_craft_222 ?_
                      cases h
                      exact V_iret C0 dX12_craft_225
                    · have h := (if_neg c56).symm.trans h
                      have nd50 := nd_add nd50 c56
                      by_cases c57 : x1 = (15 : Int32)
                      · have h := (if_pos c57).symm.trans h
                        refine V_tableC C0 (tgt := 226) (v := (15 : Int32)) c57 (by decide) (by decide) dX12_craft_69 ?_
                        refine V_aload_n C0 0 rfl rfl dX12_craft_226 ?_
                        refine V_getI C0 11 28 fl_X12_208 c_x0.2 c_x0.1 rfl dX12_craft_227 ?_
                        cases h
                        exact V_iret C0 dX12_craft_230
                      · have h := (if_neg c57).symm.trans h
                        have nd50 := nd_add nd50 c57
                        by_cases c58 : x1 = (16 : Int32)
                        · have h := (if_pos c58).symm.trans h
                          refine V_tableC C0 (tgt := 231) (v := (16 : Int32)) c58 (by decide) (by decide) dX12_craft_69 ?_
                          refine V_aload_n C0 0 rfl rfl dX12_craft_231 ?_
                          refine V_getI C0 11 39 fl_X12_312 c_x0.2 c_x0.1 rfl dX12_craft_232 ?_
                          cases h
                          exact V_iret C0 dX12_craft_235
                        · have h := (if_neg c58).symm.trans h
                          have nd50 := nd_add nd50 c58
                          by_cases c59 : x1 = (17 : Int32)
                          · have h := (if_pos c59).symm.trans h
                            refine V_tableC C0 (tgt := 236) (v := (17 : Int32)) c59 (by decide) (by decide) dX12_craft_69 ?_
                            refine V_aload_n C0 0 rfl rfl dX12_craft_236 ?_
                            refine V_getI C0 11 40 fl_X12_315 c_x0.2 c_x0.1 rfl dX12_craft_237 ?_
                            cases h
                            exact V_iret C0 dX12_craft_240
                          · have h := (if_neg c59).symm.trans h
                            have nd50 := nd_add nd50 c59
                            by_cases c60 : x1 = (18 : Int32)
                            · have h := (if_pos c60).symm.trans h
                              refine V_tableC C0 (tgt := 241) (v := (18 : Int32)) c60 (by decide) (by decide) dX12_craft_69 ?_
                              refine V_aload_n C0 0 rfl rfl dX12_craft_241 ?_
                              refine V_getI C0 11 41 fl_X12_318 c_x0.2 c_x0.1 rfl dX12_craft_242 ?_
                              cases h
                              exact V_iret C0 dX12_craft_245
                            · have h := (if_neg c60).symm.trans h
                              have nd50 := nd_add nd50 c60
                              by_cases c61 : x1 = (19 : Int32)
                              · have h := (if_pos c61).symm.trans h
                                refine V_tableC C0 (tgt := 246) (v := (19 : Int32)) c61 (by decide) (by decide) dX12_craft_69 ?_
                                refine V_aload_n C0 0 rfl rfl dX12_craft_246 ?_
                                refine V_getI C0 11 42 fl_X12_321 c_x0.2 c_x0.1 rfl dX12_craft_247 ?_
                                cases h
                                exact V_iret C0 dX12_craft_250
                              · have h := (if_neg c61).symm.trans h
                                have nd50 := nd_add nd50 c61
                                by_cases c62 : x1 = (20 : Int32)
                                · have h := (if_pos c62).symm.trans h
                                  refine V_tableC C0 (tgt := 251) (v := (20 : Int32)) c62 (by decide) (by decide) dX12_craft_69 ?_
                                  refine V_aload_n C0 0 rfl rfl dX12_craft_251 ?_
                                  refine V_getI C0 11 43 fl_X12_324 c_x0.2 c_x0.1 rfl dX12_craft_252 ?_
                                  cases h
                                  exact V_iret C0 dX12_craft_255
                                · have h := (if_neg c62).symm.trans h
                                  have nd50 := nd_add nd50 c62
                                  by_cases c63 : x1 = (21 : Int32)
                                  · have h := (if_pos c63).symm.trans h
                                    refine V_tableC C0 (tgt := 256) (v := (21 : Int32)) c63 (by decide) (by decide) dX12_craft_69 ?_
                                    refine V_aload_n C0 0 rfl rfl dX12_craft_256 ?_
                                    refine V_getI C0 11 44 fl_X12_327 c_x0.2 c_x0.1 rfl dX12_craft_257 ?_
                                    cases h
                                    exact V_iret C0 dX12_craft_260
                                  · have h := (if_neg c63).symm.trans h
                                    have nd50 := nd_add nd50 c63
                                    by_cases c64 : x1 = (22 : Int32)
                                    · have h := (if_pos c64).symm.trans h
                                      refine V_tableC C0 (tgt := 261) (v := (22 : Int32)) c64 (by decide) (by decide) dX12_craft_69 ?_
                                      refine V_aload_n C0 0 rfl rfl dX12_craft_261 ?_
                                      refine V_getI C0 11 45 fl_X12_330 c_x0.2 c_x0.1 rfl dX12_craft_262 ?_
                                      cases h
                                      exact V_iret C0 dX12_craft_265
                                    · have h := (if_neg c64).symm.trans h
                                      have nd50 := nd_add nd50 c64
                                      by_cases c65 : x1 = (23 : Int32)
                                      · have h := (if_pos c65).symm.trans h
                                        refine V_tableC C0 (tgt := 266) (v := (23 : Int32)) c65 (by decide) (by decide) dX12_craft_69 ?_
                                        refine V_aload_n C0 0 rfl rfl dX12_craft_266 ?_
                                        refine V_getI C0 11 46 fl_X12_333 c_x0.2 c_x0.1 rfl dX12_craft_267 ?_
                                        cases h
                                        exact V_iret C0 dX12_craft_270
                                      · have h := (if_neg c65).symm.trans h
                                        have nd50 := nd_add nd50 c65
                                        by_cases c66 : x1 = (24 : Int32)
                                        · have h := (if_pos c66).symm.trans h
                                          refine V_tableC C0 (tgt := 271) (v := (24 : Int32)) c66 (by decide) (by decide) dX12_craft_69 ?_
                                          refine V_aload_n C0 0 rfl rfl dX12_craft_271 ?_
                                          refine V_getI C0 11 54 fl_X12_345 c_x0.2 c_x0.1 rfl dX12_craft_272 ?_
                                          cases h
                                          exact V_iret C0 dX12_craft_275
                                        · have h := (if_neg c66).symm.trans h
                                          have nd50 := nd_add nd50 c66
                                          by_cases c67 : x1 = (25 : Int32)
                                          · have h := (if_pos c67).symm.trans h
                                            refine V_tableC C0 (tgt := 276) (v := (25 : Int32)) c67 (by decide) (by decide) dX12_craft_69 ?_
                                            refine V_aload_n C0 0 rfl rfl dX12_craft_276 ?_
                                            refine V_getI C0 11 47 fl_X12_336 c_x0.2 c_x0.1 rfl dX12_craft_277 ?_
                                            cases h
                                            exact V_iret C0 dX12_craft_280
                                          · have h := (if_neg c67).symm.trans h
                                            have nd50 := nd_add nd50 c67
                                            by_cases c68 : x1 = (26 : Int32)
                                            · have h := (if_pos c68).symm.trans h
                                              refine V_tableC C0 (tgt := 281) (v := (26 : Int32)) c68 (by decide) (by decide) dX12_craft_69 ?_
                                              refine V_aload_n C0 0 rfl rfl dX12_craft_281 ?_
                                              refine V_getI C0 11 48 fl_X12_339 c_x0.2 c_x0.1 rfl dX12_craft_282 ?_
                                              cases h
                                              exact V_iret C0 dX12_craft_285
                                            · have h := (if_neg c68).symm.trans h
                                              have nd50 := nd_add nd50 c68
                                              by_cases c69 : x1 = (27 : Int32)
                                              · have h := (if_pos c69).symm.trans h
                                                refine V_tableC C0 (tgt := 286) (v := (27 : Int32)) c69 (by decide) (by decide) dX12_craft_69 ?_
                                                refine V_aload_n C0 0 rfl rfl dX12_craft_286 ?_
                                                refine V_getI C0 11 49 fl_X12_342 c_x0.2 c_x0.1 rfl dX12_craft_287 ?_
                                                cases h
                                                exact V_iret C0 dX12_craft_290
                                              · have h := (if_neg c69).symm.trans h
                                                have nd50 := nd_add nd50 c69
                                                refine V_tableN C0 (tgt := 291) nd50 (by decide) (by decide) dX12_craft_69 ?_
                                                refine V_iconst C0 (v := (0 : Int32)) (by decide) dX12_craft_291 ?_
                                                cases h
                                                exact V_iret C0 dX12_craft_292
        · have h := (if_neg c49).symm.trans h
          refine V_iload_n C0 1 rfl rfl dX12_craft_52 ?_
          refine V_bipush C0 (v := (11 : Int32)) (by decide) dX12_craft_53 ?_
          refine V_icmp_gt C0 (tgt := 68) (by decide) dX12_craft_55 (fun c70 => ?_) (fun c70 => ?_)
          · have h := (if_pos c70).symm.trans h
            refine V_iload_n C0 1 rfl rfl dX12_craft_68 ?_
            have nd71 := nd_0 x1
            by_cases c72 : x1 = (0 : Int32)
            · have h := (if_pos c72).symm.trans h
              refine V_tableC C0 (tgt := 196) (v := (0 : Int32)) c72 (by decide) (by decide) dX12_craft_69 ?_
              refine V_aload_n C0 0 rfl rfl dX12_craft_196 ?_
              refine V_getI C0 11 21 fl_X12_297 c_x0.2 c_x0.1 rfl dX12_craft_197 ?_
              cases h
              exact V_iret C0 dX12_craft_200
            · have h := (if_neg c72).symm.trans h
              have nd71 := nd_add nd71 c72
              by_cases c73 : x1 = (1 : Int32)
              · have h := (if_pos c73).symm.trans h
                refine V_tableC C0 (tgt := 201) (v := (1 : Int32)) c73 (by decide) (by decide) dX12_craft_69 ?_
                refine V_aload_n C0 0 rfl rfl dX12_craft_201 ?_
                refine V_getI C0 11 34 fl_X12_306 c_x0.2 c_x0.1 rfl dX12_craft_202 ?_
                cases h
                exact V_iret C0 dX12_craft_205
              · have h := (if_neg c73).symm.trans h
                have nd71 := nd_add nd71 c73
                by_cases c74 : x1 = (2 : Int32)
                · have h := (if_pos c74).symm.trans h
                  refine V_tableC C0 (tgt := 206) (v := (2 : Int32)) c74 (by decide) (by decide) dX12_craft_69 ?_
                  refine V_aload_n C0 0 rfl rfl dX12_craft_206 ?_
                  refine V_getI C0 11 35 fl_X12_309 c_x0.2 c_x0.1 rfl dX12_craft_207 ?_
                  cases h
                  exact V_iret C0 dX12_craft_210
                · have h := (if_neg c74).symm.trans h
                  have nd71 := nd_add nd71 c74
                  by_cases c75 : x1 = (12 : Int32)
                  · have h := (if_pos c75).symm.trans h
                    refine V_tableC C0 (tgt := 211) (v := (12 : Int32)) c75 (by decide) (by decide) dX12_craft_69 ?_
                    refine V_aload_n C0 0 rfl rfl dX12_craft_211 ?_
                    refine V_getI C0 11 25 fl_X12_205 c_x0.2 c_x0.1 rfl dX12_craft_212 ?_
                    cases h
                    exact V_iret C0 dX12_craft_215
                  · have h := (if_neg c75).symm.trans h
                    have nd71 := nd_add nd71 c75
                    by_cases c76 : x1 = (13 : Int32)
                    · have h := (if_pos c76).symm.trans h
                      refine V_tableC C0 (tgt := 216) (v := (13 : Int32)) c76 (by decide) (by decide) dX12_craft_69 ?_
                      refine V_aload_n C0 0 rfl rfl dX12_craft_216 ?_
                      refine V_getI C0 11 26 fl_X12_262 c_x0.2 c_x0.1 rfl dX12_craft_217 ?_
                      cases h
                      exact V_iret C0 dX12_craft_220
                    · have h := (if_neg c76).symm.trans h
                      have nd71 := nd_add nd71 c76
                      by_cases c77 : x1 = (14 : Int32)
                      · have h := (if_pos c77).symm.trans h
                        refine V_tableC C0 (tgt := 221) (v := (14 : Int32)) c77 (by decide) (by decide) dX12_craft_69 ?_
                        refine V_aload_n C0 0 rfl rfl dX12_craft_221 ?_
                        refine V_getI C0 11 27 fl_X12_256 c_x0.2 c_x0.1 rfl dX12_craft_222 ?_
                        cases h
                        exact V_iret C0 dX12_craft_225
                      · have h := (if_neg c77).symm.trans h
                        have nd71 := nd_add nd71 c77
                        by_cases c78 : x1 = (15 : Int32)
                        · have h := (if_pos c78).symm.trans h
                          refine V_tableC C0 (tgt := 226) (v := (15 : Int32)) c78 (by decide) (by decide) dX12_craft_69 ?_
                          refine V_aload_n C0 0 rfl rfl dX12_craft_226 ?_
                          refine V_getI C0 11 28 fl_X12_208 c_x0.2 c_x0.1 rfl dX12_craft_227 ?_
                          cases h
                          exact V_iret C0 dX12_craft_230
                        · have h := (if_neg c78).symm.trans h
                          have nd71 := nd_add nd71 c78
                          by_cases c79 : x1 = (16 : Int32)
                          · have h := (if_pos c79).symm.trans h
                            refine V_tableC C0 (tgt := 231) (v := (16 : Int32)) c79 (by decide) (by decide) dX12_craft_69 ?_
                            refine V_aload_n C0 0 rfl rfl dX12_craft_231 ?_
                            refine V_getI C0 11 39 fl_X12_312 c_x0.2 c_x0.1 rfl dX12_craft_232 ?_
                            cases h
                            exact V_iret C0 dX12_craft_235
                          · have h := (if_neg c79).symm.trans h
                            have nd71 := nd_add nd71 c79
                            by_cases c80 : x1 = (17 : Int32)
                            · have h := (if_pos c80).symm.trans h
                              refine V_tableC C0 (tgt := 236) (v := (17 : Int32)) c80 (by decide) (by decide) dX12_craft_69 ?_
                              refine V_aload_n C0 0 rfl rfl dX12_craft_236 ?_
                              refine V_getI C0 11 40 fl_X12_315 c_x0.2 c_x0.1 rfl dX12_craft_237 ?_
                              cases h
                              exact V_iret C0 dX12_craft_240
                            · have h := (if_neg c80).symm.trans h
                              have nd71 := nd_add nd71 c80
                              by_cases c81 : x1 = (18 : Int32)
                              · have h := (if_pos c81).symm.trans h
                                refine V_tableC C0 (tgt := 241) (v := (18 : Int32)) c81 (by decide) (by decide) dX12_craft_69 ?_
                                refine V_aload_n C0 0 rfl rfl dX12_craft_241 ?_
                                refine V_getI C0 11 41 fl_X12_318 c_x0.2 c_x0.1 rfl dX12_craft_242 ?_
                                cases h
                                exact V_iret C0 dX12_craft_245
                              · have h := (if_neg c81).symm.trans h
                                have nd71 := nd_add nd71 c81
                                by_cases c82 : x1 = (19 : Int32)
                                · have h := (if_pos c82).symm.trans h
                                  refine V_tableC C0 (tgt := 246) (v := (19 : Int32)) c82 (by decide) (by decide) dX12_craft_69 ?_
                                  refine V_aload_n C0 0 rfl rfl dX12_craft_246 ?_
                                  refine V_getI C0 11 42 fl_X12_321 c_x0.2 c_x0.1 rfl dX12_craft_247 ?_
                                  cases h
                                  exact V_iret C0 dX12_craft_250
                                · have h := (if_neg c82).symm.trans h
                                  have nd71 := nd_add nd71 c82
                                  by_cases c83 : x1 = (20 : Int32)
                                  · have h := (if_pos c83).symm.trans h
                                    refine V_tableC C0 (tgt := 251) (v := (20 : Int32)) c83 (by decide) (by decide) dX12_craft_69 ?_
                                    refine V_aload_n C0 0 rfl rfl dX12_craft_251 ?_
                                    refine V_getI C0 11 43 fl_X12_324 c_x0.2 c_x0.1 rfl dX12_craft_252 ?_
                                    cases h
                                    exact V_iret C0 dX12_craft_255
                                  · have h := (if_neg c83).symm.trans h
                                    have nd71 := nd_add nd71 c83
                                    by_cases c84 : x1 = (21 : Int32)
                                    · have h := (if_pos c84).symm.trans h
                                      refine V_tableC C0 (tgt := 256) (v := (21 : Int32)) c84 (by decide) (by decide) dX12_craft_69 ?_
                                      refine V_aload_n C0 0 rfl rfl dX12_craft_256 ?_
                                      refine V_getI C0 11 44 fl_X12_327 c_x0.2 c_x0.1 rfl dX12_craft_257 ?_
                                      cases h
                                      exact V_iret C0 dX12_craft_260
                                    · have h := (if_neg c84).symm.trans h
                                      have nd71 := nd_add nd71 c84
                                      by_cases c85 : x1 = (22 : Int32)
                                      · have h := (if_pos c85).symm.trans h
                                        refine V_tableC C0 (tgt := 261) (v := (22 : Int32)) c85 (by decide) (by decide) dX12_craft_69 ?_
                                        refine V_aload_n C0 0 rfl rfl dX12_craft_261 ?_
                                        refine V_getI C0 11 45 fl_X12_330 c_x0.2 c_x0.1 rfl dX12_craft_262 ?_
                                        cases h
                                        exact V_iret C0 dX12_craft_265
                                      · have h := (if_neg c85).symm.trans h
                                        have nd71 := nd_add nd71 c85
                                        by_cases c86 : x1 = (23 : Int32)
                                        · have h := (if_pos c86).symm.trans h
                                          refine V_tableC C0 (tgt := 266) (v := (23 : Int32)) c86 (by decide) (by decide) dX12_craft_69 ?_
                                          refine V_aload_n C0 0 rfl rfl dX12_craft_266 ?_
                                          refine V_getI C0 11 46 fl_X12_333 c_x0.2 c_x0.1 rfl dX12_craft_267 ?_
                                          cases h
                                          exact V_iret C0 dX12_craft_270
                                        · have h := (if_neg c86).symm.trans h
                                          have nd71 := nd_add nd71 c86
                                          by_cases c87 : x1 = (24 : Int32)
                                          · have h := (if_pos c87).symm.trans h
                                            refine V_tableC C0 (tgt := 271) (v := (24 : Int32)) c87 (by decide) (by decide) dX12_craft_69 ?_
                                            refine V_aload_n C0 0 rfl rfl dX12_craft_271 ?_
                                            refine V_getI C0 11 54 fl_X12_345 c_x0.2 c_x0.1 rfl dX12_craft_272 ?_
                                            cases h
                                            exact V_iret C0 dX12_craft_275
                                          · have h := (if_neg c87).symm.trans h
                                            have nd71 := nd_add nd71 c87
                                            by_cases c88 : x1 = (25 : Int32)
                                            · have h := (if_pos c88).symm.trans h
                                              refine V_tableC C0 (tgt := 276) (v := (25 : Int32)) c88 (by decide) (by decide) dX12_craft_69 ?_
                                              refine V_aload_n C0 0 rfl rfl dX12_craft_276 ?_
                                              refine V_getI C0 11 47 fl_X12_336 c_x0.2 c_x0.1 rfl dX12_craft_277 ?_
                                              cases h
                                              exact V_iret C0 dX12_craft_280
                                            · have h := (if_neg c88).symm.trans h
                                              have nd71 := nd_add nd71 c88
                                              by_cases c89 : x1 = (26 : Int32)
                                              · have h := (if_pos c89).symm.trans h
                                                refine V_tableC C0 (tgt := 281) (v := (26 : Int32)) c89 (by decide) (by decide) dX12_craft_69 ?_
                                                refine V_aload_n C0 0 rfl rfl dX12_craft_281 ?_
                                                refine V_getI C0 11 48 fl_X12_339 c_x0.2 c_x0.1 rfl dX12_craft_282 ?_
                                                cases h
                                                exact V_iret C0 dX12_craft_285
                                              · have h := (if_neg c89).symm.trans h
                                                have nd71 := nd_add nd71 c89
                                                by_cases c90 : x1 = (27 : Int32)
                                                · have h := (if_pos c90).symm.trans h
                                                  refine V_tableC C0 (tgt := 286) (v := (27 : Int32)) c90 (by decide) (by decide) dX12_craft_69 ?_
                                                  refine V_aload_n C0 0 rfl rfl dX12_craft_286 ?_
                                                  refine V_getI C0 11 49 fl_X12_342 c_x0.2 c_x0.1 rfl dX12_craft_287 ?_
                                                  cases h
                                                  exact V_iret C0 dX12_craft_290
                                                · have h := (if_neg c90).symm.trans h
                                                  have nd71 := nd_add nd71 c90
                                                  refine V_tableN C0 (tgt := 291) nd71 (by decide) (by decide) dX12_craft_69 ?_
                                                  refine V_iconst C0 (v := (0 : Int32)) (by decide) dX12_craft_291 ?_
                                                  cases h
                                                  exact V_iret C0 dX12_craft_292
          · have h := (if_neg c70).symm.trans h
            refine V_aload_n C0 0 rfl rfl dX12_craft_58 ?_
            obtain ⟨a91, qa91, h⟩ := bnd_some h
            refine V_getR C0 11 38 fl_X12_74 c_x0.2 c_x0.1 rfl (rf_at qa91) dX12_craft_59 ?_
            refine V_iload_n C0 1 rfl rfl dX12_craft_62 ?_
            refine V_bipush C0 (v := (9 : Int32)) (by decide) dX12_craft_63 ?_
            refine V_isub C0 dX12_craft_65 ?_
            obtain ⟨v92, qv92, h⟩ := bnd_some h
            refine V_ri C0 (rf_lt qa91) (rf_kd qa91) qv92 dX12_craft_66 ?_
            cases h
            exact V_iret C0 dX12_craft_67
      · have h := (if_neg c48).symm.trans h
        refine V_aload_n C0 0 rfl rfl dX12_craft_36 ?_
        obtain ⟨a93, qa93, h⟩ := bnd_some h
        refine V_getR C0 11 37 fl_X12_71 c_x0.2 c_x0.1 rfl (rf_at qa93) dX12_craft_37 ?_
        refine V_iload_n C0 1 rfl rfl dX12_craft_40 ?_
        refine V_bipush C0 (v := (6 : Int32)) (by decide) dX12_craft_41 ?_
        refine V_isub C0 dX12_craft_43 ?_
        obtain ⟨v94, qv94, h⟩ := bnd_some h
        refine V_ri C0 (rf_lt qa93) (rf_kd qa93) qv94 dX12_craft_44 ?_
        cases h
        exact V_iret C0 dX12_craft_45
  · have h := (if_neg c2).symm.trans h
    refine V_iload_n C0 1 rfl rfl dX12_craft_10 ?_
    refine V_iconst C0 (v := (5 : Int32)) (by decide) dX12_craft_11 ?_
    refine V_icmp_gt C0 (tgt := 24) (by decide) dX12_craft_12 (fun c95 => ?_) (fun c95 => ?_)
    · have h := (if_pos c95).symm.trans h
      refine V_iload_n C0 1 rfl rfl dX12_craft_24 ?_
      refine V_bipush C0 (v := (6 : Int32)) (by decide) dX12_craft_25 ?_
      refine V_icmp_lt C0 (tgt := 46) (by decide) dX12_craft_27 (fun c96 => ?_) (fun c96 => ?_)
      · have h := (if_pos c96).symm.trans h
        refine V_iload_n C0 1 rfl rfl dX12_craft_46 ?_
        refine V_bipush C0 (v := (9 : Int32)) (by decide) dX12_craft_47 ?_
        refine V_icmp_lt C0 (tgt := 68) (by decide) dX12_craft_49 (fun c97 => ?_) (fun c97 => ?_)
        · have h := (if_pos c97).symm.trans h
          refine V_iload_n C0 1 rfl rfl dX12_craft_68 ?_
          have nd98 := nd_0 x1
          by_cases c99 : x1 = (0 : Int32)
          · have h := (if_pos c99).symm.trans h
            refine V_tableC C0 (tgt := 196) (v := (0 : Int32)) c99 (by decide) (by decide) dX12_craft_69 ?_
            refine V_aload_n C0 0 rfl rfl dX12_craft_196 ?_
            refine V_getI C0 11 21 fl_X12_297 c_x0.2 c_x0.1 rfl dX12_craft_197 ?_
            cases h
            exact V_iret C0 dX12_craft_200
          · have h := (if_neg c99).symm.trans h
            have nd98 := nd_add nd98 c99
            by_cases c100 : x1 = (1 : Int32)
            · have h := (if_pos c100).symm.trans h
              refine V_tableC C0 (tgt := 201) (v := (1 : Int32)) c100 (by decide) (by decide) dX12_craft_69 ?_
              refine V_aload_n C0 0 rfl rfl dX12_craft_201 ?_
              refine V_getI C0 11 34 fl_X12_306 c_x0.2 c_x0.1 rfl dX12_craft_202 ?_
              cases h
              exact V_iret C0 dX12_craft_205
            · have h := (if_neg c100).symm.trans h
              have nd98 := nd_add nd98 c100
              by_cases c101 : x1 = (2 : Int32)
              · have h := (if_pos c101).symm.trans h
                refine V_tableC C0 (tgt := 206) (v := (2 : Int32)) c101 (by decide) (by decide) dX12_craft_69 ?_
                refine V_aload_n C0 0 rfl rfl dX12_craft_206 ?_
                refine V_getI C0 11 35 fl_X12_309 c_x0.2 c_x0.1 rfl dX12_craft_207 ?_
                cases h
                exact V_iret C0 dX12_craft_210
              · have h := (if_neg c101).symm.trans h
                have nd98 := nd_add nd98 c101
                by_cases c102 : x1 = (12 : Int32)
                · have h := (if_pos c102).symm.trans h
                  refine V_tableC C0 (tgt := 211) (v := (12 : Int32)) c102 (by decide) (by decide) dX12_craft_69 ?_
                  refine V_aload_n C0 0 rfl rfl dX12_craft_211 ?_
                  refine V_getI C0 11 25 fl_X12_205 c_x0.2 c_x0.1 rfl dX12_craft_212 ?_
                  cases h
                  exact V_iret C0 dX12_craft_215
                · have h := (if_neg c102).symm.trans h
                  have nd98 := nd_add nd98 c102
                  by_cases c103 : x1 = (13 : Int32)
                  · have h := (if_pos c103).symm.trans h
                    refine V_tableC C0 (tgt := 216) (v := (13 : Int32)) c103 (by decide) (by decide) dX12_craft_69 ?_
                    refine V_aload_n C0 0 rfl rfl dX12_craft_216 ?_
                    refine V_getI C0 11 26 fl_X12_262 c_x0.2 c_x0.1 rfl dX12_craft_217 ?_
                    cases h
                    exact V_iret C0 dX12_craft_220
                  · have h := (if_neg c103).symm.trans h
                    have nd98 := nd_add nd98 c103
                    by_cases c104 : x1 = (14 : Int32)
                    · have h := (if_pos c104).symm.trans h
                      refine V_tableC C0 (tgt := 221) (v := (14 : Int32)) c104 (by decide) (by decide) dX12_craft_69 ?_
                      refine V_aload_n C0 0 rfl rfl dX12_craft_221 ?_
                      refine V_getI C0 11 27 fl_X12_256 c_x0.2 c_x0.1 rfl dX12_craft_222 ?_
                      cases h
                      exact V_iret C0 dX12_craft_225
                    · have h := (if_neg c104).symm.trans h
                      have nd98 := nd_add nd98 c104
                      by_cases c105 : x1 = (15 : Int32)
                      · have h := (if_pos c105).symm.trans h
                        refine V_tableC C0 (tgt := 226) (v := (15 : Int32)) c105 (by decide) (by decide) dX12_craft_69 ?_
                        refine V_aload_n C0 0 rfl rfl dX12_craft_226 ?_
                        refine V_getI C0 11 28 fl_X12_208 c_x0.2 c_x0.1 rfl dX12_craft_227 ?_
                        cases h
                        exact V_iret C0 dX12_craft_230
                      · have h := (if_neg c105).symm.trans h
                        have nd98 := nd_add nd98 c105
                        by_cases c106 : x1 = (16 : Int32)
                        · have h := (if_pos c106).symm.trans h
                          refine V_tableC C0 (tgt := 231) (v := (16 : Int32)) c106 (by decide) (by decide) dX12_craft_69 ?_
                          refine V_aload_n C0 0 rfl rfl dX12_craft_231 ?_
                          refine V_getI C0 11 39 fl_X12_312 c_x0.2 c_x0.1 rfl dX12_craft_232 ?_
                          cases h
                          exact V_iret C0 dX12_craft_235
                        · have h := (if_neg c106).symm.trans h
                          have nd98 := nd_add nd98 c106
                          by_cases c107 : x1 = (17 : Int32)
                          · have h := (if_pos c107).symm.trans h
                            refine V_tableC C0 (tgt := 236) (v := (17 : Int32)) c107 (by decide) (by decide) dX12_craft_69 ?_
                            refine V_aload_n C0 0 rfl rfl dX12_craft_236 ?_
                            refine V_getI C0 11 40 fl_X12_315 c_x0.2 c_x0.1 rfl dX12_craft_237 ?_
                            cases h
                            exact V_iret C0 dX12_craft_240
                          · have h := (if_neg c107).symm.trans h
                            have nd98 := nd_add nd98 c107
                            by_cases c108 : x1 = (18 : Int32)
                            · have h := (if_pos c108).symm.trans h
                              refine V_tableC C0 (tgt := 241) (v := (18 : Int32)) c108 (by decide) (by decide) dX12_craft_69 ?_
                              refine V_aload_n C0 0 rfl rfl dX12_craft_241 ?_
                              refine V_getI C0 11 41 fl_X12_318 c_x0.2 c_x0.1 rfl dX12_craft_242 ?_
                              cases h
                              exact V_iret C0 dX12_craft_245
                            · have h := (if_neg c108).symm.trans h
                              have nd98 := nd_add nd98 c108
                              by_cases c109 : x1 = (19 : Int32)
                              · have h := (if_pos c109).symm.trans h
                                refine V_tableC C0 (tgt := 246) (v := (19 : Int32)) c109 (by decide) (by decide) dX12_craft_69 ?_
                                refine V_aload_n C0 0 rfl rfl dX12_craft_246 ?_
                                refine V_getI C0 11 42 fl_X12_321 c_x0.2 c_x0.1 rfl dX12_craft_247 ?_
                                cases h
                                exact V_iret C0 dX12_craft_250
                              · have h := (if_neg c109).symm.trans h
                                have nd98 := nd_add nd98 c109
                                by_cases c110 : x1 = (20 : Int32)
                                · have h := (if_pos c110).symm.trans h
                                  refine V_tableC C0 (tgt := 251) (v := (20 : Int32)) c110 (by decide) (by decide) dX12_craft_69 ?_
                                  refine V_aload_n C0 0 rfl rfl dX12_craft_251 ?_
                                  refine V_getI C0 11 43 fl_X12_324 c_x0.2 c_x0.1 rfl dX12_craft_252 ?_
                                  cases h
                                  exact V_iret C0 dX12_craft_255
                                · have h := (if_neg c110).symm.trans h
                                  have nd98 := nd_add nd98 c110
                                  by_cases c111 : x1 = (21 : Int32)
                                  · have h := (if_pos c111).symm.trans h
                                    refine V_tableC C0 (tgt := 256) (v := (21 : Int32)) c111 (by decide) (by decide) dX12_craft_69 ?_
                                    refine V_aload_n C0 0 rfl rfl dX12_craft_256 ?_
                                    refine V_getI C0 11 44 fl_X12_327 c_x0.2 c_x0.1 rfl dX12_craft_257 ?_
                                    cases h
                                    exact V_iret C0 dX12_craft_260
                                  · have h := (if_neg c111).symm.trans h
                                    have nd98 := nd_add nd98 c111
                                    by_cases c112 : x1 = (22 : Int32)
                                    · have h := (if_pos c112).symm.trans h
                                      refine V_tableC C0 (tgt := 261) (v := (22 : Int32)) c112 (by decide) (by decide) dX12_craft_69 ?_
                                      refine V_aload_n C0 0 rfl rfl dX12_craft_261 ?_
                                      refine V_getI C0 11 45 fl_X12_330 c_x0.2 c_x0.1 rfl dX12_craft_262 ?_
                                      cases h
                                      exact V_iret C0 dX12_craft_265
                                    · have h := (if_neg c112).symm.trans h
                                      have nd98 := nd_add nd98 c112
                                      by_cases c113 : x1 = (23 : Int32)
                                      · have h := (if_pos c113).symm.trans h
                                        refine V_tableC C0 (tgt := 266) (v := (23 : Int32)) c113 (by decide) (by decide) dX12_craft_69 ?_
                                        refine V_aload_n C0 0 rfl rfl dX12_craft_266 ?_
                                        refine V_getI C0 11 46 fl_X12_333 c_x0.2 c_x0.1 rfl dX12_craft_267 ?_
                                        cases h
                                        exact V_iret C0 dX12_craft_270
                                      · have h := (if_neg c113).symm.trans h
                                        have nd98 := nd_add nd98 c113
                                        by_cases c114 : x1 = (24 : Int32)
                                        · have h := (if_pos c114).symm.trans h
                                          refine V_tableC C0 (tgt := 271) (v := (24 : Int32)) c114 (by decide) (by decide) dX12_craft_69 ?_
                                          refine V_aload_n C0 0 rfl rfl dX12_craft_271 ?_
                                          refine V_getI C0 11 54 fl_X12_345 c_x0.2 c_x0.1 rfl dX12_craft_272 ?_
                                          cases h
                                          exact V_iret C0 dX12_craft_275
                                        · have h := (if_neg c114).symm.trans h
                                          have nd98 := nd_add nd98 c114
                                          by_cases c115 : x1 = (25 : Int32)
                                          · have h := (if_pos c115).symm.trans h
                                            refine V_tableC C0 (tgt := 276) (v := (25 : Int32)) c115 (by decide) (by decide) dX12_craft_69 ?_
                                            refine V_aload_n C0 0 rfl rfl dX12_craft_276 ?_
                                            refine V_getI C0 11 47 fl_X12_336 c_x0.2 c_x0.1 rfl dX12_craft_277 ?_
                                            cases h
                                            exact V_iret C0 dX12_craft_280
                                          · have h := (if_neg c115).symm.trans h
                                            have nd98 := nd_add nd98 c115
                                            by_cases c116 : x1 = (26 : Int32)
                                            · have h := (if_pos c116).symm.trans h
                                              refine V_tableC C0 (tgt := 281) (v := (26 : Int32)) c116 (by decide) (by decide) dX12_craft_69 ?_
                                              refine V_aload_n C0 0 rfl rfl dX12_craft_281 ?_
                                              refine V_getI C0 11 48 fl_X12_339 c_x0.2 c_x0.1 rfl dX12_craft_282 ?_
                                              cases h
                                              exact V_iret C0 dX12_craft_285
                                            · have h := (if_neg c116).symm.trans h
                                              have nd98 := nd_add nd98 c116
                                              by_cases c117 : x1 = (27 : Int32)
                                              · have h := (if_pos c117).symm.trans h
                                                refine V_tableC C0 (tgt := 286) (v := (27 : Int32)) c117 (by decide) (by decide) dX12_craft_69 ?_
                                                refine V_aload_n C0 0 rfl rfl dX12_craft_286 ?_
                                                refine V_getI C0 11 49 fl_X12_342 c_x0.2 c_x0.1 rfl dX12_craft_287 ?_
                                                cases h
                                                exact V_iret C0 dX12_craft_290
                                              · have h := (if_neg c117).symm.trans h
                                                have nd98 := nd_add nd98 c117
                                                refine V_tableN C0 (tgt := 291) nd98 (by decide) (by decide) dX12_craft_69 ?_
                                                refine V_iconst C0 (v := (0 : Int32)) (by decide) dX12_craft_291 ?_
                                                cases h
                                                exact V_iret C0 dX12_craft_292
        · have h := (if_neg c97).symm.trans h
          refine V_iload_n C0 1 rfl rfl dX12_craft_52 ?_
          refine V_bipush C0 (v := (11 : Int32)) (by decide) dX12_craft_53 ?_
          refine V_icmp_gt C0 (tgt := 68) (by decide) dX12_craft_55 (fun c118 => ?_) (fun c118 => ?_)
          · have h := (if_pos c118).symm.trans h
            refine V_iload_n C0 1 rfl rfl dX12_craft_68 ?_
            have nd119 := nd_0 x1
            by_cases c120 : x1 = (0 : Int32)
            · have h := (if_pos c120).symm.trans h
              refine V_tableC C0 (tgt := 196) (v := (0 : Int32)) c120 (by decide) (by decide) dX12_craft_69 ?_
              refine V_aload_n C0 0 rfl rfl dX12_craft_196 ?_
              refine V_getI C0 11 21 fl_X12_297 c_x0.2 c_x0.1 rfl dX12_craft_197 ?_
              cases h
              exact V_iret C0 dX12_craft_200
            · have h := (if_neg c120).symm.trans h
              have nd119 := nd_add nd119 c120
              by_cases c121 : x1 = (1 : Int32)
              · have h := (if_pos c121).symm.trans h
                refine V_tableC C0 (tgt := 201) (v := (1 : Int32)) c121 (by decide) (by decide) dX12_craft_69 ?_
                refine V_aload_n C0 0 rfl rfl dX12_craft_201 ?_
                refine V_getI C0 11 34 fl_X12_306 c_x0.2 c_x0.1 rfl dX12_craft_202 ?_
                cases h
                exact V_iret C0 dX12_craft_205
              · have h := (if_neg c121).symm.trans h
                have nd119 := nd_add nd119 c121
                by_cases c122 : x1 = (2 : Int32)
                · have h := (if_pos c122).symm.trans h
                  refine V_tableC C0 (tgt := 206) (v := (2 : Int32)) c122 (by decide) (by decide) dX12_craft_69 ?_
                  refine V_aload_n C0 0 rfl rfl dX12_craft_206 ?_
                  refine V_getI C0 11 35 fl_X12_309 c_x0.2 c_x0.1 rfl dX12_craft_207 ?_
                  cases h
                  exact V_iret C0 dX12_craft_210
                · have h := (if_neg c122).symm.trans h
                  have nd119 := nd_add nd119 c122
                  by_cases c123 : x1 = (12 : Int32)
                  · have h := (if_pos c123).symm.trans h
                    refine V_tableC C0 (tgt := 211) (v := (12 : Int32)) c123 (by decide) (by decide) dX12_craft_69 ?_
                    refine V_aload_n C0 0 rfl rfl dX12_craft_211 ?_
                    refine V_getI C0 11 25 fl_X12_205 c_x0.2 c_x0.1 rfl dX12_craft_212 ?_
                    cases h
                    exact V_iret C0 dX12_craft_215
                  · have h := (if_neg c123).symm.trans h
                    have nd119 := nd_add nd119 c123
                    by_cases c124 : x1 = (13 : Int32)
                    · have h := (if_pos c124).symm.trans h
                      refine V_tableC C0 (tgt := 216) (v := (13 : Int32)) c124 (by decide) (by decide) dX12_craft_69 ?_
                      refine V_aload_n C0 0 rfl rfl dX12_craft_216 ?_
                      refine V_getI C0 11 26 fl_X12_262 c_x0.2 c_x0.1 rfl dX12_craft_217 ?_
                      cases h
                      exact V_iret C0 dX12_craft_220
                    · have h := (if_neg c124).symm.trans h
                      have nd119 := nd_add nd119 c124
                      by_cases c125 : x1 = (14 : Int32)
                      · have h := (if_pos c125).symm.trans h
                        refine V_tableC C0 (tgt := 221) (v := (14 : Int32)) c125 (by decide) (by decide) dX12_craft_69 ?_
                        refine V_aload_n C0 0 rfl rfl dX12_craft_221 ?_
                        refine V_getI C0 11 27 fl_X12_256 c_x0.2 c_x0.1 rfl dX12_craft_222 ?_
                        cases h
                        exact V_iret C0 dX12_craft_225
                      · have h := (if_neg c125).symm.trans h
                        have nd119 := nd_add nd119 c125
                        by_cases c126 : x1 = (15 : Int32)
                        · have h := (if_pos c126).symm.trans h
                          refine V_tableC C0 (tgt := 226) (v := (15 : Int32)) c126 (by decide) (by decide) dX12_craft_69 ?_
                          refine V_aload_n C0 0 rfl rfl dX12_craft_226 ?_
                          refine V_getI C0 11 28 fl_X12_208 c_x0.2 c_x0.1 rfl dX12_craft_227 ?_
                          cases h
                          exact V_iret C0 dX12_craft_230
                        · have h := (if_neg c126).symm.trans h
                          have nd119 := nd_add nd119 c126
                          by_cases c127 : x1 = (16 : Int32)
                          · have h := (if_pos c127).symm.trans h
                            refine V_tableC C0 (tgt := 231) (v := (16 : Int32)) c127 (by decide) (by decide) dX12_craft_69 ?_
                            refine V_aload_n C0 0 rfl rfl dX12_craft_231 ?_
                            refine V_getI C0 11 39 fl_X12_312 c_x0.2 c_x0.1 rfl dX12_craft_232 ?_
                            cases h
                            exact V_iret C0 dX12_craft_235
                          · have h := (if_neg c127).symm.trans h
                            have nd119 := nd_add nd119 c127
                            by_cases c128 : x1 = (17 : Int32)
                            · have h := (if_pos c128).symm.trans h
                              refine V_tableC C0 (tgt := 236) (v := (17 : Int32)) c128 (by decide) (by decide) dX12_craft_69 ?_
                              refine V_aload_n C0 0 rfl rfl dX12_craft_236 ?_
                              refine V_getI C0 11 40 fl_X12_315 c_x0.2 c_x0.1 rfl dX12_craft_237 ?_
                              cases h
                              exact V_iret C0 dX12_craft_240
                            · have h := (if_neg c128).symm.trans h
                              have nd119 := nd_add nd119 c128
                              by_cases c129 : x1 = (18 : Int32)
                              · have h := (if_pos c129).symm.trans h
                                refine V_tableC C0 (tgt := 241) (v := (18 : Int32)) c129 (by decide) (by decide) dX12_craft_69 ?_
                                refine V_aload_n C0 0 rfl rfl dX12_craft_241 ?_
                                refine V_getI C0 11 41 fl_X12_318 c_x0.2 c_x0.1 rfl dX12_craft_242 ?_
                                cases h
                                exact V_iret C0 dX12_craft_245
                              · have h := (if_neg c129).symm.trans h
                                have nd119 := nd_add nd119 c129
                                by_cases c130 : x1 = (19 : Int32)
                                · have h := (if_pos c130).symm.trans h
                                  refine V_tableC C0 (tgt := 246) (v := (19 : Int32)) c130 (by decide) (by decide) dX12_craft_69 ?_
                                  refine V_aload_n C0 0 rfl rfl dX12_craft_246 ?_
                                  refine V_getI C0 11 42 fl_X12_321 c_x0.2 c_x0.1 rfl dX12_craft_247 ?_
                                  cases h
                                  exact V_iret C0 dX12_craft_250
                                · have h := (if_neg c130).symm.trans h
                                  have nd119 := nd_add nd119 c130
                                  by_cases c131 : x1 = (20 : Int32)
                                  · have h := (if_pos c131).symm.trans h
                                    refine V_tableC C0 (tgt := 251) (v := (20 : Int32)) c131 (by decide) (by decide) dX12_craft_69 ?_
                                    refine V_aload_n C0 0 rfl rfl dX12_craft_251 ?_
                                    refine V_getI C0 11 43 fl_X12_324 c_x0.2 c_x0.1 rfl dX12_craft_252 ?_
                                    cases h
                                    exact V_iret C0 dX12_craft_255
                                  · have h := (if_neg c131).symm.trans h
                                    have nd119 := nd_add nd119 c131
                                    by_cases c132 : x1 = (21 : Int32)
                                    · have h := (if_pos c132).symm.trans h
                                      refine V_tableC C0 (tgt := 256) (v := (21 : Int32)) c132 (by decide) (by decide) dX12_craft_69 ?_
                                      refine V_aload_n C0 0 rfl rfl dX12_craft_256 ?_
                                      refine V_getI C0 11 44 fl_X12_327 c_x0.2 c_x0.1 rfl dX12_craft_257 ?_
                                      cases h
                                      exact V_iret C0 dX12_craft_260
                                    · have h := (if_neg c132).symm.trans h
                                      have nd119 := nd_add nd119 c132
                                      by_cases c133 : x1 = (22 : Int32)
                                      · have h := (if_pos c133).symm.trans h
                                        refine V_tableC C0 (tgt := 261) (v := (22 : Int32)) c133 (by decide) (by decide) dX12_craft_69 ?_
                                        refine V_aload_n C0 0 rfl rfl dX12_craft_261 ?_
                                        refine V_getI C0 11 45 fl_X12_330 c_x0.2 c_x0.1 rfl dX12_craft_262 ?_
                                        cases h
                                        exact V_iret C0 dX12_craft_265
                                      · have h := (if_neg c133).symm.trans h
                                        have nd119 := nd_add nd119 c133
                                        by_cases c134 : x1 = (23 : Int32)
                                        · have h := (if_pos c134).symm.trans h
                                          refine V_tableC C0 (tgt := 266) (v := (23 : Int32)) c134 (by decide) (by decide) dX12_craft_69 ?_
                                          refine V_aload_n C0 0 rfl rfl dX12_craft_266 ?_
                                          refine V_getI C0 11 46 fl_X12_333 c_x0.2 c_x0.1 rfl dX12_craft_267 ?_
                                          cases h
                                          exact V_iret C0 dX12_craft_270
                                        · have h := (if_neg c134).symm.trans h
                                          have nd119 := nd_add nd119 c134
                                          by_cases c135 : x1 = (24 : Int32)
                                          · have h := (if_pos c135).symm.trans h
                                            refine V_tableC C0 (tgt := 271) (v := (24 : Int32)) c135 (by decide) (by decide) dX12_craft_69 ?_
                                            refine V_aload_n C0 0 rfl rfl dX12_craft_271 ?_
                                            refine V_getI C0 11 54 fl_X12_345 c_x0.2 c_x0.1 rfl dX12_craft_272 ?_
                                            cases h
                                            exact V_iret C0 dX12_craft_275
                                          · have h := (if_neg c135).symm.trans h
                                            have nd119 := nd_add nd119 c135
                                            by_cases c136 : x1 = (25 : Int32)
                                            · have h := (if_pos c136).symm.trans h
                                              refine V_tableC C0 (tgt := 276) (v := (25 : Int32)) c136 (by decide) (by decide) dX12_craft_69 ?_
                                              refine V_aload_n C0 0 rfl rfl dX12_craft_276 ?_
                                              refine V_getI C0 11 47 fl_X12_336 c_x0.2 c_x0.1 rfl dX12_craft_277 ?_
                                              cases h
                                              exact V_iret C0 dX12_craft_280
                                            · have h := (if_neg c136).symm.trans h
                                              have nd119 := nd_add nd119 c136
                                              by_cases c137 : x1 = (26 : Int32)
                                              · have h := (if_pos c137).symm.trans h
                                                refine V_tableC C0 (tgt := 281) (v := (26 : Int32)) c137 (by decide) (by decide) dX12_craft_69 ?_
                                                refine V_aload_n C0 0 rfl rfl dX12_craft_281 ?_
                                                refine V_getI C0 11 48 fl_X12_339 c_x0.2 c_x0.1 rfl dX12_craft_282 ?_
                                                cases h
                                                exact V_iret C0 dX12_craft_285
                                              · have h := (if_neg c137).symm.trans h
                                                have nd119 := nd_add nd119 c137
                                                by_cases c138 : x1 = (27 : Int32)
                                                · have h := (if_pos c138).symm.trans h
                                                  refine V_tableC C0 (tgt := 286) (v := (27 : Int32)) c138 (by decide) (by decide) dX12_craft_69 ?_
                                                  refine V_aload_n C0 0 rfl rfl dX12_craft_286 ?_
                                                  refine V_getI C0 11 49 fl_X12_342 c_x0.2 c_x0.1 rfl dX12_craft_287 ?_
                                                  cases h
                                                  exact V_iret C0 dX12_craft_290
                                                · have h := (if_neg c138).symm.trans h
                                                  have nd119 := nd_add nd119 c138
                                                  refine V_tableN C0 (tgt := 291) nd119 (by decide) (by decide) dX12_craft_69 ?_
                                                  refine V_iconst C0 (v := (0 : Int32)) (by decide) dX12_craft_291 ?_
                                                  cases h
                                                  exact V_iret C0 dX12_craft_292
          · have h := (if_neg c118).symm.trans h
            refine V_aload_n C0 0 rfl rfl dX12_craft_58 ?_
            obtain ⟨a139, qa139, h⟩ := bnd_some h
            refine V_getR C0 11 38 fl_X12_74 c_x0.2 c_x0.1 rfl (rf_at qa139) dX12_craft_59 ?_
            refine V_iload_n C0 1 rfl rfl dX12_craft_62 ?_
            refine V_bipush C0 (v := (9 : Int32)) (by decide) dX12_craft_63 ?_
            refine V_isub C0 dX12_craft_65 ?_
            obtain ⟨v140, qv140, h⟩ := bnd_some h
            refine V_ri C0 (rf_lt qa139) (rf_kd qa139) qv140 dX12_craft_66 ?_
            cases h
            exact V_iret C0 dX12_craft_67
      · have h := (if_neg c96).symm.trans h
        refine V_iload_n C0 1 rfl rfl dX12_craft_30 ?_
        refine V_bipush C0 (v := (8 : Int32)) (by decide) dX12_craft_31 ?_
        refine V_icmp_gt C0 (tgt := 46) (by decide) dX12_craft_33 (fun c141 => ?_) (fun c141 => ?_)
        · have h := (if_pos c141).symm.trans h
          refine V_iload_n C0 1 rfl rfl dX12_craft_46 ?_
          refine V_bipush C0 (v := (9 : Int32)) (by decide) dX12_craft_47 ?_
          refine V_icmp_lt C0 (tgt := 68) (by decide) dX12_craft_49 (fun c142 => ?_) (fun c142 => ?_)
          · have h := (if_pos c142).symm.trans h
            refine V_iload_n C0 1 rfl rfl dX12_craft_68 ?_
            have nd143 := nd_0 x1
            by_cases c144 : x1 = (0 : Int32)
            · have h := (if_pos c144).symm.trans h
              refine V_tableC C0 (tgt := 196) (v := (0 : Int32)) c144 (by decide) (by decide) dX12_craft_69 ?_
              refine V_aload_n C0 0 rfl rfl dX12_craft_196 ?_
              refine V_getI C0 11 21 fl_X12_297 c_x0.2 c_x0.1 rfl dX12_craft_197 ?_
              cases h
              exact V_iret C0 dX12_craft_200
            · have h := (if_neg c144).symm.trans h
              have nd143 := nd_add nd143 c144
              by_cases c145 : x1 = (1 : Int32)
              · have h := (if_pos c145).symm.trans h
                refine V_tableC C0 (tgt := 201) (v := (1 : Int32)) c145 (by decide) (by decide) dX12_craft_69 ?_
                refine V_aload_n C0 0 rfl rfl dX12_craft_201 ?_
                refine V_getI C0 11 34 fl_X12_306 c_x0.2 c_x0.1 rfl dX12_craft_202 ?_
                cases h
                exact V_iret C0 dX12_craft_205
              · have h := (if_neg c145).symm.trans h
                have nd143 := nd_add nd143 c145
                by_cases c146 : x1 = (2 : Int32)
                · have h := (if_pos c146).symm.trans h
                  refine V_tableC C0 (tgt := 206) (v := (2 : Int32)) c146 (by decide) (by decide) dX12_craft_69 ?_
                  refine V_aload_n C0 0 rfl rfl dX12_craft_206 ?_
                  refine V_getI C0 11 35 fl_X12_309 c_x0.2 c_x0.1 rfl dX12_craft_207 ?_
                  cases h
                  exact V_iret C0 dX12_craft_210
                · have h := (if_neg c146).symm.trans h
                  have nd143 := nd_add nd143 c146
                  by_cases c147 : x1 = (12 : Int32)
                  · have h := (if_pos c147).symm.trans h
                    refine V_tableC C0 (tgt := 211) (v := (12 : Int32)) c147 (by decide) (by decide) dX12_craft_69 ?_
                    refine V_aload_n C0 0 rfl rfl dX12_craft_211 ?_
                    refine V_getI C0 11 25 fl_X12_205 c_x0.2 c_x0.1 rfl dX12_craft_212 ?_
                    cases h
                    exact V_iret C0 dX12_craft_215
                  · have h := (if_neg c147).symm.trans h
                    have nd143 := nd_add nd143 c147
                    by_cases c148 : x1 = (13 : Int32)
                    · have h := (if_pos c148).symm.trans h
                      refine V_tableC C0 (tgt := 216) (v := (13 : Int32)) c148 (by decide) (by decide) dX12_craft_69 ?_
                      refine V_aload_n C0 0 rfl rfl dX12_craft_216 ?_
                      refine V_getI C0 11 26 fl_X12_262 c_x0.2 c_x0.1 rfl dX12_craft_217 ?_
                      cases h
                      exact V_iret C0 dX12_craft_220
                    · have h := (if_neg c148).symm.trans h
                      have nd143 := nd_add nd143 c148
                      by_cases c149 : x1 = (14 : Int32)
                      · have h := (if_pos c149).symm.trans h
                        refine V_tableC C0 (tgt := 221) (v := (14 : Int32)) c149 (by decide) (by decide) dX12_craft_69 ?_
                        refine V_aload_n C0 0 rfl rfl dX12_craft_221 ?_
                        refine V_getI C0 11 27 fl_X12_256 c_x0.2 c_x0.1 rfl dX12_craft_222 ?_
                        cases h
                        exact V_iret C0 dX12_craft_225
                      · have h := (if_neg c149).symm.trans h
                        have nd143 := nd_add nd143 c149
                        by_cases c150 : x1 = (15 : Int32)
                        · have h := (if_pos c150).symm.trans h
                          refine V_tableC C0 (tgt := 226) (v := (15 : Int32)) c150 (by decide) (by decide) dX12_craft_69 ?_
                          refine V_aload_n C0 0 rfl rfl dX12_craft_226 ?_
                          refine V_getI C0 11 28 fl_X12_208 c_x0.2 c_x0.1 rfl dX12_craft_227 ?_
                          cases h
                          exact V_iret C0 dX12_craft_230
                        · have h := (if_neg c150).symm.trans h
                          have nd143 := nd_add nd143 c150
                          by_cases c151 : x1 = (16 : Int32)
                          · have h := (if_pos c151).symm.trans h
                            refine V_tableC C0 (tgt := 231) (v := (16 : Int32)) c151 (by decide) (by decide) dX12_craft_69 ?_
                            refine V_aload_n C0 0 rfl rfl dX12_craft_231 ?_
                            refine V_getI C0 11 39 fl_X12_312 c_x0.2 c_x0.1 rfl dX12_craft_232 ?_
                            cases h
                            exact V_iret C0 dX12_craft_235
                          · have h := (if_neg c151).symm.trans h
                            have nd143 := nd_add nd143 c151
                            by_cases c152 : x1 = (17 : Int32)
                            · have h := (if_pos c152).symm.trans h
                              refine V_tableC C0 (tgt := 236) (v := (17 : Int32)) c152 (by decide) (by decide) dX12_craft_69 ?_
                              refine V_aload_n C0 0 rfl rfl dX12_craft_236 ?_
                              refine V_getI C0 11 40 fl_X12_315 c_x0.2 c_x0.1 rfl dX12_craft_237 ?_
                              cases h
                              exact V_iret C0 dX12_craft_240
                            · have h := (if_neg c152).symm.trans h
                              have nd143 := nd_add nd143 c152
                              by_cases c153 : x1 = (18 : Int32)
                              · have h := (if_pos c153).symm.trans h
                                refine V_tableC C0 (tgt := 241) (v := (18 : Int32)) c153 (by decide) (by decide) dX12_craft_69 ?_
                                refine V_aload_n C0 0 rfl rfl dX12_craft_241 ?_
                                refine V_getI C0 11 41 fl_X12_318 c_x0.2 c_x0.1 rfl dX12_craft_242 ?_
                                cases h
                                exact V_iret C0 dX12_craft_245
                              · have h := (if_neg c153).symm.trans h
                                have nd143 := nd_add nd143 c153
                                by_cases c154 : x1 = (19 : Int32)
                                · have h := (if_pos c154).symm.trans h
                                  refine V_tableC C0 (tgt := 246) (v := (19 : Int32)) c154 (by decide) (by decide) dX12_craft_69 ?_
                                  refine V_aload_n C0 0 rfl rfl dX12_craft_246 ?_
                                  refine V_getI C0 11 42 fl_X12_321 c_x0.2 c_x0.1 rfl dX12_craft_247 ?_
                                  cases h
                                  exact V_iret C0 dX12_craft_250
                                · have h := (if_neg c154).symm.trans h
                                  have nd143 := nd_add nd143 c154
                                  by_cases c155 : x1 = (20 : Int32)
                                  · have h := (if_pos c155).symm.trans h
                                    refine V_tableC C0 (tgt := 251) (v := (20 : Int32)) c155 (by decide) (by decide) dX12_craft_69 ?_
                                    refine V_aload_n C0 0 rfl rfl dX12_craft_251 ?_
                                    refine V_getI C0 11 43 fl_X12_324 c_x0.2 c_x0.1 rfl dX12_craft_252 ?_
                                    cases h
                                    exact V_iret C0 dX12_craft_255
                                  · have h := (if_neg c155).symm.trans h
                                    have nd143 := nd_add nd143 c155
                                    by_cases c156 : x1 = (21 : Int32)
                                    · have h := (if_pos c156).symm.trans h
                                      refine V_tableC C0 (tgt := 256) (v := (21 : Int32)) c156 (by decide) (by decide) dX12_craft_69 ?_
                                      refine V_aload_n C0 0 rfl rfl dX12_craft_256 ?_
                                      refine V_getI C0 11 44 fl_X12_327 c_x0.2 c_x0.1 rfl dX12_craft_257 ?_
                                      cases h
                                      exact V_iret C0 dX12_craft_260
                                    · have h := (if_neg c156).symm.trans h
                                      have nd143 := nd_add nd143 c156
                                      by_cases c157 : x1 = (22 : Int32)
                                      · have h := (if_pos c157).symm.trans h
                                        refine V_tableC C0 (tgt := 261) (v := (22 : Int32)) c157 (by decide) (by decide) dX12_craft_69 ?_
                                        refine V_aload_n C0 0 rfl rfl dX12_craft_261 ?_
                                        refine V_getI C0 11 45 fl_X12_330 c_x0.2 c_x0.1 rfl dX12_craft_262 ?_
                                        cases h
                                        exact V_iret C0 dX12_craft_265
                                      · have h := (if_neg c157).symm.trans h
                                        have nd143 := nd_add nd143 c157
                                        by_cases c158 : x1 = (23 : Int32)
                                        · have h := (if_pos c158).symm.trans h
                                          refine V_tableC C0 (tgt := 266) (v := (23 : Int32)) c158 (by decide) (by decide) dX12_craft_69 ?_
                                          refine V_aload_n C0 0 rfl rfl dX12_craft_266 ?_
                                          refine V_getI C0 11 46 fl_X12_333 c_x0.2 c_x0.1 rfl dX12_craft_267 ?_
                                          cases h
                                          exact V_iret C0 dX12_craft_270
                                        · have h := (if_neg c158).symm.trans h
                                          have nd143 := nd_add nd143 c158
                                          by_cases c159 : x1 = (24 : Int32)
                                          · have h := (if_pos c159).symm.trans h
                                            refine V_tableC C0 (tgt := 271) (v := (24 : Int32)) c159 (by decide) (by decide) dX12_craft_69 ?_
                                            refine V_aload_n C0 0 rfl rfl dX12_craft_271 ?_
                                            refine V_getI C0 11 54 fl_X12_345 c_x0.2 c_x0.1 rfl dX12_craft_272 ?_
                                            cases h
                                            exact V_iret C0 dX12_craft_275
                                          · have h := (if_neg c159).symm.trans h
                                            have nd143 := nd_add nd143 c159
                                            by_cases c160 : x1 = (25 : Int32)
                                            · have h := (if_pos c160).symm.trans h
                                              refine V_tableC C0 (tgt := 276) (v := (25 : Int32)) c160 (by decide) (by decide) dX12_craft_69 ?_
                                              refine V_aload_n C0 0 rfl rfl dX12_craft_276 ?_
                                              refine V_getI C0 11 47 fl_X12_336 c_x0.2 c_x0.1 rfl dX12_craft_277 ?_
                                              cases h
                                              exact V_iret C0 dX12_craft_280
                                            · have h := (if_neg c160).symm.trans h
                                              have nd143 := nd_add nd143 c160
                                              by_cases c161 : x1 = (26 : Int32)
                                              · have h := (if_pos c161).symm.trans h
                                                refine V_tableC C0 (tgt := 281) (v := (26 : Int32)) c161 (by decide) (by decide) dX12_craft_69 ?_
                                                refine V_aload_n C0 0 rfl rfl dX12_craft_281 ?_
                                                refine V_getI C0 11 48 fl_X12_339 c_x0.2 c_x0.1 rfl dX12_craft_282 ?_
                                                cases h
                                                exact V_iret C0 dX12_craft_285
                                              · have h := (if_neg c161).symm.trans h
                                                have nd143 := nd_add nd143 c161
                                                by_cases c162 : x1 = (27 : Int32)
                                                · have h := (if_pos c162).symm.trans h
                                                  refine V_tableC C0 (tgt := 286) (v := (27 : Int32)) c162 (by decide) (by decide) dX12_craft_69 ?_
                                                  refine V_aload_n C0 0 rfl rfl dX12_craft_286 ?_
                                                  refine V_getI C0 11 49 fl_X12_342 c_x0.2 c_x0.1 rfl dX12_craft_287 ?_
                                                  cases h
                                                  exact V_iret C0 dX12_craft_290
                                                · have h := (if_neg c162).symm.trans h
                                                  have nd143 := nd_add nd143 c162
                                                  refine V_tableN C0 (tgt := 291) nd143 (by decide) (by decide) dX12_craft_69 ?_
                                                  refine V_iconst C0 (v := (0 : Int32)) (by decide) dX12_craft_291 ?_
                                                  cases h
                                                  exact V_iret C0 dX12_craft_292
          · have h := (if_neg c142).symm.trans h
            refine V_iload_n C0 1 rfl rfl dX12_craft_52 ?_
            refine V_bipush C0 (v := (11 : Int32)) (by decide) dX12_craft_53 ?_
            refine V_icmp_gt C0 (tgt := 68) (by decide) dX12_craft_55 (fun c163 => ?_) (fun c163 => ?_)
            · have h := (if_pos c163).symm.trans h
              refine V_iload_n C0 1 rfl rfl dX12_craft_68 ?_
              have nd164 := nd_0 x1
              by_cases c165 : x1 = (0 : Int32)
              · have h := (if_pos c165).symm.trans h
                refine V_tableC C0 (tgt := 196) (v := (0 : Int32)) c165 (by decide) (by decide) dX12_craft_69 ?_
                refine V_aload_n C0 0 rfl rfl dX12_craft_196 ?_
                refine V_getI C0 11 21 fl_X12_297 c_x0.2 c_x0.1 rfl dX12_craft_197 ?_
                cases h
                exact V_iret C0 dX12_craft_200
              · have h := (if_neg c165).symm.trans h
                have nd164 := nd_add nd164 c165
                by_cases c166 : x1 = (1 : Int32)
                · have h := (if_pos c166).symm.trans h
                  refine V_tableC C0 (tgt := 201) (v := (1 : Int32)) c166 (by decide) (by decide) dX12_craft_69 ?_
                  refine V_aload_n C0 0 rfl rfl dX12_craft_201 ?_
                  refine V_getI C0 11 34 fl_X12_306 c_x0.2 c_x0.1 rfl dX12_craft_202 ?_
                  cases h
                  exact V_iret C0 dX12_craft_205
                · have h := (if_neg c166).symm.trans h
                  have nd164 := nd_add nd164 c166
                  by_cases c167 : x1 = (2 : Int32)
                  · have h := (if_pos c167).symm.trans h
                    refine V_tableC C0 (tgt := 206) (v := (2 : Int32)) c167 (by decide) (by decide) dX12_craft_69 ?_
                    refine V_aload_n C0 0 rfl rfl dX12_craft_206 ?_
                    refine V_getI C0 11 35 fl_X12_309 c_x0.2 c_x0.1 rfl dX12_craft_207 ?_
                    cases h
                    exact V_iret C0 dX12_craft_210
                  · have h := (if_neg c167).symm.trans h
                    have nd164 := nd_add nd164 c167
                    by_cases c168 : x1 = (12 : Int32)
                    · have h := (if_pos c168).symm.trans h
                      refine V_tableC C0 (tgt := 211) (v := (12 : Int32)) c168 (by decide) (by decide) dX12_craft_69 ?_
                      refine V_aload_n C0 0 rfl rfl dX12_craft_211 ?_
                      refine V_getI C0 11 25 fl_X12_205 c_x0.2 c_x0.1 rfl dX12_craft_212 ?_
                      cases h
                      exact V_iret C0 dX12_craft_215
                    · have h := (if_neg c168).symm.trans h
                      have nd164 := nd_add nd164 c168
                      by_cases c169 : x1 = (13 : Int32)
                      · have h := (if_pos c169).symm.trans h
                        refine V_tableC C0 (tgt := 216) (v := (13 : Int32)) c169 (by decide) (by decide) dX12_craft_69 ?_
                        refine V_aload_n C0 0 rfl rfl dX12_craft_216 ?_
                        refine V_getI C0 11 26 fl_X12_262 c_x0.2 c_x0.1 rfl dX12_craft_217 ?_
                        cases h
                        exact V_iret C0 dX12_craft_220
                      · have h := (if_neg c169).symm.trans h
                        have nd164 := nd_add nd164 c169
                        by_cases c170 : x1 = (14 : Int32)
                        · have h := (if_pos c170).symm.trans h
                          refine V_tableC C0 (tgt := 221) (v := (14 : Int32)) c170 (by decide) (by decide) dX12_craft_69 ?_
                          refine V_aload_n C0 0 rfl rfl dX12_craft_221 ?_
                          refine V_getI C0 11 27 fl_X12_256 c_x0.2 c_x0.1 rfl dX12_craft_222 ?_
                          cases h
                          exact V_iret C0 dX12_craft_225
                        · have h := (if_neg c170).symm.trans h
                          have nd164 := nd_add nd164 c170
                          by_cases c171 : x1 = (15 : Int32)
                          · have h := (if_pos c171).symm.trans h
                            refine V_tableC C0 (tgt := 226) (v := (15 : Int32)) c171 (by decide) (by decide) dX12_craft_69 ?_
                            refine V_aload_n C0 0 rfl rfl dX12_craft_226 ?_
                            refine V_getI C0 11 28 fl_X12_208 c_x0.2 c_x0.1 rfl dX12_craft_227 ?_
                            cases h
                            exact V_iret C0 dX12_craft_230
                          · have h := (if_neg c171).symm.trans h
                            have nd164 := nd_add nd164 c171
                            by_cases c172 : x1 = (16 : Int32)
                            · have h := (if_pos c172).symm.trans h
                              refine V_tableC C0 (tgt := 231) (v := (16 : Int32)) c172 (by decide) (by decide) dX12_craft_69 ?_
                              refine V_aload_n C0 0 rfl rfl dX12_craft_231 ?_
                              refine V_getI C0 11 39 fl_X12_312 c_x0.2 c_x0.1 rfl dX12_craft_232 ?_
                              cases h
                              exact V_iret C0 dX12_craft_235
                            · have h := (if_neg c172).symm.trans h
                              have nd164 := nd_add nd164 c172
                              by_cases c173 : x1 = (17 : Int32)
                              · have h := (if_pos c173).symm.trans h
                                refine V_tableC C0 (tgt := 236) (v := (17 : Int32)) c173 (by decide) (by decide) dX12_craft_69 ?_
                                refine V_aload_n C0 0 rfl rfl dX12_craft_236 ?_
                                refine V_getI C0 11 40 fl_X12_315 c_x0.2 c_x0.1 rfl dX12_craft_237 ?_
                                cases h
                                exact V_iret C0 dX12_craft_240
                              · have h := (if_neg c173).symm.trans h
                                have nd164 := nd_add nd164 c173
                                by_cases c174 : x1 = (18 : Int32)
                                · have h := (if_pos c174).symm.trans h
                                  refine V_tableC C0 (tgt := 241) (v := (18 : Int32)) c174 (by decide) (by decide) dX12_craft_69 ?_
                                  refine V_aload_n C0 0 rfl rfl dX12_craft_241 ?_
                                  refine V_getI C0 11 41 fl_X12_318 c_x0.2 c_x0.1 rfl dX12_craft_242 ?_
                                  cases h
                                  exact V_iret C0 dX12_craft_245
                                · have h := (if_neg c174).symm.trans h
                                  have nd164 := nd_add nd164 c174
                                  by_cases c175 : x1 = (19 : Int32)
                                  · have h := (if_pos c175).symm.trans h
                                    refine V_tableC C0 (tgt := 246) (v := (19 : Int32)) c175 (by decide) (by decide) dX12_craft_69 ?_
                                    refine V_aload_n C0 0 rfl rfl dX12_craft_246 ?_
                                    refine V_getI C0 11 42 fl_X12_321 c_x0.2 c_x0.1 rfl dX12_craft_247 ?_
                                    cases h
                                    exact V_iret C0 dX12_craft_250
                                  · have h := (if_neg c175).symm.trans h
                                    have nd164 := nd_add nd164 c175
                                    by_cases c176 : x1 = (20 : Int32)
                                    · have h := (if_pos c176).symm.trans h
                                      refine V_tableC C0 (tgt := 251) (v := (20 : Int32)) c176 (by decide) (by decide) dX12_craft_69 ?_
                                      refine V_aload_n C0 0 rfl rfl dX12_craft_251 ?_
                                      refine V_getI C0 11 43 fl_X12_324 c_x0.2 c_x0.1 rfl dX12_craft_252 ?_
                                      cases h
                                      exact V_iret C0 dX12_craft_255
                                    · have h := (if_neg c176).symm.trans h
                                      have nd164 := nd_add nd164 c176
                                      by_cases c177 : x1 = (21 : Int32)
                                      · have h := (if_pos c177).symm.trans h
                                        refine V_tableC C0 (tgt := 256) (v := (21 : Int32)) c177 (by decide) (by decide) dX12_craft_69 ?_
                                        refine V_aload_n C0 0 rfl rfl dX12_craft_256 ?_
                                        refine V_getI C0 11 44 fl_X12_327 c_x0.2 c_x0.1 rfl dX12_craft_257 ?_
                                        cases h
                                        exact V_iret C0 dX12_craft_260
                                      · have h := (if_neg c177).symm.trans h
                                        have nd164 := nd_add nd164 c177
                                        by_cases c178 : x1 = (22 : Int32)
                                        · have h := (if_pos c178).symm.trans h
                                          refine V_tableC C0 (tgt := 261) (v := (22 : Int32)) c178 (by decide) (by decide) dX12_craft_69 ?_
                                          refine V_aload_n C0 0 rfl rfl dX12_craft_261 ?_
                                          refine V_getI C0 11 45 fl_X12_330 c_x0.2 c_x0.1 rfl dX12_craft_262 ?_
                                          cases h
                                          exact V_iret C0 dX12_craft_265
                                        · have h := (if_neg c178).symm.trans h
                                          have nd164 := nd_add nd164 c178
                                          by_cases c179 : x1 = (23 : Int32)
                                          · have h := (if_pos c179).symm.trans h
                                            refine V_tableC C0 (tgt := 266) (v := (23 : Int32)) c179 (by decide) (by decide) dX12_craft_69 ?_
                                            refine V_aload_n C0 0 rfl rfl dX12_craft_266 ?_
                                            refine V_getI C0 11 46 fl_X12_333 c_x0.2 c_x0.1 rfl dX12_craft_267 ?_
                                            cases h
                                            exact V_iret C0 dX12_craft_270
                                          · have h := (if_neg c179).symm.trans h
                                            have nd164 := nd_add nd164 c179
                                            by_cases c180 : x1 = (24 : Int32)
                                            · have h := (if_pos c180).symm.trans h
                                              refine V_tableC C0 (tgt := 271) (v := (24 : Int32)) c180 (by decide) (by decide) dX12_craft_69 ?_
                                              refine V_aload_n C0 0 rfl rfl dX12_craft_271 ?_
                                              refine V_getI C0 11 54 fl_X12_345 c_x0.2 c_x0.1 rfl dX12_craft_272 ?_
                                              cases h
                                              exact V_iret C0 dX12_craft_275
                                            · have h := (if_neg c180).symm.trans h
                                              have nd164 := nd_add nd164 c180
                                              by_cases c181 : x1 = (25 : Int32)
                                              · have h := (if_pos c181).symm.trans h
                                                refine V_tableC C0 (tgt := 276) (v := (25 : Int32)) c181 (by decide) (by decide) dX12_craft_69 ?_
                                                refine V_aload_n C0 0 rfl rfl dX12_craft_276 ?_
                                                refine V_getI C0 11 47 fl_X12_336 c_x0.2 c_x0.1 rfl dX12_craft_277 ?_
                                                cases h
                                                exact V_iret C0 dX12_craft_280
                                              · have h := (if_neg c181).symm.trans h
                                                have nd164 := nd_add nd164 c181
                                                by_cases c182 : x1 = (26 : Int32)
                                                · have h := (if_pos c182).symm.trans h
                                                  refine V_tableC C0 (tgt := 281) (v := (26 : Int32)) c182 (by decide) (by decide) dX12_craft_69 ?_
                                                  refine V_aload_n C0 0 rfl rfl dX12_craft_281 ?_
                                                  refine V_getI C0 11 48 fl_X12_339 c_x0.2 c_x0.1 rfl dX12_craft_282 ?_
                                                  cases h
                                                  exact V_iret C0 dX12_craft_285
                                                · have h := (if_neg c182).symm.trans h
                                                  have nd164 := nd_add nd164 c182
                                                  by_cases c183 : x1 = (27 : Int32)
                                                  · have h := (if_pos c183).symm.trans h
                                                    refine V_tableC C0 (tgt := 286) (v := (27 : Int32)) c183 (by decide) (by decide) dX12_craft_69 ?_
                                                    refine V_aload_n C0 0 rfl rfl dX12_craft_286 ?_
                                                    refine V_getI C0 11 49 fl_X12_342 c_x0.2 c_x0.1 rfl dX12_craft_287 ?_
                                                    cases h
                                                    exact V_iret C0 dX12_craft_290
                                                  · have h := (if_neg c183).symm.trans h
                                                    have nd164 := nd_add nd164 c183
                                                    refine V_tableN C0 (tgt := 291) nd164 (by decide) (by decide) dX12_craft_69 ?_
                                                    refine V_iconst C0 (v := (0 : Int32)) (by decide) dX12_craft_291 ?_
                                                    cases h
                                                    exact V_iret C0 dX12_craft_292
            · have h := (if_neg c163).symm.trans h
              refine V_aload_n C0 0 rfl rfl dX12_craft_58 ?_
              obtain ⟨a184, qa184, h⟩ := bnd_some h
              refine V_getR C0 11 38 fl_X12_74 c_x0.2 c_x0.1 rfl (rf_at qa184) dX12_craft_59 ?_
              refine V_iload_n C0 1 rfl rfl dX12_craft_62 ?_
              refine V_bipush C0 (v := (9 : Int32)) (by decide) dX12_craft_63 ?_
              refine V_isub C0 dX12_craft_65 ?_
              obtain ⟨v185, qv185, h⟩ := bnd_some h
              refine V_ri C0 (rf_lt qa184) (rf_kd qa184) qv185 dX12_craft_66 ?_
              cases h
              exact V_iret C0 dX12_craft_67
        · have h := (if_neg c141).symm.trans h
          refine V_aload_n C0 0 rfl rfl dX12_craft_36 ?_
          obtain ⟨a186, qa186, h⟩ := bnd_some h
          refine V_getR C0 11 37 fl_X12_71 c_x0.2 c_x0.1 rfl (rf_at qa186) dX12_craft_37 ?_
          refine V_iload_n C0 1 rfl rfl dX12_craft_40 ?_
          refine V_bipush C0 (v := (6 : Int32)) (by decide) dX12_craft_41 ?_
          refine V_isub C0 dX12_craft_43 ?_
          obtain ⟨v187, qv187, h⟩ := bnd_some h
          refine V_ri C0 (rf_lt qa186) (rf_kd qa186) qv187 dX12_craft_44 ?_
          cases h
          exact V_iret C0 dX12_craft_45
    · have h := (if_neg c95).symm.trans h
      refine V_aload_n C0 0 rfl rfl dX12_craft_15 ?_
      obtain ⟨a188, qa188, h⟩ := bnd_some h
      refine V_getR C0 11 36 fl_X12_68 c_x0.2 c_x0.1 rfl (rf_at qa188) dX12_craft_16 ?_
      refine V_iload_n C0 1 rfl rfl dX12_craft_19 ?_
      refine V_iconst C0 (v := (3 : Int32)) (by decide) dX12_craft_20 ?_
      refine V_isub C0 dX12_craft_21 ?_
      obtain ⟨v189, qv189, h⟩ := bnd_some h
      refine V_ri C0 (rf_lt qa188) (rf_kd qa188) qv189 dX12_craft_22 ?_
      cases h
      exact V_iret C0 dX12_craft_23
