theorem dX11_load_0 : decode cX11_load 0 = .ok (.iload_n 1, 1) := by decide +kernel
theorem dX11_load_1 : decode cX11_load 1 = .ok (.ifCond .lt 14, 3) := by decide +kernel
theorem dX11_load_4 : decode cX11_load 4 = .ok (.iload_n 1, 1) := by decide +kernel
theorem dX11_load_5 : decode cX11_load 5 = .ok (.aload_n 0, 1) := by decide +kernel
theorem dX11_load_6 : decode cX11_load 6 = .ok (.getfield 13, 3) := by decide +kernel
theorem dX11_load_9 : decode cX11_load 9 = .ok (.invokevirtual 54, 3) := by decide +kernel
theorem dX11_load_12 : decode cX11_load 12 = .ok (.if_icmp .le 13, 3) := by decide +kernel
theorem dX11_load_15 : decode cX11_load 15 = .ok (.new 58, 3) := by decide +kernel
theorem dX11_load_18 : decode cX11_load 18 = .ok (.dup, 1) := by decide +kernel
theorem dX11_load_19 : decode cX11_load 19 = .ok (.ldc 60, 2) := by decide +kernel
theorem dX11_load_21 : decode cX11_load 21 = .ok (.invokespecial 62, 3) := by decide +kernel
theorem dX11_load_24 : decode cX11_load 24 = .ok (.athrow, 1) := by decide +kernel
theorem dX11_load_25 : decode cX11_load 25 = .ok (.aload_n 0, 1) := by decide +kernel
theorem dX11_load_26 : decode cX11_load 26 = .ok (.getfield 13, 3) := by decide +kernel
theorem dX11_load_29 : decode cX11_load 29 = .ok (.iload_n 1, 1) := by decide +kernel
theorem dX11_load_30 : decode cX11_load 30 = .ok (.invokevirtual 65, 3) := by decide +kernel
theorem dX11_load_33 : decode cX11_load 33 = .ok (.aload_n 0, 1) := by decide +kernel
theorem dX11_load_34 : decode cX11_load 34 = .ok (.getfield 22, 3) := by decide +kernel
theorem dX11_load_37 : decode cX11_load 37 = .ok (.aload_n 0, 1) := by decide +kernel
theorem dX11_load_38 : decode cX11_load 38 = .ok (.getfield 13, 3) := by decide +kernel
theorem dX11_load_41 : decode cX11_load 41 = .ok (.invokevirtual 68, 3) := by decide +kernel
theorem dX11_load_44 : decode cX11_load 44 = .ok (.istore_n 2, 1) := by decide +kernel
theorem dX11_load_45 : decode cX11_load 45 = .ok (.aload_n 0, 1) := by decide +kernel
theorem dX11_load_46 : decode cX11_load 46 = .ok (.getfield 13, 3) := by decide +kernel
theorem dX11_load_49 : decode cX11_load 49 = .ok (.invokevirtual 72, 3) := by decide +kernel
theorem dX11_load_52 : decode cX11_load 52 = .ok (.iload_n 2, 1) := by decide +kernel
theorem dX11_load_53 : decode cX11_load 53 = .ok (.ifCond .ne 5, 3) := by decide +kernel
theorem dX11_load_56 : decode cX11_load 56 = .ok (.iconst (-1), 1) := by decide +kernel
theorem dX11_load_57 : decode cX11_load 57 = .ok (.ireturn, 1) := by decide +kernel
theorem dX11_load_58 : decode cX11_load 58 = .ok (.aload_n 0, 1) := by decide +kernel
theorem dX11_load_59 : decode cX11_load 59 = .ok (.getfield 26, 3) := by decide +kernel
theorem dX11_load_62 : decode cX11_load 62 = .ok (.aload_n 0, 1) := by decide +kernel
theorem dX11_load_63 : decode cX11_load 63 = .ok (.getfield 22, 3) := by decide +kernel
theorem dX11_load_66 : decode cX11_load 66 = .ok (.invokevirtual 75, 3) := by decide +kernel
theorem dX11_load_69 : decode cX11_load 69 = .ok (.aload_n 0, 1) := by decide +kernel
theorem dX11_load_70 : decode cX11_load 70 = .ok (.getfield 35, 3) := by decide +kernel
theorem dX11_load_73 : decode cX11_load 73 = .ok (.invokevirtual 79, 3) := by decide +kernel
theorem dX11_load_76 : decode cX11_load 76 = .ok (.aload_n 0, 1) := by decide +kernel
theorem dX11_load_77 : decode cX11_load 77 = .ok (.getfield 26, 3) := by decide +kernel
theorem dX11_load_80 : decode cX11_load 80 = .ok (.invokevirtual 81, 3) := by decide +kernel
theorem dX11_load_83 : decode cX11_load 83 = .ok (.ireturn, 1) := by decide +kernel
def F_X11_load (N : Nat) (x0 : Nat) (x1 : Int32) (I : MI) (L : ML) (R : MR) : Option (Sum String (Int32 × MI × ML)) :=
  if kd x0 = 10 ∧ x0 < NN then
  if x1 < 0 then
    some (.inl "java/lang/IllegalArgumentException")
  else
    (rf R x0 0 7).bind fun a2 =>
    bn1 (F_X8_size a2 I L R) fun v3 =>
    if x1 ≤ v3 then
      bn1 (F_X8_begin a2 x1 I L R) fun I6 =>
      (rf R x0 1 0).bind fun a8 =>
      bn3 (F_X0_readFrom N a8 a2 I6 L R) fun b9 I10 L11 =>
      wr (b2i b9) fun (u13 : Int32) =>
      bn1 (F_X8_empty a2 I10 L11 R) fun I14 =>
      if u13 = 0 then
        some (.inr ((-1 : Int32), I14, L11))
      else
        (rf R x0 2 9).bind fun a17 =>
        bn2 (F_X10_build N a17 a8 I14 L11 R) fun I18 L19 =>
        (rf R x0 3 2).bind fun a21 =>
        bn1 (F_X2_begin N a21 I18 L19 R) fun I22 =>
        bn1 (F_X10_size a17 I22 L19 R) fun v24 =>
        some (.inr (v24, I22, L19))
    else
      some (.inl "java/lang/IllegalArgumentException")
  else none
set_option maxRecDepth 100000 in
set_option maxHeartbeats 4000000 in
theorem c_X11_load (l : Launch) (D : va_G) (cA : Nat → ClassId) (ad : Nat → Nat) (bs : Nat) (X : State → Prop) (hAd : Ax ad bs) (hX : Stb bs X) (hl : l.stackTraces = false) (hc : Ssc bs X) (hs : Ssx ad bs X) (ht : Ssb ad bs X) (N : Nat) (x0 : Nat) (x1 : Int32) (I : MI) (L : ML) (R : MR) (w : Sum String (Int32 × MI × ML)) (h : F_X11_load N x0 x1 I L R = some w) : CnT l D cA ad bs X yX11_load cX11_load 3 (some .int) 9 193 [.ref (ad x0), .int x1] I L R (zT (fun (r : Int32 × MI × ML) => (some (.int r.1), r.2.1, r.2.2, R)) I L R w) := by
  refine CnT.ofV hAd hX [(0, .ref (ad x0)), (1, .int x1)] rfl (Nat.le_of_ble_eq_true rfl) (by decide) ?_
  intro G el eD ecA ead ebs eX erm0 eNL htab C0
  subst el eD ecA ead ebs eX
  have hz := hc _ C0.2.2.2.2.2.2.2.2.2.2.2.1
  have erm : G.rm.frames = 9 ∧ G.rm.locals = 193 := by rw [erm0]; exact ⟨rfl, rfl⟩
  have hsx := hs _ C0.2.2.2.2.2.2.2.2.2.2.2.1
  have hsb := ht _ C0.2.2.2.2.2.2.2.2.2.2.2.1
  unfold F_X11_load at h
  obtain ⟨c_x0, h⟩ := ite_some h
  refine V_iload_n C0 1 rfl rfl dX11_load_0 ?_
  refine V_if_lt C0 (tgt := 15) (by decide) dX11_load_1 (fun c1 => ?_) (fun c1 => ?_)
  · have h := (if_pos c1).symm.trans h
    cases h
    exact V_throw C0 hl hz htab tk_58_60 dX11_load_15 dX11_load_18 dX11_load_19 dX11_load_21 dX11_load_24 (by rw [erm.1, erm.2]; decide) (by rw [erm0]; exact ⟨Nat.le_refl 1, Nat.le_refl 6⟩) (Nat.le_of_ble_eq_true rfl)
  · have h := (if_neg c1).symm.trans h
    refine V_iload_n C0 1 rfl rfl dX11_load_4 ?_
    refine V_aload_n C0 0 rfl rfl dX11_load_5 ?_
    obtain ⟨a2, qa2, h⟩ := bnd_some h
    refine V_getR C0 10 0 fl_X11_13 c_x0.2 c_x0.1 rfl (rf_at qa2) dX11_load_6 ?_
    obtain ⟨v3, q4, h⟩ := bn1_some h
    refine V_callV C0 (st := [.int x1]) (As := []) 7 (c_X8_size G.l G.D G.cA G.ad G.bs G.X C0.2.2.2.2.2.2.2.2.2.1 C0.2.2.2.2.2.2.2.2.2.2.2.2 a2 I L R v3 q4) lc_X8_size lk_X11_54 (rf_lt qa2) (rf_kd qa2) ⟨_, rfl, rfl⟩ rfl (by rw [erm.1, erm.2]; decide) (Nat.le_of_ble_eq_true rfl) dX11_load_9 ?_
    show V G _ 12 [(0, .ref (G.ad x0)), (1, .int x1)] [.int v3, .int x1] I L R
    refine V_icmp_le C0 (tgt := 25) (by decide) dX11_load_12 (fun c5 => ?_) (fun c5 => ?_)
    · have h := (if_pos c5).symm.trans h
      refine V_aload_n C0 0 rfl rfl dX11_load_25 ?_
      refine V_getR C0 10 0 fl_X11_13 c_x0.2 c_x0.1 rfl (rf_at qa2) dX11_load_26 ?_
      refine V_iload_n C0 1 rfl rfl dX11_load_29 ?_
      obtain ⟨I6, q7, h⟩ := bn1_some h
      refine V_callV C0 (st := []) (As := [.int x1]) 7 (c_X8_begin G.l G.D G.cA G.ad G.bs G.X C0.2.2.2.2.2.2.2.2.2.1 C0.2.2.2.2.2.2.2.2.2.2.2.2 a2 x1 I L R I6 q7) lc_X8_begin lk_X11_65 (rf_lt qa2) (rf_kd qa2) ⟨_, rfl, rfl⟩ rfl (by rw [erm.1, erm.2]; decide) (Nat.le_of_ble_eq_true rfl) dX11_load_30 ?_
      show V G _ 33 [(0, .ref (G.ad x0)), (1, .int x1)] [] I6 L R
      refine V_aload_n C0 0 rfl rfl dX11_load_33 ?_
      obtain ⟨a8, qa8, h⟩ := bnd_some h
      refine V_getR C0 10 1 fl_X11_22 c_x0.2 c_x0.1 rfl (rf_at qa8) dX11_load_34 ?_
      refine V_aload_n C0 0 rfl rfl dX11_load_37 ?_
      refine V_getR C0 10 0 fl_X11_13 c_x0.2 c_x0.1 rfl (rf_at qa2) dX11_load_38 ?_
      obtain ⟨b9, I10, L11, q12, h⟩ := bn3_some h
      refine V_callV C0 (st := []) (As := [.ref (G.ad a2)]) 0 (c_X0_readFrom G.l G.D G.cA G.ad G.bs G.X C0.2.2.2.2.2.2.2.2.2.1 C0.2.2.2.2.2.2.2.2.2.2.2.2 ht N a8 a2 I6 L R b9 I10 L11 q12) lc_X0_readFrom lk_X11_68 (rf_lt qa8) (rf_kd qa8) ⟨_, rfl, rfl⟩ rfl (by rw [erm.1, erm.2]; decide) (Nat.le_of_ble_eq_true rfl) dX11_load_41 ?_
      show V G _ 44 [(0, .ref (G.ad x0)), (1, .int x1)] [.int (b2i b9)] I10 L11 R
      obtain ⟨u13, eu13, h⟩ := wr_some h
      rw [← eu13]
      refine V_istore_n C0 [(2, .int u13), (0, .ref (G.ad x0)), (1, .int x1)] rfl (by rw [eNL]; decide) rfl dX11_load_44 ?_
      refine V_aload_n C0 1 rfl rfl dX11_load_45 ?_
      refine V_getR C0 10 0 fl_X11_13 c_x0.2 c_x0.1 rfl (rf_at qa2) dX11_load_46 ?_
      obtain ⟨I14, q15, h⟩ := bn1_some h
      refine V_callV C0 (st := []) (As := []) 7 (c_X8_empty G.l G.D G.cA G.ad G.bs G.X C0.2.2.2.2.2.2.2.2.2.1 C0.2.2.2.2.2.2.2.2.2.2.2.2 a2 I10 L11 R I14 q15) lc_X8_empty lk_X11_72 (rf_lt qa2) (rf_kd qa2) ⟨_, rfl, rfl⟩ rfl (by rw [erm.1, erm.2]; decide) (Nat.le_of_ble_eq_true rfl) dX11_load_49 ?_
      show V G _ 52 [(2, .int u13), (0, .ref (G.ad x0)), (1, .int x1)] [] I14 L11 R
      refine V_iload_n C0 0 rfl rfl dX11_load_52 ?_
      refine V_if_ne C0 (tgt := 58) (by decide) dX11_load_53 (fun c16 => ?_) (fun c16 => ?_)
      · have h := (if_neg c16).symm.trans h
        refine V_aload_n C0 1 rfl rfl dX11_load_58 ?_
        obtain ⟨a17, qa17, h⟩ := bnd_some h
        refine V_getR C0 10 2 fl_X11_26 c_x0.2 c_x0.1 rfl (rf_at qa17) dX11_load_59 ?_
        refine V_aload_n C0 1 rfl rfl dX11_load_62 ?_
        refine V_getR C0 10 1 fl_X11_22 c_x0.2 c_x0.1 rfl (rf_at qa8) dX11_load_63 ?_
        obtain ⟨I18, L19, q20, h⟩ := bn2_some h
        refine V_callV C0 (st := []) (As := [.ref (G.ad a8)]) 9 (c_X10_build G.l G.D G.cA G.ad G.bs G.X C0.2.2.2.2.2.2.2.2.2.1 C0.2.2.2.2.2.2.2.2.2.2.2.2 hs N a17 a8 I14 L11 R I18 L19 q20) lc_X10_build lk_X11_75 (rf_lt qa17) (rf_kd qa17) ⟨_, rfl, rfl⟩ rfl (by rw [erm.1, erm.2]; decide) (Nat.le_of_ble_eq_true rfl) dX11_load_66 ?_
        show V G _ 69 [(2, .int u13), (0, .ref (G.ad x0)), (1, .int x1)] [] I18 L19 R
        refine V_aload_n C0 1 rfl rfl dX11_load_69 ?_
        obtain ⟨a21, qa21, h⟩ := bnd_some h
        refine V_getR C0 10 3 fl_X11_35 c_x0.2 c_x0.1 rfl (rf_at qa21) dX11_load_70 ?_
        obtain ⟨I22, q23, h⟩ := bn1_some h
        refine V_callV C0 (st := []) (As := []) 2 (c_X2_begin G.l G.D G.cA G.ad G.bs G.X C0.2.2.2.2.2.2.2.2.2.1 C0.2.2.2.2.2.2.2.2.2.2.2.2 N a21 I18 L19 R I22 q23) lc_X2_begin lk_X11_79 (rf_lt qa21) (rf_kd qa21) ⟨_, rfl, rfl⟩ rfl (by rw [erm.1, erm.2]; decide) (Nat.le_of_ble_eq_true rfl) dX11_load_73 ?_
        show V G _ 76 [(2, .int u13), (0, .ref (G.ad x0)), (1, .int x1)] [] I22 L19 R
        refine V_aload_n C0 1 rfl rfl dX11_load_76 ?_
        refine V_getR C0 10 2 fl_X11_26 c_x0.2 c_x0.1 rfl (rf_at qa17) dX11_load_77 ?_
        obtain ⟨v24, q25, h⟩ := bn1_some h
        refine V_callV C0 (st := []) (As := []) 9 (c_X10_size G.l G.D G.cA G.ad G.bs G.X C0.2.2.2.2.2.2.2.2.2.1 C0.2.2.2.2.2.2.2.2.2.2.2.2 a17 I22 L19 R v24 q25) lc_X10_size lk_X11_81 (rf_lt qa17) (rf_kd qa17) ⟨_, rfl, rfl⟩ rfl (by rw [erm.1, erm.2]; decide) (Nat.le_of_ble_eq_true rfl) dX11_load_80 ?_
        show V G _ 83 [(2, .int u13), (0, .ref (G.ad x0)), (1, .int x1)] [.int v24] I22 L19 R
        cases h
        refine V_retT ?_
        exact V_iret C0 dX11_load_83
      · have h := (if_pos c16).symm.trans h
        refine V_iconst C0 (v := (-1 : Int32)) (by decide) dX11_load_56 ?_
        cases h
        refine V_retT ?_
        exact V_iret C0 dX11_load_57
    · have h := (if_neg c5).symm.trans h
      cases h
      exact V_throw C0 hl hz htab tk_58_60 dX11_load_15 dX11_load_18 dX11_load_19 dX11_load_21 dX11_load_24 (by rw [erm.1, erm.2]; decide) (by rw [erm0]; exact ⟨Nat.le_refl 1, Nat.le_refl 6⟩) (Nat.le_of_ble_eq_true rfl)
theorem dX11_plan_0 : decode cX11_plan 0 = .ok (.iload_n 1, 1) := by decide +kernel
theorem dX11_plan_1 : decode cX11_plan 1 = .ok (.ifCond .lt 14, 3) := by decide +kernel
theorem dX11_plan_4 : decode cX11_plan 4 = .ok (.iload_n 1, 1) := by decide +kernel
theorem dX11_plan_5 : decode cX11_plan 5 = .ok (.aload_n 0, 1) := by decide +kernel
theorem dX11_plan_6 : decode cX11_plan 6 = .ok (.getfield 13, 3) := by decide +kernel
theorem dX11_plan_9 : decode cX11_plan 9 = .ok (.invokevirtual 54, 3) := by decide +kernel
theorem dX11_plan_12 : decode cX11_plan 12 = .ok (.if_icmp .le 13, 3) := by decide +kernel
theorem dX11_plan_15 : decode cX11_plan 15 = .ok (.new 58, 3) := by decide +kernel
theorem dX11_plan_18 : decode cX11_plan 18 = .ok (.dup, 1) := by decide +kernel
theorem dX11_plan_19 : decode cX11_plan 19 = .ok (.ldc 60, 2) := by decide +kernel
theorem dX11_plan_21 : decode cX11_plan 21 = .ok (.invokespecial 62, 3) := by decide +kernel
theorem dX11_plan_24 : decode cX11_plan 24 = .ok (.athrow, 1) := by decide +kernel
theorem dX11_plan_25 : decode cX11_plan 25 = .ok (.aload_n 0, 1) := by decide +kernel
theorem dX11_plan_26 : decode cX11_plan 26 = .ok (.getfield 13, 3) := by decide +kernel
theorem dX11_plan_29 : decode cX11_plan 29 = .ok (.iload_n 1, 1) := by decide +kernel
theorem dX11_plan_30 : decode cX11_plan 30 = .ok (.invokevirtual 65, 3) := by decide +kernel
theorem dX11_plan_33 : decode cX11_plan 33 = .ok (.aload_n 0, 1) := by decide +kernel
theorem dX11_plan_34 : decode cX11_plan 34 = .ok (.getfield 42, 3) := by decide +kernel
theorem dX11_plan_37 : decode cX11_plan 37 = .ok (.aload_n 0, 1) := by decide +kernel
theorem dX11_plan_38 : decode cX11_plan 38 = .ok (.getfield 13, 3) := by decide +kernel
theorem dX11_plan_41 : decode cX11_plan 41 = .ok (.aload_n 0, 1) := by decide +kernel
theorem dX11_plan_42 : decode cX11_plan 42 = .ok (.getfield 26, 3) := by decide +kernel
theorem dX11_plan_45 : decode cX11_plan 45 = .ok (.invokevirtual 82, 3) := by decide +kernel
theorem dX11_plan_48 : decode cX11_plan 48 = .ok (.istore_n 2, 1) := by decide +kernel
theorem dX11_plan_49 : decode cX11_plan 49 = .ok (.aload_n 0, 1) := by decide +kernel
theorem dX11_plan_50 : decode cX11_plan 50 = .ok (.getfield 13, 3) := by decide +kernel
theorem dX11_plan_53 : decode cX11_plan 53 = .ok (.invokevirtual 72, 3) := by decide +kernel
theorem dX11_plan_56 : decode cX11_plan 56 = .ok (.iload_n 2, 1) := by decide +kernel
theorem dX11_plan_57 : decode cX11_plan 57 = .ok (.ifCond .ne 5, 3) := by decide +kernel
theorem dX11_plan_60 : decode cX11_plan 60 = .ok (.iconst (-1), 1) := by decide +kernel
theorem dX11_plan_61 : decode cX11_plan 61 = .ok (.ireturn, 1) := by decide +kernel
theorem dX11_plan_62 : decode cX11_plan 62 = .ok (.aload_n 0, 1) := by decide +kernel
theorem dX11_plan_63 : decode cX11_plan 63 = .ok (.aload_n 0, 1) := by decide +kernel
theorem dX11_plan_64 : decode cX11_plan 64 = .ok (.getfield 35, 3) := by decide +kernel
theorem dX11_plan_67 : decode cX11_plan 67 = .ok (.aload_n 0, 1) := by decide +kernel
theorem dX11_plan_68 : decode cX11_plan 68 = .ok (.getfield 42, 3) := by decide +kernel
theorem dX11_plan_71 : decode cX11_plan 71 = .ok (.invokevirtual 85, 3) := by decide +kernel
theorem dX11_plan_74 : decode cX11_plan 74 = .ok (.putfield 42, 3) := by decide +kernel
theorem dX11_plan_77 : decode cX11_plan 77 = .ok (.aload_n 0, 1) := by decide +kernel
theorem dX11_plan_78 : decode cX11_plan 78 = .ok (.getfield 35, 3) := by decide +kernel
theorem dX11_plan_81 : decode cX11_plan 81 = .ok (.invokevirtual 89, 3) := by decide +kernel
theorem dX11_plan_84 : decode cX11_plan 84 = .ok (.invokevirtual 93, 3) := by decide +kernel
theorem dX11_plan_87 : decode cX11_plan 87 = .ok (.ireturn, 1) := by decide +kernel
def F_X11_plan (N : Nat) (x0 : Nat) (x1 : Int32) (I : MI) (L : ML) (R : MR) : Option (Sum String (Int32 × MI × ML × MR)) :=
  if kd x0 = 10 ∧ x0 < NN then
  if x1 < 0 then
    some (.inl "java/lang/IllegalArgumentException")
  else
    (rf R x0 0 7).bind fun a2 =>
    bn1 (F_X8_size a2 I L R) fun v3 =>
    if x1 ≤ v3 then
      bn1 (F_X8_begin a2 x1 I L R) fun I6 =>
      (rf R x0 4 4).bind fun a8 =>
      (rf R x0 2 9).bind fun a9 =>
      bn3 (F_X5_readFrom N a8 a2 a9 I6 L R) fun b10 I11 L12 =>
      wr (b2i b10) fun (u14 : Int32) =>
      bn1 (F_X8_empty a2 I11 L12 R) fun I15 =>
      if u14 = 0 then
        some (.inr ((-1 : Int32), I15, L12, R))
      else
        (rf R x0 3 2).bind fun a18 =>
        bn2 (F_X2_exchangePlan a18 a8 I15 L12 R) fun a19 R20 =>
        if kd a19 = 4 ∧ a19 < NN then
        wr (uR R20 x0 4 (some a19)) fun (R23 : MR) =>
        (rf R23 x0 3 2).bind fun a24 =>
        bn1 (F_X2_planned a24 I15 L12 R23) fun a25 =>
        if kd a25 = 4 ∧ a25 < NN then
        bn1 (F_X5_size a25 I15 L12 R23) fun v28 =>
        some (.inr (v28, I15, L12, R23))
        else none
        else none
    else
      some (.inl "java/lang/IllegalArgumentException")
  else none
set_option maxRecDepth 100000 in
set_option maxHeartbeats 4000000 in
theorem c_X11_plan (l : Launch) (D : va_G) (cA : Nat → ClassId) (ad : Nat → Nat) (bs : Nat) (X : State → Prop) (hAd : Ax ad bs) (hX : Stb bs X) (hl : l.stackTraces = false) (hc : Ssc bs X) (ht : Ssb ad bs X) (N : Nat) (x0 : Nat) (x1 : Int32) (I : MI) (L : ML) (R : MR) (w : Sum String (Int32 × MI × ML × MR)) (h : F_X11_plan N x0 x1 I L R = some w) : CnT l D cA ad bs X yX11_plan cX11_plan 3 (some .int) 10 221 [.ref (ad x0), .int x1] I L R (zT (fun (r : Int32 × MI × ML × MR) => (some (.int r.1), r.2.1, r.2.2.1, r.2.2.2)) I L R w) := by
  refine CnT.ofV hAd hX [(0, .ref (ad x0)), (1, .int x1)] rfl (Nat.le_of_ble_eq_true rfl) (by decide) ?_
  intro G el eD ecA ead ebs eX erm0 eNL htab C0
  subst el eD ecA ead ebs eX
  have hz := hc _ C0.2.2.2.2.2.2.2.2.2.2.2.1
  have erm : G.rm.frames = 10 ∧ G.rm.locals = 221 := by rw [erm0]; exact ⟨rfl, rfl⟩
  have hsb := ht _ C0.2.2.2.2.2.2.2.2.2.2.2.1
  unfold F_X11_plan at h
  obtain ⟨c_x0, h⟩ := ite_some h
  refine V_iload_n C0 1 rfl rfl dX11_plan_0 ?_
  refine V_if_lt C0 (tgt := 15) (by decide) dX11_plan_1 (fun c1 => ?_) (fun c1 => ?_)
  · have h := (if_pos c1).symm.trans h
    cases h
    exact V_throw C0 hl hz htab tk_58_60 dX11_plan_15 dX11_plan_18 dX11_plan_19 dX11_plan_21 dX11_plan_24 (by rw [erm.1, erm.2]; decide) (by rw [erm0]; exact ⟨Nat.le_refl 1, Nat.le_refl 6⟩) (Nat.le_of_ble_eq_true rfl)
  · have h := (if_neg c1).symm.trans h
    refine V_iload_n C0 1 rfl rfl dX11_plan_4 ?_
    refine V_aload_n C0 0 rfl rfl dX11_plan_5 ?_
    obtain ⟨a2, qa2, h⟩ := bnd_some h
    refine V_getR C0 10 0 fl_X11_13 c_x0.2 c_x0.1 rfl (rf_at qa2) dX11_plan_6 ?_
    obtain ⟨v3, q4, h⟩ := bn1_some h
    refine V_callV C0 (st := [.int x1]) (As := []) 7 (c_X8_size G.l G.D G.cA G.ad G.bs G.X C0.2.2.2.2.2.2.2.2.2.1 C0.2.2.2.2.2.2.2.2.2.2.2.2 a2 I L R v3 q4) lc_X8_size lk_X11_54 (rf_lt qa2) (rf_kd qa2) ⟨_, rfl, rfl⟩ rfl (by rw [erm.1, erm.2]; decide) (Nat.le_of_ble_eq_true rfl) dX11_plan_9 ?_
    show V G _ 12 [(0, .ref (G.ad x0)), (1, .int x1)] [.int v3, .int x1] I L R
    refine V_icmp_le C0 (tgt := 25) (by decide) dX11_plan_12 (fun c5 => ?_) (fun c5 => ?_)
    · have h := (if_pos c5).symm.trans h
      refine V_aload_n C0 0 rfl rfl dX11_plan_25 ?_
      refine V_getR C0 10 0 fl_X11_13 c_x0.2 c_x0.1 rfl (rf_at qa2) dX11_plan_26 ?_
      refine V_iload_n C0 1 rfl rfl dX11_plan_29 ?_
      obtain ⟨I6, q7, h⟩ := bn1_some h
      refine V_callV C0 (st := []) (As := [.int x1]) 7 (c_X8_begin G.l G.D G.cA G.ad G.bs G.X C0.2.2.2.2.2.2.2.2.2.1 C0.2.2.2.2.2.2.2.2.2.2.2.2 a2 x1 I L R I6 q7) lc_X8_begin lk_X11_65 (rf_lt qa2) (rf_kd qa2) ⟨_, rfl, rfl⟩ rfl (by rw [erm.1, erm.2]; decide) (Nat.le_of_ble_eq_true rfl) dX11_plan_30 ?_
      show V G _ 33 [(0, .ref (G.ad x0)), (1, .int x1)] [] I6 L R
      refine V_aload_n C0 0 rfl rfl dX11_plan_33 ?_
      obtain ⟨a8, qa8, h⟩ := bnd_some h
      refine V_getR C0 10 4 fl_X11_42 c_x0.2 c_x0.1 rfl (rf_at qa8) dX11_plan_34 ?_
      refine V_aload_n C0 0 rfl rfl dX11_plan_37 ?_
      refine V_getR C0 10 0 fl_X11_13 c_x0.2 c_x0.1 rfl (rf_at qa2) dX11_plan_38 ?_
      refine V_aload_n C0 0 rfl rfl dX11_plan_41 ?_
      obtain ⟨a9, qa9, h⟩ := bnd_some h
      refine V_getR C0 10 2 fl_X11_26 c_x0.2 c_x0.1 rfl (rf_at qa9) dX11_plan_42 ?_
      obtain ⟨b10, I11, L12, q13, h⟩ := bn3_some h
      refine V_callV C0 (st := []) (As := [.ref (G.ad a2), .ref (G.ad a9)]) 4 (c_X5_readFrom G.l G.D G.cA G.ad G.bs G.X C0.2.2.2.2.2.2.2.2.2.1 C0.2.2.2.2.2.2.2.2.2.2.2.2 ht N a8 a2 a9 I6 L R b10 I11 L12 q13) lc_X5_readFrom lk_X11_82 (rf_lt qa8) (rf_kd qa8) ⟨_, rfl, rfl⟩ rfl (by rw [erm.1, erm.2]; decide) (Nat.le_of_ble_eq_true rfl) dX11_plan_45 ?_
      show V G _ 48 [(0, .ref (G.ad x0)), (1, .int x1)] [.int (b2i b10)] I11 L12 R
      obtain ⟨u14, eu14, h⟩ := wr_some h
      rw [← eu14]
      refine V_istore_n C0 [(2, .int u14), (0, .ref (G.ad x0)), (1, .int x1)] rfl (by rw [eNL]; decide) rfl dX11_plan_48 ?_
      refine V_aload_n C0 1 rfl rfl dX11_plan_49 ?_
      refine V_getR C0 10 0 fl_X11_13 c_x0.2 c_x0.1 rfl (rf_at qa2) dX11_plan_50 ?_
      obtain ⟨I15, q16, h⟩ := bn1_some h
      refine V_callV C0 (st := []) (As := []) 7 (c_X8_empty G.l G.D G.cA G.ad G.bs G.X C0.2.2.2.2.2.2.2.2.2.1 C0.2.2.2.2.2.2.2.2.2.2.2.2 a2 I11 L12 R I15 q16) lc_X8_empty lk_X11_72 (rf_lt qa2) (rf_kd qa2) ⟨_, rfl, rfl⟩ rfl (by rw [erm.1, erm.2]; decide) (Nat.le_of_ble_eq_true rfl) dX11_plan_53 ?_
      show V G _ 56 [(2, .int u14), (0, .ref (G.ad x0)), (1, .int x1)] [] I15 L12 R
      refine V_iload_n C0 0 rfl rfl dX11_plan_56 ?_
      refine V_if_ne C0 (tgt := 62) (by decide) dX11_plan_57 (fun c17 => ?_) (fun c17 => ?_)
      · have h := (if_neg c17).symm.trans h
        refine V_aload_n C0 1 rfl rfl dX11_plan_62 ?_
        refine V_aload_n C0 1 rfl rfl dX11_plan_63 ?_
        obtain ⟨a18, qa18, h⟩ := bnd_some h
        refine V_getR C0 10 3 fl_X11_35 c_x0.2 c_x0.1 rfl (rf_at qa18) dX11_plan_64 ?_
        refine V_aload_n C0 1 rfl rfl dX11_plan_67 ?_
        refine V_getR C0 10 4 fl_X11_42 c_x0.2 c_x0.1 rfl (rf_at qa8) dX11_plan_68 ?_
        obtain ⟨a19, R20, q21, h⟩ := bn2_some h
        refine V_callV C0 (st := [.ref (G.ad x0)]) (As := [.ref (G.ad a8)]) 2 (c_X2_exchangePlan G.l G.D G.cA G.ad G.bs G.X C0.2.2.2.2.2.2.2.2.2.1 C0.2.2.2.2.2.2.2.2.2.2.2.2 a18 a8 I15 L12 R a19 R20 q21) lc_X2_exchangePlan lk_X11_85 (rf_lt qa18) (rf_kd qa18) ⟨_, rfl, rfl⟩ rfl (by rw [erm.1, erm.2]; decide) (Nat.le_of_ble_eq_true rfl) dX11_plan_71 ?_
        show V G _ 74 [(2, .int u14), (0, .ref (G.ad x0)), (1, .int x1)] [.ref (G.ad a19), .ref (G.ad x0)] I15 L12 R20
        obtain ⟨c22, h⟩ := ite_some h
        obtain ⟨R23, eR23, h⟩ := wr_some h
        refine V_putR C0 "SmallCraft$Plan" 10 4 fp_X11_42 rfl c_x0.2 c_x0.1 rfl dX11_plan_74 ?_
        rw [← eR23]
        refine V_aload_n C0 1 rfl rfl dX11_plan_77 ?_
        obtain ⟨a24, qa24, h⟩ := bnd_some h
        refine V_getR C0 10 3 fl_X11_35 c_x0.2 c_x0.1 rfl (rf_at qa24) dX11_plan_78 ?_
        obtain ⟨a25, q26, h⟩ := bn1_some h
        refine V_callV C0 (st := []) (As := []) 2 (c_X2_planned G.l G.D G.cA G.ad G.bs G.X C0.2.2.2.2.2.2.2.2.2.1 C0.2.2.2.2.2.2.2.2.2.2.2.2 a24 I15 L12 R23 a25 q26) lc_X2_planned lk_X11_89 (rf_lt qa24) (rf_kd qa24) ⟨_, rfl, rfl⟩ rfl (by rw [erm.1, erm.2]; decide) (Nat.le_of_ble_eq_true rfl) dX11_plan_81 ?_
        show V G _ 84 [(2, .int u14), (0, .ref (G.ad x0)), (1, .int x1)] [.ref (G.ad a25)] I15 L12 R23
        obtain ⟨c27, h⟩ := ite_some h
        obtain ⟨v28, q29, h⟩ := bn1_some h
        refine V_callV C0 (st := []) (As := []) 4 (c_X5_size G.l G.D G.cA G.ad G.bs G.X C0.2.2.2.2.2.2.2.2.2.1 C0.2.2.2.2.2.2.2.2.2.2.2.2 a25 I15 L12 R23 v28 q29) lc_X5_size lk_X11_93 c27.2 c27.1 ⟨_, rfl, rfl⟩ rfl (by rw [erm.1, erm.2]; decide) (Nat.le_of_ble_eq_true rfl) dX11_plan_84 ?_
        show V G _ 87 [(2, .int u14), (0, .ref (G.ad x0)), (1, .int x1)] [.int v28] I15 L12 R23
        cases h
        refine V_retT ?_
        exact V_iret C0 dX11_plan_87
      · have h := (if_pos c17).symm.trans h
        refine V_iconst C0 (v := (-1 : Int32)) (by decide) dX11_plan_60 ?_
        cases h
        refine V_retT ?_
        exact V_iret C0 dX11_plan_61
    · have h := (if_neg c5).symm.trans h
      cases h
      exact V_throw C0 hl hz htab tk_58_60 dX11_plan_15 dX11_plan_18 dX11_plan_19 dX11_plan_21 dX11_plan_24 (by rw [erm.1, erm.2]; decide) (by rw [erm0]; exact ⟨Nat.le_refl 1, Nat.le_refl 6⟩) (Nat.le_of_ble_eq_true rfl)
theorem dX11_run_0 : decode cX11_run 0 = .ok (.aload_n 0, 1) := by decide +kernel
theorem dX11_run_1 : decode cX11_run 1 = .ok (.getfield 26, 3) := by decide +kernel
theorem dX11_run_4 : decode cX11_run 4 = .ok (.invokevirtual 81, 3) := by decide +kernel
theorem dX11_run_7 : decode cX11_run 7 = .ok (.ifCond .ne 13, 3) := by decide +kernel
theorem dX11_run_10 : decode cX11_run 10 = .ok (.new 100, 3) := by decide +kernel
theorem dX11_run_13 : decode cX11_run 13 = .ok (.dup, 1) := by decide +kernel
theorem dX11_run_14 : decode cX11_run 14 = .ok (.ldc 102, 2) := by decide +kernel
theorem dX11_run_16 : decode cX11_run 16 = .ok (.invokespecial 104, 3) := by decide +kernel
theorem dX11_run_19 : decode cX11_run 19 = .ok (.athrow, 1) := by decide +kernel
theorem dX11_run_20 : decode cX11_run 20 = .ok (.iload_n 1, 1) := by decide +kernel
theorem dX11_run_21 : decode cX11_run 21 = .ok (.ifCond .lt 10, 3) := by decide +kernel
theorem dX11_run_24 : decode cX11_run 24 = .ok (.iload_n 1, 1) := by decide +kernel
theorem dX11_run_25 : decode cX11_run 25 = .ok (.sipush 1000, 3) := by decide +kernel
theorem dX11_run_28 : decode cX11_run 28 = .ok (.if_icmp .le 13, 3) := by decide +kernel
theorem dX11_run_31 : decode cX11_run 31 = .ok (.new 58, 3) := by decide +kernel
theorem dX11_run_34 : decode cX11_run 34 = .ok (.dup, 1) := by decide +kernel
theorem dX11_run_35 : decode cX11_run 35 = .ok (.ldc 105, 2) := by decide +kernel
theorem dX11_run_37 : decode cX11_run 37 = .ok (.invokespecial 62, 3) := by decide +kernel
theorem dX11_run_40 : decode cX11_run 40 = .ok (.athrow, 1) := by decide +kernel
theorem dX11_run_41 : decode cX11_run 41 = .ok (.iconst 0, 1) := by decide +kernel
theorem dX11_run_42 : decode cX11_run 42 = .ok (.istore_n 2, 1) := by decide +kernel
theorem dX11_run_43 : decode cX11_run 43 = .ok (.iload_n 2, 1) := by decide +kernel
theorem dX11_run_44 : decode cX11_run 44 = .ok (.iload_n 1, 1) := by decide +kernel
theorem dX11_run_45 : decode cX11_run 45 = .ok (.if_icmp .ge 16, 3) := by decide +kernel
theorem dX11_run_48 : decode cX11_run 48 = .ok (.aload_n 0, 1) := by decide +kernel
theorem dX11_run_49 : decode cX11_run 49 = .ok (.getfield 35, 3) := by decide +kernel
theorem dX11_run_52 : decode cX11_run 52 = .ok (.invokevirtual 107, 3) := by decide +kernel
theorem dX11_run_55 : decode cX11_run 55 = .ok (.iinc 2 1, 3) := by decide +kernel
theorem dX11_run_58 : decode cX11_run 58 = .ok (.goto (-15), 3) := by decide +kernel
theorem dX11_run_61 : decode cX11_run 61 = .ok (.aload_n 0, 1) := by decide +kernel
theorem dX11_run_62 : decode cX11_run 62 = .ok (.getfield 35, 3) := by decide +kernel
theorem dX11_run_65 : decode cX11_run 65 = .ok (.invokevirtual 110, 3) := by decide +kernel
theorem dX11_run_68 : decode cX11_run 68 = .ok (.ireturn, 1) := by decide +kernel
def LF_X11_run_43 (N : Nat) : Nat → Nat → Int32 → Int32 → MI → ML → MR → Option (MI)
  | 0, _, _, _, _, _, _ => none
  | k + 1, y0, y1, y2, I, L, R =>
    if y1 ≤ y2 then
      some (I)
    else
      (rf R y0 3 2).bind fun a8 =>
      bn1 (F_X2_tick N a8 I L R) fun I9 =>
      wr (y2 + (1 : Int32)) fun (u11 : Int32) =>
      LF_X11_run_43 N k y0 y1 u11 I9 L R
def F_X11_run (N : Nat) (x0 : Nat) (x1 : Int32) (I : MI) (L : ML) (R : MR) : Option (Sum String (Int32 × MI)) :=
  if kd x0 = 10 ∧ x0 < NN then
  (rf R x0 2 9).bind fun a1 =>
  bn1 (F_X10_size a1 I L R) fun v2 =>
  if v2 = 0 then
    some (.inl "java/lang/IllegalStateException")
  else
    if x1 < 0 then
      some (.inl "java/lang/IllegalArgumentException")
    else
      if x1 ≤ (1000 : Int32) then
        bn1 (LF_X11_run_43 N N x0 x1 (0 : Int32) I L R) fun z12 =>
        (rf R x0 3 2).bind fun a14 =>
        bn1 (F_X2_ticksSoFar a14 z12 L R) fun v15 =>
        some (.inr (v15, z12))
      else
        some (.inl "java/lang/IllegalArgumentException")
  else none
set_option maxRecDepth 100000 in
set_option maxHeartbeats 4000000 in
theorem lp_X11_run_43 {G : Gm} (C0 : Cx G (yX11_run.cls) cX11_run (some .int)) (eNL : G.nL = 3) (erm : G.rm.frames = 7 ∧ G.rm.locals = 160) (hs : Ssx G.ad G.bs G.X) (N : Nat) : ∀ (k : Nat) (y0 : Nat) (y1 : Int32) (y2 : Int32) (I : MI) (L : ML) (R : MR) (z : MI) (hk0 : kd y0 = 10) (ho0 : y0 < NN), LF_X11_run_43 N k y0 y1 y2 I L R = some z → ∀ f : State → Prop, V G f 61 [(0, .ref (G.ad y0))] [] z L R → V G f 43 [(0, .ref (G.ad y0)), (1, .int y1), (2, .int y2)] [] I L R := by
  intro k
  induction k with
  | zero =>
    intro y0 y1 y2 I L R q hk0 ho0 h
    exact absurd h (by simp [LF_X11_run_43])
  | succ k ih =>
    intro y0 y1 y2 I L R q hk0 ho0 h f kx
    rw [LF_X11_run_43] at h
    have hsx := hs _ C0.2.2.2.2.2.2.2.2.2.2.2.1
    refine V_iload_n C0 2 rfl rfl dX11_run_43 ?_
    refine V_iload_n C0 1 rfl rfl dX11_run_44 ?_
    refine V_icmp_ge C0 (tgt := 61) (by decide) dX11_run_45 (fun c7 => ?_) (fun c7 => ?_)
    · have h := (if_pos c7).symm.trans h
      cases h
      exact V_sub [0] rfl kx
    · have h := (if_neg c7).symm.trans h
      refine V_aload_n C0 0 rfl rfl dX11_run_48 ?_
      obtain ⟨a8, qa8, h⟩ := bnd_some h
      refine V_getR C0 10 3 fl_X11_35 ho0 hk0 rfl (rf_at qa8) dX11_run_49 ?_
      obtain ⟨I9, q10, h⟩ := bn1_some h
      refine V_callV C0 (st := []) (As := []) 2 (c_X2_tick G.l G.D G.cA G.ad G.bs G.X C0.2.2.2.2.2.2.2.2.2.1 C0.2.2.2.2.2.2.2.2.2.2.2.2 hs N a8 I L R I9 q10) lc_X2_tick lk_X11_107 (rf_lt qa8) (rf_kd qa8) ⟨_, rfl, rfl⟩ rfl (by rw [erm.1, erm.2]; decide) (Nat.le_of_ble_eq_true rfl) dX11_run_52 ?_
      show V G _ 55 [(0, .ref (G.ad y0)), (1, .int y1), (2, .int y2)] [] I9 L R
      obtain ⟨u11, eu11, h⟩ := wr_some h
      refine V_iinc C0 2 [(2, .int u11), (0, .ref (G.ad y0)), (1, .int y1)] rfl (n := 1) (by rw [eu11]; rfl) (by rw [eNL]; decide) rfl dX11_run_55 ?_
      refine V_goto C0 (tgt := 43) (by decide) dX11_run_58 ?_
      exact V_sub [1, 2, 0] rfl (ih y0 y1 u11 I9 L R _ hk0 ho0 h f kx)
set_option maxRecDepth 100000 in
set_option maxHeartbeats 4000000 in
theorem c_X11_run (l : Launch) (D : va_G) (cA : Nat → ClassId) (ad : Nat → Nat) (bs : Nat) (X : State → Prop) (hAd : Ax ad bs) (hX : Stb bs X) (hl : l.stackTraces = false) (hc : Ssc bs X) (hs : Ssx ad bs X) (N : Nat) (x0 : Nat) (x1 : Int32) (I : MI) (L : ML) (R : MR) (w : Sum String (Int32 × MI)) (h : F_X11_run N x0 x1 I L R = some w) : CnT l D cA ad bs X yX11_run cX11_run 3 (some .int) 7 160 [.ref (ad x0), .int x1] I L R (zT (fun (r : Int32 × MI) => (some (.int r.1), r.2, L, R)) I L R w) := by
  refine CnT.ofV hAd hX [(0, .ref (ad x0)), (1, .int x1)] rfl (Nat.le_of_ble_eq_true rfl) (by decide) ?_
  intro G el eD ecA ead ebs eX erm0 eNL htab C0
  subst el eD ecA ead ebs eX
  have hz := hc _ C0.2.2.2.2.2.2.2.2.2.2.2.1
  have erm : G.rm.frames = 7 ∧ G.rm.locals = 160 := by rw [erm0]; exact ⟨rfl, rfl⟩
  have hsx := hs _ C0.2.2.2.2.2.2.2.2.2.2.2.1
  unfold F_X11_run at h
  obtain ⟨c_x0, h⟩ := ite_some h
  refine V_aload_n C0 0 rfl rfl dX11_run_0 ?_
  obtain ⟨a1, qa1, h⟩ := bnd_some h
  refine V_getR C0 10 2 fl_X11_26 c_x0.2 c_x0.1 rfl (rf_at qa1) dX11_run_1 ?_
  obtain ⟨v2, q3, h⟩ := bn1_some h
  refine V_callV C0 (st := []) (As := []) 9 (c_X10_size G.l G.D G.cA G.ad G.bs G.X C0.2.2.2.2.2.2.2.2.2.1 C0.2.2.2.2.2.2.2.2.2.2.2.2 a1 I L R v2 q3) lc_X10_size lk_X11_81 (rf_lt qa1) (rf_kd qa1) ⟨_, rfl, rfl⟩ rfl (by rw [erm.1, erm.2]; decide) (Nat.le_of_ble_eq_true rfl) dX11_run_4 ?_
  show V G _ 7 [(0, .ref (G.ad x0)), (1, .int x1)] [.int v2] I L R
  refine V_if_ne C0 (tgt := 20) (by decide) dX11_run_7 (fun c4 => ?_) (fun c4 => ?_)
  · have h := (if_neg c4).symm.trans h
    refine V_iload_n C0 1 rfl rfl dX11_run_20 ?_
    refine V_if_lt C0 (tgt := 31) (by decide) dX11_run_21 (fun c5 => ?_) (fun c5 => ?_)
    · have h := (if_pos c5).symm.trans h
      cases h
      exact V_throw C0 hl hz htab tk_58_105 dX11_run_31 dX11_run_34 dX11_run_35 dX11_run_37 dX11_run_40 (by rw [erm.1, erm.2]; decide) (by rw [erm0]; exact ⟨Nat.le_refl 1, Nat.le_refl 6⟩) (Nat.le_of_ble_eq_true rfl)
    · have h := (if_neg c5).symm.trans h
      refine V_iload_n C0 1 rfl rfl dX11_run_24 ?_
      refine V_sipush C0 (v := (1000 : Int32)) (by decide) dX11_run_25 ?_
      refine V_icmp_le C0 (tgt := 41) (by decide) dX11_run_28 (fun c6 => ?_) (fun c6 => ?_)
      · have h := (if_pos c6).symm.trans h
        refine V_iconst C0 (v := (0 : Int32)) (by decide) dX11_run_41 ?_
        refine V_istore_n C0 [(2, .int (0 : Int32)), (0, .ref (G.ad x0)), (1, .int x1)] rfl (by rw [eNL]; decide) rfl dX11_run_42 ?_
        obtain ⟨z12, q13, h⟩ := bn1_some h
        refine V_sub [1, 2, 0] rfl (lp_X11_run_43 C0 eNL erm hs N N x0 x1 (0 : Int32) I L R _ c_x0.1 c_x0.2 q13 _ ?_)
        show V G _ 61 [(0, .ref (G.ad x0))] [] z12 L R
        refine V_aload_n C0 0 rfl rfl dX11_run_61 ?_
        obtain ⟨a14, qa14, h⟩ := bnd_some h
        refine V_getR C0 10 3 fl_X11_35 c_x0.2 c_x0.1 rfl (rf_at qa14) dX11_run_62 ?_
        obtain ⟨v15, q16, h⟩ := bn1_some h
        refine V_callV C0 (st := []) (As := []) 2 (c_X2_ticksSoFar G.l G.D G.cA G.ad G.bs G.X C0.2.2.2.2.2.2.2.2.2.1 C0.2.2.2.2.2.2.2.2.2.2.2.2 a14 z12 L R v15 q16) lc_X2_ticksSoFar lk_X11_110 (rf_lt qa14) (rf_kd qa14) ⟨_, rfl, rfl⟩ rfl (by rw [erm.1, erm.2]; decide) (Nat.le_of_ble_eq_true rfl) dX11_run_65 ?_
        show V G _ 68 [(0, .ref (G.ad x0))] [.int v15] z12 L R
        cases h
        refine V_retT ?_
        exact V_iret C0 dX11_run_68
      · have h := (if_neg c6).symm.trans h
        cases h
        exact V_throw C0 hl hz htab tk_58_105 dX11_run_31 dX11_run_34 dX11_run_35 dX11_run_37 dX11_run_40 (by rw [erm.1, erm.2]; decide) (by rw [erm0]; exact ⟨Nat.le_refl 1, Nat.le_refl 6⟩) (Nat.le_of_ble_eq_true rfl)
  · have h := (if_pos c4).symm.trans h
    cases h
    exact V_throw C0 hl hz htab tk_100_102 dX11_run_10 dX11_run_13 dX11_run_14 dX11_run_16 dX11_run_19 (by rw [erm.1, erm.2]; decide) (by rw [erm0]; exact ⟨Nat.le_refl 1, Nat.le_refl 6⟩) (Nat.le_of_ble_eq_true rfl)
theorem dX11_command_0 : decode cX11_command 0 = .ok (.aload_n 0, 1) := by decide +kernel
theorem dX11_command_1 : decode cX11_command 1 = .ok (.getfield 26, 3) := by decide +kernel
theorem dX11_command_4 : decode cX11_command 4 = .ok (.invokevirtual 81, 3) := by decide +kernel
theorem dX11_command_7 : decode cX11_command 7 = .ok (.ifCond .eq 13, 3) := by decide +kernel
theorem dX11_command_10 : decode cX11_command 10 = .ok (.aload_n 0, 1) := by decide +kernel
theorem dX11_command_11 : decode cX11_command 11 = .ok (.iload_n 1, 1) := by decide +kernel
theorem dX11_command_12 : decode cX11_command 12 = .ok (.iload_n 2, 1) := by decide +kernel
theorem dX11_command_13 : decode cX11_command 13 = .ok (.iload_n 3, 1) := by decide +kernel
theorem dX11_command_14 : decode cX11_command 14 = .ok (.invokevirtual 113, 3) := by decide +kernel
theorem dX11_command_17 : decode cX11_command 17 = .ok (.ifCond .ne 13, 3) := by decide +kernel
theorem dX11_command_20 : decode cX11_command 20 = .ok (.new 58, 3) := by decide +kernel
theorem dX11_command_23 : decode cX11_command 23 = .ok (.dup, 1) := by decide +kernel
theorem dX11_command_24 : decode cX11_command 24 = .ok (.ldc 117, 2) := by decide +kernel
theorem dX11_command_26 : decode cX11_command 26 = .ok (.invokespecial 62, 3) := by decide +kernel
theorem dX11_command_29 : decode cX11_command 29 = .ok (.athrow, 1) := by decide +kernel
theorem dX11_command_30 : decode cX11_command 30 = .ok (.aload_n 0, 1) := by decide +kernel
theorem dX11_command_31 : decode cX11_command 31 = .ok (.getfield 35, 3) := by decide +kernel
theorem dX11_command_34 : decode cX11_command 34 = .ok (.iload_n 1, 1) := by decide +kernel
theorem dX11_command_35 : decode cX11_command 35 = .ok (.iload_n 2, 1) := by decide +kernel
theorem dX11_command_36 : decode cX11_command 36 = .ok (.iload_n 3, 1) := by decide +kernel
theorem dX11_command_37 : decode cX11_command 37 = .ok (.invokevirtual 119, 3) := by decide +kernel
theorem dX11_command_40 : decode cX11_command 40 = .ok (.ireturn, 1) := by decide +kernel
def F_X11_command (N : Nat) (x0 : Nat) (x1 : Int32) (x2 : Int32) (x3 : Int32) (I : MI) (L : ML) (R : MR) : Option (Sum String (Bool × MI)) :=
  if kd x0 = 10 ∧ x0 < NN then
  (rf R x0 2 9).bind fun a1 =>
  bn1 (F_X10_size a1 I L R) fun v2 =>
  if v2 = 0 then
    some (.inl "java/lang/IllegalArgumentException")
  else
    bn1 (F_X11_isAct x0 x1 x2 x3 I L R) fun b5 =>
    if (b2i b5) = 0 then
      some (.inl "java/lang/IllegalArgumentException")
    else
      (rf R x0 3 2).bind fun a8 =>
      bn2 (F_X2_perform N a8 x1 x2 x3 I L R) fun b9 I10 =>
      some (.inr (b9, I10))
  else none
set_option maxRecDepth 100000 in
set_option maxHeartbeats 4000000 in
theorem c_X11_command (l : Launch) (D : va_G) (cA : Nat → ClassId) (ad : Nat → Nat) (bs : Nat) (X : State → Prop) (hAd : Ax ad bs) (hX : Stb bs X) (hl : l.stackTraces = false) (hc : Ssc bs X) (N : Nat) (x0 : Nat) (x1 : Int32) (x2 : Int32) (x3 : Int32) (I : MI) (L : ML) (R : MR) (w : Sum String (Bool × MI)) (h : F_X11_command N x0 x1 x2 x3 I L R = some w) : CnT l D cA ad bs X yX11_command cX11_command 4 (some .boolean) 6 114 [.ref (ad x0), .int x1, .int x2, .int x3] I L R (zT (fun (r : Bool × MI) => (some (.int (b2i r.1)), r.2, L, R)) I L R w) := by
  refine CnT.ofV hAd hX [(0, .ref (ad x0)), (1, .int x1), (2, .int x2), (3, .int x3)] rfl (Nat.le_of_ble_eq_true rfl) (by decide) ?_
  intro G el eD ecA ead ebs eX erm0 eNL htab C0
  subst el eD ecA ead ebs eX
  have hz := hc _ C0.2.2.2.2.2.2.2.2.2.2.2.1
  have erm : G.rm.frames = 6 ∧ G.rm.locals = 114 := by rw [erm0]; exact ⟨rfl, rfl⟩
  unfold F_X11_command at h
  obtain ⟨c_x0, h⟩ := ite_some h
  refine V_aload_n C0 0 rfl rfl dX11_command_0 ?_
  obtain ⟨a1, qa1, h⟩ := bnd_some h
  refine V_getR C0 10 2 fl_X11_26 c_x0.2 c_x0.1 rfl (rf_at qa1) dX11_command_1 ?_
  obtain ⟨v2, q3, h⟩ := bn1_some h
  refine V_callV C0 (st := []) (As := []) 9 (c_X10_size G.l G.D G.cA G.ad G.bs G.X C0.2.2.2.2.2.2.2.2.2.1 C0.2.2.2.2.2.2.2.2.2.2.2.2 a1 I L R v2 q3) lc_X10_size lk_X11_81 (rf_lt qa1) (rf_kd qa1) ⟨_, rfl, rfl⟩ rfl (by rw [erm.1, erm.2]; decide) (Nat.le_of_ble_eq_true rfl) dX11_command_4 ?_
  show V G _ 7 [(0, .ref (G.ad x0)), (1, .int x1), (2, .int x2), (3, .int x3)] [.int v2] I L R
  refine V_if_eq C0 (tgt := 20) (by decide) dX11_command_7 (fun c4 => ?_) (fun c4 => ?_)
  · have h := (if_pos c4).symm.trans h
    cases h
    exact V_throw C0 hl hz htab tk_58_117 dX11_command_20 dX11_command_23 dX11_command_24 dX11_command_26 dX11_command_29 (by rw [erm.1, erm.2]; decide) (by rw [erm0]; exact ⟨Nat.le_refl 1, Nat.le_refl 6⟩) (Nat.le_of_ble_eq_true rfl)
  · have h := (if_neg c4).symm.trans h
    refine V_aload_n C0 0 rfl rfl dX11_command_10 ?_
    refine V_iload_n C0 1 rfl rfl dX11_command_11 ?_
    refine V_iload_n C0 2 rfl rfl dX11_command_12 ?_
    refine V_iload_n C0 3 rfl rfl dX11_command_13 ?_
    obtain ⟨b5, q6, h⟩ := bn1_some h
    refine V_callV C0 (st := []) (As := [.int x1, .int x2, .int x3]) 10 (c_X11_isAct G.l G.D G.cA G.ad G.bs G.X C0.2.2.2.2.2.2.2.2.2.1 C0.2.2.2.2.2.2.2.2.2.2.2.2 x0 x1 x2 x3 I L R b5 q6) lc_X11_isAct lk_X11_113 c_x0.2 c_x0.1 ⟨_, rfl, rfl⟩ rfl (by rw [erm.1, erm.2]; decide) (Nat.le_of_ble_eq_true rfl) dX11_command_14 ?_
    show V G _ 17 [(0, .ref (G.ad x0)), (1, .int x1), (2, .int x2), (3, .int x3)] [.int (b2i b5)] I L R
    refine V_if_ne C0 (tgt := 30) (by decide) dX11_command_17 (fun c7 => ?_) (fun c7 => ?_)
    · have h := (if_neg c7).symm.trans h
      refine V_aload_n C0 0 rfl rfl dX11_command_30 ?_
      obtain ⟨a8, qa8, h⟩ := bnd_some h
      refine V_getR C0 10 3 fl_X11_35 c_x0.2 c_x0.1 rfl (rf_at qa8) dX11_command_31 ?_
      refine V_iload_n C0 1 rfl rfl dX11_command_34 ?_
      refine V_iload_n C0 2 rfl rfl dX11_command_35 ?_
      refine V_iload_n C0 3 rfl rfl dX11_command_36 ?_
      obtain ⟨b9, I10, q11, h⟩ := bn2_some h
      refine V_callV C0 (st := []) (As := [.int x1, .int x2, .int x3]) 2 (c_X2_perform G.l G.D G.cA G.ad G.bs G.X C0.2.2.2.2.2.2.2.2.2.1 C0.2.2.2.2.2.2.2.2.2.2.2.2 N a8 x1 x2 x3 I L R b9 I10 q11) lc_X2_perform lk_X11_119 (rf_lt qa8) (rf_kd qa8) ⟨_, rfl, rfl⟩ rfl (by rw [erm.1, erm.2]; decide) (Nat.le_of_ble_eq_true rfl) dX11_command_37 ?_
      show V G _ 40 [(0, .ref (G.ad x0)), (1, .int x1), (2, .int x2), (3, .int x3)] [.int (b2i b9)] I10 L R
      cases h
      refine V_retT ?_
      exact V_zret C0 (b2i01 _) dX11_command_40
    · have h := (if_pos c7).symm.trans h
      cases h
      exact V_throw C0 hl hz htab tk_58_117 dX11_command_20 dX11_command_23 dX11_command_24 dX11_command_26 dX11_command_29 (by rw [erm.1, erm.2]; decide) (by rw [erm0]; exact ⟨Nat.le_refl 1, Nat.le_refl 6⟩) (Nat.le_of_ble_eq_true rfl)
theorem dX11_checkUnit_0 : decode cX11_checkUnit 0 = .ok (.aload_n 0, 1) := by decide +kernel
theorem dX11_checkUnit_1 : decode cX11_checkUnit 1 = .ok (.getfield 26, 3) := by decide +kernel
theorem dX11_checkUnit_4 : decode cX11_checkUnit 4 = .ok (.iload_n 1, 1) := by decide +kernel
theorem dX11_checkUnit_5 : decode cX11_checkUnit 5 = .ok (.invokevirtual 238, 3) := by decide +kernel
theorem dX11_checkUnit_8 : decode cX11_checkUnit 8 = .ok (.ifCond .ne 13, 3) := by decide +kernel
theorem dX11_checkUnit_11 : decode cX11_checkUnit 11 = .ok (.new 163, 3) := by decide +kernel
theorem dX11_checkUnit_14 : decode cX11_checkUnit 14 = .ok (.dup, 1) := by decide +kernel
theorem dX11_checkUnit_15 : decode cX11_checkUnit 15 = .ok (.ldc 241, 2) := by decide +kernel
theorem dX11_checkUnit_17 : decode cX11_checkUnit 17 = .ok (.invokespecial 167, 3) := by decide +kernel
theorem dX11_checkUnit_20 : decode cX11_checkUnit 20 = .ok (.athrow, 1) := by decide +kernel
theorem dX11_checkUnit_21 : decode cX11_checkUnit 21 = .ok (.return_, 1) := by decide +kernel
def F_X11_checkUnit (x0 : Nat) (x1 : Int32) (I : MI) (L : ML) (R : MR) : Option (Sum String (Unit)) :=
  if kd x0 = 10 ∧ x0 < NN then
  (rf R x0 2 9).bind fun a1 =>
  bn1 (F_X10_has a1 x1 I L R) fun b2 =>
  if (b2i b2) = 0 then
    some (.inl "java/lang/IndexOutOfBoundsException")
  else
    some (.inr ())
  else none
set_option maxRecDepth 100000 in
set_option maxHeartbeats 4000000 in
theorem c_X11_checkUnit (l : Launch) (D : va_G) (cA : Nat → ClassId) (ad : Nat → Nat) (bs : Nat) (X : State → Prop) (hAd : Ax ad bs) (hX : Stb bs X) (hl : l.stackTraces = false) (hc : Ssc bs X) (x0 : Nat) (x1 : Int32) (I : MI) (L : ML) (R : MR) (w : Sum String (Unit)) (h : F_X11_checkUnit x0 x1 I L R = some w) : CnT l D cA ad bs X yX11_checkUnit cX11_checkUnit 2 none 6 90 [.ref (ad x0), .int x1] I L R (zT (fun (r : Unit) => (none, I, L, R)) I L R w) := by
  refine CnT.ofV hAd hX [(0, .ref (ad x0)), (1, .int x1)] rfl (Nat.le_of_ble_eq_true rfl) (by decide) ?_
  intro G el eD ecA ead ebs eX erm0 eNL htab C0
  subst el eD ecA ead ebs eX
  have hz := hc _ C0.2.2.2.2.2.2.2.2.2.2.2.1
  have erm : G.rm.frames = 6 ∧ G.rm.locals = 90 := by rw [erm0]; exact ⟨rfl, rfl⟩
  unfold F_X11_checkUnit at h
  obtain ⟨c_x0, h⟩ := ite_some h
  refine V_aload_n C0 0 rfl rfl dX11_checkUnit_0 ?_
  obtain ⟨a1, qa1, h⟩ := bnd_some h
  refine V_getR C0 10 2 fl_X11_26 c_x0.2 c_x0.1 rfl (rf_at qa1) dX11_checkUnit_1 ?_
  refine V_iload_n C0 1 rfl rfl dX11_checkUnit_4 ?_
  obtain ⟨b2, q3, h⟩ := bn1_some h
  refine V_callV C0 (st := []) (As := [.int x1]) 9 (c_X10_has G.l G.D G.cA G.ad G.bs G.X C0.2.2.2.2.2.2.2.2.2.1 C0.2.2.2.2.2.2.2.2.2.2.2.2 a1 x1 I L R b2 q3) lc_X10_has lk_X11_238 (rf_lt qa1) (rf_kd qa1) ⟨_, rfl, rfl⟩ rfl (by rw [erm.1, erm.2]; decide) (Nat.le_of_ble_eq_true rfl) dX11_checkUnit_5 ?_
  show V G _ 8 [(0, .ref (G.ad x0)), (1, .int x1)] [.int (b2i b2)] I L R
  refine V_if_ne C0 (tgt := 21) (by decide) dX11_checkUnit_8 (fun c4 => ?_) (fun c4 => ?_)
  · have h := (if_neg c4).symm.trans h
    cases h
    refine V_retT ?_
    exact V_vret C0 dX11_checkUnit_21
  · have h := (if_pos c4).symm.trans h
    cases h
    exact V_throw C0 hl hz htab tk_163_241 dX11_checkUnit_11 dX11_checkUnit_14 dX11_checkUnit_15 dX11_checkUnit_17 dX11_checkUnit_20 (by rw [erm.1, erm.2]; decide) (by rw [erm0]; exact ⟨Nat.le_refl 1, Nat.le_refl 6⟩) (Nat.le_of_ble_eq_true rfl)
theorem dX11_name_0 : decode cX11_name 0 = .ok (.aload_n 0, 1) := by decide +kernel
theorem dX11_name_1 : decode cX11_name 1 = .ok (.iload_n 1, 1) := by decide +kernel
theorem dX11_name_2 : decode cX11_name 2 = .ok (.invokevirtual 122, 3) := by decide +kernel
theorem dX11_name_5 : decode cX11_name 5 = .ok (.iload_n 2, 1) := by decide +kernel
theorem dX11_name_6 : decode cX11_name 6 = .ok (.ifCond .ge 13, 3) := by decide +kernel
theorem dX11_name_9 : decode cX11_name 9 = .ok (.new 163, 3) := by decide +kernel
theorem dX11_name_12 : decode cX11_name 12 = .ok (.dup, 1) := by decide +kernel
theorem dX11_name_13 : decode cX11_name 13 = .ok (.ldc 165, 2) := by decide +kernel
theorem dX11_name_15 : decode cX11_name 15 = .ok (.invokespecial 167, 3) := by decide +kernel
theorem dX11_name_18 : decode cX11_name 18 = .ok (.athrow, 1) := by decide +kernel
theorem dX11_name_19 : decode cX11_name 19 = .ok (.aload_n 0, 1) := by decide +kernel
theorem dX11_name_20 : decode cX11_name 20 = .ok (.getfield 26, 3) := by decide +kernel
theorem dX11_name_23 : decode cX11_name 23 = .ok (.iload_n 1, 1) := by decide +kernel
theorem dX11_name_24 : decode cX11_name 24 = .ok (.invokevirtual 125, 3) := by decide +kernel
theorem dX11_name_27 : decode cX11_name 27 = .ok (.getfield 168, 3) := by decide +kernel
theorem dX11_name_30 : decode cX11_name 30 = .ok (.iload_n 2, 1) := by decide +kernel
theorem dX11_name_31 : decode cX11_name 31 = .ok (.invokestatic 172, 3) := by decide +kernel
theorem dX11_name_34 : decode cX11_name 34 = .ok (.istore_n 3, 1) := by decide +kernel
theorem dX11_name_35 : decode cX11_name 35 = .ok (.iload_n 3, 1) := by decide +kernel
theorem dX11_name_36 : decode cX11_name 36 = .ok (.ifCond .ne 7, 3) := by decide +kernel
theorem dX11_name_39 : decode cX11_name 39 = .ok (.iconst (-1), 1) := by decide +kernel
theorem dX11_name_40 : decode cX11_name 40 = .ok (.goto 4, 3) := by decide +kernel
theorem dX11_name_43 : decode cX11_name 43 = .ok (.iload_n 3, 1) := by decide +kernel
theorem dX11_name_44 : decode cX11_name 44 = .ok (.ireturn, 1) := by decide +kernel
def F_X11_name (x0 : Nat) (x1 : Int32) (x2 : Int32) (I : MI) (L : ML) (R : MR) : Option (Sum String (Int32)) :=
  if kd x0 = 10 ∧ x0 < NN then
  bsm (F_X11_checkUnit x0 x1 I L R) (fun e2 => some (.inl e2)) fun z3 =>
  if 0 ≤ x2 then
    (rf R x0 2 9).bind fun a5 =>
    bn1 (F_X10_unitAt a5 x1 I L R) fun a6 =>
    if kd a6 = 8 ∧ a6 < NN then
    bn1 (F_X11_letterOf (L a6 3) x2 I L R) fun v9 =>
    if v9 = 0 then
      some (.inr ((-1 : Int32)))
    else
      some (.inr (v9))
    else none
  else
    some (.inl "java/lang/IndexOutOfBoundsException")
  else none
set_option maxRecDepth 100000 in
set_option maxHeartbeats 4000000 in
theorem c_X11_name (l : Launch) (D : va_G) (cA : Nat → ClassId) (ad : Nat → Nat) (bs : Nat) (X : State → Prop) (hAd : Ax ad bs) (hX : Stb bs X) (hl : l.stackTraces = false) (hc : Ssc bs X) (x0 : Nat) (x1 : Int32) (x2 : Int32) (I : MI) (L : ML) (R : MR) (w : Sum String (Int32)) (h : F_X11_name x0 x1 x2 I L R = some w) : CnT l D cA ad bs X yX11_name cX11_name 4 (some .int) 7 111 [.ref (ad x0), .int x1, .int x2] I L R (zT (fun (r : Int32) => (some (.int r), I, L, R)) I L R w) := by
  refine CnT.ofV hAd hX [(0, .ref (ad x0)), (1, .int x1), (2, .int x2)] rfl (Nat.le_of_ble_eq_true rfl) (by decide) ?_
  intro G el eD ecA ead ebs eX erm0 eNL htab C0
  subst el eD ecA ead ebs eX
  have hz := hc _ C0.2.2.2.2.2.2.2.2.2.2.2.1
  have erm : G.rm.frames = 7 ∧ G.rm.locals = 111 := by rw [erm0]; exact ⟨rfl, rfl⟩
  unfold F_X11_name at h
  obtain ⟨c_x0, h⟩ := ite_some h
  refine V_aload_n C0 0 rfl rfl dX11_name_0 ?_
  refine V_iload_n C0 1 rfl rfl dX11_name_1 ?_
  rcases bsm_some h with ⟨e2, q1, h⟩ | ⟨z3, q1, h⟩
  · cases h
    exact V_callX C0 htab (st := []) (As := [.int x1]) 10 (c_X11_checkUnit G.l G.D G.cA G.ad G.bs G.X C0.2.2.2.2.2.2.2.2.2.1 C0.2.2.2.2.2.2.2.2.2.2.2.2 hl hc x0 x1 I L R _ q1) rfl lc_X11_checkUnit lt_X11_122 c_x0.2 c_x0.1 ⟨_, rfl, rfl⟩ rfl (by rw [erm.1, erm.2]; decide) (by rw [erm0]; exact ⟨Nat.le_refl 1, Nat.le_refl 6⟩) (Nat.le_of_ble_eq_true rfl) dX11_name_2
  · refine V_callT C0 (st := []) (As := [.int x1]) 10 (c_X11_checkUnit G.l G.D G.cA G.ad G.bs G.X C0.2.2.2.2.2.2.2.2.2.1 C0.2.2.2.2.2.2.2.2.2.2.2.2 hl hc x0 x1 I L R _ q1) rfl lc_X11_checkUnit lt_X11_122 c_x0.2 c_x0.1 ⟨_, rfl, rfl⟩ rfl (by rw [erm.1, erm.2]; decide) (Nat.le_of_ble_eq_true rfl) dX11_name_2 ?_
    show V G _ 5 [(0, .ref (G.ad x0)), (1, .int x1), (2, .int x2)] [] I L R
    refine V_iload_n C0 2 rfl rfl dX11_name_5 ?_
    refine V_if_ge C0 (tgt := 19) (by decide) dX11_name_6 (fun c4 => ?_) (fun c4 => ?_)
    · have h := (if_pos c4).symm.trans h
      refine V_aload_n C0 0 rfl rfl dX11_name_19 ?_
      obtain ⟨a5, qa5, h⟩ := bnd_some h
      refine V_getR C0 10 2 fl_X11_26 c_x0.2 c_x0.1 rfl (rf_at qa5) dX11_name_20 ?_
      refine V_iload_n C0 1 rfl rfl dX11_name_23 ?_
      obtain ⟨a6, q7, h⟩ := bn1_some h
      refine V_callV C0 (st := []) (As := [.int x1]) 9 (c_X10_unitAt G.l G.D G.cA G.ad G.bs G.X C0.2.2.2.2.2.2.2.2.2.1 C0.2.2.2.2.2.2.2.2.2.2.2.2 a5 x1 I L R a6 q7) lc_X10_unitAt lk_X11_125 (rf_lt qa5) (rf_kd qa5) ⟨_, rfl, rfl⟩ rfl (by rw [erm.1, erm.2]; decide) (Nat.le_of_ble_eq_true rfl) dX11_name_24 ?_
      show V G _ 27 [(0, .ref (G.ad x0)), (1, .int x1), (2, .int x2)] [.ref (G.ad a6)] I L R
      obtain ⟨c8, h⟩ := ite_some h
      refine V_getL C0 8 3 fl_X11_168 c8.2 c8.1 rfl dX11_name_27 ?_
      refine V_iload_n C0 2 rfl rfl dX11_name_30 ?_
      obtain ⟨v9, q10, h⟩ := bn1_some h
      refine V_callS C0 (st := []) (As := [.long (L a6 3), .int x2]) (c_X11_letterOf G.l G.D G.cA G.ad G.bs G.X C0.2.2.2.2.2.2.2.2.2.1 C0.2.2.2.2.2.2.2.2.2.2.2.2 (L a6 3) x2 I L R v9 q10) lc_X11_letterOf lk_X11_172 rfl (by rw [erm.1, erm.2]; decide) (Nat.le_of_ble_eq_true rfl) dX11_name_31 ?_
      show V G _ 34 [(0, .ref (G.ad x0)), (1, .int x1), (2, .int x2)] [.int v9] I L R
      refine V_istore_n C0 [(3, .int v9), (0, .ref (G.ad x0)), (1, .int x1), (2, .int x2)] rfl (by rw [eNL]; decide) rfl dX11_name_34 ?_
      refine V_iload_n C0 0 rfl rfl dX11_name_35 ?_
      refine V_if_ne C0 (tgt := 43) (by decide) dX11_name_36 (fun c11 => ?_) (fun c11 => ?_)
      · have h := (if_neg c11).symm.trans h
        refine V_iload_n C0 0 rfl rfl dX11_name_43 ?_
        cases h
        refine V_retT ?_
        exact V_iret C0 dX11_name_44
      · have h := (if_pos c11).symm.trans h
        refine V_iconst C0 (v := (-1 : Int32)) (by decide) dX11_name_39 ?_
        refine V_goto C0 (tgt := 44) (by decide) dX11_name_40 ?_
        cases h
        refine V_retT ?_
        exact V_iret C0 dX11_name_44
    · have h := (if_neg c4).symm.trans h
      cases h
      exact V_throw C0 hl hz htab tk_163_165 dX11_name_9 dX11_name_12 dX11_name_13 dX11_name_15 dX11_name_18 (by rw [erm.1, erm.2]; decide) (by rw [erm0]; exact ⟨Nat.le_refl 1, Nat.le_refl 6⟩) (Nat.le_of_ble_eq_true rfl)
theorem dX11_kept_0 : decode cX11_kept 0 = .ok (.aload_n 0, 1) := by decide +kernel
theorem dX11_kept_1 : decode cX11_kept 1 = .ok (.iload_n 1, 1) := by decide +kernel
theorem dX11_kept_2 : decode cX11_kept 2 = .ok (.invokevirtual 122, 3) := by decide +kernel
theorem dX11_kept_5 : decode cX11_kept 5 = .ok (.aload_n 0, 1) := by decide +kernel
theorem dX11_kept_6 : decode cX11_kept 6 = .ok (.getfield 26, 3) := by decide +kernel
theorem dX11_kept_9 : decode cX11_kept 9 = .ok (.iload_n 1, 1) := by decide +kernel
theorem dX11_kept_10 : decode cX11_kept 10 = .ok (.invokevirtual 125, 3) := by decide +kernel
theorem dX11_kept_13 : decode cX11_kept 13 = .ok (.astore_n 3, 1) := by decide +kernel
theorem dX11_kept_14 : decode cX11_kept 14 = .ok (.aload_n 3, 1) := by decide +kernel
theorem dX11_kept_15 : decode cX11_kept 15 = .ok (.iconst 5, 1) := by decide +kernel
theorem dX11_kept_16 : decode cX11_kept 16 = .ok (.invokevirtual 176, 3) := by decide +kernel
theorem dX11_kept_19 : decode cX11_kept 19 = .ok (.ifCond .ne 13, 3) := by decide +kernel
theorem dX11_kept_22 : decode cX11_kept 22 = .ok (.new 58, 3) := by decide +kernel
theorem dX11_kept_25 : decode cX11_kept 25 = .ok (.dup, 1) := by decide +kernel
theorem dX11_kept_26 : decode cX11_kept 26 = .ok (.ldc 179, 2) := by decide +kernel
theorem dX11_kept_28 : decode cX11_kept 28 = .ok (.invokespecial 62, 3) := by decide +kernel
theorem dX11_kept_31 : decode cX11_kept 31 = .ok (.athrow, 1) := by decide +kernel
theorem dX11_kept_32 : decode cX11_kept 32 = .ok (.aload_n 3, 1) := by decide +kernel
theorem dX11_kept_33 : decode cX11_kept 33 = .ok (.iload_n 2, 1) := by decide +kernel
theorem dX11_kept_34 : decode cX11_kept 34 = .ok (.invokevirtual 181, 3) := by decide +kernel
theorem dX11_kept_37 : decode cX11_kept 37 = .ok (.ireturn, 1) := by decide +kernel
def F_X11_kept (x0 : Nat) (x1 : Int32) (x2 : Int32) (I : MI) (L : ML) (R : MR) : Option (Sum String (Int32)) :=
  if kd x0 = 10 ∧ x0 < NN then
  bsm (F_X11_checkUnit x0 x1 I L R) (fun e2 => some (.inl e2)) fun z3 =>
  (rf R x0 2 9).bind fun a4 =>
  bn1 (F_X10_unitAt a4 x1 I L R) fun a5 =>
  if kd a5 = 8 ∧ a5 < NN then
  bn1 (F_X9_is a5 (5 : Int32) I L R) fun b8 =>
  if (b2i b8) = 0 then
    some (.inl "java/lang/IllegalArgumentException")
  else
    bn1 (F_X9_keptByte a5 x2 I L R) fun v11 =>
    some (.inr (v11))
  else none
  else none
set_option maxRecDepth 100000 in
set_option maxHeartbeats 4000000 in
theorem c_X11_kept (l : Launch) (D : va_G) (cA : Nat → ClassId) (ad : Nat → Nat) (bs : Nat) (X : State → Prop) (hAd : Ax ad bs) (hX : Stb bs X) (hl : l.stackTraces = false) (hc : Ssc bs X) (x0 : Nat) (x1 : Int32) (x2 : Int32) (I : MI) (L : ML) (R : MR) (w : Sum String (Int32)) (h : F_X11_kept x0 x1 x2 I L R = some w) : CnT l D cA ad bs X yX11_kept cX11_kept 4 (some .int) 7 111 [.ref (ad x0), .int x1, .int x2] I L R (zT (fun (r : Int32) => (some (.int r), I, L, R)) I L R w) := by
  refine CnT.ofV hAd hX [(0, .ref (ad x0)), (1, .int x1), (2, .int x2)] rfl (Nat.le_of_ble_eq_true rfl) (by decide) ?_
  intro G el eD ecA ead ebs eX erm0 eNL htab C0
  subst el eD ecA ead ebs eX
  have hz := hc _ C0.2.2.2.2.2.2.2.2.2.2.2.1
  have erm : G.rm.frames = 7 ∧ G.rm.locals = 111 := by rw [erm0]; exact ⟨rfl, rfl⟩
  unfold F_X11_kept at h
  obtain ⟨c_x0, h⟩ := ite_some h
  refine V_aload_n C0 0 rfl rfl dX11_kept_0 ?_
  refine V_iload_n C0 1 rfl rfl dX11_kept_1 ?_
  rcases bsm_some h with ⟨e2, q1, h⟩ | ⟨z3, q1, h⟩
  · cases h
    exact V_callX C0 htab (st := []) (As := [.int x1]) 10 (c_X11_checkUnit G.l G.D G.cA G.ad G.bs G.X C0.2.2.2.2.2.2.2.2.2.1 C0.2.2.2.2.2.2.2.2.2.2.2.2 hl hc x0 x1 I L R _ q1) rfl lc_X11_checkUnit lt_X11_122 c_x0.2 c_x0.1 ⟨_, rfl, rfl⟩ rfl (by rw [erm.1, erm.2]; decide) (by rw [erm0]; exact ⟨Nat.le_refl 1, Nat.le_refl 6⟩) (Nat.le_of_ble_eq_true rfl) dX11_kept_2
  · refine V_callT C0 (st := []) (As := [.int x1]) 10 (c_X11_checkUnit G.l G.D G.cA G.ad G.bs G.X C0.2.2.2.2.2.2.2.2.2.1 C0.2.2.2.2.2.2.2.2.2.2.2.2 hl hc x0 x1 I L R _ q1) rfl lc_X11_checkUnit lt_X11_122 c_x0.2 c_x0.1 ⟨_, rfl, rfl⟩ rfl (by rw [erm.1, erm.2]; decide) (Nat.le_of_ble_eq_true rfl) dX11_kept_2 ?_
    show V G _ 5 [(0, .ref (G.ad x0)), (1, .int x1), (2, .int x2)] [] I L R
    refine V_aload_n C0 0 rfl rfl dX11_kept_5 ?_
    obtain ⟨a4, qa4, h⟩ := bnd_some h
    refine V_getR C0 10 2 fl_X11_26 c_x0.2 c_x0.1 rfl (rf_at qa4) dX11_kept_6 ?_
    refine V_iload_n C0 1 rfl rfl dX11_kept_9 ?_
    obtain ⟨a5, q6, h⟩ := bn1_some h
    refine V_callV C0 (st := []) (As := [.int x1]) 9 (c_X10_unitAt G.l G.D G.cA G.ad G.bs G.X C0.2.2.2.2.2.2.2.2.2.1 C0.2.2.2.2.2.2.2.2.2.2.2.2 a4 x1 I L R a5 q6) lc_X10_unitAt lk_X11_125 (rf_lt qa4) (rf_kd qa4) ⟨_, rfl, rfl⟩ rfl (by rw [erm.1, erm.2]; decide) (Nat.le_of_ble_eq_true rfl) dX11_kept_10 ?_
    show V G _ 13 [(0, .ref (G.ad x0)), (1, .int x1), (2, .int x2)] [.ref (G.ad a5)] I L R
    obtain ⟨c7, h⟩ := ite_some h
    refine V_astore_n C0 [(3, .ref (G.ad a5)), (0, .ref (G.ad x0)), (1, .int x1), (2, .int x2)] rfl (by rw [eNL]; decide) rfl dX11_kept_13 ?_
    refine V_aload_n C0 0 rfl rfl dX11_kept_14 ?_
    refine V_iconst C0 (v := (5 : Int32)) (by decide) dX11_kept_15 ?_
    obtain ⟨b8, q9, h⟩ := bn1_some h
    refine V_callV C0 (st := []) (As := [.int (5 : Int32)]) 8 (c_X9_is G.l G.D G.cA G.ad G.bs G.X C0.2.2.2.2.2.2.2.2.2.1 C0.2.2.2.2.2.2.2.2.2.2.2.2 a5 (5 : Int32) I L R b8 q9) lc_X9_is lk_X11_176 c7.2 c7.1 ⟨_, rfl, rfl⟩ rfl (by rw [erm.1, erm.2]; decide) (Nat.le_of_ble_eq_true rfl) dX11_kept_16 ?_
    show V G _ 19 [(3, .ref (G.ad a5)), (0, .ref (G.ad x0)), (1, .int x1), (2, .int x2)] [.int (b2i b8)] I L R
    refine V_if_ne C0 (tgt := 32) (by decide) dX11_kept_19 (fun c10 => ?_) (fun c10 => ?_)
    · have h := (if_neg c10).symm.trans h
      refine V_aload_n C0 0 rfl rfl dX11_kept_32 ?_
      refine V_iload_n C0 3 rfl rfl dX11_kept_33 ?_
      obtain ⟨v11, q12, h⟩ := bn1_some h
      refine V_callV C0 (st := []) (As := [.int x2]) 8 (c_X9_keptByte G.l G.D G.cA G.ad G.bs G.X C0.2.2.2.2.2.2.2.2.2.1 C0.2.2.2.2.2.2.2.2.2.2.2.2 a5 x2 I L R v11 q12) lc_X9_keptByte lk_X11_181 c7.2 c7.1 ⟨_, rfl, rfl⟩ rfl (by rw [erm.1, erm.2]; decide) (Nat.le_of_ble_eq_true rfl) dX11_kept_34 ?_
      show V G _ 37 [(3, .ref (G.ad a5)), (0, .ref (G.ad x0)), (1, .int x1), (2, .int x2)] [.int v11] I L R
      cases h
      refine V_retT ?_
      exact V_iret C0 dX11_kept_37
    · have h := (if_pos c10).symm.trans h
      cases h
      exact V_throw C0 hl hz htab tk_58_179 dX11_kept_22 dX11_kept_25 dX11_kept_26 dX11_kept_28 dX11_kept_31 (by rw [erm.1, erm.2]; decide) (by rw [erm0]; exact ⟨Nat.le_refl 1, Nat.le_refl 6⟩) (Nat.le_of_ble_eq_true rfl)
