theorem dX6_shine_0 : decode cX6_shine 0 = .ok (.iload_n 3, 1) := by decide +kernel
theorem dX6_shine_1 : decode cX6_shine 1 = .ok (.sipush 900, 3) := by decide +kernel
theorem dX6_shine_4 : decode cX6_shine 4 = .ok (.aload_n 1, 1) := by decide +kernel
theorem dX6_shine_5 : decode cX6_shine 5 = .ok (.getfield 72, 3) := by decide +kernel
theorem dX6_shine_8 : decode cX6_shine 8 = .ok (.bipush 54, 2) := by decide +kernel
theorem dX6_shine_10 : decode cX6_shine 10 = .ok (.iaload, 1) := by decide +kernel
theorem dX6_shine_11 : decode cX6_shine 11 = .ok (.imul, 1) := by decide +kernel
theorem dX6_shine_12 : decode cX6_shine 12 = .ok (.invokestatic 79, 3) := by decide +kernel
theorem dX6_shine_15 : decode cX6_shine 15 = .ok (.istore 4, 2) := by decide +kernel
theorem dX6_shine_17 : decode cX6_shine 17 = .ok (.aload_n 1, 1) := by decide +kernel
theorem dX6_shine_18 : decode cX6_shine 18 = .ok (.bipush 24, 2) := by decide +kernel
theorem dX6_shine_20 : decode cX6_shine 20 = .ok (.invokevirtual 48, 3) := by decide +kernel
theorem dX6_shine_23 : decode cX6_shine 23 = .ok (.ifCond .eq 65, 3) := by decide +kernel
theorem dX6_shine_26 : decode cX6_shine 26 = .ok (.aload_n 1, 1) := by decide +kernel
theorem dX6_shine_27 : decode cX6_shine 27 = .ok (.getfield 72, 3) := by decide +kernel
theorem dX6_shine_30 : decode cX6_shine 30 = .ok (.bipush 56, 2) := by decide +kernel
theorem dX6_shine_32 : decode cX6_shine 32 = .ok (.iaload, 1) := by decide +kernel
theorem dX6_shine_33 : decode cX6_shine 33 = .ok (.istore 5, 2) := by decide +kernel
theorem dX6_shine_35 : decode cX6_shine 35 = .ok (.aload_n 1, 1) := by decide +kernel
theorem dX6_shine_36 : decode cX6_shine 36 = .ok (.getfield 72, 3) := by decide +kernel
theorem dX6_shine_39 : decode cX6_shine 39 = .ok (.bipush 55, 2) := by decide +kernel
theorem dX6_shine_41 : decode cX6_shine 41 = .ok (.iaload, 1) := by decide +kernel
theorem dX6_shine_42 : decode cX6_shine 42 = .ok (.istore 6, 2) := by decide +kernel
theorem dX6_shine_44 : decode cX6_shine 44 = .ok (.aload_n 1, 1) := by decide +kernel
theorem dX6_shine_45 : decode cX6_shine 45 = .ok (.getfield 72, 3) := by decide +kernel
theorem dX6_shine_48 : decode cX6_shine 48 = .ok (.bipush 56, 2) := by decide +kernel
theorem dX6_shine_50 : decode cX6_shine 50 = .ok (.iload 5, 2) := by decide +kernel
theorem dX6_shine_52 : decode cX6_shine 52 = .ok (.iload 5, 2) := by decide +kernel
theorem dX6_shine_54 : decode cX6_shine 54 = .ok (.iload_n 3, 1) := by decide +kernel
theorem dX6_shine_55 : decode cX6_shine 55 = .ok (.invokestatic 79, 3) := by decide +kernel
theorem dX6_shine_58 : decode cX6_shine 58 = .ok (.iconst 0, 1) := by decide +kernel
theorem dX6_shine_59 : decode cX6_shine 59 = .ok (.iload 6, 2) := by decide +kernel
theorem dX6_shine_61 : decode cX6_shine 61 = .ok (.isub, 1) := by decide +kernel
theorem dX6_shine_62 : decode cX6_shine 62 = .ok (.iload 6, 2) := by decide +kernel
theorem dX6_shine_64 : decode cX6_shine 64 = .ok (.invokestatic 83, 3) := by decide +kernel
theorem dX6_shine_67 : decode cX6_shine 67 = .ok (.iadd, 1) := by decide +kernel
theorem dX6_shine_68 : decode cX6_shine 68 = .ok (.sipush 3600, 3) := by decide +kernel
theorem dX6_shine_71 : decode cX6_shine 71 = .ok (.invokestatic 87, 3) := by decide +kernel
theorem dX6_shine_74 : decode cX6_shine 74 = .ok (.iastore, 1) := by decide +kernel
theorem dX6_shine_75 : decode cX6_shine 75 = .ok (.iload_n 3, 1) := by decide +kernel
theorem dX6_shine_76 : decode cX6_shine 76 = .ok (.aload_n 1, 1) := by decide +kernel
theorem dX6_shine_77 : decode cX6_shine 77 = .ok (.getfield 72, 3) := by decide +kernel
theorem dX6_shine_80 : decode cX6_shine 80 = .ok (.bipush 56, 2) := by decide +kernel
theorem dX6_shine_82 : decode cX6_shine 82 = .ok (.iaload, 1) := by decide +kernel
theorem dX6_shine_83 : decode cX6_shine 83 = .ok (.invokestatic 79, 3) := by decide +kernel
theorem dX6_shine_86 : decode cX6_shine 86 = .ok (.istore 4, 2) := by decide +kernel
theorem dX6_shine_88 : decode cX6_shine 88 = .ok (.iload 4, 2) := by decide +kernel
theorem dX6_shine_90 : decode cX6_shine 90 = .ok (.invokestatic 92, 3) := by decide +kernel
theorem dX6_shine_93 : decode cX6_shine 93 = .ok (.bipush 120, 2) := by decide +kernel
theorem dX6_shine_95 : decode cX6_shine 95 = .ok (.idiv, 1) := by decide +kernel
theorem dX6_shine_96 : decode cX6_shine 96 = .ok (.istore 5, 2) := by decide +kernel
theorem dX6_shine_98 : decode cX6_shine 98 = .ok (.iload 5, 2) := by decide +kernel
theorem dX6_shine_100 : decode cX6_shine 100 = .ok (.ifCond .lt 21, 3) := by decide +kernel
theorem dX6_shine_103 : decode cX6_shine 103 = .ok (.iload 5, 2) := by decide +kernel
theorem dX6_shine_105 : decode cX6_shine 105 = .ok (.getstatic 95, 3) := by decide +kernel
theorem dX6_shine_108 : decode cX6_shine 108 = .ok (.arraylength, 1) := by decide +kernel
theorem dX6_shine_109 : decode cX6_shine 109 = .ok (.if_icmp .ge 12, 3) := by decide +kernel
theorem dX6_shine_112 : decode cX6_shine 112 = .ok (.getstatic 95, 3) := by decide +kernel
theorem dX6_shine_115 : decode cX6_shine 115 = .ok (.iload 5, 2) := by decide +kernel
theorem dX6_shine_117 : decode cX6_shine 117 = .ok (.iaload, 1) := by decide +kernel
theorem dX6_shine_118 : decode cX6_shine 118 = .ok (.goto 4, 3) := by decide +kernel
theorem dX6_shine_121 : decode cX6_shine 121 = .ok (.iconst 0, 1) := by decide +kernel
theorem dX6_shine_122 : decode cX6_shine 122 = .ok (.istore 6, 2) := by decide +kernel
theorem dX6_shine_124 : decode cX6_shine 124 = .ok (.aload_n 1, 1) := by decide +kernel
theorem dX6_shine_125 : decode cX6_shine 125 = .ok (.getfield 72, 3) := by decide +kernel
theorem dX6_shine_128 : decode cX6_shine 128 = .ok (.bipush 43, 2) := by decide +kernel
theorem dX6_shine_130 : decode cX6_shine 130 = .ok (.iaload, 1) := by decide +kernel
theorem dX6_shine_131 : decode cX6_shine 131 = .ok (.iload_n 2, 1) := by decide +kernel
theorem dX6_shine_132 : decode cX6_shine 132 = .ok (.imul, 1) := by decide +kernel
theorem dX6_shine_133 : decode cX6_shine 133 = .ok (.bipush 100, 2) := by decide +kernel
theorem dX6_shine_135 : decode cX6_shine 135 = .ok (.idiv, 1) := by decide +kernel
theorem dX6_shine_136 : decode cX6_shine 136 = .ok (.iload 6, 2) := by decide +kernel
theorem dX6_shine_138 : decode cX6_shine 138 = .ok (.imul, 1) := by decide +kernel
theorem dX6_shine_139 : decode cX6_shine 139 = .ok (.bipush 100, 2) := by decide +kernel
theorem dX6_shine_141 : decode cX6_shine 141 = .ok (.idiv, 1) := by decide +kernel
theorem dX6_shine_142 : decode cX6_shine 142 = .ok (.ireturn, 1) := by decide +kernel
def F_X6_shine (x0 : Nat) (x1 : Nat) (x2 : Int32) (x3 : Int32) (I : MI) (L : ML) (R : MR) : Option (Int32 × MI) :=
  if kd x0 = 5 ∧ x0 < NN then
  if kd x1 = 8 ∧ x1 < NN then
  (rf R x1 0 20).bind fun a1 =>
  (ri I a1 (54 : Int32)).bind fun v2 =>
  bn1 (F_X11_off x3 ((900 : Int32) * v2) I L R) fun v3 =>
  bn1 (F_X9_is x1 (24 : Int32) I L R) fun b5 =>
  bn2 (
    if (b2i b5) = 0 then
      some (v3, I)
    else
      (ri I a1 (56 : Int32)).bind fun v12 =>
      (ri I a1 (55 : Int32)).bind fun v13 =>
      bn1 (F_X11_off v12 x3 I L R) fun v14 =>
      bn1 (F_X11_limit v14 ((0 : Int32) - v13) v13 I L R) fun v16 =>
      bn1 (F_J9_floorMod_7cf53 (v12 + v16) (3600 : Int32) I L R) fun v18 =>
      (wi I a1 (56 : Int32) v18).bind fun I20 =>
      (ri I20 a1 (56 : Int32)).bind fun v21 =>
      bn1 (F_X11_off x3 v21 I20 L R) fun v22 =>
      some (v22, I20)
  ) fun (u7 : Int32) (I8 : MI) =>
  bn1 (F_J9_abs_0f7a4 u7 I8 L R) fun v24 =>
  wr (v24 / (120 : Int32)) fun (u26 : Int32) =>
  bn1 (
    if u26 < 0 then
      some ((0 : Int32))
    else
      bn1 (
        if (16 : Int32) ≤ u26 then
          some ((0 : Int32))
        else
          (rt 302 u26).bind fun v35 =>
          some (v35)
      ) fun (s31 : Int32) =>
      some (s31)
  ) fun (s27 : Int32) =>
  (ri I8 a1 (43 : Int32)).bind fun v36 =>
  some (((((v36 * x2) / (100 : Int32)) * s27) / (100 : Int32)), I8)
  else none
  else none
set_option maxRecDepth 100000 in
set_option maxHeartbeats 4000000 in
theorem c_X6_shine (l : Launch) (D : va_G) (cA : Nat → ClassId) (ad : Nat → Nat) (bs : Nat) (X : State → Prop) (hAd : Ax ad bs) (hX : Stb bs X) (hs : Ssx ad bs X) (x0 : Nat) (x1 : Nat) (x2 : Int32) (x3 : Int32) (I : MI) (L : ML) (R : MR) (r : Int32) (I' : MI) (h : F_X6_shine x0 x1 x2 x3 I L R = some (r, I')) : Cn l D cA ad bs X yX6_shine cX6_shine 7 (some .int) 2 43 [.ref (ad x0), .ref (ad x1), .int x2, .int x3] I L R (some (.int r), I', L, R) := by
  refine Cn.ofV hAd hX [(0, .ref (ad x0)), (1, .ref (ad x1)), (2, .int x2), (3, .int x3)] rfl (Nat.le_of_ble_eq_true rfl) (by decide) ?_
  intro G el eD ecA ead ebs eX erm eNL C0
  subst el eD ecA ead ebs eX
  have hsx := hs _ C0.2.2.2.2.2.2.2.2.2.2.2.1
  unfold F_X6_shine at h
  obtain ⟨c_x0, h⟩ := ite_some h
  obtain ⟨c_x1, h⟩ := ite_some h
  refine V_iload_n C0 3 rfl rfl dX6_shine_0 ?_
  refine V_sipush C0 (v := (900 : Int32)) (by decide) dX6_shine_1 ?_
  refine V_aload_n C0 1 rfl rfl dX6_shine_4 ?_
  obtain ⟨a1, qa1, h⟩ := bnd_some h
  refine V_getR C0 8 0 fl_X6_72 c_x1.2 c_x1.1 rfl (rf_at qa1) dX6_shine_5 ?_
  refine V_bipush C0 (v := (54 : Int32)) (by decide) dX6_shine_8 ?_
  obtain ⟨v2, qv2, h⟩ := bnd_some h
  refine V_ri C0 (rf_lt qa1) (rf_kd qa1) qv2 dX6_shine_10 ?_
  refine V_imul C0 dX6_shine_11 ?_
  obtain ⟨v3, q4, h⟩ := bn1_some h
  refine V_callS C0 (st := []) (As := [.int x3, .int ((900 : Int32) * v2)]) (c_X11_off G.l G.D G.cA G.ad G.bs G.X C0.2.2.2.2.2.2.2.2.2.1 C0.2.2.2.2.2.2.2.2.2.2.2.2 x3 ((900 : Int32) * v2) I L R v3 q4) lc_X11_off lk_X6_79 rfl (by rw [erm]; decide) (Nat.le_of_ble_eq_true rfl) dX6_shine_12 ?_
  show V G _ 15 [(0, .ref (G.ad x0)), (1, .ref (G.ad x1)), (2, .int x2), (3, .int x3)] [.int v3] I L R
  refine V_istore C0 [(4, .int v3), (0, .ref (G.ad x0)), (1, .ref (G.ad x1)), (2, .int x2), (3, .int x3)] (by rw [eNL]; decide) rfl dX6_shine_15 ?_
  refine V_aload_n C0 2 rfl rfl dX6_shine_17 ?_
  refine V_bipush C0 (v := (24 : Int32)) (by decide) dX6_shine_18 ?_
  obtain ⟨b5, q6, h⟩ := bn1_some h
  refine V_callV C0 (st := []) (As := [.int (24 : Int32)]) 8 (c_X9_is G.l G.D G.cA G.ad G.bs G.X C0.2.2.2.2.2.2.2.2.2.1 C0.2.2.2.2.2.2.2.2.2.2.2.2 x1 (24 : Int32) I L R b5 q6) lc_X9_is lk_X6_48 c_x1.2 c_x1.1 ⟨_, rfl, rfl⟩ rfl (by rw [erm]; decide) (Nat.le_of_ble_eq_true rfl) dX6_shine_20 ?_
  show V G _ 23 [(4, .int v3), (0, .ref (G.ad x0)), (1, .ref (G.ad x1)), (2, .int x2), (3, .int x3)] [.int (b2i b5)] I L R
  obtain ⟨u7, I8, q9, h⟩ := bn2_some h
  have k10 : V G (qf G (some (.int r), I', L, R)) 88 [(1, .ref (G.ad x1)), (2, .int x2), (4, .int u7)] [] I8 L R := by
    refine V_iload C0 2 rfl dX6_shine_88 ?_
    obtain ⟨v24, q25, h⟩ := bn1_some h
    refine V_callS C0 (st := []) (As := [.int u7]) (c_J9_abs_0f7a4 G.l G.D G.cA G.ad G.bs G.X C0.2.2.2.2.2.2.2.2.2.1 C0.2.2.2.2.2.2.2.2.2.2.2.2 u7 I8 L R v24 q25) lc_J9_abs_0f7a4 lk_X6_92 rfl (by rw [erm]; decide) (Nat.le_of_ble_eq_true rfl) dX6_shine_90 ?_
    show V G _ 93 [(1, .ref (G.ad x1)), (2, .int x2), (4, .int u7)] [.int v24] I8 L R
    refine V_bipush C0 (v := (120 : Int32)) (by decide) dX6_shine_93 ?_
    refine V_idiv C0 (by decide) dX6_shine_95 ?_
    obtain ⟨u26, eu26, h⟩ := wr_some h
    rw [← eu26]
    refine V_istore C0 [(5, .int u26), (1, .ref (G.ad x1)), (2, .int x2), (4, .int u7)] (by rw [eNL]; decide) rfl dX6_shine_96 ?_
    refine V_iload C0 0 rfl dX6_shine_98 ?_
    obtain ⟨s27, q28, h⟩ := bn1_some h
    have k29 : V G (qf G (some (.int r), I', L, R)) 122 [(1, .ref (G.ad x1)), (2, .int x2)] [.int s27] I8 L R := by
      refine V_istore C0 [(6, .int s27), (1, .ref (G.ad x1)), (2, .int x2)] (by rw [eNL]; decide) rfl dX6_shine_122 ?_
      refine V_aload_n C0 1 rfl rfl dX6_shine_124 ?_
      refine V_getR C0 8 0 fl_X6_72 c_x1.2 c_x1.1 rfl (rf_at qa1) dX6_shine_125 ?_
      refine V_bipush C0 (v := (43 : Int32)) (by decide) dX6_shine_128 ?_
      obtain ⟨v36, qv36, h⟩ := bnd_some h
      refine V_ri C0 (rf_lt qa1) (rf_kd qa1) qv36 dX6_shine_130 ?_
      refine V_iload_n C0 2 rfl rfl dX6_shine_131 ?_
      refine V_imul C0 dX6_shine_132 ?_
      refine V_bipush C0 (v := (100 : Int32)) (by decide) dX6_shine_133 ?_
      refine V_idiv C0 (by decide) dX6_shine_135 ?_
      refine V_iload C0 0 rfl dX6_shine_136 ?_
      refine V_imul C0 dX6_shine_138 ?_
      refine V_bipush C0 (v := (100 : Int32)) (by decide) dX6_shine_139 ?_
      refine V_idiv C0 (by decide) dX6_shine_141 ?_
      cases h
      exact V_iret C0 dX6_shine_142
    refine V_if_lt C0 (tgt := 121) (by decide) dX6_shine_100 (fun c30 => ?_) (fun c30 => ?_)
    · have q28 := (if_pos c30).symm.trans q28
      refine V_iconst C0 (v := (0 : Int32)) (by decide) dX6_shine_121 ?_
      cases q28
      exact V_sub [1, 2] rfl k29
    · have q28 := (if_neg c30).symm.trans q28
      refine V_iload C0 0 rfl dX6_shine_103 ?_
      refine V_gets C0 hsx.2.2.1 (Or.inl (gW_in _ (tb_6 _ (List.mem_of_getElem? (i := 72) rfl)) rfl)) dX6_shine_105 ?_
      refine V_tlen C0 (v := (16 : Int32)) hsx.2.2.2 (by decide) dX6_shine_108 ?_
      obtain ⟨s31, q32, q28⟩ := bn1_some q28
      have k33 : V G (qf G (some (.int r), I', L, R)) 122 [(1, .ref (G.ad x1)), (2, .int x2)] [.int s31] I8 L R := by
        cases q28
        exact V_sub [0, 1] rfl k29
      refine V_icmp_ge C0 (tgt := 121) (by decide) dX6_shine_109 (fun c34 => ?_) (fun c34 => ?_)
      · have q32 := (if_pos c34).symm.trans q32
        refine V_iconst C0 (v := (0 : Int32)) (by decide) dX6_shine_121 ?_
        cases q32
        exact V_sub [1, 2] rfl k33
      · have q32 := (if_neg c34).symm.trans q32
        refine V_gets C0 hsx.2.2.1 (Or.inl (gW_in _ (tb_6 _ (List.mem_of_getElem? (i := 72) rfl)) rfl)) dX6_shine_112 ?_
        refine V_iload C0 0 rfl dX6_shine_115 ?_
        obtain ⟨v35, qv35, q32⟩ := bnd_some q32
        refine V_rt C0 hsx.2.2.2 qv35 dX6_shine_117 ?_
        refine V_goto C0 (tgt := 122) (by decide) dX6_shine_118 ?_
        cases q32
        exact V_sub [1, 2] rfl k33
  refine V_if_eq C0 (tgt := 88) (by decide) dX6_shine_23 (fun c11 => ?_) (fun c11 => ?_)
  · have q9 := (if_pos c11).symm.trans q9
    cases q9
    exact V_sub [2, 3, 0] rfl k10
  · have q9 := (if_neg c11).symm.trans q9
    refine V_aload_n C0 2 rfl rfl dX6_shine_26 ?_
    refine V_getR C0 8 0 fl_X6_72 c_x1.2 c_x1.1 rfl (rf_at qa1) dX6_shine_27 ?_
    refine V_bipush C0 (v := (56 : Int32)) (by decide) dX6_shine_30 ?_
    obtain ⟨v12, qv12, q9⟩ := bnd_some q9
    refine V_ri C0 (rf_lt qa1) (rf_kd qa1) qv12 dX6_shine_32 ?_
    refine V_istore C0 [(5, .int v12), (4, .int v3), (0, .ref (G.ad x0)), (1, .ref (G.ad x1)), (2, .int x2), (3, .int x3)] (by rw [eNL]; decide) rfl dX6_shine_33 ?_
    refine V_aload_n C0 3 rfl rfl dX6_shine_35 ?_
    refine V_getR C0 8 0 fl_X6_72 c_x1.2 c_x1.1 rfl (rf_at qa1) dX6_shine_36 ?_
    refine V_bipush C0 (v := (55 : Int32)) (by decide) dX6_shine_39 ?_
    obtain ⟨v13, qv13, q9⟩ := bnd_some q9
    refine V_ri C0 (rf_lt qa1) (rf_kd qa1) qv13 dX6_shine_41 ?_
    refine V_istore C0 [(6, .int v13), (5, .int v12), (4, .int v3), (0, .ref (G.ad x0)), (1, .ref (G.ad x1)), (2, .int x2), (3, .int x3)] (by rw [eNL]; decide) rfl dX6_shine_42 ?_
    refine V_aload_n C0 4 rfl rfl dX6_shine_44 ?_
    refine V_getR C0 8 0 fl_X6_72 c_x1.2 c_x1.1 rfl (rf_at qa1) dX6_shine_45 ?_
    refine V_bipush C0 (v := (56 : Int32)) (by decide) dX6_shine_48 ?_
    refine V_iload C0 1 rfl dX6_shine_50 ?_
    refine V_iload C0 1 rfl dX6_shine_52 ?_
    refine V_iload_n C0 6 rfl rfl dX6_shine_54 ?_
    obtain ⟨v14, q15, q9⟩ := bn1_some q9
    refine V_callS C0 (st := [.int v12, .int (56 : Int32), .ref (G.ad a1)]) (As := [.int v12, .int x3]) (c_X11_off G.l G.D G.cA G.ad G.bs G.X C0.2.2.2.2.2.2.2.2.2.1 C0.2.2.2.2.2.2.2.2.2.2.2.2 v12 x3 I L R v14 q15) lc_X11_off lk_X6_79 rfl (by rw [erm]; decide) (Nat.le_of_ble_eq_true rfl) dX6_shine_55 ?_
    show V G _ 58 [(6, .int v13), (5, .int v12), (4, .int v3), (0, .ref (G.ad x0)), (1, .ref (G.ad x1)), (2, .int x2), (3, .int x3)] [.int v14, .int v12, .int (56 : Int32), .ref (G.ad a1)] I L R
    refine V_iconst C0 (v := (0 : Int32)) (by decide) dX6_shine_58 ?_
    refine V_iload C0 0 rfl dX6_shine_59 ?_
    refine V_isub C0 dX6_shine_61 ?_
    refine V_iload C0 0 rfl dX6_shine_62 ?_
    obtain ⟨v16, q17, q9⟩ := bn1_some q9
    refine V_callS C0 (st := [.int v12, .int (56 : Int32), .ref (G.ad a1)]) (As := [.int v14, .int ((0 : Int32) - v13), .int v13]) (c_X11_limit G.l G.D G.cA G.ad G.bs G.X C0.2.2.2.2.2.2.2.2.2.1 C0.2.2.2.2.2.2.2.2.2.2.2.2 v14 ((0 : Int32) - v13) v13 I L R v16 q17) lc_X11_limit lk_X6_83 rfl (by rw [erm]; decide) (Nat.le_of_ble_eq_true rfl) dX6_shine_64 ?_
    show V G _ 67 [(6, .int v13), (5, .int v12), (4, .int v3), (0, .ref (G.ad x0)), (1, .ref (G.ad x1)), (2, .int x2), (3, .int x3)] [.int v16, .int v12, .int (56 : Int32), .ref (G.ad a1)] I L R
    refine V_iadd C0 dX6_shine_67 ?_
    refine V_sipush C0 (v := (3600 : Int32)) (by decide) dX6_shine_68 ?_
    obtain ⟨v18, q19, q9⟩ := bn1_some q9
    refine V_callS C0 (st := [.int (56 : Int32), .ref (G.ad a1)]) (As := [.int (v12 + v16), .int (3600 : Int32)]) (c_J9_floorMod_7cf53 G.l G.D G.cA G.ad G.bs G.X C0.2.2.2.2.2.2.2.2.2.1 C0.2.2.2.2.2.2.2.2.2.2.2.2 (v12 + v16) (3600 : Int32) I L R v18 q19) lc_J9_floorMod_7cf53 lk_X6_87 rfl (by rw [erm]; decide) (Nat.le_of_ble_eq_true rfl) dX6_shine_71 ?_
    show V G _ 74 [(6, .int v13), (5, .int v12), (4, .int v3), (0, .ref (G.ad x0)), (1, .ref (G.ad x1)), (2, .int x2), (3, .int x3)] [.int v18, .int (56 : Int32), .ref (G.ad a1)] I L R
    obtain ⟨I20, qI20, q9⟩ := bnd_some q9
    refine V_wi C0 (rf_lt qa1) (rf_kd qa1) qI20 dX6_shine_74 ?_
    refine V_iload_n C0 6 rfl rfl dX6_shine_75 ?_
    refine V_aload_n C0 4 rfl rfl dX6_shine_76 ?_
    refine V_getR C0 8 0 fl_X6_72 c_x1.2 c_x1.1 rfl (rf_at qa1) dX6_shine_77 ?_
    refine V_bipush C0 (v := (56 : Int32)) (by decide) dX6_shine_80 ?_
    obtain ⟨v21, qv21, q9⟩ := bnd_some q9
    refine V_ri C0 (rf_lt qa1) (rf_kd qa1) qv21 dX6_shine_82 ?_
    obtain ⟨v22, q23, q9⟩ := bn1_some q9
    refine V_callS C0 (st := []) (As := [.int x3, .int v21]) (c_X11_off G.l G.D G.cA G.ad G.bs G.X C0.2.2.2.2.2.2.2.2.2.1 C0.2.2.2.2.2.2.2.2.2.2.2.2 x3 v21 I20 L R v22 q23) lc_X11_off lk_X6_79 rfl (by rw [erm]; decide) (Nat.le_of_ble_eq_true rfl) dX6_shine_83 ?_
    show V G _ 86 [(6, .int v13), (5, .int v12), (4, .int v3), (0, .ref (G.ad x0)), (1, .ref (G.ad x1)), (2, .int x2), (3, .int x3)] [.int v22] I20 L R
    refine V_istore C0 [(4, .int v22), (6, .int v13), (5, .int v12), (0, .ref (G.ad x0)), (1, .ref (G.ad x1)), (2, .int x2), (3, .int x3)] (by rw [eNL]; decide) rfl dX6_shine_86 ?_
    cases q9
    exact V_sub [4, 5, 0] rfl k10
theorem dX6_power_0 : decode cX6_power 0 = .ok (.aload_n 0, 1) := by decide +kernel
theorem dX6_power_1 : decode cX6_power 1 = .ok (.iconst 0, 1) := by decide +kernel
theorem dX6_power_2 : decode cX6_power 2 = .ok (.putfield 19, 3) := by decide +kernel
theorem dX6_power_5 : decode cX6_power 5 = .ok (.iconst 0, 1) := by decide +kernel
theorem dX6_power_6 : decode cX6_power 6 = .ok (.istore 4, 2) := by decide +kernel
theorem dX6_power_8 : decode cX6_power 8 = .ok (.iload 4, 2) := by decide +kernel
theorem dX6_power_10 : decode cX6_power 10 = .ok (.aload_n 0, 1) := by decide +kernel
theorem dX6_power_11 : decode cX6_power 11 = .ok (.getfield 15, 3) := by decide +kernel
theorem dX6_power_14 : decode cX6_power 14 = .ok (.invokevirtual 32, 3) := by decide +kernel
theorem dX6_power_17 : decode cX6_power 17 = .ok (.if_icmp .ge 67, 3) := by decide +kernel
theorem dX6_power_20 : decode cX6_power 20 = .ok (.aload_n 0, 1) := by decide +kernel
theorem dX6_power_21 : decode cX6_power 21 = .ok (.getfield 15, 3) := by decide +kernel
theorem dX6_power_24 : decode cX6_power 24 = .ok (.iload 4, 2) := by decide +kernel
theorem dX6_power_26 : decode cX6_power 26 = .ok (.invokevirtual 38, 3) := by decide +kernel
theorem dX6_power_29 : decode cX6_power 29 = .ok (.astore 5, 2) := by decide +kernel
theorem dX6_power_31 : decode cX6_power 31 = .ok (.aload 5, 2) := by decide +kernel
theorem dX6_power_33 : decode cX6_power 33 = .ok (.bipush 22, 2) := by decide +kernel
theorem dX6_power_35 : decode cX6_power 35 = .ok (.invokevirtual 42, 3) := by decide +kernel
theorem dX6_power_38 : decode cX6_power 38 = .ok (.ifCond .eq 40, 3) := by decide +kernel
theorem dX6_power_41 : decode cX6_power 41 = .ok (.aload_n 0, 1) := by decide +kernel
theorem dX6_power_42 : decode cX6_power 42 = .ok (.dup, 1) := by decide +kernel
theorem dX6_power_43 : decode cX6_power 43 = .ok (.getfield 19, 3) := by decide +kernel
theorem dX6_power_46 : decode cX6_power 46 = .ok (.aload 5, 2) := by decide +kernel
theorem dX6_power_48 : decode cX6_power 48 = .ok (.bipush 25, 2) := by decide +kernel
theorem dX6_power_50 : decode cX6_power 50 = .ok (.invokevirtual 48, 3) := by decide +kernel
theorem dX6_power_53 : decode cX6_power 53 = .ok (.ifCond .eq 13, 3) := by decide +kernel
theorem dX6_power_56 : decode cX6_power 56 = .ok (.aload_n 0, 1) := by decide +kernel
theorem dX6_power_57 : decode cX6_power 57 = .ok (.aload 5, 2) := by decide +kernel
theorem dX6_power_59 : decode cX6_power 59 = .ok (.iload_n 1, 1) := by decide +kernel
theorem dX6_power_60 : decode cX6_power 60 = .ok (.invokevirtual 51, 3) := by decide +kernel
theorem dX6_power_63 : decode cX6_power 63 = .ok (.goto 11, 3) := by decide +kernel
theorem dX6_power_66 : decode cX6_power 66 = .ok (.aload_n 0, 1) := by decide +kernel
theorem dX6_power_67 : decode cX6_power 67 = .ok (.aload 5, 2) := by decide +kernel
theorem dX6_power_69 : decode cX6_power 69 = .ok (.iload_n 2, 1) := by decide +kernel
theorem dX6_power_70 : decode cX6_power 70 = .ok (.iload_n 3, 1) := by decide +kernel
theorem dX6_power_71 : decode cX6_power 71 = .ok (.invokevirtual 55, 3) := by decide +kernel
theorem dX6_power_74 : decode cX6_power 74 = .ok (.iadd, 1) := by decide +kernel
theorem dX6_power_75 : decode cX6_power 75 = .ok (.putfield 19, 3) := by decide +kernel
theorem dX6_power_78 : decode cX6_power 78 = .ok (.iinc 4 1, 3) := by decide +kernel
theorem dX6_power_81 : decode cX6_power 81 = .ok (.goto (-73), 3) := by decide +kernel
theorem dX6_power_84 : decode cX6_power 84 = .ok (.aload_n 0, 1) := by decide +kernel
theorem dX6_power_85 : decode cX6_power 85 = .ok (.iconst 0, 1) := by decide +kernel
theorem dX6_power_86 : decode cX6_power 86 = .ok (.putfield 23, 3) := by decide +kernel
theorem dX6_power_89 : decode cX6_power 89 = .ok (.iconst 0, 1) := by decide +kernel
theorem dX6_power_90 : decode cX6_power 90 = .ok (.istore 4, 2) := by decide +kernel
theorem dX6_power_92 : decode cX6_power 92 = .ok (.iload 4, 2) := by decide +kernel
theorem dX6_power_94 : decode cX6_power 94 = .ok (.aload_n 0, 1) := by decide +kernel
theorem dX6_power_95 : decode cX6_power 95 = .ok (.getfield 15, 3) := by decide +kernel
theorem dX6_power_98 : decode cX6_power 98 = .ok (.invokevirtual 32, 3) := by decide +kernel
theorem dX6_power_101 : decode cX6_power 101 = .ok (.if_icmp .ge 54, 3) := by decide +kernel
theorem dX6_power_104 : decode cX6_power 104 = .ok (.aload_n 0, 1) := by decide +kernel
theorem dX6_power_105 : decode cX6_power 105 = .ok (.getfield 15, 3) := by decide +kernel
theorem dX6_power_108 : decode cX6_power 108 = .ok (.iload 4, 2) := by decide +kernel
theorem dX6_power_110 : decode cX6_power 110 = .ok (.invokevirtual 38, 3) := by decide +kernel
theorem dX6_power_113 : decode cX6_power 113 = .ok (.astore 5, 2) := by decide +kernel
theorem dX6_power_115 : decode cX6_power 115 = .ok (.aload 5, 2) := by decide +kernel
theorem dX6_power_117 : decode cX6_power 117 = .ok (.bipush 6, 2) := by decide +kernel
theorem dX6_power_119 : decode cX6_power 119 = .ok (.invokevirtual 59, 3) := by decide +kernel
theorem dX6_power_122 : decode cX6_power 122 = .ok (.ifCond .ne 13, 3) := by decide +kernel
theorem dX6_power_125 : decode cX6_power 125 = .ok (.aload 5, 2) := by decide +kernel
theorem dX6_power_127 : decode cX6_power 127 = .ok (.bipush 22, 2) := by decide +kernel
theorem dX6_power_129 : decode cX6_power 129 = .ok (.invokevirtual 42, 3) := by decide +kernel
theorem dX6_power_132 : decode cX6_power 132 = .ok (.ifCond .eq 17, 3) := by decide +kernel
theorem dX6_power_135 : decode cX6_power 135 = .ok (.aload_n 0, 1) := by decide +kernel
theorem dX6_power_136 : decode cX6_power 136 = .ok (.dup, 1) := by decide +kernel
theorem dX6_power_137 : decode cX6_power 137 = .ok (.getfield 23, 3) := by decide +kernel
theorem dX6_power_140 : decode cX6_power 140 = .ok (.aload 5, 2) := by decide +kernel
theorem dX6_power_142 : decode cX6_power 142 = .ok (.invokevirtual 62, 3) := by decide +kernel
theorem dX6_power_145 : decode cX6_power 145 = .ok (.iadd, 1) := by decide +kernel
theorem dX6_power_146 : decode cX6_power 146 = .ok (.putfield 23, 3) := by decide +kernel
theorem dX6_power_149 : decode cX6_power 149 = .ok (.iinc 4 1, 3) := by decide +kernel
theorem dX6_power_152 : decode cX6_power 152 = .ok (.goto (-60), 3) := by decide +kernel
theorem dX6_power_155 : decode cX6_power 155 = .ok (.aload_n 0, 1) := by decide +kernel
theorem dX6_power_156 : decode cX6_power 156 = .ok (.aload_n 0, 1) := by decide +kernel
theorem dX6_power_157 : decode cX6_power 157 = .ok (.getfield 19, 3) := by decide +kernel
theorem dX6_power_160 : decode cX6_power 160 = .ok (.aload_n 0, 1) := by decide +kernel
theorem dX6_power_161 : decode cX6_power 161 = .ok (.getfield 23, 3) := by decide +kernel
theorem dX6_power_164 : decode cX6_power 164 = .ok (.isub, 1) := by decide +kernel
theorem dX6_power_165 : decode cX6_power 165 = .ok (.invokevirtual 65, 3) := by decide +kernel
theorem dX6_power_168 : decode cX6_power 168 = .ok (.ifCond .ge 17, 3) := by decide +kernel
theorem dX6_power_171 : decode cX6_power 171 = .ok (.aload_n 0, 1) := by decide +kernel
theorem dX6_power_172 : decode cX6_power 172 = .ok (.dup, 1) := by decide +kernel
theorem dX6_power_173 : decode cX6_power 173 = .ok (.getfield 26, 3) := by decide +kernel
theorem dX6_power_176 : decode cX6_power 176 = .ok (.iconst 1, 1) := by decide +kernel
theorem dX6_power_177 : decode cX6_power 177 = .ok (.iadd, 1) := by decide +kernel
theorem dX6_power_178 : decode cX6_power 178 = .ok (.putfield 26, 3) := by decide +kernel
theorem dX6_power_181 : decode cX6_power 181 = .ok (.aload_n 0, 1) := by decide +kernel
theorem dX6_power_182 : decode cX6_power 182 = .ok (.invokevirtual 69, 3) := by decide +kernel
theorem dX6_power_185 : decode cX6_power 185 = .ok (.return_, 1) := by decide +kernel
def LF_X6_power_8 (N : Nat) : Nat → Nat → Int32 → Int32 → Int32 → Int32 → MI → ML → MR → Option (MI)
  | 0, _, _, _, _, _, _, _, _ => none
  | k + 1, y0, y1, y2, y3, y4, I, L, R =>
    (rf R y0 0 9).bind fun a2 =>
    bn1 (F_X10_size a2 I L R) fun v3 =>
    if v3 ≤ y4 then
      some (I)
    else
      bn1 (F_X10_unitAt a2 y4 I L R) fun a6 =>
      if kd a6 = 8 ∧ a6 < NN then
      bn1 (F_X9_isWhole a6 (22 : Int32) I L R) fun b9 =>
      bn1 (
        if (b2i b9) = 0 then
          some (I)
        else
          bn1 (F_X9_is a6 (25 : Int32) I L R) fun b15 =>
          bn2 (
            if (b2i b15) = 0 then
              bn2 (F_X6_shine y0 a6 y2 y3 I L R) fun v22 I23 =>
              some (v22, I23)
            else
              bn2 (F_X6_burn y0 a6 y1 I L R) fun v25 I26 =>
              some (v25, I26)
          ) fun (s17 : Int32) (I18 : MI) =>
          wr (uI I18 y0 2 ((I y0 2) + s17)) fun (I28 : MI) =>
          some (I28)
      ) fun (I11 : MI) =>
      wr (y4 + (1 : Int32)) fun (u29 : Int32) =>
      LF_X6_power_8 N k y0 y1 y2 y3 u29 I11 L R
      else none
def LF_X6_power_92 (N : Nat) : Nat → Nat → Int32 → MI → ML → MR → Option (MI)
  | 0, _, _, _, _, _ => none
  | k + 1, y0, y4, I, L, R =>
    (rf R y0 0 9).bind fun a33 =>
    bn1 (F_X10_size a33 I L R) fun v34 =>
    if v34 ≤ y4 then
      some (I)
    else
      bn1 (F_X10_unitAt a33 y4 I L R) fun a37 =>
      if kd a37 = 8 ∧ a37 < NN then
      bn1 (F_X9_isOn a37 (6 : Int32) I L R) fun b40 =>
      bn1 (
        if (b2i b40) = 0 then
          bn1 (F_X9_isWhole a37 (22 : Int32) I L R) fun b49 =>
          bn1 (
            if (b2i b49) = 0 then
              some (I)
            else
              bn1 (F_X9_need N a37 I L R) fun v55 =>
              wr (uI I y0 3 ((I y0 3) + v55)) fun (I57 : MI) =>
              some (I57)
          ) fun (I51 : MI) =>
          some (I51)
        else
          bn1 (F_X9_need N a37 I L R) fun v46 =>
          wr (uI I y0 3 ((I y0 3) + v46)) fun (I48 : MI) =>
          some (I48)
      ) fun (I42 : MI) =>
      wr (y4 + (1 : Int32)) fun (u58 : Int32) =>
      LF_X6_power_92 N k y0 u58 I42 L R
      else none
def F_X6_power (N : Nat) (x0 : Nat) (x1 : Int32) (x2 : Int32) (x3 : Int32) (I : MI) (L : ML) (R : MR) : Option (MI) :=
  if kd x0 = 5 ∧ x0 < NN then
  wr (uI I x0 2 (0 : Int32)) fun (I1 : MI) =>
  bn1 (LF_X6_power_8 N N x0 x1 x2 x3 (0 : Int32) I1 L R) fun z30 =>
  wr (uI z30 x0 3 (0 : Int32)) fun (I32 : MI) =>
  bn1 (LF_X6_power_92 N N x0 (0 : Int32) I32 L R) fun z59 =>
  bn2 (F_X6_balance N x0 ((z59 x0 2) - (z59 x0 3)) z59 L R) fun v61 I62 =>
  if 0 ≤ v61 then
    some (I62)
  else
    wr (uI I62 x0 4 ((I62 x0 4) + (1 : Int32))) fun (I65 : MI) =>
    bn1 (F_X6_shed N x0 I65 L R) fun I66 =>
    some (I66)
  else none
set_option maxRecDepth 100000 in
set_option maxHeartbeats 4000000 in
theorem lp_X6_power_8 {G : Gm} (C0 : Cx G (yX6_power.cls) cX6_power none) (eNL : G.nL = 6) (erm : G.rm = ({ frames := 3, cells := 0, slots := 0, locals := 69 } : Room)) (hs : Ssx G.ad G.bs G.X) (N : Nat) : ∀ (k : Nat) (y0 : Nat) (y1 : Int32) (y2 : Int32) (y3 : Int32) (y4 : Int32) (I : MI) (L : ML) (R : MR) (z : MI) (hk0 : kd y0 = 5) (ho0 : y0 < NN), LF_X6_power_8 N k y0 y1 y2 y3 y4 I L R = some z → ∀ f : State → Prop, V G f 84 [(0, .ref (G.ad y0))] [] z L R → V G f 8 [(0, .ref (G.ad y0)), (1, .int y1), (2, .int y2), (3, .int y3), (4, .int y4)] [] I L R := by
  intro k
  induction k with
  | zero =>
    intro y0 y1 y2 y3 y4 I L R q hk0 ho0 h
    exact absurd h (by simp [LF_X6_power_8])
  | succ k ih =>
    intro y0 y1 y2 y3 y4 I L R q hk0 ho0 h f kx
    rw [LF_X6_power_8] at h
    have hsx := hs _ C0.2.2.2.2.2.2.2.2.2.2.2.1
    refine V_iload C0 4 rfl dX6_power_8 ?_
    refine V_aload_n C0 0 rfl rfl dX6_power_10 ?_
    obtain ⟨a2, qa2, h⟩ := bnd_some h
    refine V_getR C0 5 0 fl_X6_15 ho0 hk0 rfl (rf_at qa2) dX6_power_11 ?_
    obtain ⟨v3, q4, h⟩ := bn1_some h
    refine V_callV C0 (st := [.int y4]) (As := []) 9 (c_X10_size G.l G.D G.cA G.ad G.bs G.X C0.2.2.2.2.2.2.2.2.2.1 C0.2.2.2.2.2.2.2.2.2.2.2.2 a2 I L R v3 q4) lc_X10_size lk_X6_32 (rf_lt qa2) (rf_kd qa2) ⟨_, rfl, rfl⟩ rfl (by rw [erm]; decide) (Nat.le_of_ble_eq_true rfl) dX6_power_14 ?_
    show V G _ 17 [(0, .ref (G.ad y0)), (1, .int y1), (2, .int y2), (3, .int y3), (4, .int y4)] [.int v3, .int y4] I L R
    refine V_icmp_ge C0 (tgt := 84) (by decide) dX6_power_17 (fun c5 => ?_) (fun c5 => ?_)
    · have h := (if_pos c5).symm.trans h
      cases h
      exact V_sub [0] rfl kx
    · have h := (if_neg c5).symm.trans h
      refine V_aload_n C0 0 rfl rfl dX6_power_20 ?_
      refine V_getR C0 5 0 fl_X6_15 ho0 hk0 rfl (rf_at qa2) dX6_power_21 ?_
      refine V_iload C0 4 rfl dX6_power_24 ?_
      obtain ⟨a6, q7, h⟩ := bn1_some h
      refine V_callV C0 (st := []) (As := [.int y4]) 9 (c_X10_unitAt G.l G.D G.cA G.ad G.bs G.X C0.2.2.2.2.2.2.2.2.2.1 C0.2.2.2.2.2.2.2.2.2.2.2.2 a2 y4 I L R a6 q7) lc_X10_unitAt lk_X6_38 (rf_lt qa2) (rf_kd qa2) ⟨_, rfl, rfl⟩ rfl (by rw [erm]; decide) (Nat.le_of_ble_eq_true rfl) dX6_power_26 ?_
      show V G _ 29 [(0, .ref (G.ad y0)), (1, .int y1), (2, .int y2), (3, .int y3), (4, .int y4)] [.ref (G.ad a6)] I L R
      obtain ⟨c8, h⟩ := ite_some h
      refine V_astore C0 [(5, .ref (G.ad a6)), (0, .ref (G.ad y0)), (1, .int y1), (2, .int y2), (3, .int y3), (4, .int y4)] (by rw [eNL]; decide) rfl dX6_power_29 ?_
      refine V_aload C0 0 rfl dX6_power_31 ?_
      refine V_bipush C0 (v := (22 : Int32)) (by decide) dX6_power_33 ?_
      obtain ⟨b9, q10, h⟩ := bn1_some h
      refine V_callV C0 (st := []) (As := [.int (22 : Int32)]) 8 (c_X9_isWhole G.l G.D G.cA G.ad G.bs G.X C0.2.2.2.2.2.2.2.2.2.1 C0.2.2.2.2.2.2.2.2.2.2.2.2 a6 (22 : Int32) I L R b9 q10) lc_X9_isWhole lk_X6_42 c8.2 c8.1 ⟨_, rfl, rfl⟩ rfl (by rw [erm]; decide) (Nat.le_of_ble_eq_true rfl) dX6_power_35 ?_
      show V G _ 38 [(5, .ref (G.ad a6)), (0, .ref (G.ad y0)), (1, .int y1), (2, .int y2), (3, .int y3), (4, .int y4)] [.int (b2i b9)] I L R
      obtain ⟨I11, q12, h⟩ := bn1_some h
      have k13 : V G f 78 [(0, .ref (G.ad y0)), (1, .int y1), (2, .int y2), (3, .int y3), (4, .int y4)] [] I11 L R := by
        obtain ⟨u29, eu29, h⟩ := wr_some h
        refine V_iinc C0 4 [(4, .int u29), (0, .ref (G.ad y0)), (1, .int y1), (2, .int y2), (3, .int y3)] rfl (n := 1) (by rw [eu29]; rfl) (by rw [eNL]; decide) rfl dX6_power_78 ?_
        refine V_goto C0 (tgt := 8) (by decide) dX6_power_81 ?_
        exact V_sub [1, 2, 3, 4, 0] rfl (ih y0 y1 y2 y3 u29 I11 L R _ hk0 ho0 h f kx)
      refine V_if_eq C0 (tgt := 78) (by decide) dX6_power_38 (fun c14 => ?_) (fun c14 => ?_)
      · have q12 := (if_pos c14).symm.trans q12
        cases q12
        exact V_sub [1, 2, 3, 4, 5] rfl k13
      · have q12 := (if_neg c14).symm.trans q12
        refine V_aload_n C0 1 rfl rfl dX6_power_41 ?_
        refine V_dup C0 rfl dX6_power_42 ?_
        refine V_getI C0 5 2 fl_X6_19 ho0 hk0 rfl dX6_power_43 ?_
        refine V_aload C0 0 rfl dX6_power_46 ?_
        refine V_bipush C0 (v := (25 : Int32)) (by decide) dX6_power_48 ?_
        obtain ⟨b15, q16, q12⟩ := bn1_some q12
        refine V_callV C0 (st := [.int (I y0 2), .ref (G.ad y0)]) (As := [.int (25 : Int32)]) 8 (c_X9_is G.l G.D G.cA G.ad G.bs G.X C0.2.2.2.2.2.2.2.2.2.1 C0.2.2.2.2.2.2.2.2.2.2.2.2 a6 (25 : Int32) I L R b15 q16) lc_X9_is lk_X6_48 c8.2 c8.1 ⟨_, rfl, rfl⟩ rfl (by rw [erm]; decide) (Nat.le_of_ble_eq_true rfl) dX6_power_50 ?_
        show V G _ 53 [(5, .ref (G.ad a6)), (0, .ref (G.ad y0)), (1, .int y1), (2, .int y2), (3, .int y3), (4, .int y4)] [.int (b2i b15), .int (I y0 2), .ref (G.ad y0)] I L R
        obtain ⟨s17, I18, q19, q12⟩ := bn2_some q12
        have k20 : V G f 74 [(0, .ref (G.ad y0)), (1, .int y1), (2, .int y2), (3, .int y3), (4, .int y4)] [.int s17, .int (I y0 2), .ref (G.ad y0)] I18 L R := by
          refine V_iadd C0 dX6_power_74 ?_
          obtain ⟨I28, eI28, q12⟩ := wr_some q12
          refine V_putI C0 5 2 fp_X6_19 ho0 hk0 rfl dX6_power_75 ?_
          rw [← eI28]
          cases q12
          exact V_sub [0, 1, 2, 3, 4] rfl k13
        refine V_if_eq C0 (tgt := 66) (by decide) dX6_power_53 (fun c21 => ?_) (fun c21 => ?_)
        · have q19 := (if_pos c21).symm.trans q19
          refine V_aload_n C0 1 rfl rfl dX6_power_66 ?_
          refine V_aload C0 0 rfl dX6_power_67 ?_
          refine V_iload_n C0 3 rfl rfl dX6_power_69 ?_
          refine V_iload_n C0 4 rfl rfl dX6_power_70 ?_
          obtain ⟨v22, I23, q24, q19⟩ := bn2_some q19
          refine V_callV C0 (st := [.int (I y0 2), .ref (G.ad y0)]) (As := [.ref (G.ad a6), .int y2, .int y3]) 5 (c_X6_shine G.l G.D G.cA G.ad G.bs G.X C0.2.2.2.2.2.2.2.2.2.1 C0.2.2.2.2.2.2.2.2.2.2.2.2 hs y0 a6 y2 y3 I L R v22 I23 q24) lc_X6_shine lk_X6_55 ho0 hk0 ⟨_, rfl, rfl⟩ rfl (by rw [erm]; decide) (Nat.le_of_ble_eq_true rfl) dX6_power_71 ?_
          show V G _ 74 [(5, .ref (G.ad a6)), (0, .ref (G.ad y0)), (1, .int y1), (2, .int y2), (3, .int y3), (4, .int y4)] [.int v22, .int (I y0 2), .ref (G.ad y0)] I23 L R
          cases q19
          exact V_sub [1, 2, 3, 4, 5] rfl k20
        · have q19 := (if_neg c21).symm.trans q19
          refine V_aload_n C0 1 rfl rfl dX6_power_56 ?_
          refine V_aload C0 0 rfl dX6_power_57 ?_
          refine V_iload_n C0 2 rfl rfl dX6_power_59 ?_
          obtain ⟨v25, I26, q27, q19⟩ := bn2_some q19
          refine V_callV C0 (st := [.int (I y0 2), .ref (G.ad y0)]) (As := [.ref (G.ad a6), .int y1]) 5 (c_X6_burn G.l G.D G.cA G.ad G.bs G.X C0.2.2.2.2.2.2.2.2.2.1 C0.2.2.2.2.2.2.2.2.2.2.2.2 y0 a6 y1 I L R v25 I26 q27) lc_X6_burn lk_X6_51 ho0 hk0 ⟨_, rfl, rfl⟩ rfl (by rw [erm]; decide) (Nat.le_of_ble_eq_true rfl) dX6_power_60 ?_
          show V G _ 63 [(5, .ref (G.ad a6)), (0, .ref (G.ad y0)), (1, .int y1), (2, .int y2), (3, .int y3), (4, .int y4)] [.int v25, .int (I y0 2), .ref (G.ad y0)] I26 L R
          refine V_goto C0 (tgt := 74) (by decide) dX6_power_63 ?_
          cases q19
          exact V_sub [1, 2, 3, 4, 5] rfl k20
set_option maxRecDepth 100000 in
set_option maxHeartbeats 4000000 in
theorem lp_X6_power_92 {G : Gm} (C0 : Cx G (yX6_power.cls) cX6_power none) (eNL : G.nL = 6) (erm : G.rm = ({ frames := 3, cells := 0, slots := 0, locals := 69 } : Room)) (hs : Ssx G.ad G.bs G.X) (N : Nat) : ∀ (k : Nat) (y0 : Nat) (y4 : Int32) (I : MI) (L : ML) (R : MR) (z : MI) (hk0 : kd y0 = 5) (ho0 : y0 < NN), LF_X6_power_92 N k y0 y4 I L R = some z → ∀ f : State → Prop, V G f 155 [(0, .ref (G.ad y0))] [] z L R → V G f 92 [(0, .ref (G.ad y0)), (4, .int y4)] [] I L R := by
  intro k
  induction k with
  | zero =>
    intro y0 y4 I L R q hk0 ho0 h
    exact absurd h (by simp [LF_X6_power_92])
  | succ k ih =>
    intro y0 y4 I L R q hk0 ho0 h f kx
    rw [LF_X6_power_92] at h
    have hsx := hs _ C0.2.2.2.2.2.2.2.2.2.2.2.1
    refine V_iload C0 1 rfl dX6_power_92 ?_
    refine V_aload_n C0 0 rfl rfl dX6_power_94 ?_
    obtain ⟨a33, qa33, h⟩ := bnd_some h
    refine V_getR C0 5 0 fl_X6_15 ho0 hk0 rfl (rf_at qa33) dX6_power_95 ?_
    obtain ⟨v34, q35, h⟩ := bn1_some h
    refine V_callV C0 (st := [.int y4]) (As := []) 9 (c_X10_size G.l G.D G.cA G.ad G.bs G.X C0.2.2.2.2.2.2.2.2.2.1 C0.2.2.2.2.2.2.2.2.2.2.2.2 a33 I L R v34 q35) lc_X10_size lk_X6_32 (rf_lt qa33) (rf_kd qa33) ⟨_, rfl, rfl⟩ rfl (by rw [erm]; decide) (Nat.le_of_ble_eq_true rfl) dX6_power_98 ?_
    show V G _ 101 [(0, .ref (G.ad y0)), (4, .int y4)] [.int v34, .int y4] I L R
    refine V_icmp_ge C0 (tgt := 155) (by decide) dX6_power_101 (fun c36 => ?_) (fun c36 => ?_)
    · have h := (if_pos c36).symm.trans h
      cases h
      exact V_sub [0] rfl kx
    · have h := (if_neg c36).symm.trans h
      refine V_aload_n C0 0 rfl rfl dX6_power_104 ?_
      refine V_getR C0 5 0 fl_X6_15 ho0 hk0 rfl (rf_at qa33) dX6_power_105 ?_
      refine V_iload C0 1 rfl dX6_power_108 ?_
      obtain ⟨a37, q38, h⟩ := bn1_some h
      refine V_callV C0 (st := []) (As := [.int y4]) 9 (c_X10_unitAt G.l G.D G.cA G.ad G.bs G.X C0.2.2.2.2.2.2.2.2.2.1 C0.2.2.2.2.2.2.2.2.2.2.2.2 a33 y4 I L R a37 q38) lc_X10_unitAt lk_X6_38 (rf_lt qa33) (rf_kd qa33) ⟨_, rfl, rfl⟩ rfl (by rw [erm]; decide) (Nat.le_of_ble_eq_true rfl) dX6_power_110 ?_
      show V G _ 113 [(0, .ref (G.ad y0)), (4, .int y4)] [.ref (G.ad a37)] I L R
      obtain ⟨c39, h⟩ := ite_some h
      refine V_astore C0 [(5, .ref (G.ad a37)), (0, .ref (G.ad y0)), (4, .int y4)] (by rw [eNL]; decide) rfl dX6_power_113 ?_
      refine V_aload C0 0 rfl dX6_power_115 ?_
      refine V_bipush C0 (v := (6 : Int32)) (by decide) dX6_power_117 ?_
      obtain ⟨b40, q41, h⟩ := bn1_some h
      refine V_callV C0 (st := []) (As := [.int (6 : Int32)]) 8 (c_X9_isOn G.l G.D G.cA G.ad G.bs G.X C0.2.2.2.2.2.2.2.2.2.1 C0.2.2.2.2.2.2.2.2.2.2.2.2 a37 (6 : Int32) I L R b40 q41) lc_X9_isOn lk_X6_59 c39.2 c39.1 ⟨_, rfl, rfl⟩ rfl (by rw [erm]; decide) (Nat.le_of_ble_eq_true rfl) dX6_power_119 ?_
      show V G _ 122 [(5, .ref (G.ad a37)), (0, .ref (G.ad y0)), (4, .int y4)] [.int (b2i b40)] I L R
      obtain ⟨I42, q43, h⟩ := bn1_some h
      have k44 : V G f 149 [(0, .ref (G.ad y0)), (4, .int y4)] [] I42 L R := by
        obtain ⟨u58, eu58, h⟩ := wr_some h
        refine V_iinc C0 1 [(4, .int u58), (0, .ref (G.ad y0))] rfl (n := 1) (by rw [eu58]; rfl) (by rw [eNL]; decide) rfl dX6_power_149 ?_
        refine V_goto C0 (tgt := 92) (by decide) dX6_power_152 ?_
        exact V_sub [1, 0] rfl (ih y0 u58 I42 L R _ hk0 ho0 h f kx)
      refine V_if_ne C0 (tgt := 135) (by decide) dX6_power_122 (fun c45 => ?_) (fun c45 => ?_)
      · have q43 := (if_neg c45).symm.trans q43
        refine V_aload_n C0 1 rfl rfl dX6_power_135 ?_
        refine V_dup C0 rfl dX6_power_136 ?_
        refine V_getI C0 5 3 fl_X6_23 ho0 hk0 rfl dX6_power_137 ?_
        refine V_aload C0 0 rfl dX6_power_140 ?_
        obtain ⟨v46, q47, q43⟩ := bn1_some q43
        refine V_callV C0 (st := [.int (I y0 3), .ref (G.ad y0)]) (As := []) 8 (c_X9_need G.l G.D G.cA G.ad G.bs G.X C0.2.2.2.2.2.2.2.2.2.1 C0.2.2.2.2.2.2.2.2.2.2.2.2 N a37 I L R v46 q47) lc_X9_need lk_X6_62 c39.2 c39.1 ⟨_, rfl, rfl⟩ rfl (by rw [erm]; decide) (Nat.le_of_ble_eq_true rfl) dX6_power_142 ?_
        show V G _ 145 [(5, .ref (G.ad a37)), (0, .ref (G.ad y0)), (4, .int y4)] [.int v46, .int (I y0 3), .ref (G.ad y0)] I L R
        refine V_iadd C0 dX6_power_145 ?_
        obtain ⟨I48, eI48, q43⟩ := wr_some q43
        refine V_putI C0 5 3 fp_X6_23 ho0 hk0 rfl dX6_power_146 ?_
        rw [← eI48]
        cases q43
        exact V_sub [1, 2] rfl k44
      · have q43 := (if_pos c45).symm.trans q43
        refine V_aload C0 0 rfl dX6_power_125 ?_
        refine V_bipush C0 (v := (22 : Int32)) (by decide) dX6_power_127 ?_
        obtain ⟨b49, q50, q43⟩ := bn1_some q43
        refine V_callV C0 (st := []) (As := [.int (22 : Int32)]) 8 (c_X9_isWhole G.l G.D G.cA G.ad G.bs G.X C0.2.2.2.2.2.2.2.2.2.1 C0.2.2.2.2.2.2.2.2.2.2.2.2 a37 (22 : Int32) I L R b49 q50) lc_X9_isWhole lk_X6_42 c39.2 c39.1 ⟨_, rfl, rfl⟩ rfl (by rw [erm]; decide) (Nat.le_of_ble_eq_true rfl) dX6_power_129 ?_
        show V G _ 132 [(5, .ref (G.ad a37)), (0, .ref (G.ad y0)), (4, .int y4)] [.int (b2i b49)] I L R
        obtain ⟨I51, q52, q43⟩ := bn1_some q43
        have k53 : V G f 149 [(0, .ref (G.ad y0)), (4, .int y4)] [] I51 L R := by
          cases q43
          exact V_sub [0, 1] rfl k44
        refine V_if_eq C0 (tgt := 149) (by decide) dX6_power_132 (fun c54 => ?_) (fun c54 => ?_)
        · have q52 := (if_pos c54).symm.trans q52
          cases q52
          exact V_sub [1, 2] rfl k53
        · have q52 := (if_neg c54).symm.trans q52
          refine V_aload_n C0 1 rfl rfl dX6_power_135 ?_
          refine V_dup C0 rfl dX6_power_136 ?_
          refine V_getI C0 5 3 fl_X6_23 ho0 hk0 rfl dX6_power_137 ?_
          refine V_aload C0 0 rfl dX6_power_140 ?_
          obtain ⟨v55, q56, q52⟩ := bn1_some q52
          refine V_callV C0 (st := [.int (I y0 3), .ref (G.ad y0)]) (As := []) 8 (c_X9_need G.l G.D G.cA G.ad G.bs G.X C0.2.2.2.2.2.2.2.2.2.1 C0.2.2.2.2.2.2.2.2.2.2.2.2 N a37 I L R v55 q56) lc_X9_need lk_X6_62 c39.2 c39.1 ⟨_, rfl, rfl⟩ rfl (by rw [erm]; decide) (Nat.le_of_ble_eq_true rfl) dX6_power_142 ?_
          show V G _ 145 [(5, .ref (G.ad a37)), (0, .ref (G.ad y0)), (4, .int y4)] [.int v55, .int (I y0 3), .ref (G.ad y0)] I L R
          refine V_iadd C0 dX6_power_145 ?_
          obtain ⟨I57, eI57, q52⟩ := wr_some q52
          refine V_putI C0 5 3 fp_X6_23 ho0 hk0 rfl dX6_power_146 ?_
          rw [← eI57]
          cases q52
          exact V_sub [1, 2] rfl k53
set_option maxRecDepth 100000 in
set_option maxHeartbeats 4000000 in
theorem c_X6_power (l : Launch) (D : va_G) (cA : Nat → ClassId) (ad : Nat → Nat) (bs : Nat) (X : State → Prop) (hAd : Ax ad bs) (hX : Stb bs X) (hs : Ssx ad bs X) (N : Nat) (x0 : Nat) (x1 : Int32) (x2 : Int32) (x3 : Int32) (I : MI) (L : ML) (R : MR) (I' : MI) (h : F_X6_power N x0 x1 x2 x3 I L R = some (I')) : Cn l D cA ad bs X yX6_power cX6_power 6 none 3 69 [.ref (ad x0), .int x1, .int x2, .int x3] I L R (none, I', L, R) := by
  refine Cn.ofV hAd hX [(0, .ref (ad x0)), (1, .int x1), (2, .int x2), (3, .int x3)] rfl (Nat.le_of_ble_eq_true rfl) (by decide) ?_
  intro G el eD ecA ead ebs eX erm eNL C0
  subst el eD ecA ead ebs eX
  have hsx := hs _ C0.2.2.2.2.2.2.2.2.2.2.2.1
  unfold F_X6_power at h
  obtain ⟨c_x0, h⟩ := ite_some h
  refine V_aload_n C0 0 rfl rfl dX6_power_0 ?_
  refine V_iconst C0 (v := (0 : Int32)) (by decide) dX6_power_1 ?_
  obtain ⟨I1, eI1, h⟩ := wr_some h
  refine V_putI C0 5 2 fp_X6_19 c_x0.2 c_x0.1 rfl dX6_power_2 ?_
  rw [← eI1]
  refine V_iconst C0 (v := (0 : Int32)) (by decide) dX6_power_5 ?_
  refine V_istore C0 [(4, .int (0 : Int32)), (0, .ref (G.ad x0)), (1, .int x1), (2, .int x2), (3, .int x3)] (by rw [eNL]; decide) rfl dX6_power_6 ?_
  obtain ⟨z30, q31, h⟩ := bn1_some h
  refine V_sub [1, 2, 3, 4, 0] rfl (lp_X6_power_8 C0 eNL erm hs N N x0 x1 x2 x3 (0 : Int32) I1 L R _ c_x0.1 c_x0.2 q31 _ ?_)
  show V G _ 84 [(0, .ref (G.ad x0))] [] z30 L R
  refine V_aload_n C0 0 rfl rfl dX6_power_84 ?_
  refine V_iconst C0 (v := (0 : Int32)) (by decide) dX6_power_85 ?_
  obtain ⟨I32, eI32, h⟩ := wr_some h
  refine V_putI C0 5 3 fp_X6_23 c_x0.2 c_x0.1 rfl dX6_power_86 ?_
  rw [← eI32]
  refine V_iconst C0 (v := (0 : Int32)) (by decide) dX6_power_89 ?_
  refine V_istore C0 [(4, .int (0 : Int32)), (0, .ref (G.ad x0))] (by rw [eNL]; decide) rfl dX6_power_90 ?_
  obtain ⟨z59, q60, h⟩ := bn1_some h
  refine V_sub [1, 0] rfl (lp_X6_power_92 C0 eNL erm hs N N x0 (0 : Int32) I32 L R _ c_x0.1 c_x0.2 q60 _ ?_)
  show V G _ 155 [(0, .ref (G.ad x0))] [] z59 L R
  refine V_aload_n C0 0 rfl rfl dX6_power_155 ?_
  refine V_aload_n C0 0 rfl rfl dX6_power_156 ?_
  refine V_getI C0 5 2 fl_X6_19 c_x0.2 c_x0.1 rfl dX6_power_157 ?_
  refine V_aload_n C0 0 rfl rfl dX6_power_160 ?_
  refine V_getI C0 5 3 fl_X6_23 c_x0.2 c_x0.1 rfl dX6_power_161 ?_
  refine V_isub C0 dX6_power_164 ?_
  obtain ⟨v61, I62, q63, h⟩ := bn2_some h
  refine V_callV C0 (st := []) (As := [.int ((z59 x0 2) - (z59 x0 3))]) 5 (c_X6_balance G.l G.D G.cA G.ad G.bs G.X C0.2.2.2.2.2.2.2.2.2.1 C0.2.2.2.2.2.2.2.2.2.2.2.2 N x0 ((z59 x0 2) - (z59 x0 3)) z59 L R v61 I62 q63) lc_X6_balance lk_X6_65 c_x0.2 c_x0.1 ⟨_, rfl, rfl⟩ rfl (by rw [erm]; decide) (Nat.le_of_ble_eq_true rfl) dX6_power_165 ?_
  show V G _ 168 [(0, .ref (G.ad x0))] [.int v61] I62 L R
  refine V_if_ge C0 (tgt := 185) (by decide) dX6_power_168 (fun c64 => ?_) (fun c64 => ?_)
  · have h := (if_pos c64).symm.trans h
    cases h
    exact V_vret C0 dX6_power_185
  · have h := (if_neg c64).symm.trans h
    refine V_aload_n C0 0 rfl rfl dX6_power_171 ?_
    refine V_dup C0 rfl dX6_power_172 ?_
    refine V_getI C0 5 4 fl_X6_26 c_x0.2 c_x0.1 rfl dX6_power_173 ?_
    refine V_iconst C0 (v := (1 : Int32)) (by decide) dX6_power_176 ?_
    refine V_iadd C0 dX6_power_177 ?_
    obtain ⟨I65, eI65, h⟩ := wr_some h
    refine V_putI C0 5 4 fp_X6_26 c_x0.2 c_x0.1 rfl dX6_power_178 ?_
    rw [← eI65]
    refine V_aload_n C0 0 rfl rfl dX6_power_181 ?_
    obtain ⟨I66, q67, h⟩ := bn1_some h
    refine V_callV C0 (st := []) (As := []) 5 (c_X6_shed G.l G.D G.cA G.ad G.bs G.X C0.2.2.2.2.2.2.2.2.2.1 C0.2.2.2.2.2.2.2.2.2.2.2.2 N x0 I65 L R I66 q67) lc_X6_shed lk_X6_69 c_x0.2 c_x0.1 ⟨_, rfl, rfl⟩ rfl (by rw [erm]; decide) (Nat.le_of_ble_eq_true rfl) dX6_power_182 ?_
    show V G _ 185 [(0, .ref (G.ad x0))] [] I66 L R
    cases h
    exact V_vret C0 dX6_power_185
theorem dX2_tick_0 : decode cX2_tick 0 = .ok (.aload_n 0, 1) := by decide +kernel
theorem dX2_tick_1 : decode cX2_tick 1 = .ok (.getfield 57, 3) := by decide +kernel
theorem dX2_tick_4 : decode cX2_tick 4 = .ok (.istore_n 1, 1) := by decide +kernel
theorem dX2_tick_5 : decode cX2_tick 5 = .ok (.aload_n 0, 1) := by decide +kernel
theorem dX2_tick_6 : decode cX2_tick 6 = .ok (.getfield 31, 3) := by decide +kernel
theorem dX2_tick_9 : decode cX2_tick 9 = .ok (.invokevirtual 79, 3) := by decide +kernel
theorem dX2_tick_12 : decode cX2_tick 12 = .ok (.aload_n 0, 1) := by decide +kernel
theorem dX2_tick_13 : decode cX2_tick 13 = .ok (.getfield 31, 3) := by decide +kernel
theorem dX2_tick_16 : decode cX2_tick 16 = .ok (.invokevirtual 83, 3) := by decide +kernel
theorem dX2_tick_19 : decode cX2_tick 19 = .ok (.iadd, 1) := by decide +kernel
theorem dX2_tick_20 : decode cX2_tick 20 = .ok (.istore_n 2, 1) := by decide +kernel
theorem dX2_tick_21 : decode cX2_tick 21 = .ok (.aload_n 0, 1) := by decide +kernel
theorem dX2_tick_22 : decode cX2_tick 22 = .ok (.iload_n 1, 1) := by decide +kernel
theorem dX2_tick_23 : decode cX2_tick 23 = .ok (.sipush 600, 3) := by decide +kernel
theorem dX2_tick_26 : decode cX2_tick 26 = .ok (.invokestatic 92, 3) := by decide +kernel
theorem dX2_tick_29 : decode cX2_tick 29 = .ok (.invokestatic 98, 3) := by decide +kernel
theorem dX2_tick_32 : decode cX2_tick 32 = .ok (.putfield 64, 3) := by decide +kernel
theorem dX2_tick_35 : decode cX2_tick 35 = .ok (.aload_n 0, 1) := by decide +kernel
theorem dX2_tick_36 : decode cX2_tick 36 = .ok (.iload_n 1, 1) := by decide +kernel
theorem dX2_tick_37 : decode cX2_tick 37 = .ok (.invokevirtual 102, 3) := by decide +kernel
theorem dX2_tick_40 : decode cX2_tick 40 = .ok (.aload_n 0, 1) := by decide +kernel
theorem dX2_tick_41 : decode cX2_tick 41 = .ok (.iload_n 1, 1) := by decide +kernel
theorem dX2_tick_42 : decode cX2_tick 42 = .ok (.invokevirtual 106, 3) := by decide +kernel
theorem dX2_tick_45 : decode cX2_tick 45 = .ok (.aload_n 0, 1) := by decide +kernel
theorem dX2_tick_46 : decode cX2_tick 46 = .ok (.getfield 61, 3) := by decide +kernel
theorem dX2_tick_49 : decode cX2_tick 49 = .ok (.iconst 3, 1) := by decide +kernel
theorem dX2_tick_50 : decode cX2_tick 50 = .ok (.if_icmp .ne 10, 3) := by decide +kernel
theorem dX2_tick_53 : decode cX2_tick 53 = .ok (.aload_n 0, 1) := by decide +kernel
theorem dX2_tick_54 : decode cX2_tick 54 = .ok (.invokevirtual 109, 3) := by decide +kernel
theorem dX2_tick_57 : decode cX2_tick 57 = .ok (.goto 30, 3) := by decide +kernel
theorem dX2_tick_60 : decode cX2_tick 60 = .ok (.aload_n 0, 1) := by decide +kernel
theorem dX2_tick_61 : decode cX2_tick 61 = .ok (.getfield 61, 3) := by decide +kernel
theorem dX2_tick_64 : decode cX2_tick 64 = .ok (.ifCond .eq 23, 3) := by decide +kernel
theorem dX2_tick_67 : decode cX2_tick 67 = .ok (.iload_n 1, 1) := by decide +kernel
theorem dX2_tick_68 : decode cX2_tick 68 = .ok (.iconst 4, 1) := by decide +kernel
theorem dX2_tick_69 : decode cX2_tick 69 = .ok (.invokestatic 112, 3) := by decide +kernel
theorem dX2_tick_72 : decode cX2_tick 72 = .ok (.ifCond .eq 15, 3) := by decide +kernel
theorem dX2_tick_75 : decode cX2_tick 75 = .ok (.aload_n 0, 1) := by decide +kernel
theorem dX2_tick_76 : decode cX2_tick 76 = .ok (.getfield 24, 3) := by decide +kernel
theorem dX2_tick_79 : decode cX2_tick 79 = .ok (.iload_n 1, 1) := by decide +kernel
theorem dX2_tick_80 : decode cX2_tick 80 = .ok (.aload_n 0, 1) := by decide +kernel
theorem dX2_tick_81 : decode cX2_tick 81 = .ok (.getfield 61, 3) := by decide +kernel
theorem dX2_tick_84 : decode cX2_tick 84 = .ok (.invokevirtual 116, 3) := by decide +kernel
theorem dX2_tick_87 : decode cX2_tick 87 = .ok (.aload_n 0, 1) := by decide +kernel
theorem dX2_tick_88 : decode cX2_tick 88 = .ok (.getfield 24, 3) := by decide +kernel
theorem dX2_tick_91 : decode cX2_tick 91 = .ok (.iload_n 1, 1) := by decide +kernel
theorem dX2_tick_92 : decode cX2_tick 92 = .ok (.invokevirtual 120, 3) := by decide +kernel
theorem dX2_tick_95 : decode cX2_tick 95 = .ok (.aload_n 0, 1) := by decide +kernel
theorem dX2_tick_96 : decode cX2_tick 96 = .ok (.getfield 31, 3) := by decide +kernel
theorem dX2_tick_99 : decode cX2_tick 99 = .ok (.iload_n 1, 1) := by decide +kernel
theorem dX2_tick_100 : decode cX2_tick 100 = .ok (.aload_n 0, 1) := by decide +kernel
theorem dX2_tick_101 : decode cX2_tick 101 = .ok (.getfield 64, 3) := by decide +kernel
theorem dX2_tick_104 : decode cX2_tick 104 = .ok (.aload_n 0, 1) := by decide +kernel
theorem dX2_tick_105 : decode cX2_tick 105 = .ok (.getfield 24, 3) := by decide +kernel
theorem dX2_tick_108 : decode cX2_tick 108 = .ok (.iconst 1, 1) := by decide +kernel
theorem dX2_tick_109 : decode cX2_tick 109 = .ok (.invokevirtual 123, 3) := by decide +kernel
theorem dX2_tick_112 : decode cX2_tick 112 = .ok (.invokevirtual 126, 3) := by decide +kernel
theorem dX2_tick_115 : decode cX2_tick 115 = .ok (.aload_n 0, 1) := by decide +kernel
theorem dX2_tick_116 : decode cX2_tick 116 = .ok (.getfield 31, 3) := by decide +kernel
theorem dX2_tick_119 : decode cX2_tick 119 = .ok (.invokevirtual 130, 3) := by decide +kernel
theorem dX2_tick_122 : decode cX2_tick 122 = .ok (.aload_n 0, 1) := by decide +kernel
theorem dX2_tick_123 : decode cX2_tick 123 = .ok (.getfield 31, 3) := by decide +kernel
theorem dX2_tick_126 : decode cX2_tick 126 = .ok (.aload_n 0, 1) := by decide +kernel
theorem dX2_tick_127 : decode cX2_tick 127 = .ok (.getfield 64, 3) := by decide +kernel
theorem dX2_tick_130 : decode cX2_tick 130 = .ok (.invokevirtual 133, 3) := by decide +kernel
theorem dX2_tick_133 : decode cX2_tick 133 = .ok (.iload_n 1, 1) := by decide +kernel
theorem dX2_tick_134 : decode cX2_tick 134 = .ok (.bipush 25, 2) := by decide +kernel
theorem dX2_tick_136 : decode cX2_tick 136 = .ok (.invokestatic 92, 3) := by decide +kernel
theorem dX2_tick_139 : decode cX2_tick 139 = .ok (.bipush 24, 2) := by decide +kernel
theorem dX2_tick_141 : decode cX2_tick 141 = .ok (.if_icmp .ne 8, 3) := by decide +kernel
theorem dX2_tick_144 : decode cX2_tick 144 = .ok (.aload_n 0, 1) := by decide +kernel
theorem dX2_tick_145 : decode cX2_tick 145 = .ok (.iload_n 1, 1) := by decide +kernel
theorem dX2_tick_146 : decode cX2_tick 146 = .ok (.invokevirtual 136, 3) := by decide +kernel
theorem dX2_tick_149 : decode cX2_tick 149 = .ok (.aload_n 0, 1) := by decide +kernel
theorem dX2_tick_150 : decode cX2_tick 150 = .ok (.iload_n 1, 1) := by decide +kernel
theorem dX2_tick_151 : decode cX2_tick 151 = .ok (.invokevirtual 139, 3) := by decide +kernel
theorem dX2_tick_154 : decode cX2_tick 154 = .ok (.aload_n 0, 1) := by decide +kernel
theorem dX2_tick_155 : decode cX2_tick 155 = .ok (.getfield 61, 3) := by decide +kernel
theorem dX2_tick_158 : decode cX2_tick 158 = .ok (.ifCond .eq 27, 3) := by decide +kernel
theorem dX2_tick_161 : decode cX2_tick 161 = .ok (.aload_n 0, 1) := by decide +kernel
theorem dX2_tick_162 : decode cX2_tick 162 = .ok (.getfield 31, 3) := by decide +kernel
theorem dX2_tick_165 : decode cX2_tick 165 = .ok (.invokevirtual 79, 3) := by decide +kernel
theorem dX2_tick_168 : decode cX2_tick 168 = .ok (.aload_n 0, 1) := by decide +kernel
theorem dX2_tick_169 : decode cX2_tick 169 = .ok (.getfield 31, 3) := by decide +kernel
theorem dX2_tick_172 : decode cX2_tick 172 = .ok (.invokevirtual 83, 3) := by decide +kernel
theorem dX2_tick_175 : decode cX2_tick 175 = .ok (.iadd, 1) := by decide +kernel
theorem dX2_tick_176 : decode cX2_tick 176 = .ok (.iload_n 2, 1) := by decide +kernel
theorem dX2_tick_177 : decode cX2_tick 177 = .ok (.if_icmp .le 8, 3) := by decide +kernel
theorem dX2_tick_180 : decode cX2_tick 180 = .ok (.aload_n 0, 1) := by decide +kernel
theorem dX2_tick_181 : decode cX2_tick 181 = .ok (.iconst 3, 1) := by decide +kernel
theorem dX2_tick_182 : decode cX2_tick 182 = .ok (.putfield 61, 3) := by decide +kernel
theorem dX2_tick_185 : decode cX2_tick 185 = .ok (.aload_n 0, 1) := by decide +kernel
theorem dX2_tick_186 : decode cX2_tick 186 = .ok (.dup, 1) := by decide +kernel
theorem dX2_tick_187 : decode cX2_tick 187 = .ok (.getfield 57, 3) := by decide +kernel
theorem dX2_tick_190 : decode cX2_tick 190 = .ok (.iconst 1, 1) := by decide +kernel
theorem dX2_tick_191 : decode cX2_tick 191 = .ok (.iadd, 1) := by decide +kernel
theorem dX2_tick_192 : decode cX2_tick 192 = .ok (.putfield 57, 3) := by decide +kernel
theorem dX2_tick_195 : decode cX2_tick 195 = .ok (.return_, 1) := by decide +kernel
def F_X2_tick (N : Nat) (x0 : Nat) (I : MI) (L : ML) (R : MR) : Option (MI) :=
  if kd x0 = 2 ∧ x0 < NN then
  wr (I x0 6) fun (u1 : Int32) =>
  (rf R x0 2 5).bind fun a2 =>
  bn1 (F_X6_brownoutCount a2 I L R) fun v3 =>
  bn1 (F_X6_failureCount a2 I L R) fun v5 =>
  wr (v3 + v5) fun (u7 : Int32) =>
  bn1 (F_J9_floorMod_7cf53 u1 (600 : Int32) I L R) fun v8 =>
  bn1 (F_X2_lightAt v8 I L R) fun v10 =>
  wr (uI I x0 8 v10) fun (I12 : MI) =>
  bn1 (F_X2_doItems N x0 u1 I12 L R) fun I13 =>
  bn1 (F_X2_takeReadings N x0 u1 I13 L R) fun I15 =>
  bn1 (
    if (I15 x0 7) = (3 : Int32) then
      bn1 (F_X2_saveLine N x0 I15 L R) fun I34 =>
      some (I34)
    else
      bn1 (
        if (I15 x0 7) = 0 then
          some (I15)
        else
          bn1 (F_X11_isMultiple u1 (4 : Int32) I15 L R) fun b25 =>
          bn1 (
            if (b2i b25) = 0 then
              some (I15)
            else
              (rf R x0 1 6).bind fun a31 =>
              bn1 (F_X7_steer N a31 u1 (I15 x0 7) I15 L R) fun I32 =>
              some (I32)
          ) fun (I27 : MI) =>
          some (I27)
      ) fun (I21 : MI) =>
      some (I21)
  ) fun (I17 : MI) =>
  (rf R x0 1 6).bind fun a36 =>
  bn1 (F_X7_turn N a36 u1 I17 L R) fun I37 =>
  bn1 (F_X7_angle a36 (1 : Int32) I37 L R) fun v39 =>
  bn1 (F_X6_power N a2 u1 (I37 x0 8) v39 I37 L R) fun I41 =>
  bn1 (F_X6_levelTanks N a2 I41 L R) fun I43 =>
  bn1 (F_X6_warm N a2 (I43 x0 8) I43 L R) fun I45 =>
  bn1 (F_J9_floorMod_7cf53 u1 (25 : Int32) I45 L R) fun v47 =>
  bn1 (
    if v47 = (24 : Int32) then
      bn1 (F_X2_keepFrame N x0 u1 I45 L R) fun I53 =>
      some (I53)
    else
      some (I45)
  ) fun (I49 : MI) =>
  bn1 (F_X2_sendAll N x0 u1 I49 L R) fun I55 =>
  bn1 (
    if (I55 x0 7) = 0 then
      some (I55)
    else
      bn1 (F_X6_brownoutCount a2 I55 L R) fun v61 =>
      bn1 (F_X6_failureCount a2 I55 L R) fun v63 =>
      bn1 (
        if (v61 + v63) ≤ u7 then
          some (I55)
        else
          wr (uI I55 x0 7 (3 : Int32)) fun (I69 : MI) =>
          some (I69)
      ) fun (I65 : MI) =>
      some (I65)
  ) fun (I57 : MI) =>
  wr (uI I57 x0 6 ((I57 x0 6) + (1 : Int32))) fun (I70 : MI) =>
  some (I70)
  else none
set_option maxRecDepth 100000 in
set_option maxHeartbeats 4000000 in
theorem c_X2_tick (l : Launch) (D : va_G) (cA : Nat → ClassId) (ad : Nat → Nat) (bs : Nat) (X : State → Prop) (hAd : Ax ad bs) (hX : Stb bs X) (hs : Ssx ad bs X) (N : Nat) (x0 : Nat) (I : MI) (L : ML) (R : MR) (I' : MI) (h : F_X2_tick N x0 I L R = some (I')) : Cn l D cA ad bs X yX2_tick cX2_tick 3 none 6 138 [.ref (ad x0)] I L R (none, I', L, R) := by
  refine Cn.ofV hAd hX [(0, .ref (ad x0))] rfl (Nat.le_of_ble_eq_true rfl) (by decide) ?_
  intro G el eD ecA ead ebs eX erm eNL C0
  subst el eD ecA ead ebs eX
  have hsx := hs _ C0.2.2.2.2.2.2.2.2.2.2.2.1
  unfold F_X2_tick at h
  obtain ⟨c_x0, h⟩ := ite_some h
  refine V_aload_n C0 0 rfl rfl dX2_tick_0 ?_
  refine V_getI C0 2 6 fl_X2_57 c_x0.2 c_x0.1 rfl dX2_tick_1 ?_
  obtain ⟨u1, eu1, h⟩ := wr_some h
  rw [← eu1]
  refine V_istore_n C0 [(1, .int u1), (0, .ref (G.ad x0))] rfl (by rw [eNL]; decide) rfl dX2_tick_4 ?_
  refine V_aload_n C0 1 rfl rfl dX2_tick_5 ?_
  obtain ⟨a2, qa2, h⟩ := bnd_some h
  refine V_getR C0 2 2 fl_X2_31 c_x0.2 c_x0.1 rfl (rf_at qa2) dX2_tick_6 ?_
  obtain ⟨v3, q4, h⟩ := bn1_some h
  refine V_callV C0 (st := []) (As := []) 5 (c_X6_brownoutCount G.l G.D G.cA G.ad G.bs G.X C0.2.2.2.2.2.2.2.2.2.1 C0.2.2.2.2.2.2.2.2.2.2.2.2 a2 I L R v3 q4) lc_X6_brownoutCount lk_X2_79 (rf_lt qa2) (rf_kd qa2) ⟨_, rfl, rfl⟩ rfl (by rw [erm]; decide) (Nat.le_of_ble_eq_true rfl) dX2_tick_9 ?_
  show V G _ 12 [(1, .int u1), (0, .ref (G.ad x0))] [.int v3] I L R
  refine V_aload_n C0 1 rfl rfl dX2_tick_12 ?_
  refine V_getR C0 2 2 fl_X2_31 c_x0.2 c_x0.1 rfl (rf_at qa2) dX2_tick_13 ?_
  obtain ⟨v5, q6, h⟩ := bn1_some h
  refine V_callV C0 (st := [.int v3]) (As := []) 5 (c_X6_failureCount G.l G.D G.cA G.ad G.bs G.X C0.2.2.2.2.2.2.2.2.2.1 C0.2.2.2.2.2.2.2.2.2.2.2.2 a2 I L R v5 q6) lc_X6_failureCount lk_X2_83 (rf_lt qa2) (rf_kd qa2) ⟨_, rfl, rfl⟩ rfl (by rw [erm]; decide) (Nat.le_of_ble_eq_true rfl) dX2_tick_16 ?_
  show V G _ 19 [(1, .int u1), (0, .ref (G.ad x0))] [.int v5, .int v3] I L R
  refine V_iadd C0 dX2_tick_19 ?_
  obtain ⟨u7, eu7, h⟩ := wr_some h
  rw [← eu7]
  refine V_istore_n C0 [(2, .int u7), (1, .int u1), (0, .ref (G.ad x0))] rfl (by rw [eNL]; decide) rfl dX2_tick_20 ?_
  refine V_aload_n C0 2 rfl rfl dX2_tick_21 ?_
  refine V_iload_n C0 1 rfl rfl dX2_tick_22 ?_
  refine V_sipush C0 (v := (600 : Int32)) (by decide) dX2_tick_23 ?_
  obtain ⟨v8, q9, h⟩ := bn1_some h
  refine V_callS C0 (st := [.ref (G.ad x0)]) (As := [.int u1, .int (600 : Int32)]) (c_J9_floorMod_7cf53 G.l G.D G.cA G.ad G.bs G.X C0.2.2.2.2.2.2.2.2.2.1 C0.2.2.2.2.2.2.2.2.2.2.2.2 u1 (600 : Int32) I L R v8 q9) lc_J9_floorMod_7cf53 lk_X2_92 rfl (by rw [erm]; decide) (Nat.le_of_ble_eq_true rfl) dX2_tick_26 ?_
  show V G _ 29 [(2, .int u7), (1, .int u1), (0, .ref (G.ad x0))] [.int v8, .ref (G.ad x0)] I L R
  obtain ⟨v10, q11, h⟩ := bn1_some h
  refine V_callS C0 (st := [.ref (G.ad x0)]) (As := [.int v8]) (c_X2_lightAt G.l G.D G.cA G.ad G.bs G.X C0.2.2.2.2.2.2.2.2.2.1 C0.2.2.2.2.2.2.2.2.2.2.2.2 v8 I L R v10 q11) lc_X2_lightAt lk_X2_98 rfl (by rw [erm]; decide) (Nat.le_of_ble_eq_true rfl) dX2_tick_29 ?_
  show V G _ 32 [(2, .int u7), (1, .int u1), (0, .ref (G.ad x0))] [.int v10, .ref (G.ad x0)] I L R
  obtain ⟨I12, eI12, h⟩ := wr_some h
  refine V_putI C0 2 8 fp_X2_64 c_x0.2 c_x0.1 rfl dX2_tick_32 ?_
  rw [← eI12]
  refine V_aload_n C0 2 rfl rfl dX2_tick_35 ?_
  refine V_iload_n C0 1 rfl rfl dX2_tick_36 ?_
  obtain ⟨I13, q14, h⟩ := bn1_some h
  refine V_callV C0 (st := []) (As := [.int u1]) 2 (c_X2_doItems G.l G.D G.cA G.ad G.bs G.X C0.2.2.2.2.2.2.2.2.2.1 C0.2.2.2.2.2.2.2.2.2.2.2.2 N x0 u1 I12 L R I13 q14) lc_X2_doItems lk_X2_102 c_x0.2 c_x0.1 ⟨_, rfl, rfl⟩ rfl (by rw [erm]; decide) (Nat.le_of_ble_eq_true rfl) dX2_tick_37 ?_
  show V G _ 40 [(2, .int u7), (1, .int u1), (0, .ref (G.ad x0))] [] I13 L R
  refine V_aload_n C0 2 rfl rfl dX2_tick_40 ?_
  refine V_iload_n C0 1 rfl rfl dX2_tick_41 ?_
  obtain ⟨I15, q16, h⟩ := bn1_some h
  refine V_callV C0 (st := []) (As := [.int u1]) 2 (c_X2_takeReadings G.l G.D G.cA G.ad G.bs G.X C0.2.2.2.2.2.2.2.2.2.1 C0.2.2.2.2.2.2.2.2.2.2.2.2 N x0 u1 I13 L R I15 q16) lc_X2_takeReadings lk_X2_106 c_x0.2 c_x0.1 ⟨_, rfl, rfl⟩ rfl (by rw [erm]; decide) (Nat.le_of_ble_eq_true rfl) dX2_tick_42 ?_
  show V G _ 45 [(2, .int u7), (1, .int u1), (0, .ref (G.ad x0))] [] I15 L R
  refine V_aload_n C0 2 rfl rfl dX2_tick_45 ?_
  refine V_getI C0 2 7 fl_X2_61 c_x0.2 c_x0.1 rfl dX2_tick_46 ?_
  refine V_iconst C0 (v := (3 : Int32)) (by decide) dX2_tick_49 ?_
  obtain ⟨I17, q18, h⟩ := bn1_some h
  have k19 : V G (qf G (none, I', L, R)) 87 [(0, .ref (G.ad x0)), (1, .int u1), (2, .int u7)] [] I17 L R := by
    refine V_aload_n C0 0 rfl rfl dX2_tick_87 ?_
    obtain ⟨a36, qa36, h⟩ := bnd_some h
    refine V_getR C0 2 1 fl_X2_24 c_x0.2 c_x0.1 rfl (rf_at qa36) dX2_tick_88 ?_
    refine V_iload_n C0 1 rfl rfl dX2_tick_91 ?_
    obtain ⟨I37, q38, h⟩ := bn1_some h
    refine V_callV C0 (st := []) (As := [.int u1]) 6 (c_X7_turn G.l G.D G.cA G.ad G.bs G.X C0.2.2.2.2.2.2.2.2.2.1 C0.2.2.2.2.2.2.2.2.2.2.2.2 N a36 u1 I17 L R I37 q38) lc_X7_turn lk_X2_120 (rf_lt qa36) (rf_kd qa36) ⟨_, rfl, rfl⟩ rfl (by rw [erm]; decide) (Nat.le_of_ble_eq_true rfl) dX2_tick_92 ?_
    show V G _ 95 [(0, .ref (G.ad x0)), (1, .int u1), (2, .int u7)] [] I37 L R
    refine V_aload_n C0 0 rfl rfl dX2_tick_95 ?_
    refine V_getR C0 2 2 fl_X2_31 c_x0.2 c_x0.1 rfl (rf_at qa2) dX2_tick_96 ?_
    refine V_iload_n C0 1 rfl rfl dX2_tick_99 ?_
    refine V_aload_n C0 0 rfl rfl dX2_tick_100 ?_
    refine V_getI C0 2 8 fl_X2_64 c_x0.2 c_x0.1 rfl dX2_tick_101 ?_
    refine V_aload_n C0 0 rfl rfl dX2_tick_104 ?_
    refine V_getR C0 2 1 fl_X2_24 c_x0.2 c_x0.1 rfl (rf_at qa36) dX2_tick_105 ?_
    refine V_iconst C0 (v := (1 : Int32)) (by decide) dX2_tick_108 ?_
    obtain ⟨v39, q40, h⟩ := bn1_some h
    refine V_callV C0 (st := [.int (I37 x0 8), .int u1, .ref (G.ad a2)]) (As := [.int (1 : Int32)]) 6 (c_X7_angle G.l G.D G.cA G.ad G.bs G.X C0.2.2.2.2.2.2.2.2.2.1 C0.2.2.2.2.2.2.2.2.2.2.2.2 a36 (1 : Int32) I37 L R v39 q40) lc_X7_angle lk_X2_123 (rf_lt qa36) (rf_kd qa36) ⟨_, rfl, rfl⟩ rfl (by rw [erm]; decide) (Nat.le_of_ble_eq_true rfl) dX2_tick_109 ?_
    show V G _ 112 [(0, .ref (G.ad x0)), (1, .int u1), (2, .int u7)] [.int v39, .int (I37 x0 8), .int u1, .ref (G.ad a2)] I37 L R
    obtain ⟨I41, q42, h⟩ := bn1_some h
    refine V_callV C0 (st := []) (As := [.int u1, .int (I37 x0 8), .int v39]) 5 (c_X6_power G.l G.D G.cA G.ad G.bs G.X C0.2.2.2.2.2.2.2.2.2.1 C0.2.2.2.2.2.2.2.2.2.2.2.2 hs N a2 u1 (I37 x0 8) v39 I37 L R I41 q42) lc_X6_power lk_X2_126 (rf_lt qa2) (rf_kd qa2) ⟨_, rfl, rfl⟩ rfl (by rw [erm]; decide) (Nat.le_of_ble_eq_true rfl) dX2_tick_112 ?_
    show V G _ 115 [(0, .ref (G.ad x0)), (1, .int u1), (2, .int u7)] [] I41 L R
    refine V_aload_n C0 0 rfl rfl dX2_tick_115 ?_
    refine V_getR C0 2 2 fl_X2_31 c_x0.2 c_x0.1 rfl (rf_at qa2) dX2_tick_116 ?_
    obtain ⟨I43, q44, h⟩ := bn1_some h
    refine V_callV C0 (st := []) (As := []) 5 (c_X6_levelTanks G.l G.D G.cA G.ad G.bs G.X C0.2.2.2.2.2.2.2.2.2.1 C0.2.2.2.2.2.2.2.2.2.2.2.2 N a2 I41 L R I43 q44) lc_X6_levelTanks lk_X2_130 (rf_lt qa2) (rf_kd qa2) ⟨_, rfl, rfl⟩ rfl (by rw [erm]; decide) (Nat.le_of_ble_eq_true rfl) dX2_tick_119 ?_
    show V G _ 122 [(0, .ref (G.ad x0)), (1, .int u1), (2, .int u7)] [] I43 L R
    refine V_aload_n C0 0 rfl rfl dX2_tick_122 ?_
    refine V_getR C0 2 2 fl_X2_31 c_x0.2 c_x0.1 rfl (rf_at qa2) dX2_tick_123 ?_
    refine V_aload_n C0 0 rfl rfl dX2_tick_126 ?_
    refine V_getI C0 2 8 fl_X2_64 c_x0.2 c_x0.1 rfl dX2_tick_127 ?_
    obtain ⟨I45, q46, h⟩ := bn1_some h
    refine V_callV C0 (st := []) (As := [.int (I43 x0 8)]) 5 (c_X6_warm G.l G.D G.cA G.ad G.bs G.X C0.2.2.2.2.2.2.2.2.2.1 C0.2.2.2.2.2.2.2.2.2.2.2.2 N a2 (I43 x0 8) I43 L R I45 q46) lc_X6_warm lk_X2_133 (rf_lt qa2) (rf_kd qa2) ⟨_, rfl, rfl⟩ rfl (by rw [erm]; decide) (Nat.le_of_ble_eq_true rfl) dX2_tick_130 ?_
    show V G _ 133 [(0, .ref (G.ad x0)), (1, .int u1), (2, .int u7)] [] I45 L R
    refine V_iload_n C0 1 rfl rfl dX2_tick_133 ?_
    refine V_bipush C0 (v := (25 : Int32)) (by decide) dX2_tick_134 ?_
    obtain ⟨v47, q48, h⟩ := bn1_some h
    refine V_callS C0 (st := []) (As := [.int u1, .int (25 : Int32)]) (c_J9_floorMod_7cf53 G.l G.D G.cA G.ad G.bs G.X C0.2.2.2.2.2.2.2.2.2.1 C0.2.2.2.2.2.2.2.2.2.2.2.2 u1 (25 : Int32) I45 L R v47 q48) lc_J9_floorMod_7cf53 lk_X2_92 rfl (by rw [erm]; decide) (Nat.le_of_ble_eq_true rfl) dX2_tick_136 ?_
    show V G _ 139 [(0, .ref (G.ad x0)), (1, .int u1), (2, .int u7)] [.int v47] I45 L R
    refine V_bipush C0 (v := (24 : Int32)) (by decide) dX2_tick_139 ?_
    obtain ⟨I49, q50, h⟩ := bn1_some h
    have k51 : V G (qf G (none, I', L, R)) 149 [(0, .ref (G.ad x0)), (1, .int u1), (2, .int u7)] [] I49 L R := by
      refine V_aload_n C0 0 rfl rfl dX2_tick_149 ?_
      refine V_iload_n C0 1 rfl rfl dX2_tick_150 ?_
      obtain ⟨I55, q56, h⟩ := bn1_some h
      refine V_callV C0 (st := []) (As := [.int u1]) 2 (c_X2_sendAll G.l G.D G.cA G.ad G.bs G.X C0.2.2.2.2.2.2.2.2.2.1 C0.2.2.2.2.2.2.2.2.2.2.2.2 N x0 u1 I49 L R I55 q56) lc_X2_sendAll lk_X2_139 c_x0.2 c_x0.1 ⟨_, rfl, rfl⟩ rfl (by rw [erm]; decide) (Nat.le_of_ble_eq_true rfl) dX2_tick_151 ?_
      show V G _ 154 [(0, .ref (G.ad x0)), (1, .int u1), (2, .int u7)] [] I55 L R
      refine V_aload_n C0 0 rfl rfl dX2_tick_154 ?_
      refine V_getI C0 2 7 fl_X2_61 c_x0.2 c_x0.1 rfl dX2_tick_155 ?_
      obtain ⟨I57, q58, h⟩ := bn1_some h
      have k59 : V G (qf G (none, I', L, R)) 185 [(0, .ref (G.ad x0))] [] I57 L R := by
        refine V_aload_n C0 0 rfl rfl dX2_tick_185 ?_
        refine V_dup C0 rfl dX2_tick_186 ?_
        refine V_getI C0 2 6 fl_X2_57 c_x0.2 c_x0.1 rfl dX2_tick_187 ?_
        refine V_iconst C0 (v := (1 : Int32)) (by decide) dX2_tick_190 ?_
        refine V_iadd C0 dX2_tick_191 ?_
        obtain ⟨I70, eI70, h⟩ := wr_some h
        refine V_putI C0 2 6 fp_X2_57 c_x0.2 c_x0.1 rfl dX2_tick_192 ?_
        rw [← eI70]
        cases h
        exact V_vret C0 dX2_tick_195
      refine V_if_eq C0 (tgt := 185) (by decide) dX2_tick_158 (fun c60 => ?_) (fun c60 => ?_)
      · have q58 := (if_pos c60).symm.trans q58
        cases q58
        exact V_sub [0] rfl k59
      · have q58 := (if_neg c60).symm.trans q58
        refine V_aload_n C0 0 rfl rfl dX2_tick_161 ?_
        refine V_getR C0 2 2 fl_X2_31 c_x0.2 c_x0.1 rfl (rf_at qa2) dX2_tick_162 ?_
        obtain ⟨v61, q62, q58⟩ := bn1_some q58
        refine V_callV C0 (st := []) (As := []) 5 (c_X6_brownoutCount G.l G.D G.cA G.ad G.bs G.X C0.2.2.2.2.2.2.2.2.2.1 C0.2.2.2.2.2.2.2.2.2.2.2.2 a2 I55 L R v61 q62) lc_X6_brownoutCount lk_X2_79 (rf_lt qa2) (rf_kd qa2) ⟨_, rfl, rfl⟩ rfl (by rw [erm]; decide) (Nat.le_of_ble_eq_true rfl) dX2_tick_165 ?_
        show V G _ 168 [(0, .ref (G.ad x0)), (1, .int u1), (2, .int u7)] [.int v61] I55 L R
        refine V_aload_n C0 0 rfl rfl dX2_tick_168 ?_
        refine V_getR C0 2 2 fl_X2_31 c_x0.2 c_x0.1 rfl (rf_at qa2) dX2_tick_169 ?_
        obtain ⟨v63, q64, q58⟩ := bn1_some q58
        refine V_callV C0 (st := [.int v61]) (As := []) 5 (c_X6_failureCount G.l G.D G.cA G.ad G.bs G.X C0.2.2.2.2.2.2.2.2.2.1 C0.2.2.2.2.2.2.2.2.2.2.2.2 a2 I55 L R v63 q64) lc_X6_failureCount lk_X2_83 (rf_lt qa2) (rf_kd qa2) ⟨_, rfl, rfl⟩ rfl (by rw [erm]; decide) (Nat.le_of_ble_eq_true rfl) dX2_tick_172 ?_
        show V G _ 175 [(0, .ref (G.ad x0)), (1, .int u1), (2, .int u7)] [.int v63, .int v61] I55 L R
        refine V_iadd C0 dX2_tick_175 ?_
        refine V_iload_n C0 2 rfl rfl dX2_tick_176 ?_
        obtain ⟨I65, q66, q58⟩ := bn1_some q58
        have k67 : V G (qf G (none, I', L, R)) 185 [(0, .ref (G.ad x0))] [] I65 L R := by
          cases q58
          exact V_sub [0] rfl k59
        refine V_icmp_le C0 (tgt := 185) (by decide) dX2_tick_177 (fun c68 => ?_) (fun c68 => ?_)
        · have q66 := (if_pos c68).symm.trans q66
          cases q66
          exact V_sub [0] rfl k67
        · have q66 := (if_neg c68).symm.trans q66
          refine V_aload_n C0 0 rfl rfl dX2_tick_180 ?_
          refine V_iconst C0 (v := (3 : Int32)) (by decide) dX2_tick_181 ?_
          obtain ⟨I69, eI69, q66⟩ := wr_some q66
          refine V_putI C0 2 7 fp_X2_61 c_x0.2 c_x0.1 rfl dX2_tick_182 ?_
          rw [← eI69]
          cases q66
          exact V_sub [0] rfl k67
    refine V_icmp_ne C0 (tgt := 149) (by decide) dX2_tick_141 (fun c52 => ?_) (fun c52 => ?_)
    · have q50 := (if_neg c52).symm.trans q50
      cases q50
      exact V_sub [0, 1, 2] rfl k51
    · have q50 := (if_pos c52).symm.trans q50
      refine V_aload_n C0 0 rfl rfl dX2_tick_144 ?_
      refine V_iload_n C0 1 rfl rfl dX2_tick_145 ?_
      obtain ⟨I53, q54, q50⟩ := bn1_some q50
      refine V_callV C0 (st := []) (As := [.int u1]) 2 (c_X2_keepFrame G.l G.D G.cA G.ad G.bs G.X C0.2.2.2.2.2.2.2.2.2.1 C0.2.2.2.2.2.2.2.2.2.2.2.2 N x0 u1 I45 L R I53 q54) lc_X2_keepFrame lk_X2_136 c_x0.2 c_x0.1 ⟨_, rfl, rfl⟩ rfl (by rw [erm]; decide) (Nat.le_of_ble_eq_true rfl) dX2_tick_146 ?_
      show V G _ 149 [(0, .ref (G.ad x0)), (1, .int u1), (2, .int u7)] [] I53 L R
      cases q50
      exact V_sub [0, 1, 2] rfl k51
  refine V_icmp_ne C0 (tgt := 60) (by decide) dX2_tick_50 (fun c20 => ?_) (fun c20 => ?_)
  · have q18 := (if_neg c20).symm.trans q18
    refine V_aload_n C0 2 rfl rfl dX2_tick_60 ?_
    refine V_getI C0 2 7 fl_X2_61 c_x0.2 c_x0.1 rfl dX2_tick_61 ?_
    obtain ⟨I21, q22, q18⟩ := bn1_some q18
    have k23 : V G (qf G (none, I', L, R)) 87 [(0, .ref (G.ad x0)), (1, .int u1), (2, .int u7)] [] I21 L R := by
      cases q18
      exact V_sub [0, 1, 2] rfl k19
    refine V_if_eq C0 (tgt := 87) (by decide) dX2_tick_64 (fun c24 => ?_) (fun c24 => ?_)
    · have q22 := (if_pos c24).symm.trans q22
      cases q22
      exact V_sub [2, 1, 0] rfl k23
    · have q22 := (if_neg c24).symm.trans q22
      refine V_iload_n C0 1 rfl rfl dX2_tick_67 ?_
      refine V_iconst C0 (v := (4 : Int32)) (by decide) dX2_tick_68 ?_
      obtain ⟨b25, q26, q22⟩ := bn1_some q22
      refine V_callS C0 (st := []) (As := [.int u1, .int (4 : Int32)]) (c_X11_isMultiple G.l G.D G.cA G.ad G.bs G.X C0.2.2.2.2.2.2.2.2.2.1 C0.2.2.2.2.2.2.2.2.2.2.2.2 u1 (4 : Int32) I15 L R b25 q26) lc_X11_isMultiple lk_X2_112 rfl (by rw [erm]; decide) (Nat.le_of_ble_eq_true rfl) dX2_tick_69 ?_
      show V G _ 72 [(2, .int u7), (1, .int u1), (0, .ref (G.ad x0))] [.int (b2i b25)] I15 L R
      obtain ⟨I27, q28, q22⟩ := bn1_some q22
      have k29 : V G (qf G (none, I', L, R)) 87 [(0, .ref (G.ad x0)), (1, .int u1), (2, .int u7)] [] I27 L R := by
        cases q22
        exact V_sub [0, 1, 2] rfl k23
      refine V_if_eq C0 (tgt := 87) (by decide) dX2_tick_72 (fun c30 => ?_) (fun c30 => ?_)
      · have q28 := (if_pos c30).symm.trans q28
        cases q28
        exact V_sub [2, 1, 0] rfl k29
      · have q28 := (if_neg c30).symm.trans q28
        refine V_aload_n C0 2 rfl rfl dX2_tick_75 ?_
        obtain ⟨a31, qa31, q28⟩ := bnd_some q28
        refine V_getR C0 2 1 fl_X2_24 c_x0.2 c_x0.1 rfl (rf_at qa31) dX2_tick_76 ?_
        refine V_iload_n C0 1 rfl rfl dX2_tick_79 ?_
        refine V_aload_n C0 2 rfl rfl dX2_tick_80 ?_
        refine V_getI C0 2 7 fl_X2_61 c_x0.2 c_x0.1 rfl dX2_tick_81 ?_
        obtain ⟨I32, q33, q28⟩ := bn1_some q28
        refine V_callV C0 (st := []) (As := [.int u1, .int (I15 x0 7)]) 6 (c_X7_steer G.l G.D G.cA G.ad G.bs G.X C0.2.2.2.2.2.2.2.2.2.1 C0.2.2.2.2.2.2.2.2.2.2.2.2 N a31 u1 (I15 x0 7) I15 L R I32 q33) lc_X7_steer lk_X2_116 (rf_lt qa31) (rf_kd qa31) ⟨_, rfl, rfl⟩ rfl (by rw [erm]; decide) (Nat.le_of_ble_eq_true rfl) dX2_tick_84 ?_
        show V G _ 87 [(2, .int u7), (1, .int u1), (0, .ref (G.ad x0))] [] I32 L R
        cases q28
        exact V_sub [2, 1, 0] rfl k29
  · have q18 := (if_pos c20).symm.trans q18
    refine V_aload_n C0 2 rfl rfl dX2_tick_53 ?_
    obtain ⟨I34, q35, q18⟩ := bn1_some q18
    refine V_callV C0 (st := []) (As := []) 2 (c_X2_saveLine G.l G.D G.cA G.ad G.bs G.X C0.2.2.2.2.2.2.2.2.2.1 C0.2.2.2.2.2.2.2.2.2.2.2.2 N x0 I15 L R I34 q35) lc_X2_saveLine lk_X2_109 c_x0.2 c_x0.1 ⟨_, rfl, rfl⟩ rfl (by rw [erm]; decide) (Nat.le_of_ble_eq_true rfl) dX2_tick_54 ?_
    show V G _ 57 [(2, .int u7), (1, .int u1), (0, .ref (G.ad x0))] [] I34 L R
    refine V_goto C0 (tgt := 87) (by decide) dX2_tick_57 ?_
    cases q18
    exact V_sub [2, 1, 0] rfl k19
theorem dX9_stackLayers_0 : decode cX9_stackLayers 0 = .ok (.aload_n 0, 1) := by decide +kernel
theorem dX9_stackLayers_1 : decode cX9_stackLayers 1 = .ok (.iconst 0, 1) := by decide +kernel
theorem dX9_stackLayers_2 : decode cX9_stackLayers 2 = .ok (.putfield 53, 3) := by decide +kernel
theorem dX9_stackLayers_5 : decode cX9_stackLayers 5 = .ok (.aload_n 0, 1) := by decide +kernel
theorem dX9_stackLayers_6 : decode cX9_stackLayers 6 = .ok (.iconst 0, 1) := by decide +kernel
theorem dX9_stackLayers_7 : decode cX9_stackLayers 7 = .ok (.putfield 56, 3) := by decide +kernel
theorem dX9_stackLayers_10 : decode cX9_stackLayers 10 = .ok (.iload_n 1, 1) := by decide +kernel
theorem dX9_stackLayers_11 : decode cX9_stackLayers 11 = .ok (.istore_n 2, 1) := by decide +kernel
theorem dX9_stackLayers_12 : decode cX9_stackLayers 12 = .ok (.iconst 0, 1) := by decide +kernel
theorem dX9_stackLayers_13 : decode cX9_stackLayers 13 = .ok (.istore_n 3, 1) := by decide +kernel
theorem dX9_stackLayers_14 : decode cX9_stackLayers 14 = .ok (.iload_n 3, 1) := by decide +kernel
theorem dX9_stackLayers_15 : decode cX9_stackLayers 15 = .ok (.iconst 5, 1) := by decide +kernel
theorem dX9_stackLayers_16 : decode cX9_stackLayers 16 = .ok (.if_icmp .ge 39, 3) := by decide +kernel
theorem dX9_stackLayers_19 : decode cX9_stackLayers 19 = .ok (.iload_n 2, 1) := by decide +kernel
theorem dX9_stackLayers_20 : decode cX9_stackLayers 20 = .ok (.ifCond .lt 35, 3) := by decide +kernel
theorem dX9_stackLayers_23 : decode cX9_stackLayers 23 = .ok (.iload_n 2, 1) := by decide +kernel
theorem dX9_stackLayers_24 : decode cX9_stackLayers 24 = .ok (.getstatic 59, 3) := by decide +kernel
theorem dX9_stackLayers_27 : decode cX9_stackLayers 27 = .ok (.arraylength, 1) := by decide +kernel
theorem dX9_stackLayers_28 : decode cX9_stackLayers 28 = .ok (.if_icmp .ge 27, 3) := by decide +kernel
theorem dX9_stackLayers_31 : decode cX9_stackLayers 31 = .ok (.aload_n 0, 1) := by decide +kernel
theorem dX9_stackLayers_32 : decode cX9_stackLayers 32 = .ok (.dup, 1) := by decide +kernel
theorem dX9_stackLayers_33 : decode cX9_stackLayers 33 = .ok (.getfield 56, 3) := by decide +kernel
theorem dX9_stackLayers_36 : decode cX9_stackLayers 36 = .ok (.iconst 1, 1) := by decide +kernel
theorem dX9_stackLayers_37 : decode cX9_stackLayers 37 = .ok (.iload_n 2, 1) := by decide +kernel
theorem dX9_stackLayers_38 : decode cX9_stackLayers 38 = .ok (.ishl, 1) := by decide +kernel
theorem dX9_stackLayers_39 : decode cX9_stackLayers 39 = .ok (.ior, 1) := by decide +kernel
theorem dX9_stackLayers_40 : decode cX9_stackLayers 40 = .ok (.putfield 56, 3) := by decide +kernel
theorem dX9_stackLayers_43 : decode cX9_stackLayers 43 = .ok (.getstatic 59, 3) := by decide +kernel
theorem dX9_stackLayers_46 : decode cX9_stackLayers 46 = .ok (.iload_n 2, 1) := by decide +kernel
theorem dX9_stackLayers_47 : decode cX9_stackLayers 47 = .ok (.iaload, 1) := by decide +kernel
theorem dX9_stackLayers_48 : decode cX9_stackLayers 48 = .ok (.istore_n 2, 1) := by decide +kernel
theorem dX9_stackLayers_49 : decode cX9_stackLayers 49 = .ok (.iinc 3 1, 3) := by decide +kernel
theorem dX9_stackLayers_52 : decode cX9_stackLayers 52 = .ok (.goto (-38), 3) := by decide +kernel
theorem dX9_stackLayers_55 : decode cX9_stackLayers 55 = .ok (.iconst 0, 1) := by decide +kernel
theorem dX9_stackLayers_56 : decode cX9_stackLayers 56 = .ok (.istore_n 3, 1) := by decide +kernel
theorem dX9_stackLayers_57 : decode cX9_stackLayers 57 = .ok (.iload_n 3, 1) := by decide +kernel
theorem dX9_stackLayers_58 : decode cX9_stackLayers 58 = .ok (.getstatic 59, 3) := by decide +kernel
theorem dX9_stackLayers_61 : decode cX9_stackLayers 61 = .ok (.arraylength, 1) := by decide +kernel
theorem dX9_stackLayers_62 : decode cX9_stackLayers 62 = .ok (.if_icmp .ge 49, 3) := by decide +kernel
theorem dX9_stackLayers_65 : decode cX9_stackLayers 65 = .ok (.aload_n 0, 1) := by decide +kernel
theorem dX9_stackLayers_66 : decode cX9_stackLayers 66 = .ok (.iload_n 3, 1) := by decide +kernel
theorem dX9_stackLayers_67 : decode cX9_stackLayers 67 = .ok (.invokevirtual 62, 3) := by decide +kernel
theorem dX9_stackLayers_70 : decode cX9_stackLayers 70 = .ok (.ifCond .eq 35, 3) := by decide +kernel
theorem dX9_stackLayers_73 : decode cX9_stackLayers 73 = .ok (.aload_n 0, 1) := by decide +kernel
theorem dX9_stackLayers_74 : decode cX9_stackLayers 74 = .ok (.getfield 53, 3) := by decide +kernel
theorem dX9_stackLayers_77 : decode cX9_stackLayers 77 = .ok (.aload_n 0, 1) := by decide +kernel
theorem dX9_stackLayers_78 : decode cX9_stackLayers 78 = .ok (.getfield 15, 3) := by decide +kernel
theorem dX9_stackLayers_81 : decode cX9_stackLayers 81 = .ok (.arraylength, 1) := by decide +kernel
theorem dX9_stackLayers_82 : decode cX9_stackLayers 82 = .ok (.if_icmp .ge 23, 3) := by decide +kernel
theorem dX9_stackLayers_85 : decode cX9_stackLayers 85 = .ok (.aload_n 0, 1) := by decide +kernel
theorem dX9_stackLayers_86 : decode cX9_stackLayers 86 = .ok (.getfield 15, 3) := by decide +kernel
theorem dX9_stackLayers_89 : decode cX9_stackLayers 89 = .ok (.aload_n 0, 1) := by decide +kernel
theorem dX9_stackLayers_90 : decode cX9_stackLayers 90 = .ok (.getfield 53, 3) := by decide +kernel
theorem dX9_stackLayers_93 : decode cX9_stackLayers 93 = .ok (.iload_n 3, 1) := by decide +kernel
theorem dX9_stackLayers_94 : decode cX9_stackLayers 94 = .ok (.iastore, 1) := by decide +kernel
theorem dX9_stackLayers_95 : decode cX9_stackLayers 95 = .ok (.aload_n 0, 1) := by decide +kernel
theorem dX9_stackLayers_96 : decode cX9_stackLayers 96 = .ok (.dup, 1) := by decide +kernel
theorem dX9_stackLayers_97 : decode cX9_stackLayers 97 = .ok (.getfield 53, 3) := by decide +kernel
theorem dX9_stackLayers_100 : decode cX9_stackLayers 100 = .ok (.iconst 1, 1) := by decide +kernel
theorem dX9_stackLayers_101 : decode cX9_stackLayers 101 = .ok (.iadd, 1) := by decide +kernel
theorem dX9_stackLayers_102 : decode cX9_stackLayers 102 = .ok (.putfield 53, 3) := by decide +kernel
theorem dX9_stackLayers_105 : decode cX9_stackLayers 105 = .ok (.iinc 3 1, 3) := by decide +kernel
theorem dX9_stackLayers_108 : decode cX9_stackLayers 108 = .ok (.goto (-51), 3) := by decide +kernel
theorem dX9_stackLayers_111 : decode cX9_stackLayers 111 = .ok (.aload_n 0, 1) := by decide +kernel
theorem dX9_stackLayers_112 : decode cX9_stackLayers 112 = .ok (.getfield 9, 3) := by decide +kernel
theorem dX9_stackLayers_115 : decode cX9_stackLayers 115 = .ok (.iconst 0, 1) := by decide +kernel
theorem dX9_stackLayers_116 : decode cX9_stackLayers 116 = .ok (.iload_n 1, 1) := by decide +kernel
theorem dX9_stackLayers_117 : decode cX9_stackLayers 117 = .ok (.iastore, 1) := by decide +kernel
theorem dX9_stackLayers_118 : decode cX9_stackLayers 118 = .ok (.return_, 1) := by decide +kernel
def LF_X9_stackLayers_14 (N : Nat) : Nat → Nat → Int32 → Int32 → Int32 → MI → ML → MR → Option (MI)
  | 0, _, _, _, _, _, _, _ => none
  | k + 1, y0, y1, y2, y3, I, L, R =>
    if (5 : Int32) ≤ y3 then
      some (I)
    else
      if y2 < 0 then
        some (I)
      else
        if (29 : Int32) ≤ y2 then
          some (I)
        else
          wr (uI I y0 8 ((I y0 8) ||| (iS (1 : Int32) y2))) fun (I6 : MI) =>
          (rt 300 y2).bind fun v7 =>
          wr (y3 + (1 : Int32)) fun (u8 : Int32) =>
          LF_X9_stackLayers_14 N k y0 y1 v7 u8 I6 L R
def LF_X9_stackLayers_57 (N : Nat) : Nat → Nat → Int32 → Int32 → MI → ML → MR → Option (MI)
  | 0, _, _, _, _, _, _ => none
  | k + 1, y0, y1, y3, I, L, R =>
    if (29 : Int32) ≤ y3 then
      some (I)
    else
      bn1 (F_X9_is y0 y3 I L R) fun b12 =>
      bn1 (
        if (b2i b12) = 0 then
          some (I)
        else
          (rf R y0 1 20).bind fun a18 =>
          bn1 (
            if (Int32.ofNat (ln a18)) ≤ (I y0 7) then
              some (I)
            else
              (wi I a18 (I y0 7) y3).bind fun I23 =>
              wr (uI I23 y0 7 ((I23 y0 7) + (1 : Int32))) fun (I24 : MI) =>
              some (I24)
          ) fun (I19 : MI) =>
          some (I19)
      ) fun (I14 : MI) =>
      wr (y3 + (1 : Int32)) fun (u25 : Int32) =>
      LF_X9_stackLayers_57 N k y0 y1 u25 I14 L R
def F_X9_stackLayers (N : Nat) (x0 : Nat) (x1 : Int32) (I : MI) (L : ML) (R : MR) : Option (MI) :=
  if kd x0 = 8 ∧ x0 < NN then
  wr (uI I x0 7 (0 : Int32)) fun (I1 : MI) =>
  wr (uI I1 x0 8 (0 : Int32)) fun (I2 : MI) =>
  bn1 (LF_X9_stackLayers_14 N N x0 x1 x1 (0 : Int32) I2 L R) fun z9 =>
  bn1 (LF_X9_stackLayers_57 N N x0 x1 (0 : Int32) z9 L R) fun z26 =>
  (rf R x0 0 20).bind fun a28 =>
  (wi z26 a28 (0 : Int32) x1).bind fun I29 =>
  some (I29)
  else none
set_option maxRecDepth 100000 in
set_option maxHeartbeats 4000000 in
theorem lp_X9_stackLayers_14 {G : Gm} (C0 : Cx G (yX9_stackLayers.cls) cX9_stackLayers none) (eNL : G.nL = 4) (erm : G.rm = ({ frames := 1, cells := 0, slots := 0, locals := 21 } : Room)) (hs : Ssx G.ad G.bs G.X) (N : Nat) : ∀ (k : Nat) (y0 : Nat) (y1 : Int32) (y2 : Int32) (y3 : Int32) (I : MI) (L : ML) (R : MR) (z : MI) (hk0 : kd y0 = 8) (ho0 : y0 < NN), LF_X9_stackLayers_14 N k y0 y1 y2 y3 I L R = some z → ∀ f : State → Prop, V G f 55 [(0, .ref (G.ad y0)), (1, .int y1)] [] z L R → V G f 14 [(0, .ref (G.ad y0)), (1, .int y1), (2, .int y2), (3, .int y3)] [] I L R := by
  intro k
  induction k with
  | zero =>
    intro y0 y1 y2 y3 I L R q hk0 ho0 h
    exact absurd h (by simp [LF_X9_stackLayers_14])
  | succ k ih =>
    intro y0 y1 y2 y3 I L R q hk0 ho0 h f kx
    rw [LF_X9_stackLayers_14] at h
    have hsx := hs _ C0.2.2.2.2.2.2.2.2.2.2.2.1
    refine V_iload_n C0 3 rfl rfl dX9_stackLayers_14 ?_
    refine V_iconst C0 (v := (5 : Int32)) (by decide) dX9_stackLayers_15 ?_
    refine V_icmp_ge C0 (tgt := 55) (by decide) dX9_stackLayers_16 (fun c3 => ?_) (fun c3 => ?_)
    · have h := (if_pos c3).symm.trans h
      cases h
      exact V_sub [0, 1] rfl kx
    · have h := (if_neg c3).symm.trans h
      refine V_iload_n C0 2 rfl rfl dX9_stackLayers_19 ?_
      refine V_if_lt C0 (tgt := 55) (by decide) dX9_stackLayers_20 (fun c4 => ?_) (fun c4 => ?_)
      · have h := (if_pos c4).symm.trans h
        cases h
        exact V_sub [0, 1] rfl kx
      · have h := (if_neg c4).symm.trans h
        refine V_iload_n C0 2 rfl rfl dX9_stackLayers_23 ?_
        refine V_gets C0 hsx.1.1 (Or.inr ⟨"SmallCraft", nW_in _ (tb_4 _ (List.mem_of_getElem? (i := 68) rfl)) rfl⟩) dX9_stackLayers_24 ?_
        refine V_tlen C0 (v := (29 : Int32)) hsx.1.2 (by decide) dX9_stackLayers_27 ?_
        refine V_icmp_ge C0 (tgt := 55) (by decide) dX9_stackLayers_28 (fun c5 => ?_) (fun c5 => ?_)
        · have h := (if_pos c5).symm.trans h
          cases h
          exact V_sub [0, 1] rfl kx
        · have h := (if_neg c5).symm.trans h
          refine V_aload_n C0 0 rfl rfl dX9_stackLayers_31 ?_
          refine V_dup C0 rfl dX9_stackLayers_32 ?_
          refine V_getI C0 8 8 fl_X9_56 ho0 hk0 rfl dX9_stackLayers_33 ?_
          refine V_iconst C0 (v := (1 : Int32)) (by decide) dX9_stackLayers_36 ?_
          refine V_iload_n C0 2 rfl rfl dX9_stackLayers_37 ?_
          refine V_ishl C0 dX9_stackLayers_38 ?_
          refine V_ior C0 dX9_stackLayers_39 ?_
          obtain ⟨I6, eI6, h⟩ := wr_some h
          refine V_putI C0 8 8 fp_X9_56 ho0 hk0 rfl dX9_stackLayers_40 ?_
          rw [← eI6]
          refine V_gets C0 hsx.1.1 (Or.inr ⟨"SmallCraft", nW_in _ (tb_4 _ (List.mem_of_getElem? (i := 68) rfl)) rfl⟩) dX9_stackLayers_43 ?_
          refine V_iload_n C0 2 rfl rfl dX9_stackLayers_46 ?_
          obtain ⟨v7, qv7, h⟩ := bnd_some h
          refine V_rt C0 hsx.1.2 qv7 dX9_stackLayers_47 ?_
          refine V_istore_n C0 [(2, .int v7), (0, .ref (G.ad y0)), (1, .int y1), (3, .int y3)] rfl (by rw [eNL]; decide) rfl dX9_stackLayers_48 ?_
          obtain ⟨u8, eu8, h⟩ := wr_some h
          refine V_iinc C0 3 [(3, .int u8), (2, .int v7), (0, .ref (G.ad y0)), (1, .int y1)] rfl (n := 1) (by rw [eu8]; rfl) (by rw [eNL]; decide) rfl dX9_stackLayers_49 ?_
          refine V_goto C0 (tgt := 14) (by decide) dX9_stackLayers_52 ?_
          exact V_sub [2, 3, 1, 0] rfl (ih y0 y1 v7 u8 I6 L R _ hk0 ho0 h f kx)
set_option maxRecDepth 100000 in
set_option maxHeartbeats 4000000 in
theorem lp_X9_stackLayers_57 {G : Gm} (C0 : Cx G (yX9_stackLayers.cls) cX9_stackLayers none) (eNL : G.nL = 4) (erm : G.rm = ({ frames := 1, cells := 0, slots := 0, locals := 21 } : Room)) (hs : Ssx G.ad G.bs G.X) (N : Nat) : ∀ (k : Nat) (y0 : Nat) (y1 : Int32) (y3 : Int32) (I : MI) (L : ML) (R : MR) (z : MI) (hk0 : kd y0 = 8) (ho0 : y0 < NN), LF_X9_stackLayers_57 N k y0 y1 y3 I L R = some z → ∀ f : State → Prop, V G f 111 [(0, .ref (G.ad y0)), (1, .int y1)] [] z L R → V G f 57 [(0, .ref (G.ad y0)), (1, .int y1), (3, .int y3)] [] I L R := by
  intro k
  induction k with
  | zero =>
    intro y0 y1 y3 I L R q hk0 ho0 h
    exact absurd h (by simp [LF_X9_stackLayers_57])
  | succ k ih =>
    intro y0 y1 y3 I L R q hk0 ho0 h f kx
    rw [LF_X9_stackLayers_57] at h
    have hsx := hs _ C0.2.2.2.2.2.2.2.2.2.2.2.1
    refine V_iload_n C0 2 rfl rfl dX9_stackLayers_57 ?_
    refine V_gets C0 hsx.1.1 (Or.inr ⟨"SmallCraft", nW_in _ (tb_4 _ (List.mem_of_getElem? (i := 68) rfl)) rfl⟩) dX9_stackLayers_58 ?_
    refine V_tlen C0 (v := (29 : Int32)) hsx.1.2 (by decide) dX9_stackLayers_61 ?_
    refine V_icmp_ge C0 (tgt := 111) (by decide) dX9_stackLayers_62 (fun c11 => ?_) (fun c11 => ?_)
    · have h := (if_pos c11).symm.trans h
      cases h
      exact V_sub [0, 1] rfl kx
    · have h := (if_neg c11).symm.trans h
      refine V_aload_n C0 0 rfl rfl dX9_stackLayers_65 ?_
      refine V_iload_n C0 2 rfl rfl dX9_stackLayers_66 ?_
      obtain ⟨b12, q13, h⟩ := bn1_some h
      refine V_callV C0 (st := []) (As := [.int y3]) 8 (c_X9_is G.l G.D G.cA G.ad G.bs G.X C0.2.2.2.2.2.2.2.2.2.1 C0.2.2.2.2.2.2.2.2.2.2.2.2 y0 y3 I L R b12 q13) lc_X9_is lk_X9_62 ho0 hk0 ⟨_, rfl, rfl⟩ rfl (by rw [erm]; decide) (Nat.le_of_ble_eq_true rfl) dX9_stackLayers_67 ?_
      show V G _ 70 [(0, .ref (G.ad y0)), (1, .int y1), (3, .int y3)] [.int (b2i b12)] I L R
      obtain ⟨I14, q15, h⟩ := bn1_some h
      have k16 : V G f 105 [(0, .ref (G.ad y0)), (1, .int y1), (3, .int y3)] [] I14 L R := by
        obtain ⟨u25, eu25, h⟩ := wr_some h
        refine V_iinc C0 2 [(3, .int u25), (0, .ref (G.ad y0)), (1, .int y1)] rfl (n := 1) (by rw [eu25]; rfl) (by rw [eNL]; decide) rfl dX9_stackLayers_105 ?_
        refine V_goto C0 (tgt := 57) (by decide) dX9_stackLayers_108 ?_
        exact V_sub [1, 2, 0] rfl (ih y0 y1 u25 I14 L R _ hk0 ho0 h f kx)
      refine V_if_eq C0 (tgt := 105) (by decide) dX9_stackLayers_70 (fun c17 => ?_) (fun c17 => ?_)
      · have q15 := (if_pos c17).symm.trans q15
        cases q15
        exact V_sub [0, 1, 2] rfl k16
      · have q15 := (if_neg c17).symm.trans q15
        refine V_aload_n C0 0 rfl rfl dX9_stackLayers_73 ?_
        refine V_getI C0 8 7 fl_X9_53 ho0 hk0 rfl dX9_stackLayers_74 ?_
        refine V_aload_n C0 0 rfl rfl dX9_stackLayers_77 ?_
        obtain ⟨a18, qa18, q15⟩ := bnd_some q15
        refine V_getR C0 8 1 fl_X9_15 ho0 hk0 rfl (rf_at qa18) dX9_stackLayers_78 ?_
        refine V_alen C0 (v := Int32.ofNat (ln a18)) (rf_lt qa18) (by rw [(rf_kd qa18)]; decide) rfl dX9_stackLayers_81 ?_
        obtain ⟨I19, q20, q15⟩ := bn1_some q15
        have k21 : V G f 105 [(0, .ref (G.ad y0)), (1, .int y1), (3, .int y3)] [] I19 L R := by
          cases q15
          exact V_sub [0, 1, 2] rfl k16
        refine V_icmp_ge C0 (tgt := 105) (by decide) dX9_stackLayers_82 (fun c22 => ?_) (fun c22 => ?_)
        · have q20 := (if_pos c22).symm.trans q20
          cases q20
          exact V_sub [0, 1, 2] rfl k21
        · have q20 := (if_neg c22).symm.trans q20
          refine V_aload_n C0 0 rfl rfl dX9_stackLayers_85 ?_
          refine V_getR C0 8 1 fl_X9_15 ho0 hk0 rfl (rf_at qa18) dX9_stackLayers_86 ?_
          refine V_aload_n C0 0 rfl rfl dX9_stackLayers_89 ?_
          refine V_getI C0 8 7 fl_X9_53 ho0 hk0 rfl dX9_stackLayers_90 ?_
          refine V_iload_n C0 2 rfl rfl dX9_stackLayers_93 ?_
          obtain ⟨I23, qI23, q20⟩ := bnd_some q20
          refine V_wi C0 (rf_lt qa18) (rf_kd qa18) qI23 dX9_stackLayers_94 ?_
          refine V_aload_n C0 0 rfl rfl dX9_stackLayers_95 ?_
          refine V_dup C0 rfl dX9_stackLayers_96 ?_
          refine V_getI C0 8 7 fl_X9_53 ho0 hk0 rfl dX9_stackLayers_97 ?_
          refine V_iconst C0 (v := (1 : Int32)) (by decide) dX9_stackLayers_100 ?_
          refine V_iadd C0 dX9_stackLayers_101 ?_
          obtain ⟨I24, eI24, q20⟩ := wr_some q20
          refine V_putI C0 8 7 fp_X9_53 ho0 hk0 rfl dX9_stackLayers_102 ?_
          rw [← eI24]
          cases q20
          exact V_sub [0, 1, 2] rfl k21
set_option maxRecDepth 100000 in
set_option maxHeartbeats 4000000 in
theorem c_X9_stackLayers (l : Launch) (D : va_G) (cA : Nat → ClassId) (ad : Nat → Nat) (bs : Nat) (X : State → Prop) (hAd : Ax ad bs) (hX : Stb bs X) (hs : Ssx ad bs X) (N : Nat) (x0 : Nat) (x1 : Int32) (I : MI) (L : ML) (R : MR) (I' : MI) (h : F_X9_stackLayers N x0 x1 I L R = some (I')) : Cn l D cA ad bs X yX9_stackLayers cX9_stackLayers 4 none 1 21 [.ref (ad x0), .int x1] I L R (none, I', L, R) := by
  refine Cn.ofV hAd hX [(0, .ref (ad x0)), (1, .int x1)] rfl (Nat.le_of_ble_eq_true rfl) (by decide) ?_
  intro G el eD ecA ead ebs eX erm eNL C0
  subst el eD ecA ead ebs eX
  have hsx := hs _ C0.2.2.2.2.2.2.2.2.2.2.2.1
  unfold F_X9_stackLayers at h
  obtain ⟨c_x0, h⟩ := ite_some h
  refine V_aload_n C0 0 rfl rfl dX9_stackLayers_0 ?_
  refine V_iconst C0 (v := (0 : Int32)) (by decide) dX9_stackLayers_1 ?_
  obtain ⟨I1, eI1, h⟩ := wr_some h
  refine V_putI C0 8 7 fp_X9_53 c_x0.2 c_x0.1 rfl dX9_stackLayers_2 ?_
  rw [← eI1]
  refine V_aload_n C0 0 rfl rfl dX9_stackLayers_5 ?_
  refine V_iconst C0 (v := (0 : Int32)) (by decide) dX9_stackLayers_6 ?_
  obtain ⟨I2, eI2, h⟩ := wr_some h
  refine V_putI C0 8 8 fp_X9_56 c_x0.2 c_x0.1 rfl dX9_stackLayers_7 ?_
  rw [← eI2]
  refine V_iload_n C0 1 rfl rfl dX9_stackLayers_10 ?_
  refine V_istore_n C0 [(2, .int x1), (0, .ref (G.ad x0)), (1, .int x1)] rfl (by rw [eNL]; decide) rfl dX9_stackLayers_11 ?_
  refine V_iconst C0 (v := (0 : Int32)) (by decide) dX9_stackLayers_12 ?_
  refine V_istore_n C0 [(3, .int (0 : Int32)), (2, .int x1), (0, .ref (G.ad x0)), (1, .int x1)] rfl (by rw [eNL]; decide) rfl dX9_stackLayers_13 ?_
  obtain ⟨z9, q10, h⟩ := bn1_some h
  refine V_sub [2, 3, 1, 0] rfl (lp_X9_stackLayers_14 C0 eNL erm hs N N x0 x1 x1 (0 : Int32) I2 L R _ c_x0.1 c_x0.2 q10 _ ?_)
  show V G _ 55 [(0, .ref (G.ad x0)), (1, .int x1)] [] z9 L R
  refine V_iconst C0 (v := (0 : Int32)) (by decide) dX9_stackLayers_55 ?_
  refine V_istore_n C0 [(3, .int (0 : Int32)), (0, .ref (G.ad x0)), (1, .int x1)] rfl (by rw [eNL]; decide) rfl dX9_stackLayers_56 ?_
  obtain ⟨z26, q27, h⟩ := bn1_some h
  refine V_sub [1, 2, 0] rfl (lp_X9_stackLayers_57 C0 eNL erm hs N N x0 x1 (0 : Int32) z9 L R _ c_x0.1 c_x0.2 q27 _ ?_)
  show V G _ 111 [(0, .ref (G.ad x0)), (1, .int x1)] [] z26 L R
  refine V_aload_n C0 0 rfl rfl dX9_stackLayers_111 ?_
  obtain ⟨a28, qa28, h⟩ := bnd_some h
  refine V_getR C0 8 0 fl_X9_9 c_x0.2 c_x0.1 rfl (rf_at qa28) dX9_stackLayers_112 ?_
  refine V_iconst C0 (v := (0 : Int32)) (by decide) dX9_stackLayers_115 ?_
  refine V_iload_n C0 1 rfl rfl dX9_stackLayers_116 ?_
  obtain ⟨I29, qI29, h⟩ := bnd_some h
  refine V_wi C0 (rf_lt qa28) (rf_kd qa28) qI29 dX9_stackLayers_117 ?_
  cases h
  exact V_vret C0 dX9_stackLayers_118
theorem dX9_describe_0 : decode cX9_describe 0 = .ok (.aload_n 0, 1) := by decide +kernel
theorem dX9_describe_1 : decode cX9_describe 1 = .ok (.aload_n 1, 1) := by decide +kernel
theorem dX9_describe_2 : decode cX9_describe 2 = .ok (.iload_n 2, 1) := by decide +kernel
theorem dX9_describe_3 : decode cX9_describe 3 = .ok (.invokevirtual 21, 3) := by decide +kernel
theorem dX9_describe_6 : decode cX9_describe 6 = .ok (.putfield 27, 3) := by decide +kernel
theorem dX9_describe_9 : decode cX9_describe 9 = .ok (.aload_n 0, 1) := by decide +kernel
theorem dX9_describe_10 : decode cX9_describe 10 = .ok (.aload_n 1, 1) := by decide +kernel
theorem dX9_describe_11 : decode cX9_describe 11 = .ok (.iload_n 2, 1) := by decide +kernel
theorem dX9_describe_12 : decode cX9_describe 12 = .ok (.iconst 0, 1) := by decide +kernel
theorem dX9_describe_13 : decode cX9_describe 13 = .ok (.invokevirtual 31, 3) := by decide +kernel
theorem dX9_describe_16 : decode cX9_describe 16 = .ok (.putfield 35, 3) := by decide +kernel
theorem dX9_describe_19 : decode cX9_describe 19 = .ok (.aload_n 0, 1) := by decide +kernel
theorem dX9_describe_20 : decode cX9_describe 20 = .ok (.aload_n 1, 1) := by decide +kernel
theorem dX9_describe_21 : decode cX9_describe 21 = .ok (.iload_n 2, 1) := by decide +kernel
theorem dX9_describe_22 : decode cX9_describe 22 = .ok (.iconst 1, 1) := by decide +kernel
theorem dX9_describe_23 : decode cX9_describe 23 = .ok (.invokevirtual 31, 3) := by decide +kernel
theorem dX9_describe_26 : decode cX9_describe 26 = .ok (.putfield 39, 3) := by decide +kernel
theorem dX9_describe_29 : decode cX9_describe 29 = .ok (.aload_n 0, 1) := by decide +kernel
theorem dX9_describe_30 : decode cX9_describe 30 = .ok (.aload_n 1, 1) := by decide +kernel
theorem dX9_describe_31 : decode cX9_describe 31 = .ok (.iload_n 2, 1) := by decide +kernel
theorem dX9_describe_32 : decode cX9_describe 32 = .ok (.iconst 2, 1) := by decide +kernel
theorem dX9_describe_33 : decode cX9_describe 33 = .ok (.invokevirtual 31, 3) := by decide +kernel
theorem dX9_describe_36 : decode cX9_describe 36 = .ok (.putfield 42, 3) := by decide +kernel
theorem dX9_describe_39 : decode cX9_describe 39 = .ok (.aload_n 0, 1) := by decide +kernel
theorem dX9_describe_40 : decode cX9_describe 40 = .ok (.aload_n 1, 1) := by decide +kernel
theorem dX9_describe_41 : decode cX9_describe 41 = .ok (.iload_n 2, 1) := by decide +kernel
theorem dX9_describe_42 : decode cX9_describe 42 = .ok (.invokevirtual 45, 3) := by decide +kernel
theorem dX9_describe_45 : decode cX9_describe 45 = .ok (.invokevirtual 49, 3) := by decide +kernel
theorem dX9_describe_48 : decode cX9_describe 48 = .ok (.return_, 1) := by decide +kernel
def F_X9_describe (N : Nat) (x0 : Nat) (x1 : Nat) (x2 : Int32) (I : MI) (L : ML) (R : MR) : Option (MI × ML) :=
  if kd x0 = 8 ∧ x0 < NN then
  if kd x1 = 0 ∧ x1 < NN then
  bn1 (F_X0_titleOf x1 x2 I L R) fun v1 =>
  wr (uL L x0 3 v1) fun (L3 : ML) =>
  bn1 (F_X0_numberOf x1 x2 (0 : Int32) I L3 R) fun v4 =>
  wr (uI I x0 4 v4) fun (I6 : MI) =>
  bn1 (F_X0_numberOf x1 x2 (1 : Int32) I6 L3 R) fun v7 =>
  wr (uI I6 x0 5 v7) fun (I9 : MI) =>
  bn1 (F_X0_numberOf x1 x2 (2 : Int32) I9 L3 R) fun v10 =>
  wr (uI I9 x0 6 v10) fun (I12 : MI) =>
  bn1 (F_X0_layerOf x1 x2 I12 L3 R) fun v13 =>
  bn1 (F_X9_stackLayers N x0 v13 I12 L3 R) fun I15 =>
  some (I15, L3)
  else none
  else none
set_option maxRecDepth 100000 in
set_option maxHeartbeats 4000000 in
theorem c_X9_describe (l : Launch) (D : va_G) (cA : Nat → ClassId) (ad : Nat → Nat) (bs : Nat) (X : State → Prop) (hAd : Ax ad bs) (hX : Stb bs X) (hs : Ssx ad bs X) (N : Nat) (x0 : Nat) (x1 : Nat) (x2 : Int32) (I : MI) (L : ML) (R : MR) (I' : MI) (L' : ML) (h : F_X9_describe N x0 x1 x2 I L R = some (I', L')) : Cn l D cA ad bs X yX9_describe cX9_describe 3 none 2 44 [.ref (ad x0), .ref (ad x1), .int x2] I L R (none, I', L', R) := by
  refine Cn.ofV hAd hX [(0, .ref (ad x0)), (1, .ref (ad x1)), (2, .int x2)] rfl (Nat.le_of_ble_eq_true rfl) (by decide) ?_
  intro G el eD ecA ead ebs eX erm eNL C0
  subst el eD ecA ead ebs eX
  have hsx := hs _ C0.2.2.2.2.2.2.2.2.2.2.2.1
  unfold F_X9_describe at h
  obtain ⟨c_x0, h⟩ := ite_some h
  obtain ⟨c_x1, h⟩ := ite_some h
  refine V_aload_n C0 0 rfl rfl dX9_describe_0 ?_
  refine V_aload_n C0 1 rfl rfl dX9_describe_1 ?_
  refine V_iload_n C0 2 rfl rfl dX9_describe_2 ?_
  obtain ⟨v1, q2, h⟩ := bn1_some h
  refine V_callV C0 (st := [.ref (G.ad x0)]) (As := [.int x2]) 0 (c_X0_titleOf G.l G.D G.cA G.ad G.bs G.X C0.2.2.2.2.2.2.2.2.2.1 C0.2.2.2.2.2.2.2.2.2.2.2.2 x1 x2 I L R v1 q2) lc_X0_titleOf lk_X9_21 c_x1.2 c_x1.1 ⟨_, rfl, rfl⟩ rfl (by rw [erm]; decide) (Nat.le_of_ble_eq_true rfl) dX9_describe_3 ?_
  show V G _ 6 [(0, .ref (G.ad x0)), (1, .ref (G.ad x1)), (2, .int x2)] [.long v1, .ref (G.ad x0)] I L R
  obtain ⟨L3, eL3, h⟩ := wr_some h
  refine V_putL C0 8 3 fp_X9_27 c_x0.2 c_x0.1 rfl dX9_describe_6 ?_
  rw [← eL3]
  refine V_aload_n C0 0 rfl rfl dX9_describe_9 ?_
  refine V_aload_n C0 1 rfl rfl dX9_describe_10 ?_
  refine V_iload_n C0 2 rfl rfl dX9_describe_11 ?_
  refine V_iconst C0 (v := (0 : Int32)) (by decide) dX9_describe_12 ?_
  obtain ⟨v4, q5, h⟩ := bn1_some h
  refine V_callV C0 (st := [.ref (G.ad x0)]) (As := [.int x2, .int (0 : Int32)]) 0 (c_X0_numberOf G.l G.D G.cA G.ad G.bs G.X C0.2.2.2.2.2.2.2.2.2.1 C0.2.2.2.2.2.2.2.2.2.2.2.2 x1 x2 (0 : Int32) I L3 R v4 q5) lc_X0_numberOf lk_X9_31 c_x1.2 c_x1.1 ⟨_, rfl, rfl⟩ rfl (by rw [erm]; decide) (Nat.le_of_ble_eq_true rfl) dX9_describe_13 ?_
  show V G _ 16 [(0, .ref (G.ad x0)), (1, .ref (G.ad x1)), (2, .int x2)] [.int v4, .ref (G.ad x0)] I L3 R
  obtain ⟨I6, eI6, h⟩ := wr_some h
  refine V_putI C0 8 4 fp_X9_35 c_x0.2 c_x0.1 rfl dX9_describe_16 ?_
  rw [← eI6]
  refine V_aload_n C0 0 rfl rfl dX9_describe_19 ?_
  refine V_aload_n C0 1 rfl rfl dX9_describe_20 ?_
  refine V_iload_n C0 2 rfl rfl dX9_describe_21 ?_
  refine V_iconst C0 (v := (1 : Int32)) (by decide) dX9_describe_22 ?_
  obtain ⟨v7, q8, h⟩ := bn1_some h
  refine V_callV C0 (st := [.ref (G.ad x0)]) (As := [.int x2, .int (1 : Int32)]) 0 (c_X0_numberOf G.l G.D G.cA G.ad G.bs G.X C0.2.2.2.2.2.2.2.2.2.1 C0.2.2.2.2.2.2.2.2.2.2.2.2 x1 x2 (1 : Int32) I6 L3 R v7 q8) lc_X0_numberOf lk_X9_31 c_x1.2 c_x1.1 ⟨_, rfl, rfl⟩ rfl (by rw [erm]; decide) (Nat.le_of_ble_eq_true rfl) dX9_describe_23 ?_
  show V G _ 26 [(0, .ref (G.ad x0)), (1, .ref (G.ad x1)), (2, .int x2)] [.int v7, .ref (G.ad x0)] I6 L3 R
  obtain ⟨I9, eI9, h⟩ := wr_some h
  refine V_putI C0 8 5 fp_X9_39 c_x0.2 c_x0.1 rfl dX9_describe_26 ?_
  rw [← eI9]
  refine V_aload_n C0 0 rfl rfl dX9_describe_29 ?_
  refine V_aload_n C0 1 rfl rfl dX9_describe_30 ?_
  refine V_iload_n C0 2 rfl rfl dX9_describe_31 ?_
  refine V_iconst C0 (v := (2 : Int32)) (by decide) dX9_describe_32 ?_
  obtain ⟨v10, q11, h⟩ := bn1_some h
  refine V_callV C0 (st := [.ref (G.ad x0)]) (As := [.int x2, .int (2 : Int32)]) 0 (c_X0_numberOf G.l G.D G.cA G.ad G.bs G.X C0.2.2.2.2.2.2.2.2.2.1 C0.2.2.2.2.2.2.2.2.2.2.2.2 x1 x2 (2 : Int32) I9 L3 R v10 q11) lc_X0_numberOf lk_X9_31 c_x1.2 c_x1.1 ⟨_, rfl, rfl⟩ rfl (by rw [erm]; decide) (Nat.le_of_ble_eq_true rfl) dX9_describe_33 ?_
  show V G _ 36 [(0, .ref (G.ad x0)), (1, .ref (G.ad x1)), (2, .int x2)] [.int v10, .ref (G.ad x0)] I9 L3 R
  obtain ⟨I12, eI12, h⟩ := wr_some h
  refine V_putI C0 8 6 fp_X9_42 c_x0.2 c_x0.1 rfl dX9_describe_36 ?_
  rw [← eI12]
  refine V_aload_n C0 0 rfl rfl dX9_describe_39 ?_
  refine V_aload_n C0 1 rfl rfl dX9_describe_40 ?_
  refine V_iload_n C0 2 rfl rfl dX9_describe_41 ?_
  obtain ⟨v13, q14, h⟩ := bn1_some h
  refine V_callV C0 (st := [.ref (G.ad x0)]) (As := [.int x2]) 0 (c_X0_layerOf G.l G.D G.cA G.ad G.bs G.X C0.2.2.2.2.2.2.2.2.2.1 C0.2.2.2.2.2.2.2.2.2.2.2.2 x1 x2 I12 L3 R v13 q14) lc_X0_layerOf lk_X9_45 c_x1.2 c_x1.1 ⟨_, rfl, rfl⟩ rfl (by rw [erm]; decide) (Nat.le_of_ble_eq_true rfl) dX9_describe_42 ?_
  show V G _ 45 [(0, .ref (G.ad x0)), (1, .ref (G.ad x1)), (2, .int x2)] [.int v13, .ref (G.ad x0)] I12 L3 R
  obtain ⟨I15, q16, h⟩ := bn1_some h
  refine V_callV C0 (st := []) (As := [.int v13]) 8 (c_X9_stackLayers G.l G.D G.cA G.ad G.bs G.X C0.2.2.2.2.2.2.2.2.2.1 C0.2.2.2.2.2.2.2.2.2.2.2.2 hs N x0 v13 I12 L3 R I15 q16) lc_X9_stackLayers lk_X9_49 c_x0.2 c_x0.1 ⟨_, rfl, rfl⟩ rfl (by rw [erm]; decide) (Nat.le_of_ble_eq_true rfl) dX9_describe_45 ?_
  show V G _ 48 [(0, .ref (G.ad x0)), (1, .ref (G.ad x1)), (2, .int x2)] [] I15 L3 R
  cases h
  exact V_vret C0 dX9_describe_48
theorem dX9_owns_0 : decode cX9_owns 0 = .ok (.iload_n 1, 1) := by decide +kernel
theorem dX9_owns_1 : decode cX9_owns 1 = .ok (.lookupswitch 230 #[(27, 59), (31, 110), (35, 134), (40, 158), (43, 182), (61, 206)], 59) := by decide +kernel
theorem dX9_owns_60 : decode cX9_owns 60 = .ok (.aload_n 0, 1) := by decide +kernel
theorem dX9_owns_61 : decode cX9_owns 61 = .ok (.bipush 8, 2) := by decide +kernel
theorem dX9_owns_63 : decode cX9_owns 63 = .ok (.invokevirtual 62, 3) := by decide +kernel
theorem dX9_owns_66 : decode cX9_owns 66 = .ok (.ifCond .ne 39, 3) := by decide +kernel
theorem dX9_owns_69 : decode cX9_owns 69 = .ok (.aload_n 0, 1) := by decide +kernel
theorem dX9_owns_70 : decode cX9_owns 70 = .ok (.bipush 13, 2) := by decide +kernel
theorem dX9_owns_72 : decode cX9_owns 72 = .ok (.invokevirtual 62, 3) := by decide +kernel
theorem dX9_owns_75 : decode cX9_owns 75 = .ok (.ifCond .ne 30, 3) := by decide +kernel
theorem dX9_owns_78 : decode cX9_owns 78 = .ok (.aload_n 0, 1) := by decide +kernel
theorem dX9_owns_79 : decode cX9_owns 79 = .ok (.bipush 14, 2) := by decide +kernel
theorem dX9_owns_81 : decode cX9_owns 81 = .ok (.invokevirtual 62, 3) := by decide +kernel
theorem dX9_owns_84 : decode cX9_owns 84 = .ok (.ifCond .ne 21, 3) := by decide +kernel
theorem dX9_owns_87 : decode cX9_owns 87 = .ok (.aload_n 0, 1) := by decide +kernel
theorem dX9_owns_88 : decode cX9_owns 88 = .ok (.bipush 18, 2) := by decide +kernel
theorem dX9_owns_90 : decode cX9_owns 90 = .ok (.invokevirtual 62, 3) := by decide +kernel
theorem dX9_owns_93 : decode cX9_owns 93 = .ok (.ifCond .ne 12, 3) := by decide +kernel
theorem dX9_owns_96 : decode cX9_owns 96 = .ok (.aload_n 0, 1) := by decide +kernel
theorem dX9_owns_97 : decode cX9_owns 97 = .ok (.bipush 25, 2) := by decide +kernel
theorem dX9_owns_99 : decode cX9_owns 99 = .ok (.invokevirtual 62, 3) := by decide +kernel
theorem dX9_owns_102 : decode cX9_owns 102 = .ok (.ifCond .eq 7, 3) := by decide +kernel
theorem dX9_owns_105 : decode cX9_owns 105 = .ok (.iconst 1, 1) := by decide +kernel
theorem dX9_owns_106 : decode cX9_owns 106 = .ok (.goto 4, 3) := by decide +kernel
theorem dX9_owns_109 : decode cX9_owns 109 = .ok (.iconst 0, 1) := by decide +kernel
theorem dX9_owns_110 : decode cX9_owns 110 = .ok (.ireturn, 1) := by decide +kernel
theorem dX9_owns_111 : decode cX9_owns 111 = .ok (.aload_n 0, 1) := by decide +kernel
theorem dX9_owns_112 : decode cX9_owns 112 = .ok (.bipush 9, 2) := by decide +kernel
theorem dX9_owns_114 : decode cX9_owns 114 = .ok (.invokevirtual 62, 3) := by decide +kernel
theorem dX9_owns_117 : decode cX9_owns 117 = .ok (.ifCond .ne 12, 3) := by decide +kernel
theorem dX9_owns_120 : decode cX9_owns 120 = .ok (.aload_n 0, 1) := by decide +kernel
theorem dX9_owns_121 : decode cX9_owns 121 = .ok (.bipush 21, 2) := by decide +kernel
theorem dX9_owns_123 : decode cX9_owns 123 = .ok (.invokevirtual 62, 3) := by decide +kernel
theorem dX9_owns_126 : decode cX9_owns 126 = .ok (.ifCond .eq 7, 3) := by decide +kernel
theorem dX9_owns_129 : decode cX9_owns 129 = .ok (.iconst 1, 1) := by decide +kernel
theorem dX9_owns_130 : decode cX9_owns 130 = .ok (.goto 4, 3) := by decide +kernel
theorem dX9_owns_133 : decode cX9_owns 133 = .ok (.iconst 0, 1) := by decide +kernel
theorem dX9_owns_134 : decode cX9_owns 134 = .ok (.ireturn, 1) := by decide +kernel
theorem dX9_owns_135 : decode cX9_owns 135 = .ok (.aload_n 0, 1) := by decide +kernel
theorem dX9_owns_136 : decode cX9_owns 136 = .ok (.bipush 10, 2) := by decide +kernel
theorem dX9_owns_138 : decode cX9_owns 138 = .ok (.invokevirtual 62, 3) := by decide +kernel
theorem dX9_owns_141 : decode cX9_owns 141 = .ok (.ifCond .ne 12, 3) := by decide +kernel
theorem dX9_owns_144 : decode cX9_owns 144 = .ok (.aload_n 0, 1) := by decide +kernel
theorem dX9_owns_145 : decode cX9_owns 145 = .ok (.bipush 15, 2) := by decide +kernel
theorem dX9_owns_147 : decode cX9_owns 147 = .ok (.invokevirtual 62, 3) := by decide +kernel
theorem dX9_owns_150 : decode cX9_owns 150 = .ok (.ifCond .eq 7, 3) := by decide +kernel
theorem dX9_owns_153 : decode cX9_owns 153 = .ok (.iconst 1, 1) := by decide +kernel
theorem dX9_owns_154 : decode cX9_owns 154 = .ok (.goto 4, 3) := by decide +kernel
theorem dX9_owns_157 : decode cX9_owns 157 = .ok (.iconst 0, 1) := by decide +kernel
theorem dX9_owns_158 : decode cX9_owns 158 = .ok (.ireturn, 1) := by decide +kernel
theorem dX9_owns_159 : decode cX9_owns 159 = .ok (.aload_n 0, 1) := by decide +kernel
theorem dX9_owns_160 : decode cX9_owns 160 = .ok (.bipush 14, 2) := by decide +kernel
theorem dX9_owns_162 : decode cX9_owns 162 = .ok (.invokevirtual 62, 3) := by decide +kernel
theorem dX9_owns_165 : decode cX9_owns 165 = .ok (.ifCond .ne 12, 3) := by decide +kernel
theorem dX9_owns_168 : decode cX9_owns 168 = .ok (.aload_n 0, 1) := by decide +kernel
theorem dX9_owns_169 : decode cX9_owns 169 = .ok (.bipush 18, 2) := by decide +kernel
theorem dX9_owns_171 : decode cX9_owns 171 = .ok (.invokevirtual 62, 3) := by decide +kernel
theorem dX9_owns_174 : decode cX9_owns 174 = .ok (.ifCond .eq 7, 3) := by decide +kernel
theorem dX9_owns_177 : decode cX9_owns 177 = .ok (.iconst 1, 1) := by decide +kernel
theorem dX9_owns_178 : decode cX9_owns 178 = .ok (.goto 4, 3) := by decide +kernel
theorem dX9_owns_181 : decode cX9_owns 181 = .ok (.iconst 0, 1) := by decide +kernel
theorem dX9_owns_182 : decode cX9_owns 182 = .ok (.ireturn, 1) := by decide +kernel
theorem dX9_owns_183 : decode cX9_owns 183 = .ok (.aload_n 0, 1) := by decide +kernel
theorem dX9_owns_184 : decode cX9_owns 184 = .ok (.bipush 16, 2) := by decide +kernel
theorem dX9_owns_186 : decode cX9_owns 186 = .ok (.invokevirtual 62, 3) := by decide +kernel
theorem dX9_owns_189 : decode cX9_owns 189 = .ok (.ifCond .ne 12, 3) := by decide +kernel
theorem dX9_owns_192 : decode cX9_owns 192 = .ok (.aload_n 0, 1) := by decide +kernel
theorem dX9_owns_193 : decode cX9_owns 193 = .ok (.bipush 22, 2) := by decide +kernel
theorem dX9_owns_195 : decode cX9_owns 195 = .ok (.invokevirtual 62, 3) := by decide +kernel
theorem dX9_owns_198 : decode cX9_owns 198 = .ok (.ifCond .eq 7, 3) := by decide +kernel
theorem dX9_owns_201 : decode cX9_owns 201 = .ok (.iconst 1, 1) := by decide +kernel
theorem dX9_owns_202 : decode cX9_owns 202 = .ok (.goto 4, 3) := by decide +kernel
theorem dX9_owns_205 : decode cX9_owns 205 = .ok (.iconst 0, 1) := by decide +kernel
theorem dX9_owns_206 : decode cX9_owns 206 = .ok (.ireturn, 1) := by decide +kernel
theorem dX9_owns_207 : decode cX9_owns 207 = .ok (.aload_n 0, 1) := by decide +kernel
theorem dX9_owns_208 : decode cX9_owns 208 = .ok (.bipush 27, 2) := by decide +kernel
theorem dX9_owns_210 : decode cX9_owns 210 = .ok (.invokevirtual 62, 3) := by decide +kernel
theorem dX9_owns_213 : decode cX9_owns 213 = .ok (.ifCond .ne 12, 3) := by decide +kernel
theorem dX9_owns_216 : decode cX9_owns 216 = .ok (.aload_n 0, 1) := by decide +kernel
theorem dX9_owns_217 : decode cX9_owns 217 = .ok (.bipush 28, 2) := by decide +kernel
theorem dX9_owns_219 : decode cX9_owns 219 = .ok (.invokevirtual 62, 3) := by decide +kernel
theorem dX9_owns_222 : decode cX9_owns 222 = .ok (.ifCond .eq 7, 3) := by decide +kernel
theorem dX9_owns_225 : decode cX9_owns 225 = .ok (.iconst 1, 1) := by decide +kernel
theorem dX9_owns_226 : decode cX9_owns 226 = .ok (.goto 4, 3) := by decide +kernel
theorem dX9_owns_229 : decode cX9_owns 229 = .ok (.iconst 0, 1) := by decide +kernel
theorem dX9_owns_230 : decode cX9_owns 230 = .ok (.ireturn, 1) := by decide +kernel
theorem dX9_owns_231 : decode cX9_owns 231 = .ok (.iload_n 1, 1) := by decide +kernel
theorem dX9_owns_232 : decode cX9_owns 232 = .ok (.ifCond .lt 27, 3) := by decide +kernel
theorem dX9_owns_235 : decode cX9_owns 235 = .ok (.iload_n 1, 1) := by decide +kernel
theorem dX9_owns_236 : decode cX9_owns 236 = .ok (.getstatic 69, 3) := by decide +kernel
theorem dX9_owns_239 : decode cX9_owns 239 = .ok (.arraylength, 1) := by decide +kernel
theorem dX9_owns_240 : decode cX9_owns 240 = .ok (.if_icmp .ge 19, 3) := by decide +kernel
theorem dX9_owns_243 : decode cX9_owns 243 = .ok (.aload_n 0, 1) := by decide +kernel
theorem dX9_owns_244 : decode cX9_owns 244 = .ok (.getstatic 69, 3) := by decide +kernel
theorem dX9_owns_247 : decode cX9_owns 247 = .ok (.iload_n 1, 1) := by decide +kernel
theorem dX9_owns_248 : decode cX9_owns 248 = .ok (.iaload, 1) := by decide +kernel
theorem dX9_owns_249 : decode cX9_owns 249 = .ok (.invokevirtual 62, 3) := by decide +kernel
theorem dX9_owns_252 : decode cX9_owns 252 = .ok (.ifCond .eq 7, 3) := by decide +kernel
theorem dX9_owns_255 : decode cX9_owns 255 = .ok (.iconst 1, 1) := by decide +kernel
theorem dX9_owns_256 : decode cX9_owns 256 = .ok (.goto 4, 3) := by decide +kernel
theorem dX9_owns_259 : decode cX9_owns 259 = .ok (.iconst 0, 1) := by decide +kernel
theorem dX9_owns_260 : decode cX9_owns 260 = .ok (.ireturn, 1) := by decide +kernel
def F_X9_owns (x0 : Nat) (x1 : Int32) (I : MI) (L : ML) (R : MR) : Option (Bool) :=
  if kd x0 = 8 ∧ x0 < NN then
  if x1 = (27 : Int32) then
    bn1 (F_X9_is x0 (8 : Int32) I L R) fun b3 =>
    if (b2i b3) = 0 then
      bn1 (F_X9_is x0 (13 : Int32) I L R) fun b6 =>
      if (b2i b6) = 0 then
        bn1 (F_X9_is x0 (14 : Int32) I L R) fun b9 =>
        if (b2i b9) = 0 then
          bn1 (F_X9_is x0 (18 : Int32) I L R) fun b12 =>
          if (b2i b12) = 0 then
            bn1 (F_X9_is x0 (25 : Int32) I L R) fun b15 =>
            if (b2i b15) = 0 then
              some (false)
            else
              some (true)
          else
            some (true)
        else
          some (true)
      else
        some (true)
    else
      some (true)
  else
    if x1 = (31 : Int32) then
      bn1 (F_X9_is x0 (9 : Int32) I L R) fun b19 =>
      if (b2i b19) = 0 then
        bn1 (F_X9_is x0 (21 : Int32) I L R) fun b22 =>
        if (b2i b22) = 0 then
          some (false)
        else
          some (true)
      else
        some (true)
    else
      if x1 = (35 : Int32) then
        bn1 (F_X9_is x0 (10 : Int32) I L R) fun b26 =>
        if (b2i b26) = 0 then
          bn1 (F_X9_is x0 (15 : Int32) I L R) fun b29 =>
          if (b2i b29) = 0 then
            some (false)
          else
            some (true)
        else
          some (true)
      else
        if x1 = (40 : Int32) then
          bn1 (F_X9_is x0 (14 : Int32) I L R) fun b33 =>
          if (b2i b33) = 0 then
            bn1 (F_X9_is x0 (18 : Int32) I L R) fun b36 =>
            if (b2i b36) = 0 then
              some (false)
            else
              some (true)
          else
            some (true)
        else
          if x1 = (43 : Int32) then
            bn1 (F_X9_is x0 (16 : Int32) I L R) fun b40 =>
            if (b2i b40) = 0 then
              bn1 (F_X9_is x0 (22 : Int32) I L R) fun b43 =>
              if (b2i b43) = 0 then
                some (false)
              else
                some (true)
            else
              some (true)
          else
            if x1 = (61 : Int32) then
              bn1 (F_X9_is x0 (27 : Int32) I L R) fun b47 =>
              if (b2i b47) = 0 then
                bn1 (F_X9_is x0 (28 : Int32) I L R) fun b50 =>
                if (b2i b50) = 0 then
                  some (false)
                else
                  some (true)
              else
                some (true)
            else
              if x1 < 0 then
                some (false)
              else
                if (65 : Int32) ≤ x1 then
                  some (false)
                else
                  (rt 301 x1).bind fun v55 =>
                  bn1 (F_X9_is x0 v55 I L R) fun b56 =>
                  if (b2i b56) = 0 then
                    some (false)
                  else
                    some (true)
  else none
set_option maxRecDepth 100000 in
set_option maxHeartbeats 4000000 in
theorem c_X9_owns (l : Launch) (D : va_G) (cA : Nat → ClassId) (ad : Nat → Nat) (bs : Nat) (X : State → Prop) (hAd : Ax ad bs) (hX : Stb bs X) (hs : Ssx ad bs X) (x0 : Nat) (x1 : Int32) (I : MI) (L : ML) (R : MR) (r : Bool) (h : F_X9_owns x0 x1 I L R = some (r)) : Cn l D cA ad bs X yX9_owns cX9_owns 2 (some .boolean) 1 21 [.ref (ad x0), .int x1] I L R (some (.int (b2i r)), I, L, R) := by
  refine Cn.ofV hAd hX [(0, .ref (ad x0)), (1, .int x1)] rfl (Nat.le_of_ble_eq_true rfl) (by decide) ?_
  intro G el eD ecA ead ebs eX erm eNL C0
  subst el eD ecA ead ebs eX
  have hsx := hs _ C0.2.2.2.2.2.2.2.2.2.2.2.1
  unfold F_X9_owns at h
  obtain ⟨c_x0, h⟩ := ite_some h
  refine V_iload_n C0 1 rfl rfl dX9_owns_0 ?_
  have nd1 := nd_0 x1
  by_cases c2 : x1 = (27 : Int32)
  · have h := (if_pos c2).symm.trans h
    refine V_lookC C0 (tgt := 60) (v := (27 : Int32)) c2 (by decide) (by decide) dX9_owns_1 ?_
    refine V_aload_n C0 0 rfl rfl dX9_owns_60 ?_
    refine V_bipush C0 (v := (8 : Int32)) (by decide) dX9_owns_61 ?_
    obtain ⟨b3, q4, h⟩ := bn1_some h
    refine V_callV C0 (st := []) (As := [.int (8 : Int32)]) 8 (c_X9_is G.l G.D G.cA G.ad G.bs G.X C0.2.2.2.2.2.2.2.2.2.1 C0.2.2.2.2.2.2.2.2.2.2.2.2 x0 (8 : Int32) I L R b3 q4) lc_X9_is lk_X9_62 c_x0.2 c_x0.1 ⟨_, rfl, rfl⟩ rfl (by rw [erm]; decide) (Nat.le_of_ble_eq_true rfl) dX9_owns_63 ?_
    show V G _ 66 [(0, .ref (G.ad x0)), (1, .int x1)] [.int (b2i b3)] I L R
    refine V_if_ne C0 (tgt := 105) (by decide) dX9_owns_66 (fun c5 => ?_) (fun c5 => ?_)
    · have h := (if_neg c5).symm.trans h
      refine V_iconst C0 (v := (1 : Int32)) (by decide) dX9_owns_105 ?_
      refine V_goto C0 (tgt := 110) (by decide) dX9_owns_106 ?_
      cases h
      exact V_zret C0 (by decide) dX9_owns_110
    · have h := (if_pos c5).symm.trans h
      refine V_aload_n C0 0 rfl rfl dX9_owns_69 ?_
      refine V_bipush C0 (v := (13 : Int32)) (by decide) dX9_owns_70 ?_
      obtain ⟨b6, q7, h⟩ := bn1_some h
      refine V_callV C0 (st := []) (As := [.int (13 : Int32)]) 8 (c_X9_is G.l G.D G.cA G.ad G.bs G.X C0.2.2.2.2.2.2.2.2.2.1 C0.2.2.2.2.2.2.2.2.2.2.2.2 x0 (13 : Int32) I L R b6 q7) lc_X9_is lk_X9_62 c_x0.2 c_x0.1 ⟨_, rfl, rfl⟩ rfl (by rw [erm]; decide) (Nat.le_of_ble_eq_true rfl) dX9_owns_72 ?_
      show V G _ 75 [(0, .ref (G.ad x0)), (1, .int x1)] [.int (b2i b6)] I L R
      refine V_if_ne C0 (tgt := 105) (by decide) dX9_owns_75 (fun c8 => ?_) (fun c8 => ?_)
      · have h := (if_neg c8).symm.trans h
        refine V_iconst C0 (v := (1 : Int32)) (by decide) dX9_owns_105 ?_
        refine V_goto C0 (tgt := 110) (by decide) dX9_owns_106 ?_
        cases h
        exact V_zret C0 (by decide) dX9_owns_110
      · have h := (if_pos c8).symm.trans h
        refine V_aload_n C0 0 rfl rfl dX9_owns_78 ?_
        refine V_bipush C0 (v := (14 : Int32)) (by decide) dX9_owns_79 ?_
        obtain ⟨b9, q10, h⟩ := bn1_some h
        refine V_callV C0 (st := []) (As := [.int (14 : Int32)]) 8 (c_X9_is G.l G.D G.cA G.ad G.bs G.X C0.2.2.2.2.2.2.2.2.2.1 C0.2.2.2.2.2.2.2.2.2.2.2.2 x0 (14 : Int32) I L R b9 q10) lc_X9_is lk_X9_62 c_x0.2 c_x0.1 ⟨_, rfl, rfl⟩ rfl (by rw [erm]; decide) (Nat.le_of_ble_eq_true rfl) dX9_owns_81 ?_
        show V G _ 84 [(0, .ref (G.ad x0)), (1, .int x1)] [.int (b2i b9)] I L R
        refine V_if_ne C0 (tgt := 105) (by decide) dX9_owns_84 (fun c11 => ?_) (fun c11 => ?_)
        · have h := (if_neg c11).symm.trans h
          refine V_iconst C0 (v := (1 : Int32)) (by decide) dX9_owns_105 ?_
          refine V_goto C0 (tgt := 110) (by decide) dX9_owns_106 ?_
          cases h
          exact V_zret C0 (by decide) dX9_owns_110
        · have h := (if_pos c11).symm.trans h
          refine V_aload_n C0 0 rfl rfl dX9_owns_87 ?_
          refine V_bipush C0 (v := (18 : Int32)) (by decide) dX9_owns_88 ?_
          obtain ⟨b12, q13, h⟩ := bn1_some h
          refine V_callV C0 (st := []) (As := [.int (18 : Int32)]) 8 (c_X9_is G.l G.D G.cA G.ad G.bs G.X C0.2.2.2.2.2.2.2.2.2.1 C0.2.2.2.2.2.2.2.2.2.2.2.2 x0 (18 : Int32) I L R b12 q13) lc_X9_is lk_X9_62 c_x0.2 c_x0.1 ⟨_, rfl, rfl⟩ rfl (by rw [erm]; decide) (Nat.le_of_ble_eq_true rfl) dX9_owns_90 ?_
          show V G _ 93 [(0, .ref (G.ad x0)), (1, .int x1)] [.int (b2i b12)] I L R
          refine V_if_ne C0 (tgt := 105) (by decide) dX9_owns_93 (fun c14 => ?_) (fun c14 => ?_)
          · have h := (if_neg c14).symm.trans h
            refine V_iconst C0 (v := (1 : Int32)) (by decide) dX9_owns_105 ?_
            refine V_goto C0 (tgt := 110) (by decide) dX9_owns_106 ?_
            cases h
            exact V_zret C0 (by decide) dX9_owns_110
          · have h := (if_pos c14).symm.trans h
            refine V_aload_n C0 0 rfl rfl dX9_owns_96 ?_
            refine V_bipush C0 (v := (25 : Int32)) (by decide) dX9_owns_97 ?_
            obtain ⟨b15, q16, h⟩ := bn1_some h
            refine V_callV C0 (st := []) (As := [.int (25 : Int32)]) 8 (c_X9_is G.l G.D G.cA G.ad G.bs G.X C0.2.2.2.2.2.2.2.2.2.1 C0.2.2.2.2.2.2.2.2.2.2.2.2 x0 (25 : Int32) I L R b15 q16) lc_X9_is lk_X9_62 c_x0.2 c_x0.1 ⟨_, rfl, rfl⟩ rfl (by rw [erm]; decide) (Nat.le_of_ble_eq_true rfl) dX9_owns_99 ?_
            show V G _ 102 [(0, .ref (G.ad x0)), (1, .int x1)] [.int (b2i b15)] I L R
            refine V_if_eq C0 (tgt := 109) (by decide) dX9_owns_102 (fun c17 => ?_) (fun c17 => ?_)
            · have h := (if_pos c17).symm.trans h
              refine V_iconst C0 (v := (0 : Int32)) (by decide) dX9_owns_109 ?_
              cases h
              exact V_zret C0 (by decide) dX9_owns_110
            · have h := (if_neg c17).symm.trans h
              refine V_iconst C0 (v := (1 : Int32)) (by decide) dX9_owns_105 ?_
              refine V_goto C0 (tgt := 110) (by decide) dX9_owns_106 ?_
              cases h
              exact V_zret C0 (by decide) dX9_owns_110
  · have h := (if_neg c2).symm.trans h
    have nd1 := nd_add nd1 c2
    by_cases c18 : x1 = (31 : Int32)
    · have h := (if_pos c18).symm.trans h
      refine V_lookC C0 (tgt := 111) (v := (31 : Int32)) c18 (by decide) (by decide) dX9_owns_1 ?_
      refine V_aload_n C0 0 rfl rfl dX9_owns_111 ?_
      refine V_bipush C0 (v := (9 : Int32)) (by decide) dX9_owns_112 ?_
      obtain ⟨b19, q20, h⟩ := bn1_some h
      refine V_callV C0 (st := []) (As := [.int (9 : Int32)]) 8 (c_X9_is G.l G.D G.cA G.ad G.bs G.X C0.2.2.2.2.2.2.2.2.2.1 C0.2.2.2.2.2.2.2.2.2.2.2.2 x0 (9 : Int32) I L R b19 q20) lc_X9_is lk_X9_62 c_x0.2 c_x0.1 ⟨_, rfl, rfl⟩ rfl (by rw [erm]; decide) (Nat.le_of_ble_eq_true rfl) dX9_owns_114 ?_
      show V G _ 117 [(0, .ref (G.ad x0)), (1, .int x1)] [.int (b2i b19)] I L R
      refine V_if_ne C0 (tgt := 129) (by decide) dX9_owns_117 (fun c21 => ?_) (fun c21 => ?_)
      · have h := (if_neg c21).symm.trans h
        refine V_iconst C0 (v := (1 : Int32)) (by decide) dX9_owns_129 ?_
        refine V_goto C0 (tgt := 134) (by decide) dX9_owns_130 ?_
        cases h
        exact V_zret C0 (by decide) dX9_owns_134
      · have h := (if_pos c21).symm.trans h
        refine V_aload_n C0 0 rfl rfl dX9_owns_120 ?_
        refine V_bipush C0 (v := (21 : Int32)) (by decide) dX9_owns_121 ?_
        obtain ⟨b22, q23, h⟩ := bn1_some h
        refine V_callV C0 (st := []) (As := [.int (21 : Int32)]) 8 (c_X9_is G.l G.D G.cA G.ad G.bs G.X C0.2.2.2.2.2.2.2.2.2.1 C0.2.2.2.2.2.2.2.2.2.2.2.2 x0 (21 : Int32) I L R b22 q23) lc_X9_is lk_X9_62 c_x0.2 c_x0.1 ⟨_, rfl, rfl⟩ rfl (by rw [erm]; decide) (Nat.le_of_ble_eq_true rfl) dX9_owns_123 ?_
        show V G _ 126 [(0, .ref (G.ad x0)), (1, .int x1)] [.int (b2i b22)] I L R
        refine V_if_eq C0 (tgt := 133) (by decide) dX9_owns_126 (fun c24 => ?_) (fun c24 => ?_)
        · have h := (if_pos c24).symm.trans h
          refine V_iconst C0 (v := (0 : Int32)) (by decide) dX9_owns_133 ?_
          cases h
          exact V_zret C0 (by decide) dX9_owns_134
        · have h := (if_neg c24).symm.trans h
          refine V_iconst C0 (v := (1 : Int32)) (by decide) dX9_owns_129 ?_
          refine V_goto C0 (tgt := 134) (by decide) dX9_owns_130 ?_
          cases h
          exact V_zret C0 (by decide) dX9_owns_134
    · have h := (if_neg c18).symm.trans h
      have nd1 := nd_add nd1 c18
      by_cases c25 : x1 = (35 : Int32)
      · have h := (if_pos c25).symm.trans h
        refine V_lookC C0 (tgt := 135) (v := (35 : Int32)) c25 (by decide) (by decide) dX9_owns_1 ?_
        refine V_aload_n C0 0 rfl rfl dX9_owns_135 ?_
        refine V_bipush C0 (v := (10 : Int32)) (by decide) dX9_owns_136 ?_
        obtain ⟨b26, q27, h⟩ := bn1_some h
        refine V_callV C0 (st := []) (As := [.int (10 : Int32)]) 8 (c_X9_is G.l G.D G.cA G.ad G.bs G.X C0.2.2.2.2.2.2.2.2.2.1 C0.2.2.2.2.2.2.2.2.2.2.2.2 x0 (10 : Int32) I L R b26 q27) lc_X9_is lk_X9_62 c_x0.2 c_x0.1 ⟨_, rfl, rfl⟩ rfl (by rw [erm]; decide) (Nat.le_of_ble_eq_true rfl) dX9_owns_138 ?_
        show V G _ 141 [(0, .ref (G.ad x0)), (1, .int x1)] [.int (b2i b26)] I L R
        refine V_if_ne C0 (tgt := 153) (by decide) dX9_owns_141 (fun c28 => ?_) (fun c28 => ?_)
        · have h := (if_neg c28).symm.trans h
          refine V_iconst C0 (v := (1 : Int32)) (by decide) dX9_owns_153 ?_
          refine V_goto C0 (tgt := 158) (by decide) dX9_owns_154 ?_
          cases h
          exact V_zret C0 (by decide) dX9_owns_158
        · have h := (if_pos c28).symm.trans h
          refine V_aload_n C0 0 rfl rfl dX9_owns_144 ?_
          refine V_bipush C0 (v := (15 : Int32)) (by decide) dX9_owns_145 ?_
          obtain ⟨b29, q30, h⟩ := bn1_some h
          refine V_callV C0 (st := []) (As := [.int (15 : Int32)]) 8 (c_X9_is G.l G.D G.cA G.ad G.bs G.X C0.2.2.2.2.2.2.2.2.2.1 C0.2.2.2.2.2.2.2.2.2.2.2.2 x0 (15 : Int32) I L R b29 q30) lc_X9_is lk_X9_62 c_x0.2 c_x0.1 ⟨_, rfl, rfl⟩ rfl (by rw [erm]; decide) (Nat.le_of_ble_eq_true rfl) dX9_owns_147 ?_
          show V G _ 150 [(0, .ref (G.ad x0)), (1, .int x1)] [.int (b2i b29)] I L R
          refine V_if_eq C0 (tgt := 157) (by decide) dX9_owns_150 (fun c31 => ?_) (fun c31 => ?_)
          · have h := (if_pos c31).symm.trans h
            refine V_iconst C0 (v := (0 : Int32)) (by decide) dX9_owns_157 ?_
            cases h
            exact V_zret C0 (by decide) dX9_owns_158
          · have h := (if_neg c31).symm.trans h
            refine V_iconst C0 (v := (1 : Int32)) (by decide) dX9_owns_153 ?_
            refine V_goto C0 (tgt := 158) (by decide) dX9_owns_154 ?_
            cases h
            exact V_zret C0 (by decide) dX9_owns_158
      · have h := (if_neg c25).symm.trans h
        have nd1 := nd_add nd1 c25
        by_cases c32 : x1 = (40 : Int32)
        · have h := (if_pos c32).symm.trans h
          refine V_lookC C0 (tgt := 159) (v := (40 : Int32)) c32 (by decide) (by decide) dX9_owns_1 ?_
          refine V_aload_n C0 0 rfl rfl dX9_owns_159 ?_
          refine V_bipush C0 (v := (14 : Int32)) (by decide) dX9_owns_160 ?_
          obtain ⟨b33, q34, h⟩ := bn1_some h
          refine V_callV C0 (st := []) (As := [.int (14 : Int32)]) 8 (c_X9_is G.l G.D G.cA G.ad G.bs G.X C0.2.2.2.2.2.2.2.2.2.1 C0.2.2.2.2.2.2.2.2.2.2.2.2 x0 (14 : Int32) I L R b33 q34) lc_X9_is lk_X9_62 c_x0.2 c_x0.1 ⟨_, rfl, rfl⟩ rfl (by rw [erm]; decide) (Nat.le_of_ble_eq_true rfl) dX9_owns_162 ?_
          show V G _ 165 [(0, .ref (G.ad x0)), (1, .int x1)] [.int (b2i b33)] I L R
          refine V_if_ne C0 (tgt := 177) (by decide) dX9_owns_165 (fun c35 => ?_) (fun c35 => ?_)
          · have h := (if_neg c35).symm.trans h
            refine V_iconst C0 (v := (1 : Int32)) (by decide) dX9_owns_177 ?_
            refine V_goto C0 (tgt := 182) (by decide) dX9_owns_178 ?_
            cases h
            exact V_zret C0 (by decide) dX9_owns_182
          · have h := (if_pos c35).symm.trans h
            refine V_aload_n C0 0 rfl rfl dX9_owns_168 ?_
            refine V_bipush C0 (v := (18 : Int32)) (by decide) dX9_owns_169 ?_
            obtain ⟨b36, q37, h⟩ := bn1_some h
            refine V_callV C0 (st := []) (As := [.int (18 : Int32)]) 8 (c_X9_is G.l G.D G.cA G.ad G.bs G.X C0.2.2.2.2.2.2.2.2.2.1 C0.2.2.2.2.2.2.2.2.2.2.2.2 x0 (18 : Int32) I L R b36 q37) lc_X9_is lk_X9_62 c_x0.2 c_x0.1 ⟨_, rfl, rfl⟩ rfl (by rw [erm]; decide) (Nat.le_of_ble_eq_true rfl) dX9_owns_171 ?_
            show V G _ 174 [(0, .ref (G.ad x0)), (1, .int x1)] [.int (b2i b36)] I L R
            refine V_if_eq C0 (tgt := 181) (by decide) dX9_owns_174 (fun c38 => ?_) (fun c38 => ?_)
            · have h := (if_pos c38).symm.trans h
              refine V_iconst C0 (v := (0 : Int32)) (by decide) dX9_owns_181 ?_
              cases h
              exact V_zret C0 (by decide) dX9_owns_182
            · have h := (if_neg c38).symm.trans h
              refine V_iconst C0 (v := (1 : Int32)) (by decide) dX9_owns_177 ?_
              refine V_goto C0 (tgt := 182) (by decide) dX9_owns_178 ?_
              cases h
              exact V_zret C0 (by decide) dX9_owns_182
        · have h := (if_neg c32).symm.trans h
          have nd1 := nd_add nd1 c32
          by_cases c39 : x1 = (43 : Int32)
          · have h := (if_pos c39).symm.trans h
            refine V_lookC C0 (tgt := 183) (v := (43 : Int32)) c39 (by decide) (by decide) dX9_owns_1 ?_
            refine V_aload_n C0 0 rfl rfl dX9_owns_183 ?_
            refine V_bipush C0 (v := (16 : Int32)) (by decide) dX9_owns_184 ?_
            obtain ⟨b40, q41, h⟩ := bn1_some h
            refine V_callV C0 (st := []) (As := [.int (16 : Int32)]) 8 (c_X9_is G.l G.D G.cA G.ad G.bs G.X C0.2.2.2.2.2.2.2.2.2.1 C0.2.2.2.2.2.2.2.2.2.2.2.2 x0 (16 : Int32) I L R b40 q41) lc_X9_is lk_X9_62 c_x0.2 c_x0.1 ⟨_, rfl, rfl⟩ rfl (by rw [erm]; decide) (Nat.le_of_ble_eq_true rfl) dX9_owns_186 ?_
            show V G _ 189 [(0, .ref (G.ad x0)), (1, .int x1)] [.int (b2i b40)] I L R
            refine V_if_ne C0 (tgt := 201) (by decide) dX9_owns_189 (fun c42 => ?_) (fun c42 => ?_)
            · have h := (if_neg c42).symm.trans h
              refine V_iconst C0 (v := (1 : Int32)) (by decide) dX9_owns_201 ?_
              refine V_goto C0 (tgt := 206) (by decide) dX9_owns_202 ?_
              cases h
              exact V_zret C0 (by decide) dX9_owns_206
            · have h := (if_pos c42).symm.trans h
              refine V_aload_n C0 0 rfl rfl dX9_owns_192 ?_
              refine V_bipush C0 (v := (22 : Int32)) (by decide) dX9_owns_193 ?_
              obtain ⟨b43, q44, h⟩ := bn1_some h
              refine V_callV C0 (st := []) (As := [.int (22 : Int32)]) 8 (c_X9_is G.l G.D G.cA G.ad G.bs G.X C0.2.2.2.2.2.2.2.2.2.1 C0.2.2.2.2.2.2.2.2.2.2.2.2 x0 (22 : Int32) I L R b43 q44) lc_X9_is lk_X9_62 c_x0.2 c_x0.1 ⟨_, rfl, rfl⟩ rfl (by rw [erm]; decide) (Nat.le_of_ble_eq_true rfl) dX9_owns_195 ?_
              show V G _ 198 [(0, .ref (G.ad x0)), (1, .int x1)] [.int (b2i b43)] I L R
              refine V_if_eq C0 (tgt := 205) (by decide) dX9_owns_198 (fun c45 => ?_) (fun c45 => ?_)
              · have h := (if_pos c45).symm.trans h
                refine V_iconst C0 (v := (0 : Int32)) (by decide) dX9_owns_205 ?_
                cases h
                exact V_zret C0 (by decide) dX9_owns_206
              · have h := (if_neg c45).symm.trans h
                refine V_iconst C0 (v := (1 : Int32)) (by decide) dX9_owns_201 ?_
                refine V_goto C0 (tgt := 206) (by decide) dX9_owns_202 ?_
                cases h
                exact V_zret C0 (by decide) dX9_owns_206
          · have h := (if_neg c39).symm.trans h
            have nd1 := nd_add nd1 c39
            by_cases c46 : x1 = (61 : Int32)
            · have h := (if_pos c46).symm.trans h
              refine V_lookC C0 (tgt := 207) (v := (61 : Int32)) c46 (by decide) (by decide) dX9_owns_1 ?_
              refine V_aload_n C0 0 rfl rfl dX9_owns_207 ?_
              refine V_bipush C0 (v := (27 : Int32)) (by decide) dX9_owns_208 ?_
              obtain ⟨b47, q48, h⟩ := bn1_some h
              refine V_callV C0 (st := []) (As := [.int (27 : Int32)]) 8 (c_X9_is G.l G.D G.cA G.ad G.bs G.X C0.2.2.2.2.2.2.2.2.2.1 C0.2.2.2.2.2.2.2.2.2.2.2.2 x0 (27 : Int32) I L R b47 q48) lc_X9_is lk_X9_62 c_x0.2 c_x0.1 ⟨_, rfl, rfl⟩ rfl (by rw [erm]; decide) (Nat.le_of_ble_eq_true rfl) dX9_owns_210 ?_
              show V G _ 213 [(0, .ref (G.ad x0)), (1, .int x1)] [.int (b2i b47)] I L R
              refine V_if_ne C0 (tgt := 225) (by decide) dX9_owns_213 (fun c49 => ?_) (fun c49 => ?_)
              · have h := (if_neg c49).symm.trans h
                refine V_iconst C0 (v := (1 : Int32)) (by decide) dX9_owns_225 ?_
                refine V_goto C0 (tgt := 230) (by decide) dX9_owns_226 ?_
                cases h
                exact V_zret C0 (by decide) dX9_owns_230
              · have h := (if_pos c49).symm.trans h
                refine V_aload_n C0 0 rfl rfl dX9_owns_216 ?_
                refine V_bipush C0 (v := (28 : Int32)) (by decide) dX9_owns_217 ?_
                obtain ⟨b50, q51, h⟩ := bn1_some h
                refine V_callV C0 (st := []) (As := [.int (28 : Int32)]) 8 (c_X9_is G.l G.D G.cA G.ad G.bs G.X C0.2.2.2.2.2.2.2.2.2.1 C0.2.2.2.2.2.2.2.2.2.2.2.2 x0 (28 : Int32) I L R b50 q51) lc_X9_is lk_X9_62 c_x0.2 c_x0.1 ⟨_, rfl, rfl⟩ rfl (by rw [erm]; decide) (Nat.le_of_ble_eq_true rfl) dX9_owns_219 ?_
                show V G _ 222 [(0, .ref (G.ad x0)), (1, .int x1)] [.int (b2i b50)] I L R
                refine V_if_eq C0 (tgt := 229) (by decide) dX9_owns_222 (fun c52 => ?_) (fun c52 => ?_)
                · have h := (if_pos c52).symm.trans h
                  refine V_iconst C0 (v := (0 : Int32)) (by decide) dX9_owns_229 ?_
                  cases h
                  exact V_zret C0 (by decide) dX9_owns_230
                · have h := (if_neg c52).symm.trans h
                  refine V_iconst C0 (v := (1 : Int32)) (by decide) dX9_owns_225 ?_
                  refine V_goto C0 (tgt := 230) (by decide) dX9_owns_226 ?_
                  cases h
                  exact V_zret C0 (by decide) dX9_owns_230
            · have h := (if_neg c46).symm.trans h
              have nd1 := nd_add nd1 c46
              refine V_lookN C0 (tgt := 231) nd1 (by decide) (by decide) dX9_owns_1 ?_
              refine V_iload_n C0 1 rfl rfl dX9_owns_231 ?_
              refine V_if_lt C0 (tgt := 259) (by decide) dX9_owns_232 (fun c53 => ?_) (fun c53 => ?_)
              · have h := (if_pos c53).symm.trans h
                refine V_iconst C0 (v := (0 : Int32)) (by decide) dX9_owns_259 ?_
                cases h
                exact V_zret C0 (by decide) dX9_owns_260
              · have h := (if_neg c53).symm.trans h
                refine V_iload_n C0 1 rfl rfl dX9_owns_235 ?_
                refine V_gets C0 hsx.2.1.1 (Or.inr ⟨"SmallCraft", nW_in _ (tb_6 _ (List.mem_of_getElem? (i := 225) rfl)) rfl⟩) dX9_owns_236 ?_
                refine V_tlen C0 (v := (65 : Int32)) hsx.2.1.2 (by decide) dX9_owns_239 ?_
                refine V_icmp_ge C0 (tgt := 259) (by decide) dX9_owns_240 (fun c54 => ?_) (fun c54 => ?_)
                · have h := (if_pos c54).symm.trans h
                  refine V_iconst C0 (v := (0 : Int32)) (by decide) dX9_owns_259 ?_
                  cases h
                  exact V_zret C0 (by decide) dX9_owns_260
                · have h := (if_neg c54).symm.trans h
                  refine V_aload_n C0 0 rfl rfl dX9_owns_243 ?_
                  refine V_gets C0 hsx.2.1.1 (Or.inr ⟨"SmallCraft", nW_in _ (tb_6 _ (List.mem_of_getElem? (i := 225) rfl)) rfl⟩) dX9_owns_244 ?_
                  refine V_iload_n C0 1 rfl rfl dX9_owns_247 ?_
                  obtain ⟨v55, qv55, h⟩ := bnd_some h
                  refine V_rt C0 hsx.2.1.2 qv55 dX9_owns_248 ?_
                  obtain ⟨b56, q57, h⟩ := bn1_some h
                  refine V_callV C0 (st := []) (As := [.int v55]) 8 (c_X9_is G.l G.D G.cA G.ad G.bs G.X C0.2.2.2.2.2.2.2.2.2.1 C0.2.2.2.2.2.2.2.2.2.2.2.2 x0 v55 I L R b56 q57) lc_X9_is lk_X9_62 c_x0.2 c_x0.1 ⟨_, rfl, rfl⟩ rfl (by rw [erm]; decide) (Nat.le_of_ble_eq_true rfl) dX9_owns_249 ?_
                  show V G _ 252 [(0, .ref (G.ad x0)), (1, .int x1)] [.int (b2i b56)] I L R
                  refine V_if_eq C0 (tgt := 259) (by decide) dX9_owns_252 (fun c58 => ?_) (fun c58 => ?_)
                  · have h := (if_pos c58).symm.trans h
                    refine V_iconst C0 (v := (0 : Int32)) (by decide) dX9_owns_259 ?_
                    cases h
                    exact V_zret C0 (by decide) dX9_owns_260
                  · have h := (if_neg c58).symm.trans h
                    refine V_iconst C0 (v := (1 : Int32)) (by decide) dX9_owns_255 ?_
                    refine V_goto C0 (tgt := 260) (by decide) dX9_owns_256 ?_
                    cases h
                    exact V_zret C0 (by decide) dX9_owns_260
theorem dX10_build_0 : decode cX10_build 0 = .ok (.aload_n 0, 1) := by decide +kernel
theorem dX10_build_1 : decode cX10_build 1 = .ok (.aload_n 1, 1) := by decide +kernel
theorem dX10_build_2 : decode cX10_build 2 = .ok (.invokevirtual 60, 3) := by decide +kernel
theorem dX10_build_5 : decode cX10_build 5 = .ok (.putfield 26, 3) := by decide +kernel
theorem dX10_build_8 : decode cX10_build 8 = .ok (.aload_n 0, 1) := by decide +kernel
theorem dX10_build_9 : decode cX10_build 9 = .ok (.iconst 0, 1) := by decide +kernel
theorem dX10_build_10 : decode cX10_build 10 = .ok (.putfield 45, 3) := by decide +kernel
theorem dX10_build_13 : decode cX10_build 13 = .ok (.aload_n 0, 1) := by decide +kernel
theorem dX10_build_14 : decode cX10_build 14 = .ok (.iconst 0, 1) := by decide +kernel
theorem dX10_build_15 : decode cX10_build 15 = .ok (.putfield 48, 3) := by decide +kernel
theorem dX10_build_18 : decode cX10_build 18 = .ok (.aload_n 0, 1) := by decide +kernel
theorem dX10_build_19 : decode cX10_build 19 = .ok (.iconst 0, 1) := by decide +kernel
theorem dX10_build_20 : decode cX10_build 20 = .ok (.putfield 51, 3) := by decide +kernel
theorem dX10_build_23 : decode cX10_build 23 = .ok (.aload_n 0, 1) := by decide +kernel
theorem dX10_build_24 : decode cX10_build 24 = .ok (.iconst 0, 1) := by decide +kernel
theorem dX10_build_25 : decode cX10_build 25 = .ok (.putfield 54, 3) := by decide +kernel
theorem dX10_build_28 : decode cX10_build 28 = .ok (.aload_n 0, 1) := by decide +kernel
theorem dX10_build_29 : decode cX10_build 29 = .ok (.iconst 0, 1) := by decide +kernel
theorem dX10_build_30 : decode cX10_build 30 = .ok (.putfield 57, 3) := by decide +kernel
theorem dX10_build_33 : decode cX10_build 33 = .ok (.iconst 0, 1) := by decide +kernel
theorem dX10_build_34 : decode cX10_build 34 = .ok (.istore_n 2, 1) := by decide +kernel
theorem dX10_build_35 : decode cX10_build 35 = .ok (.iload_n 2, 1) := by decide +kernel
theorem dX10_build_36 : decode cX10_build 36 = .ok (.aload_n 0, 1) := by decide +kernel
theorem dX10_build_37 : decode cX10_build 37 = .ok (.getfield 26, 3) := by decide +kernel
theorem dX10_build_40 : decode cX10_build 40 = .ok (.if_icmp .ge 29, 3) := by decide +kernel
theorem dX10_build_43 : decode cX10_build 43 = .ok (.aload_n 0, 1) := by decide +kernel
theorem dX10_build_44 : decode cX10_build 44 = .ok (.iload_n 2, 1) := by decide +kernel
theorem dX10_build_45 : decode cX10_build 45 = .ok (.invokevirtual 34, 3) := by decide +kernel
theorem dX10_build_48 : decode cX10_build 48 = .ok (.aload_n 1, 1) := by decide +kernel
theorem dX10_build_49 : decode cX10_build 49 = .ok (.iload_n 2, 1) := by decide +kernel
theorem dX10_build_50 : decode cX10_build 50 = .ok (.invokevirtual 66, 3) := by decide +kernel
theorem dX10_build_53 : decode cX10_build 53 = .ok (.aload_n 0, 1) := by decide +kernel
theorem dX10_build_54 : decode cX10_build 54 = .ok (.aload_n 0, 1) := by decide +kernel
theorem dX10_build_55 : decode cX10_build 55 = .ok (.iload_n 2, 1) := by decide +kernel
theorem dX10_build_56 : decode cX10_build 56 = .ok (.invokevirtual 34, 3) := by decide +kernel
theorem dX10_build_59 : decode cX10_build 59 = .ok (.iload_n 2, 1) := by decide +kernel
theorem dX10_build_60 : decode cX10_build 60 = .ok (.invokevirtual 70, 3) := by decide +kernel
theorem dX10_build_63 : decode cX10_build 63 = .ok (.iinc 2 1, 3) := by decide +kernel
theorem dX10_build_66 : decode cX10_build 66 = .ok (.goto (-31), 3) := by decide +kernel
theorem dX10_build_69 : decode cX10_build 69 = .ok (.iconst 0, 1) := by decide +kernel
theorem dX10_build_70 : decode cX10_build 70 = .ok (.istore_n 2, 1) := by decide +kernel
theorem dX10_build_71 : decode cX10_build 71 = .ok (.iload_n 2, 1) := by decide +kernel
theorem dX10_build_72 : decode cX10_build 72 = .ok (.aload_n 0, 1) := by decide +kernel
theorem dX10_build_73 : decode cX10_build 73 = .ok (.getfield 26, 3) := by decide +kernel
theorem dX10_build_76 : decode cX10_build 76 = .ok (.if_icmp .ge 18, 3) := by decide +kernel
theorem dX10_build_79 : decode cX10_build 79 = .ok (.aload_n 0, 1) := by decide +kernel
theorem dX10_build_80 : decode cX10_build 80 = .ok (.aload_n 0, 1) := by decide +kernel
theorem dX10_build_81 : decode cX10_build 81 = .ok (.iload_n 2, 1) := by decide +kernel
theorem dX10_build_82 : decode cX10_build 82 = .ok (.invokevirtual 34, 3) := by decide +kernel
theorem dX10_build_85 : decode cX10_build 85 = .ok (.invokevirtual 74, 3) := by decide +kernel
theorem dX10_build_88 : decode cX10_build 88 = .ok (.iinc 2 1, 3) := by decide +kernel
theorem dX10_build_91 : decode cX10_build 91 = .ok (.goto (-20), 3) := by decide +kernel
theorem dX10_build_94 : decode cX10_build 94 = .ok (.return_, 1) := by decide +kernel
def LF_X10_build_35 (N : Nat) : Nat → Nat → Nat → Int32 → MI → ML → MR → Option (MI × ML)
  | 0, _, _, _, _, _, _ => none
  | k + 1, y0, y1, y2, I, L, R =>
    if (I y0 3) ≤ y2 then
      some (I, L)
    else
      bn1 (F_X10_unitAt y0 y2 I L R) fun a10 =>
      if kd a10 = 8 ∧ a10 < NN then
      bn2 (F_X9_describe N a10 y1 y2 I L R) fun I13 L14 =>
      bn1 (F_X10_unitAt y0 y2 I13 L14 R) fun a16 =>
      if kd a16 = 8 ∧ a16 < NN then
      bn1 (F_X10_make N y0 a16 y2 I13 L14 R) fun I19 =>
      wr (y2 + (1 : Int32)) fun (u21 : Int32) =>
      LF_X10_build_35 N k y0 y1 u21 I19 L14 R
      else none
      else none
def LF_X10_build_71 (N : Nat) : Nat → Nat → Int32 → MI → ML → MR → Option (MI)
  | 0, _, _, _, _, _ => none
  | k + 1, y0, y2, I, L, R =>
    if (I y0 3) ≤ y2 then
      some (I)
    else
      bn1 (F_X10_unitAt y0 y2 I L R) fun a25 =>
      if kd a25 = 8 ∧ a25 < NN then
      bn1 (F_X10_judge N y0 a25 I L R) fun I28 =>
      wr (y2 + (1 : Int32)) fun (u30 : Int32) =>
      LF_X10_build_71 N k y0 u30 I28 L R
      else none
def F_X10_build (N : Nat) (x0 : Nat) (x1 : Nat) (I : MI) (L : ML) (R : MR) : Option (MI × ML) :=
  if kd x0 = 9 ∧ x0 < NN then
  if kd x1 = 0 ∧ x1 < NN then
  bn1 (F_X0_size x1 I L R) fun v1 =>
  wr (uI I x0 3 v1) fun (I3 : MI) =>
  wr (uI I3 x0 4 (0 : Int32)) fun (I4 : MI) =>
  wr (uI I4 x0 5 (0 : Int32)) fun (I5 : MI) =>
  wr (uI I5 x0 6 (0 : Int32)) fun (I6 : MI) =>
  wr (uI I6 x0 7 (0 : Int32)) fun (I7 : MI) =>
  wr (uI I7 x0 8 (0 : Int32)) fun (I8 : MI) =>
  bn1 (LF_X10_build_35 N N x0 x1 (0 : Int32) I8 L R) fun z22 =>
  bn1 (LF_X10_build_71 N N x0 (0 : Int32) z22.1 z22.2 R) fun z31 =>
  some (z31, z22.2)
  else none
  else none
set_option maxRecDepth 100000 in
set_option maxHeartbeats 4000000 in
theorem lp_X10_build_35 {G : Gm} (C0 : Cx G (yX10_build.cls) cX10_build none) (eNL : G.nL = 3) (erm : G.rm = ({ frames := 3, cells := 0, slots := 0, locals := 69 } : Room)) (hs : Ssx G.ad G.bs G.X) (N : Nat) : ∀ (k : Nat) (y0 : Nat) (y1 : Nat) (y2 : Int32) (I : MI) (L : ML) (R : MR) (z : MI × ML) (hk0 : kd y0 = 9) (ho0 : y0 < NN) (hk1 : kd y1 = 0) (ho1 : y1 < NN), LF_X10_build_35 N k y0 y1 y2 I L R = some z → ∀ f : State → Prop, V G f 69 [(0, .ref (G.ad y0))] [] z.1 z.2 R → V G f 35 [(0, .ref (G.ad y0)), (1, .ref (G.ad y1)), (2, .int y2)] [] I L R := by
  intro k
  induction k with
  | zero =>
    intro y0 y1 y2 I L R q hk0 ho0 hk1 ho1 h
    exact absurd h (by simp [LF_X10_build_35])
  | succ k ih =>
    intro y0 y1 y2 I L R q hk0 ho0 hk1 ho1 h f kx
    rw [LF_X10_build_35] at h
    have hsx := hs _ C0.2.2.2.2.2.2.2.2.2.2.2.1
    refine V_iload_n C0 2 rfl rfl dX10_build_35 ?_
    refine V_aload_n C0 0 rfl rfl dX10_build_36 ?_
    refine V_getI C0 9 3 fl_X10_26 ho0 hk0 rfl dX10_build_37 ?_
    refine V_icmp_ge C0 (tgt := 69) (by decide) dX10_build_40 (fun c9 => ?_) (fun c9 => ?_)
    · have h := (if_pos c9).symm.trans h
      cases h
      exact V_sub [0] rfl kx
    · have h := (if_neg c9).symm.trans h
      refine V_aload_n C0 0 rfl rfl dX10_build_43 ?_
      refine V_iload_n C0 2 rfl rfl dX10_build_44 ?_
      obtain ⟨a10, q11, h⟩ := bn1_some h
      refine V_callV C0 (st := []) (As := [.int y2]) 9 (c_X10_unitAt G.l G.D G.cA G.ad G.bs G.X C0.2.2.2.2.2.2.2.2.2.1 C0.2.2.2.2.2.2.2.2.2.2.2.2 y0 y2 I L R a10 q11) lc_X10_unitAt lk_X10_34 ho0 hk0 ⟨_, rfl, rfl⟩ rfl (by rw [erm]; decide) (Nat.le_of_ble_eq_true rfl) dX10_build_45 ?_
      show V G _ 48 [(0, .ref (G.ad y0)), (1, .ref (G.ad y1)), (2, .int y2)] [.ref (G.ad a10)] I L R
      obtain ⟨c12, h⟩ := ite_some h
      refine V_aload_n C0 1 rfl rfl dX10_build_48 ?_
      refine V_iload_n C0 2 rfl rfl dX10_build_49 ?_
      obtain ⟨I13, L14, q15, h⟩ := bn2_some h
      refine V_callV C0 (st := []) (As := [.ref (G.ad y1), .int y2]) 8 (c_X9_describe G.l G.D G.cA G.ad G.bs G.X C0.2.2.2.2.2.2.2.2.2.1 C0.2.2.2.2.2.2.2.2.2.2.2.2 hs N a10 y1 y2 I L R I13 L14 q15) lc_X9_describe lk_X10_66 c12.2 c12.1 ⟨_, rfl, rfl⟩ rfl (by rw [erm]; decide) (Nat.le_of_ble_eq_true rfl) dX10_build_50 ?_
      show V G _ 53 [(0, .ref (G.ad y0)), (1, .ref (G.ad y1)), (2, .int y2)] [] I13 L14 R
      refine V_aload_n C0 0 rfl rfl dX10_build_53 ?_
      refine V_aload_n C0 0 rfl rfl dX10_build_54 ?_
      refine V_iload_n C0 2 rfl rfl dX10_build_55 ?_
      obtain ⟨a16, q17, h⟩ := bn1_some h
      refine V_callV C0 (st := [.ref (G.ad y0)]) (As := [.int y2]) 9 (c_X10_unitAt G.l G.D G.cA G.ad G.bs G.X C0.2.2.2.2.2.2.2.2.2.1 C0.2.2.2.2.2.2.2.2.2.2.2.2 y0 y2 I13 L14 R a16 q17) lc_X10_unitAt lk_X10_34 ho0 hk0 ⟨_, rfl, rfl⟩ rfl (by rw [erm]; decide) (Nat.le_of_ble_eq_true rfl) dX10_build_56 ?_
      show V G _ 59 [(0, .ref (G.ad y0)), (1, .ref (G.ad y1)), (2, .int y2)] [.ref (G.ad a16), .ref (G.ad y0)] I13 L14 R
      obtain ⟨c18, h⟩ := ite_some h
      refine V_iload_n C0 2 rfl rfl dX10_build_59 ?_
      obtain ⟨I19, q20, h⟩ := bn1_some h
      refine V_callV C0 (st := []) (As := [.ref (G.ad a16), .int y2]) 9 (c_X10_make G.l G.D G.cA G.ad G.bs G.X C0.2.2.2.2.2.2.2.2.2.1 C0.2.2.2.2.2.2.2.2.2.2.2.2 N y0 a16 y2 I13 L14 R I19 q20) lc_X10_make lk_X10_70 ho0 hk0 ⟨_, rfl, rfl⟩ rfl (by rw [erm]; decide) (Nat.le_of_ble_eq_true rfl) dX10_build_60 ?_
      show V G _ 63 [(0, .ref (G.ad y0)), (1, .ref (G.ad y1)), (2, .int y2)] [] I19 L14 R
      obtain ⟨u21, eu21, h⟩ := wr_some h
      refine V_iinc C0 2 [(2, .int u21), (0, .ref (G.ad y0)), (1, .ref (G.ad y1))] rfl (n := 1) (by rw [eu21]; rfl) (by rw [eNL]; decide) rfl dX10_build_63 ?_
      refine V_goto C0 (tgt := 35) (by decide) dX10_build_66 ?_
      exact V_sub [1, 2, 0] rfl (ih y0 y1 u21 I19 L14 R _ hk0 ho0 hk1 ho1 h f kx)
set_option maxRecDepth 100000 in
set_option maxHeartbeats 4000000 in
theorem lp_X10_build_71 {G : Gm} (C0 : Cx G (yX10_build.cls) cX10_build none) (eNL : G.nL = 3) (erm : G.rm = ({ frames := 3, cells := 0, slots := 0, locals := 69 } : Room)) (hs : Ssx G.ad G.bs G.X) (N : Nat) : ∀ (k : Nat) (y0 : Nat) (y2 : Int32) (I : MI) (L : ML) (R : MR) (z : MI) (hk0 : kd y0 = 9) (ho0 : y0 < NN), LF_X10_build_71 N k y0 y2 I L R = some z → ∀ f : State → Prop, V G f 94 [] [] z L R → V G f 71 [(0, .ref (G.ad y0)), (2, .int y2)] [] I L R := by
  intro k
  induction k with
  | zero =>
    intro y0 y2 I L R q hk0 ho0 h
    exact absurd h (by simp [LF_X10_build_71])
  | succ k ih =>
    intro y0 y2 I L R q hk0 ho0 h f kx
    rw [LF_X10_build_71] at h
    have hsx := hs _ C0.2.2.2.2.2.2.2.2.2.2.2.1
    refine V_iload_n C0 1 rfl rfl dX10_build_71 ?_
    refine V_aload_n C0 0 rfl rfl dX10_build_72 ?_
    refine V_getI C0 9 3 fl_X10_26 ho0 hk0 rfl dX10_build_73 ?_
    refine V_icmp_ge C0 (tgt := 94) (by decide) dX10_build_76 (fun c24 => ?_) (fun c24 => ?_)
    · have h := (if_pos c24).symm.trans h
      cases h
      exact V_sub [] rfl kx
    · have h := (if_neg c24).symm.trans h
      refine V_aload_n C0 0 rfl rfl dX10_build_79 ?_
      refine V_aload_n C0 0 rfl rfl dX10_build_80 ?_
      refine V_iload_n C0 1 rfl rfl dX10_build_81 ?_
      obtain ⟨a25, q26, h⟩ := bn1_some h
      refine V_callV C0 (st := [.ref (G.ad y0)]) (As := [.int y2]) 9 (c_X10_unitAt G.l G.D G.cA G.ad G.bs G.X C0.2.2.2.2.2.2.2.2.2.1 C0.2.2.2.2.2.2.2.2.2.2.2.2 y0 y2 I L R a25 q26) lc_X10_unitAt lk_X10_34 ho0 hk0 ⟨_, rfl, rfl⟩ rfl (by rw [erm]; decide) (Nat.le_of_ble_eq_true rfl) dX10_build_82 ?_
      show V G _ 85 [(0, .ref (G.ad y0)), (2, .int y2)] [.ref (G.ad a25), .ref (G.ad y0)] I L R
      obtain ⟨c27, h⟩ := ite_some h
      obtain ⟨I28, q29, h⟩ := bn1_some h
      refine V_callV C0 (st := []) (As := [.ref (G.ad a25)]) 9 (c_X10_judge G.l G.D G.cA G.ad G.bs G.X C0.2.2.2.2.2.2.2.2.2.1 C0.2.2.2.2.2.2.2.2.2.2.2.2 N y0 a25 I L R I28 q29) lc_X10_judge lk_X10_74 ho0 hk0 ⟨_, rfl, rfl⟩ rfl (by rw [erm]; decide) (Nat.le_of_ble_eq_true rfl) dX10_build_85 ?_
      show V G _ 88 [(0, .ref (G.ad y0)), (2, .int y2)] [] I28 L R
      obtain ⟨u30, eu30, h⟩ := wr_some h
      refine V_iinc C0 1 [(2, .int u30), (0, .ref (G.ad y0))] rfl (n := 1) (by rw [eu30]; rfl) (by rw [eNL]; decide) rfl dX10_build_88 ?_
      refine V_goto C0 (tgt := 71) (by decide) dX10_build_91 ?_
      exact V_sub [1, 0] rfl (ih y0 u30 I28 L R _ hk0 ho0 h f kx)
set_option maxRecDepth 100000 in
set_option maxHeartbeats 4000000 in
theorem c_X10_build (l : Launch) (D : va_G) (cA : Nat → ClassId) (ad : Nat → Nat) (bs : Nat) (X : State → Prop) (hAd : Ax ad bs) (hX : Stb bs X) (hs : Ssx ad bs X) (N : Nat) (x0 : Nat) (x1 : Nat) (I : MI) (L : ML) (R : MR) (I' : MI) (L' : ML) (h : F_X10_build N x0 x1 I L R = some (I', L')) : Cn l D cA ad bs X yX10_build cX10_build 3 none 3 69 [.ref (ad x0), .ref (ad x1)] I L R (none, I', L', R) := by
  refine Cn.ofV hAd hX [(0, .ref (ad x0)), (1, .ref (ad x1))] rfl (Nat.le_of_ble_eq_true rfl) (by decide) ?_
  intro G el eD ecA ead ebs eX erm eNL C0
  subst el eD ecA ead ebs eX
  have hsx := hs _ C0.2.2.2.2.2.2.2.2.2.2.2.1
  unfold F_X10_build at h
  obtain ⟨c_x0, h⟩ := ite_some h
  obtain ⟨c_x1, h⟩ := ite_some h
  refine V_aload_n C0 0 rfl rfl dX10_build_0 ?_
  refine V_aload_n C0 1 rfl rfl dX10_build_1 ?_
  obtain ⟨v1, q2, h⟩ := bn1_some h
  refine V_callV C0 (st := [.ref (G.ad x0)]) (As := []) 0 (c_X0_size G.l G.D G.cA G.ad G.bs G.X C0.2.2.2.2.2.2.2.2.2.1 C0.2.2.2.2.2.2.2.2.2.2.2.2 x1 I L R v1 q2) lc_X0_size lk_X10_60 c_x1.2 c_x1.1 ⟨_, rfl, rfl⟩ rfl (by rw [erm]; decide) (Nat.le_of_ble_eq_true rfl) dX10_build_2 ?_
  show V G _ 5 [(0, .ref (G.ad x0)), (1, .ref (G.ad x1))] [.int v1, .ref (G.ad x0)] I L R
  obtain ⟨I3, eI3, h⟩ := wr_some h
  refine V_putI C0 9 3 fp_X10_26 c_x0.2 c_x0.1 rfl dX10_build_5 ?_
  rw [← eI3]
  refine V_aload_n C0 0 rfl rfl dX10_build_8 ?_
  refine V_iconst C0 (v := (0 : Int32)) (by decide) dX10_build_9 ?_
  obtain ⟨I4, eI4, h⟩ := wr_some h
  refine V_putI C0 9 4 fp_X10_45 c_x0.2 c_x0.1 rfl dX10_build_10 ?_
  rw [← eI4]
  refine V_aload_n C0 0 rfl rfl dX10_build_13 ?_
  refine V_iconst C0 (v := (0 : Int32)) (by decide) dX10_build_14 ?_
  obtain ⟨I5, eI5, h⟩ := wr_some h
  refine V_putI C0 9 5 fp_X10_48 c_x0.2 c_x0.1 rfl dX10_build_15 ?_
  rw [← eI5]
  refine V_aload_n C0 0 rfl rfl dX10_build_18 ?_
  refine V_iconst C0 (v := (0 : Int32)) (by decide) dX10_build_19 ?_
  obtain ⟨I6, eI6, h⟩ := wr_some h
  refine V_putI C0 9 6 fp_X10_51 c_x0.2 c_x0.1 rfl dX10_build_20 ?_
  rw [← eI6]
  refine V_aload_n C0 0 rfl rfl dX10_build_23 ?_
  refine V_iconst C0 (v := (0 : Int32)) (by decide) dX10_build_24 ?_
  obtain ⟨I7, eI7, h⟩ := wr_some h
  refine V_putI C0 9 7 fp_X10_54 c_x0.2 c_x0.1 rfl dX10_build_25 ?_
  rw [← eI7]
  refine V_aload_n C0 0 rfl rfl dX10_build_28 ?_
  refine V_iconst C0 (v := (0 : Int32)) (by decide) dX10_build_29 ?_
  obtain ⟨I8, eI8, h⟩ := wr_some h
  refine V_putI C0 9 8 fp_X10_57 c_x0.2 c_x0.1 rfl dX10_build_30 ?_
  rw [← eI8]
  refine V_iconst C0 (v := (0 : Int32)) (by decide) dX10_build_33 ?_
  refine V_istore_n C0 [(2, .int (0 : Int32)), (0, .ref (G.ad x0)), (1, .ref (G.ad x1))] rfl (by rw [eNL]; decide) rfl dX10_build_34 ?_
  obtain ⟨z22, q23, h⟩ := bn1_some h
  refine V_sub [1, 2, 0] rfl (lp_X10_build_35 C0 eNL erm hs N N x0 x1 (0 : Int32) I8 L R _ c_x0.1 c_x0.2 c_x1.1 c_x1.2 q23 _ ?_)
  show V G _ 69 [(0, .ref (G.ad x0))] [] z22.1 z22.2 R
  refine V_iconst C0 (v := (0 : Int32)) (by decide) dX10_build_69 ?_
  refine V_istore_n C0 [(2, .int (0 : Int32)), (0, .ref (G.ad x0))] rfl (by rw [eNL]; decide) rfl dX10_build_70 ?_
  obtain ⟨z31, q32, h⟩ := bn1_some h
  refine V_sub [1, 0] rfl (lp_X10_build_71 C0 eNL erm hs N N x0 (0 : Int32) z22.1 z22.2 R _ c_x0.1 c_x0.2 q32 _ ?_)
  show V G _ 94 [] [] z31 z22.2 R
  cases h
  exact V_vret C0 dX10_build_94
