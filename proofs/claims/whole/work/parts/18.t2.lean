theorem dX12_slow_0 : decode cX12_slow 0 = .ok (.aload_n 0, 1) := by decide +kernel
theorem dX12_slow_1 : decode cX12_slow 1 = .ok (.iload_n 1, 1) := by decide +kernel
theorem dX12_slow_2 : decode cX12_slow 2 = .ok (.bipush 44, 2) := by decide +kernel
theorem dX12_slow_4 : decode cX12_slow 4 = .ok (.invokevirtual 211, 3) := by decide +kernel
theorem dX12_slow_7 : decode cX12_slow 7 = .ok (.istore_n 3, 1) := by decide +kernel
theorem dX12_slow_8 : decode cX12_slow 8 = .ok (.iconst 4, 1) := by decide +kernel
theorem dX12_slow_9 : decode cX12_slow 9 = .ok (.iload_n 3, 1) := by decide +kernel
theorem dX12_slow_10 : decode cX12_slow 10 = .ok (.invokestatic 384, 3) := by decide +kernel
theorem dX12_slow_13 : decode cX12_slow 13 = .ok (.imul, 1) := by decide +kernel
theorem dX12_slow_14 : decode cX12_slow 14 = .ok (.aload_n 0, 1) := by decide +kernel
theorem dX12_slow_15 : decode cX12_slow 15 = .ok (.iload_n 1, 1) := by decide +kernel
theorem dX12_slow_16 : decode cX12_slow 16 = .ok (.bipush 43, 2) := by decide +kernel
theorem dX12_slow_18 : decode cX12_slow 18 = .ok (.invokevirtual 211, 3) := by decide +kernel
theorem dX12_slow_21 : decode cX12_slow 21 = .ok (.if_icmp .gt 4, 3) := by decide +kernel
theorem dX12_slow_24 : decode cX12_slow 24 = .ok (.return_, 1) := by decide +kernel
theorem dX12_slow_25 : decode cX12_slow 25 = .ok (.aload_n 0, 1) := by decide +kernel
theorem dX12_slow_26 : decode cX12_slow 26 = .ok (.iload_n 2, 1) := by decide +kernel
theorem dX12_slow_27 : decode cX12_slow 27 = .ok (.invokevirtual 408, 3) := by decide +kernel
theorem dX12_slow_30 : decode cX12_slow 30 = .ok (.istore 4, 2) := by decide +kernel
theorem dX12_slow_32 : decode cX12_slow 32 = .ok (.iload 4, 2) := by decide +kernel
theorem dX12_slow_34 : decode cX12_slow 34 = .ok (.iconst (-1), 1) := by decide +kernel
theorem dX12_slow_35 : decode cX12_slow 35 = .ok (.if_icmp .ne 4, 3) := by decide +kernel
theorem dX12_slow_38 : decode cX12_slow 38 = .ok (.return_, 1) := by decide +kernel
theorem dX12_slow_39 : decode cX12_slow 39 = .ok (.aload_n 0, 1) := by decide +kernel
theorem dX12_slow_40 : decode cX12_slow 40 = .ok (.iload 4, 2) := by decide +kernel
theorem dX12_slow_42 : decode cX12_slow 42 = .ok (.bipush 42, 2) := by decide +kernel
theorem dX12_slow_44 : decode cX12_slow 44 = .ok (.invokevirtual 211, 3) := by decide +kernel
theorem dX12_slow_47 : decode cX12_slow 47 = .ok (.iconst 0, 1) := by decide +kernel
theorem dX12_slow_48 : decode cX12_slow 48 = .ok (.iload_n 3, 1) := by decide +kernel
theorem dX12_slow_49 : decode cX12_slow 49 = .ok (.invokestatic 384, 3) := by decide +kernel
theorem dX12_slow_52 : decode cX12_slow 52 = .ok (.invokestatic 402, 3) := by decide +kernel
theorem dX12_slow_55 : decode cX12_slow 55 = .ok (.istore 5, 2) := by decide +kernel
theorem dX12_slow_57 : decode cX12_slow 57 = .ok (.aload_n 0, 1) := by decide +kernel
theorem dX12_slow_58 : decode cX12_slow 58 = .ok (.iload_n 1, 1) := by decide +kernel
theorem dX12_slow_59 : decode cX12_slow 59 = .ok (.bipush 44, 2) := by decide +kernel
theorem dX12_slow_61 : decode cX12_slow 61 = .ok (.iload_n 3, 1) := by decide +kernel
theorem dX12_slow_62 : decode cX12_slow 62 = .ok (.ifCond .ge 10, 3) := by decide +kernel
theorem dX12_slow_65 : decode cX12_slow 65 = .ok (.iload_n 3, 1) := by decide +kernel
theorem dX12_slow_66 : decode cX12_slow 66 = .ok (.iload 5, 2) := by decide +kernel
theorem dX12_slow_68 : decode cX12_slow 68 = .ok (.iadd, 1) := by decide +kernel
theorem dX12_slow_69 : decode cX12_slow 69 = .ok (.goto 7, 3) := by decide +kernel
theorem dX12_slow_72 : decode cX12_slow 72 = .ok (.iload_n 3, 1) := by decide +kernel
theorem dX12_slow_73 : decode cX12_slow 73 = .ok (.iload 5, 2) := by decide +kernel
theorem dX12_slow_75 : decode cX12_slow 75 = .ok (.isub, 1) := by decide +kernel
theorem dX12_slow_76 : decode cX12_slow 76 = .ok (.invokevirtual 246, 3) := by decide +kernel
theorem dX12_slow_79 : decode cX12_slow 79 = .ok (.aload_n 0, 1) := by decide +kernel
theorem dX12_slow_80 : decode cX12_slow 80 = .ok (.aload_n 0, 1) := by decide +kernel
theorem dX12_slow_81 : decode cX12_slow 81 = .ok (.iload 4, 2) := by decide +kernel
theorem dX12_slow_83 : decode cX12_slow 83 = .ok (.bipush 27, 2) := by decide +kernel
theorem dX12_slow_85 : decode cX12_slow 85 = .ok (.invokevirtual 211, 3) := by decide +kernel
theorem dX12_slow_88 : decode cX12_slow 88 = .ok (.bipush 10, 2) := by decide +kernel
theorem dX12_slow_90 : decode cX12_slow 90 = .ok (.aload_n 0, 1) := by decide +kernel
theorem dX12_slow_91 : decode cX12_slow 91 = .ok (.iload 4, 2) := by decide +kernel
theorem dX12_slow_93 : decode cX12_slow 93 = .ok (.bipush 47, 2) := by decide +kernel
theorem dX12_slow_95 : decode cX12_slow 95 = .ok (.invokevirtual 211, 3) := by decide +kernel
theorem dX12_slow_98 : decode cX12_slow 98 = .ok (.ineg, 1) := by decide +kernel
theorem dX12_slow_99 : decode cX12_slow 99 = .ok (.invokevirtual 259, 3) := by decide +kernel
theorem dX12_slow_102 : decode cX12_slow 102 = .ok (.aload_n 0, 1) := by decide +kernel
theorem dX12_slow_103 : decode cX12_slow 103 = .ok (.iload 4, 2) := by decide +kernel
theorem dX12_slow_105 : decode cX12_slow 105 = .ok (.bipush 40, 2) := by decide +kernel
theorem dX12_slow_107 : decode cX12_slow 107 = .ok (.iconst 1, 1) := by decide +kernel
theorem dX12_slow_108 : decode cX12_slow 108 = .ok (.invokevirtual 259, 3) := by decide +kernel
theorem dX12_slow_111 : decode cX12_slow 111 = .ok (.return_, 1) := by decide +kernel
def F_X12_slow (N : Nat) (x0 : Nat) (x1 : Int32) (x2 : Int32) (I : MI) (L : ML) (R : MR) : Option (MI) :=
  if kd x0 = 11 ∧ x0 < NN then
  bn1 (F_X12_get x0 x1 (44 : Int32) I L R) fun v1 =>
  bn1 (F_X12_amount v1 I L R) fun v3 =>
  bn1 (F_X12_get x0 x1 (43 : Int32) I L R) fun v5 =>
  if v5 < ((4 : Int32) * v3) then
    bn1 (F_X12_firstJet N x0 x2 I L R) fun v8 =>
    if v8 = (-1 : Int32) then
      some (I)
    else
      bn1 (F_X12_get x0 v8 (42 : Int32) I L R) fun v11 =>
      bn1 (F_X12_amount v1 I L R) fun v13 =>
      bn1 (F_X12_limit v11 (0 : Int32) v13 I L R) fun v15 =>
      bn1 (
        if 0 ≤ v1 then
          some ((v1 - v15))
        else
          some ((v1 + v15))
      ) fun (s17 : Int32) =>
      bn1 (F_X12_set x0 x1 (44 : Int32) s17 I L R) fun I21 =>
      bn1 (F_X12_get x0 v8 (27 : Int32) I21 L R) fun v23 =>
      bn1 (F_X12_get x0 v8 (47 : Int32) I21 L R) fun v25 =>
      bn1 (F_X12_grow x0 v23 (10 : Int32) (-v25) I21 L R) fun I27 =>
      bn1 (F_X12_grow x0 v8 (40 : Int32) (1 : Int32) I27 L R) fun I29 =>
      some (I29)
  else
    some (I)
  else none
set_option maxRecDepth 100000 in
set_option maxHeartbeats 4000000 in
theorem c_X12_slow (l : Launch) (D : va_G) (cA : Nat → ClassId) (ad : Nat → Nat) (bs : Nat) (X : State → Prop) (hAd : Ax ad bs) (hX : Stb bs X) (N : Nat) (x0 : Nat) (x1 : Int32) (x2 : Int32) (I : MI) (L : ML) (R : MR) (I' : MI) (h : F_X12_slow N x0 x1 x2 I L R = some (I')) : Cn l D cA ad bs X yX12_slow cX12_slow 6 none 5 113 [.ref (ad x0), .int x1, .int x2] I L R (none, I', L, R) := by
  refine Cn.ofV hAd hX [(0, .ref (ad x0)), (1, .int x1), (2, .int x2)] rfl (Nat.le_of_ble_eq_true rfl) (by decide) ?_
  intro G el eD ecA ead ebs eX erm eNL C0
  subst el eD ecA ead ebs eX
  unfold F_X12_slow at h
  obtain ⟨c_x0, h⟩ := ite_some h
  refine V_aload_n C0 0 rfl rfl dX12_slow_0 ?_
  refine V_iload_n C0 1 rfl rfl dX12_slow_1 ?_
  refine V_bipush C0 (v := (44 : Int32)) (by decide) dX12_slow_2 ?_
  obtain ⟨v1, q2, h⟩ := bn1_some h
  refine V_callV C0 (st := []) (As := [.int x1, .int (44 : Int32)]) 11 (c_X12_get G.l G.D G.cA G.ad G.bs G.X C0.2.2.2.2.2.2.2.2.2.1 C0.2.2.2.2.2.2.2.2.2.2.2.2 x0 x1 (44 : Int32) I L R v1 q2) lc_X12_get lk_X12_211 c_x0.2 c_x0.1 ⟨_, rfl, rfl⟩ rfl (by rw [erm]; decide) (Nat.le_of_ble_eq_true rfl) dX12_slow_4 ?_
  show V G _ 7 [(0, .ref (G.ad x0)), (1, .int x1), (2, .int x2)] [.int v1] I L R
  refine V_istore_n C0 [(3, .int v1), (0, .ref (G.ad x0)), (1, .int x1), (2, .int x2)] rfl (by rw [eNL]; decide) rfl dX12_slow_7 ?_
  refine V_iconst C0 (v := (4 : Int32)) (by decide) dX12_slow_8 ?_
  refine V_iload_n C0 0 rfl rfl dX12_slow_9 ?_
  obtain ⟨v3, q4, h⟩ := bn1_some h
  refine V_callS C0 (st := [.int (4 : Int32)]) (As := [.int v1]) (c_X12_amount G.l G.D G.cA G.ad G.bs G.X C0.2.2.2.2.2.2.2.2.2.1 C0.2.2.2.2.2.2.2.2.2.2.2.2 v1 I L R v3 q4) lc_X12_amount lk_X12_384 rfl (by rw [erm]; decide) (Nat.le_of_ble_eq_true rfl) dX12_slow_10 ?_
  show V G _ 13 [(3, .int v1), (0, .ref (G.ad x0)), (1, .int x1), (2, .int x2)] [.int v3, .int (4 : Int32)] I L R
  refine V_imul C0 dX12_slow_13 ?_
  refine V_aload_n C0 1 rfl rfl dX12_slow_14 ?_
  refine V_iload_n C0 2 rfl rfl dX12_slow_15 ?_
  refine V_bipush C0 (v := (43 : Int32)) (by decide) dX12_slow_16 ?_
  obtain ⟨v5, q6, h⟩ := bn1_some h
  refine V_callV C0 (st := [.int ((4 : Int32) * v3)]) (As := [.int x1, .int (43 : Int32)]) 11 (c_X12_get G.l G.D G.cA G.ad G.bs G.X C0.2.2.2.2.2.2.2.2.2.1 C0.2.2.2.2.2.2.2.2.2.2.2.2 x0 x1 (43 : Int32) I L R v5 q6) lc_X12_get lk_X12_211 c_x0.2 c_x0.1 ⟨_, rfl, rfl⟩ rfl (by rw [erm]; decide) (Nat.le_of_ble_eq_true rfl) dX12_slow_18 ?_
  show V G _ 21 [(3, .int v1), (0, .ref (G.ad x0)), (1, .int x1), (2, .int x2)] [.int v5, .int ((4 : Int32) * v3)] I L R
  refine V_icmp_gt C0 (tgt := 25) (by decide) dX12_slow_21 (fun c7 => ?_) (fun c7 => ?_)
  · have h := (if_pos c7).symm.trans h
    refine V_aload_n C0 1 rfl rfl dX12_slow_25 ?_
    refine V_iload_n C0 3 rfl rfl dX12_slow_26 ?_
    obtain ⟨v8, q9, h⟩ := bn1_some h
    refine V_callV C0 (st := []) (As := [.int x2]) 11 (c_X12_firstJet G.l G.D G.cA G.ad G.bs G.X C0.2.2.2.2.2.2.2.2.2.1 C0.2.2.2.2.2.2.2.2.2.2.2.2 N x0 x2 I L R v8 q9) lc_X12_firstJet lk_X12_408 c_x0.2 c_x0.1 ⟨_, rfl, rfl⟩ rfl (by rw [erm]; decide) (Nat.le_of_ble_eq_true rfl) dX12_slow_27 ?_
    show V G _ 30 [(3, .int v1), (0, .ref (G.ad x0)), (1, .int x1), (2, .int x2)] [.int v8] I L R
    refine V_istore C0 [(4, .int v8), (3, .int v1), (0, .ref (G.ad x0)), (1, .int x1), (2, .int x2)] (by rw [eNL]; decide) rfl dX12_slow_30 ?_
    refine V_iload C0 0 rfl dX12_slow_32 ?_
    refine V_iconst C0 (v := (-1 : Int32)) (by decide) dX12_slow_34 ?_
    refine V_icmp_ne C0 (tgt := 39) (by decide) dX12_slow_35 (fun c10 => ?_) (fun c10 => ?_)
    · have h := (if_neg c10).symm.trans h
      refine V_aload_n C0 2 rfl rfl dX12_slow_39 ?_
      refine V_iload C0 0 rfl dX12_slow_40 ?_
      refine V_bipush C0 (v := (42 : Int32)) (by decide) dX12_slow_42 ?_
      obtain ⟨v11, q12, h⟩ := bn1_some h
      refine V_callV C0 (st := []) (As := [.int v8, .int (42 : Int32)]) 11 (c_X12_get G.l G.D G.cA G.ad G.bs G.X C0.2.2.2.2.2.2.2.2.2.1 C0.2.2.2.2.2.2.2.2.2.2.2.2 x0 v8 (42 : Int32) I L R v11 q12) lc_X12_get lk_X12_211 c_x0.2 c_x0.1 ⟨_, rfl, rfl⟩ rfl (by rw [erm]; decide) (Nat.le_of_ble_eq_true rfl) dX12_slow_44 ?_
      show V G _ 47 [(4, .int v8), (3, .int v1), (0, .ref (G.ad x0)), (1, .int x1), (2, .int x2)] [.int v11] I L R
      refine V_iconst C0 (v := (0 : Int32)) (by decide) dX12_slow_47 ?_
      refine V_iload_n C0 1 rfl rfl dX12_slow_48 ?_
      obtain ⟨v13, q14, h⟩ := bn1_some h
      refine V_callS C0 (st := [.int (0 : Int32), .int v11]) (As := [.int v1]) (c_X12_amount G.l G.D G.cA G.ad G.bs G.X C0.2.2.2.2.2.2.2.2.2.1 C0.2.2.2.2.2.2.2.2.2.2.2.2 v1 I L R v13 q14) lc_X12_amount lk_X12_384 rfl (by rw [erm]; decide) (Nat.le_of_ble_eq_true rfl) dX12_slow_49 ?_
      show V G _ 52 [(4, .int v8), (3, .int v1), (0, .ref (G.ad x0)), (1, .int x1), (2, .int x2)] [.int v13, .int (0 : Int32), .int v11] I L R
      obtain ⟨v15, q16, h⟩ := bn1_some h
      refine V_callS C0 (st := []) (As := [.int v11, .int (0 : Int32), .int v13]) (c_X12_limit G.l G.D G.cA G.ad G.bs G.X C0.2.2.2.2.2.2.2.2.2.1 C0.2.2.2.2.2.2.2.2.2.2.2.2 v11 (0 : Int32) v13 I L R v15 q16) lc_X12_limit lk_X12_402 rfl (by rw [erm]; decide) (Nat.le_of_ble_eq_true rfl) dX12_slow_52 ?_
      show V G _ 55 [(4, .int v8), (3, .int v1), (0, .ref (G.ad x0)), (1, .int x1), (2, .int x2)] [.int v15] I L R
      refine V_istore C0 [(5, .int v15), (4, .int v8), (3, .int v1), (0, .ref (G.ad x0)), (1, .int x1), (2, .int x2)] (by rw [eNL]; decide) rfl dX12_slow_55 ?_
      refine V_aload_n C0 3 rfl rfl dX12_slow_57 ?_
      refine V_iload_n C0 4 rfl rfl dX12_slow_58 ?_
      refine V_bipush C0 (v := (44 : Int32)) (by decide) dX12_slow_59 ?_
      refine V_iload_n C0 2 rfl rfl dX12_slow_61 ?_
      obtain ⟨s17, q18, h⟩ := bn1_some h
      have k19 : V G (qf G (none, I', L, R)) 76 [(0, .ref (G.ad x0)), (4, .int v8)] [.int s17, .int (44 : Int32), .int x1, .ref (G.ad x0)] I L R := by
        obtain ⟨I21, q22, h⟩ := bn1_some h
        refine V_callV C0 (st := []) (As := [.int x1, .int (44 : Int32), .int s17]) 11 (c_X12_set G.l G.D G.cA G.ad G.bs G.X C0.2.2.2.2.2.2.2.2.2.1 C0.2.2.2.2.2.2.2.2.2.2.2.2 x0 x1 (44 : Int32) s17 I L R I21 q22) lc_X12_set lk_X12_246 c_x0.2 c_x0.1 ⟨_, rfl, rfl⟩ rfl (by rw [erm]; decide) (Nat.le_of_ble_eq_true rfl) dX12_slow_76 ?_
        show V G _ 79 [(0, .ref (G.ad x0)), (4, .int v8)] [] I21 L R
        refine V_aload_n C0 0 rfl rfl dX12_slow_79 ?_
        refine V_aload_n C0 0 rfl rfl dX12_slow_80 ?_
        refine V_iload C0 1 rfl dX12_slow_81 ?_
        refine V_bipush C0 (v := (27 : Int32)) (by decide) dX12_slow_83 ?_
        obtain ⟨v23, q24, h⟩ := bn1_some h
        refine V_callV C0 (st := [.ref (G.ad x0)]) (As := [.int v8, .int (27 : Int32)]) 11 (c_X12_get G.l G.D G.cA G.ad G.bs G.X C0.2.2.2.2.2.2.2.2.2.1 C0.2.2.2.2.2.2.2.2.2.2.2.2 x0 v8 (27 : Int32) I21 L R v23 q24) lc_X12_get lk_X12_211 c_x0.2 c_x0.1 ⟨_, rfl, rfl⟩ rfl (by rw [erm]; decide) (Nat.le_of_ble_eq_true rfl) dX12_slow_85 ?_
        show V G _ 88 [(0, .ref (G.ad x0)), (4, .int v8)] [.int v23, .ref (G.ad x0)] I21 L R
        refine V_bipush C0 (v := (10 : Int32)) (by decide) dX12_slow_88 ?_
        refine V_aload_n C0 0 rfl rfl dX12_slow_90 ?_
        refine V_iload C0 1 rfl dX12_slow_91 ?_
        refine V_bipush C0 (v := (47 : Int32)) (by decide) dX12_slow_93 ?_
        obtain ⟨v25, q26, h⟩ := bn1_some h
        refine V_callV C0 (st := [.int (10 : Int32), .int v23, .ref (G.ad x0)]) (As := [.int v8, .int (47 : Int32)]) 11 (c_X12_get G.l G.D G.cA G.ad G.bs G.X C0.2.2.2.2.2.2.2.2.2.1 C0.2.2.2.2.2.2.2.2.2.2.2.2 x0 v8 (47 : Int32) I21 L R v25 q26) lc_X12_get lk_X12_211 c_x0.2 c_x0.1 ⟨_, rfl, rfl⟩ rfl (by rw [erm]; decide) (Nat.le_of_ble_eq_true rfl) dX12_slow_95 ?_
        show V G _ 98 [(0, .ref (G.ad x0)), (4, .int v8)] [.int v25, .int (10 : Int32), .int v23, .ref (G.ad x0)] I21 L R
        refine V_ineg C0 dX12_slow_98 ?_
        obtain ⟨I27, q28, h⟩ := bn1_some h
        refine V_callV C0 (st := []) (As := [.int v23, .int (10 : Int32), .int (-v25)]) 11 (c_X12_grow G.l G.D G.cA G.ad G.bs G.X C0.2.2.2.2.2.2.2.2.2.1 C0.2.2.2.2.2.2.2.2.2.2.2.2 x0 v23 (10 : Int32) (-v25) I21 L R I27 q28) lc_X12_grow lk_X12_259 c_x0.2 c_x0.1 ⟨_, rfl, rfl⟩ rfl (by rw [erm]; decide) (Nat.le_of_ble_eq_true rfl) dX12_slow_99 ?_
        show V G _ 102 [(0, .ref (G.ad x0)), (4, .int v8)] [] I27 L R
        refine V_aload_n C0 0 rfl rfl dX12_slow_102 ?_
        refine V_iload C0 1 rfl dX12_slow_103 ?_
        refine V_bipush C0 (v := (40 : Int32)) (by decide) dX12_slow_105 ?_
        refine V_iconst C0 (v := (1 : Int32)) (by decide) dX12_slow_107 ?_
        obtain ⟨I29, q30, h⟩ := bn1_some h
        refine V_callV C0 (st := []) (As := [.int v8, .int (40 : Int32), .int (1 : Int32)]) 11 (c_X12_grow G.l G.D G.cA G.ad G.bs G.X C0.2.2.2.2.2.2.2.2.2.1 C0.2.2.2.2.2.2.2.2.2.2.2.2 x0 v8 (40 : Int32) (1 : Int32) I27 L R I29 q30) lc_X12_grow lk_X12_259 c_x0.2 c_x0.1 ⟨_, rfl, rfl⟩ rfl (by rw [erm]; decide) (Nat.le_of_ble_eq_true rfl) dX12_slow_108 ?_
        show V G _ 111 [(0, .ref (G.ad x0)), (4, .int v8)] [] I29 L R
        cases h
        exact V_vret C0 dX12_slow_111
      refine V_if_ge C0 (tgt := 72) (by decide) dX12_slow_62 (fun c20 => ?_) (fun c20 => ?_)
      · have q18 := (if_pos c20).symm.trans q18
        refine V_iload_n C0 2 rfl rfl dX12_slow_72 ?_
        refine V_iload C0 0 rfl dX12_slow_73 ?_
        refine V_isub C0 dX12_slow_75 ?_
        cases q18
        exact V_sub [3, 1] rfl k19
      · have q18 := (if_neg c20).symm.trans q18
        refine V_iload_n C0 2 rfl rfl dX12_slow_65 ?_
        refine V_iload C0 0 rfl dX12_slow_66 ?_
        refine V_iadd C0 dX12_slow_68 ?_
        refine V_goto C0 (tgt := 76) (by decide) dX12_slow_69 ?_
        cases q18
        exact V_sub [3, 1] rfl k19
    · have h := (if_pos c10).symm.trans h
      cases h
      exact V_vret C0 dX12_slow_38
  · have h := (if_neg c7).symm.trans h
    cases h
    exact V_vret C0 dX12_slow_24
theorem dX12_steer_0 : decode cX12_steer 0 = .ok (.aload_n 0, 1) := by decide +kernel
theorem dX12_steer_1 : decode cX12_steer 1 = .ok (.iload_n 1, 1) := by decide +kernel
theorem dX12_steer_2 : decode cX12_steer 2 = .ok (.invokevirtual 411, 3) := by decide +kernel
theorem dX12_steer_5 : decode cX12_steer 5 = .ok (.istore_n 2, 1) := by decide +kernel
theorem dX12_steer_6 : decode cX12_steer 6 = .ok (.iconst 0, 1) := by decide +kernel
theorem dX12_steer_7 : decode cX12_steer 7 = .ok (.istore_n 3, 1) := by decide +kernel
theorem dX12_steer_8 : decode cX12_steer 8 = .ok (.iload_n 3, 1) := by decide +kernel
theorem dX12_steer_9 : decode cX12_steer 9 = .ok (.aload_n 0, 1) := by decide +kernel
theorem dX12_steer_10 : decode cX12_steer 10 = .ok (.getfield 297, 3) := by decide +kernel
theorem dX12_steer_13 : decode cX12_steer 13 = .ok (.if_icmp .ge 101, 3) := by decide +kernel
theorem dX12_steer_16 : decode cX12_steer 16 = .ok (.aload_n 0, 1) := by decide +kernel
theorem dX12_steer_17 : decode cX12_steer 17 = .ok (.iload_n 3, 1) := by decide +kernel
theorem dX12_steer_18 : decode cX12_steer 18 = .ok (.bipush 16, 2) := by decide +kernel
theorem dX12_steer_20 : decode cX12_steer 20 = .ok (.iload_n 1, 1) := by decide +kernel
theorem dX12_steer_21 : decode cX12_steer 21 = .ok (.invokevirtual 405, 3) := by decide +kernel
theorem dX12_steer_24 : decode cX12_steer 24 = .ok (.ifCond .ne 6, 3) := by decide +kernel
theorem dX12_steer_27 : decode cX12_steer 27 = .ok (.goto 81, 3) := by decide +kernel
theorem dX12_steer_30 : decode cX12_steer 30 = .ok (.aload_n 0, 1) := by decide +kernel
theorem dX12_steer_31 : decode cX12_steer 31 = .ok (.iload_n 3, 1) := by decide +kernel
theorem dX12_steer_32 : decode cX12_steer 32 = .ok (.bipush 42, 2) := by decide +kernel
theorem dX12_steer_34 : decode cX12_steer 34 = .ok (.invokevirtual 211, 3) := by decide +kernel
theorem dX12_steer_37 : decode cX12_steer 37 = .ok (.istore 4, 2) := by decide +kernel
theorem dX12_steer_39 : decode cX12_steer 39 = .ok (.aload_n 0, 1) := by decide +kernel
theorem dX12_steer_40 : decode cX12_steer 40 = .ok (.iload_n 3, 1) := by decide +kernel
theorem dX12_steer_41 : decode cX12_steer 41 = .ok (.bipush 43, 2) := by decide +kernel
theorem dX12_steer_43 : decode cX12_steer 43 = .ok (.invokevirtual 211, 3) := by decide +kernel
theorem dX12_steer_46 : decode cX12_steer 46 = .ok (.istore 5, 2) := by decide +kernel
theorem dX12_steer_48 : decode cX12_steer 48 = .ok (.aload_n 0, 1) := by decide +kernel
theorem dX12_steer_49 : decode cX12_steer 49 = .ok (.iload_n 3, 1) := by decide +kernel
theorem dX12_steer_50 : decode cX12_steer 50 = .ok (.bipush 44, 2) := by decide +kernel
theorem dX12_steer_52 : decode cX12_steer 52 = .ok (.invokevirtual 211, 3) := by decide +kernel
theorem dX12_steer_55 : decode cX12_steer 55 = .ok (.iload_n 2, 1) := by decide +kernel
theorem dX12_steer_56 : decode cX12_steer 56 = .ok (.iload 4, 2) := by decide +kernel
theorem dX12_steer_58 : decode cX12_steer 58 = .ok (.ineg, 1) := by decide +kernel
theorem dX12_steer_59 : decode cX12_steer 59 = .ok (.iload 4, 2) := by decide +kernel
theorem dX12_steer_61 : decode cX12_steer 61 = .ok (.invokestatic 402, 3) := by decide +kernel
theorem dX12_steer_64 : decode cX12_steer 64 = .ok (.iadd, 1) := by decide +kernel
theorem dX12_steer_65 : decode cX12_steer 65 = .ok (.iload 5, 2) := by decide +kernel
theorem dX12_steer_67 : decode cX12_steer 67 = .ok (.ineg, 1) := by decide +kernel
theorem dX12_steer_68 : decode cX12_steer 68 = .ok (.iload 5, 2) := by decide +kernel
theorem dX12_steer_70 : decode cX12_steer 70 = .ok (.invokestatic 402, 3) := by decide +kernel
theorem dX12_steer_73 : decode cX12_steer 73 = .ok (.aload_n 0, 1) := by decide +kernel
theorem dX12_steer_74 : decode cX12_steer 74 = .ok (.iload_n 3, 1) := by decide +kernel
theorem dX12_steer_75 : decode cX12_steer 75 = .ok (.bipush 44, 2) := by decide +kernel
theorem dX12_steer_77 : decode cX12_steer 77 = .ok (.invokevirtual 211, 3) := by decide +kernel
theorem dX12_steer_80 : decode cX12_steer 80 = .ok (.isub, 1) := by decide +kernel
theorem dX12_steer_81 : decode cX12_steer 81 = .ok (.istore 6, 2) := by decide +kernel
theorem dX12_steer_83 : decode cX12_steer 83 = .ok (.aload_n 0, 1) := by decide +kernel
theorem dX12_steer_84 : decode cX12_steer 84 = .ok (.iload_n 3, 1) := by decide +kernel
theorem dX12_steer_85 : decode cX12_steer 85 = .ok (.bipush 44, 2) := by decide +kernel
theorem dX12_steer_87 : decode cX12_steer 87 = .ok (.iload 6, 2) := by decide +kernel
theorem dX12_steer_89 : decode cX12_steer 89 = .ok (.invokevirtual 259, 3) := by decide +kernel
theorem dX12_steer_92 : decode cX12_steer 92 = .ok (.aload_n 0, 1) := by decide +kernel
theorem dX12_steer_93 : decode cX12_steer 93 = .ok (.getfield 71, 3) := by decide +kernel
theorem dX12_steer_96 : decode cX12_steer 96 = .ok (.iload_n 1, 1) := by decide +kernel
theorem dX12_steer_97 : decode cX12_steer 97 = .ok (.dup2, 1) := by decide +kernel
theorem dX12_steer_98 : decode cX12_steer 98 = .ok (.iaload, 1) := by decide +kernel
theorem dX12_steer_99 : decode cX12_steer 99 = .ok (.iload 6, 2) := by decide +kernel
theorem dX12_steer_101 : decode cX12_steer 101 = .ok (.iadd, 1) := by decide +kernel
theorem dX12_steer_102 : decode cX12_steer 102 = .ok (.iastore, 1) := by decide +kernel
theorem dX12_steer_103 : decode cX12_steer 103 = .ok (.iload_n 2, 1) := by decide +kernel
theorem dX12_steer_104 : decode cX12_steer 104 = .ok (.iload 6, 2) := by decide +kernel
theorem dX12_steer_106 : decode cX12_steer 106 = .ok (.isub, 1) := by decide +kernel
theorem dX12_steer_107 : decode cX12_steer 107 = .ok (.istore_n 2, 1) := by decide +kernel
theorem dX12_steer_108 : decode cX12_steer 108 = .ok (.iinc 3 1, 3) := by decide +kernel
theorem dX12_steer_111 : decode cX12_steer 111 = .ok (.goto (-103), 3) := by decide +kernel
theorem dX12_steer_114 : decode cX12_steer 114 = .ok (.iconst 0, 1) := by decide +kernel
theorem dX12_steer_115 : decode cX12_steer 115 = .ok (.istore_n 3, 1) := by decide +kernel
theorem dX12_steer_116 : decode cX12_steer 116 = .ok (.iload_n 3, 1) := by decide +kernel
theorem dX12_steer_117 : decode cX12_steer 117 = .ok (.aload_n 0, 1) := by decide +kernel
theorem dX12_steer_118 : decode cX12_steer 118 = .ok (.getfield 297, 3) := by decide +kernel
theorem dX12_steer_121 : decode cX12_steer 121 = .ok (.if_icmp .ge 71, 3) := by decide +kernel
theorem dX12_steer_124 : decode cX12_steer 124 = .ok (.aload_n 0, 1) := by decide +kernel
theorem dX12_steer_125 : decode cX12_steer 125 = .ok (.getfield 306, 3) := by decide +kernel
theorem dX12_steer_128 : decode cX12_steer 128 = .ok (.bipush 8, 2) := by decide +kernel
theorem dX12_steer_130 : decode cX12_steer 130 = .ok (.irem, 1) := by decide +kernel
theorem dX12_steer_131 : decode cX12_steer 131 = .ok (.ifCond .ne 61, 3) := by decide +kernel
theorem dX12_steer_134 : decode cX12_steer 134 = .ok (.aload_n 0, 1) := by decide +kernel
theorem dX12_steer_135 : decode cX12_steer 135 = .ok (.iload_n 3, 1) := by decide +kernel
theorem dX12_steer_136 : decode cX12_steer 136 = .ok (.bipush 17, 2) := by decide +kernel
theorem dX12_steer_138 : decode cX12_steer 138 = .ok (.iload_n 1, 1) := by decide +kernel
theorem dX12_steer_139 : decode cX12_steer 139 = .ok (.invokevirtual 405, 3) := by decide +kernel
theorem dX12_steer_142 : decode cX12_steer 142 = .ok (.ifCond .ne 6, 3) := by decide +kernel
theorem dX12_steer_145 : decode cX12_steer 145 = .ok (.goto 41, 3) := by decide +kernel
theorem dX12_steer_148 : decode cX12_steer 148 = .ok (.aload_n 0, 1) := by decide +kernel
theorem dX12_steer_149 : decode cX12_steer 149 = .ok (.iload_n 3, 1) := by decide +kernel
theorem dX12_steer_150 : decode cX12_steer 150 = .ok (.bipush 42, 2) := by decide +kernel
theorem dX12_steer_152 : decode cX12_steer 152 = .ok (.invokevirtual 211, 3) := by decide +kernel
theorem dX12_steer_155 : decode cX12_steer 155 = .ok (.ifCond .le 12, 3) := by decide +kernel
theorem dX12_steer_158 : decode cX12_steer 158 = .ok (.iload_n 2, 1) := by decide +kernel
theorem dX12_steer_159 : decode cX12_steer 159 = .ok (.iconst (-1), 1) := by decide +kernel
theorem dX12_steer_160 : decode cX12_steer 160 = .ok (.iconst 1, 1) := by decide +kernel
theorem dX12_steer_161 : decode cX12_steer 161 = .ok (.invokestatic 402, 3) := by decide +kernel
theorem dX12_steer_164 : decode cX12_steer 164 = .ok (.goto 4, 3) := by decide +kernel
theorem dX12_steer_167 : decode cX12_steer 167 = .ok (.iconst 0, 1) := by decide +kernel
theorem dX12_steer_168 : decode cX12_steer 168 = .ok (.istore 4, 2) := by decide +kernel
theorem dX12_steer_170 : decode cX12_steer 170 = .ok (.aload_n 0, 1) := by decide +kernel
theorem dX12_steer_171 : decode cX12_steer 171 = .ok (.getfield 71, 3) := by decide +kernel
theorem dX12_steer_174 : decode cX12_steer 174 = .ok (.iload_n 1, 1) := by decide +kernel
theorem dX12_steer_175 : decode cX12_steer 175 = .ok (.dup2, 1) := by decide +kernel
theorem dX12_steer_176 : decode cX12_steer 176 = .ok (.iaload, 1) := by decide +kernel
theorem dX12_steer_177 : decode cX12_steer 177 = .ok (.iload 4, 2) := by decide +kernel
theorem dX12_steer_179 : decode cX12_steer 179 = .ok (.iadd, 1) := by decide +kernel
theorem dX12_steer_180 : decode cX12_steer 180 = .ok (.iastore, 1) := by decide +kernel
theorem dX12_steer_181 : decode cX12_steer 181 = .ok (.iload_n 2, 1) := by decide +kernel
theorem dX12_steer_182 : decode cX12_steer 182 = .ok (.iload 4, 2) := by decide +kernel
theorem dX12_steer_184 : decode cX12_steer 184 = .ok (.isub, 1) := by decide +kernel
theorem dX12_steer_185 : decode cX12_steer 185 = .ok (.istore_n 2, 1) := by decide +kernel
theorem dX12_steer_186 : decode cX12_steer 186 = .ok (.iinc 3 1, 3) := by decide +kernel
theorem dX12_steer_189 : decode cX12_steer 189 = .ok (.goto (-73), 3) := by decide +kernel
theorem dX12_steer_192 : decode cX12_steer 192 = .ok (.iconst 0, 1) := by decide +kernel
theorem dX12_steer_193 : decode cX12_steer 193 = .ok (.istore_n 3, 1) := by decide +kernel
theorem dX12_steer_194 : decode cX12_steer 194 = .ok (.iload_n 3, 1) := by decide +kernel
theorem dX12_steer_195 : decode cX12_steer 195 = .ok (.aload_n 0, 1) := by decide +kernel
theorem dX12_steer_196 : decode cX12_steer 196 = .ok (.getfield 297, 3) := by decide +kernel
theorem dX12_steer_199 : decode cX12_steer 199 = .ok (.if_icmp .ge 26, 3) := by decide +kernel
theorem dX12_steer_202 : decode cX12_steer 202 = .ok (.aload_n 0, 1) := by decide +kernel
theorem dX12_steer_203 : decode cX12_steer 203 = .ok (.iload_n 3, 1) := by decide +kernel
theorem dX12_steer_204 : decode cX12_steer 204 = .ok (.bipush 16, 2) := by decide +kernel
theorem dX12_steer_206 : decode cX12_steer 206 = .ok (.iload_n 1, 1) := by decide +kernel
theorem dX12_steer_207 : decode cX12_steer 207 = .ok (.invokevirtual 405, 3) := by decide +kernel
theorem dX12_steer_210 : decode cX12_steer 210 = .ok (.ifCond .eq 9, 3) := by decide +kernel
theorem dX12_steer_213 : decode cX12_steer 213 = .ok (.aload_n 0, 1) := by decide +kernel
theorem dX12_steer_214 : decode cX12_steer 214 = .ok (.iload_n 3, 1) := by decide +kernel
theorem dX12_steer_215 : decode cX12_steer 215 = .ok (.iload_n 1, 1) := by decide +kernel
theorem dX12_steer_216 : decode cX12_steer 216 = .ok (.invokevirtual 414, 3) := by decide +kernel
theorem dX12_steer_219 : decode cX12_steer 219 = .ok (.iinc 3 1, 3) := by decide +kernel
theorem dX12_steer_222 : decode cX12_steer 222 = .ok (.goto (-28), 3) := by decide +kernel
theorem dX12_steer_225 : decode cX12_steer 225 = .ok (.return_, 1) := by decide +kernel
def LF_X12_steer_8 (N : Nat) : Nat → Nat → Int32 → Int32 → Int32 → MI → ML → MR → Option (Int32 × MI)
  | 0, _, _, _, _, _, _, _ => none
  | k + 1, y0, y1, y2, y3, I, L, R =>
    if (I y0 21) ≤ y3 then
      some (y2, I)
    else
      bn1 (F_X12_turns N y0 y3 (16 : Int32) y1 I L R) fun b4 =>
      bn2 (
        if (b2i b4) = 0 then
          some (y2, I)
        else
          bn1 (F_X12_get y0 y3 (42 : Int32) I L R) fun v11 =>
          bn1 (F_X12_get y0 y3 (43 : Int32) I L R) fun v13 =>
          bn1 (F_X12_get y0 y3 (44 : Int32) I L R) fun v15 =>
          bn1 (F_X12_limit y2 (-v11) v11 I L R) fun v17 =>
          bn1 (F_X12_limit (v15 + v17) (-v13) v13 I L R) fun v19 =>
          bn1 (F_X12_get y0 y3 (44 : Int32) I L R) fun v21 =>
          wr (v19 - v21) fun (u23 : Int32) =>
          bn1 (F_X12_grow y0 y3 (44 : Int32) u23 I L R) fun I24 =>
          (rf R y0 37 20).bind fun a26 =>
          (ri I24 a26 y1).bind fun v27 =>
          (wi I24 a26 y1 (v27 + u23)).bind fun I28 =>
          wr (y2 - u23) fun (u29 : Int32) =>
          some (u29, I28)
      ) fun (u6 : Int32) (I7 : MI) =>
      wr (y3 + (1 : Int32)) fun (u30 : Int32) =>
      LF_X12_steer_8 N k y0 y1 u6 u30 I7 L R
def LF_X12_steer_116 (N : Nat) : Nat → Nat → Int32 → Int32 → Int32 → MI → ML → MR → Option (MI)
  | 0, _, _, _, _, _, _, _ => none
  | k + 1, y0, y1, y2, y3, I, L, R =>
    if (I y0 21) ≤ y3 then
      some (I)
    else
      if (iR (I y0 34) (8 : Int32)) = 0 then
        bn1 (F_X12_turns N y0 y3 (17 : Int32) y1 I L R) fun b35 =>
        bn2 (
          if (b2i b35) = 0 then
            some (y2, I)
          else
            bn1 (F_X12_get y0 y3 (42 : Int32) I L R) fun v42 =>
            bn1 (
              if v42 ≤ 0 then
                some ((0 : Int32))
              else
                bn1 (F_X12_limit y2 (-1 : Int32) (1 : Int32) I L R) fun v48 =>
                some (v48)
            ) fun (s44 : Int32) =>
            (rf R y0 37 20).bind fun a50 =>
            (ri I a50 y1).bind fun v51 =>
            (wi I a50 y1 (v51 + s44)).bind fun I52 =>
            wr (y2 - s44) fun (u53 : Int32) =>
            some (u53, I52)
        ) fun (u37 : Int32) (I38 : MI) =>
        wr (y3 + (1 : Int32)) fun (u54 : Int32) =>
        LF_X12_steer_116 N k y0 y1 u37 u54 I38 L R
      else
        some (I)
def LF_X12_steer_194 (N : Nat) : Nat → Nat → Int32 → Int32 → MI → ML → MR → Option (MI)
  | 0, _, _, _, _, _, _ => none
  | k + 1, y0, y1, y3, I, L, R =>
    if (I y0 21) ≤ y3 then
      some (I)
    else
      bn1 (F_X12_turns N y0 y3 (16 : Int32) y1 I L R) fun b58 =>
      bn1 (
        if (b2i b58) = 0 then
          some (I)
        else
          bn1 (F_X12_slow N y0 y3 y1 I L R) fun I64 =>
          some (I64)
      ) fun (I60 : MI) =>
      wr (y3 + (1 : Int32)) fun (u66 : Int32) =>
      LF_X12_steer_194 N k y0 y1 u66 I60 L R
def F_X12_steer (N : Nat) (x0 : Nat) (x1 : Int32) (I : MI) (L : ML) (R : MR) : Option (MI) :=
  if kd x0 = 11 ∧ x0 < NN then
  bn1 (F_X12_wish N x0 x1 I L R) fun v1 =>
  bn1 (LF_X12_steer_8 N N x0 x1 v1 (0 : Int32) I L R) fun z31 =>
  bn1 (LF_X12_steer_116 N N x0 x1 z31.1 (0 : Int32) z31.2 L R) fun z55 =>
  bn1 (LF_X12_steer_194 N N x0 x1 (0 : Int32) z55 L R) fun z67 =>
  some (z67)
  else none
set_option maxRecDepth 100000 in
set_option maxHeartbeats 4000000 in
theorem lp_X12_steer_8 {G : Gm} (C0 : Cx G (yX12_steer.cls) cX12_steer none) (eNL : G.nL = 7) (erm : G.rm = ({ frames := 6, cells := 0, slots := 0, locals := 138 } : Room)) (N : Nat) : ∀ (k : Nat) (y0 : Nat) (y1 : Int32) (y2 : Int32) (y3 : Int32) (I : MI) (L : ML) (R : MR) (z : Int32 × MI) (hk0 : kd y0 = 11) (ho0 : y0 < NN), LF_X12_steer_8 N k y0 y1 y2 y3 I L R = some z → ∀ f : State → Prop, V G f 114 [(0, .ref (G.ad y0)), (1, .int y1), (2, .int z.1)] [] z.2 L R → V G f 8 [(0, .ref (G.ad y0)), (1, .int y1), (2, .int y2), (3, .int y3)] [] I L R := by
  intro k
  induction k with
  | zero =>
    intro y0 y1 y2 y3 I L R q hk0 ho0 h
    exact absurd h (by simp [LF_X12_steer_8])
  | succ k ih =>
    intro y0 y1 y2 y3 I L R q hk0 ho0 h f kx
    rw [LF_X12_steer_8] at h
    refine V_iload_n C0 3 rfl rfl dX12_steer_8 ?_
    refine V_aload_n C0 0 rfl rfl dX12_steer_9 ?_
    refine V_getI C0 11 21 fl_X12_297 ho0 hk0 rfl dX12_steer_10 ?_
    refine V_icmp_ge C0 (tgt := 114) (by decide) dX12_steer_13 (fun c3 => ?_) (fun c3 => ?_)
    · have h := (if_pos c3).symm.trans h
      cases h
      exact V_sub [0, 1, 2] rfl kx
    · have h := (if_neg c3).symm.trans h
      refine V_aload_n C0 0 rfl rfl dX12_steer_16 ?_
      refine V_iload_n C0 3 rfl rfl dX12_steer_17 ?_
      refine V_bipush C0 (v := (16 : Int32)) (by decide) dX12_steer_18 ?_
      refine V_iload_n C0 1 rfl rfl dX12_steer_20 ?_
      obtain ⟨b4, q5, h⟩ := bn1_some h
      refine V_callV C0 (st := []) (As := [.int y3, .int (16 : Int32), .int y1]) 11 (c_X12_turns G.l G.D G.cA G.ad G.bs G.X C0.2.2.2.2.2.2.2.2.2.1 C0.2.2.2.2.2.2.2.2.2.2.2.2 N y0 y3 (16 : Int32) y1 I L R b4 q5) lc_X12_turns lk_X12_405 ho0 hk0 ⟨_, rfl, rfl⟩ rfl (by rw [erm]; decide) (Nat.le_of_ble_eq_true rfl) dX12_steer_21 ?_
      show V G _ 24 [(0, .ref (G.ad y0)), (1, .int y1), (2, .int y2), (3, .int y3)] [.int (b2i b4)] I L R
      obtain ⟨u6, I7, q8, h⟩ := bn2_some h
      have k9 : V G f 108 [(0, .ref (G.ad y0)), (1, .int y1), (2, .int u6), (3, .int y3)] [] I7 L R := by
        obtain ⟨u30, eu30, h⟩ := wr_some h
        refine V_iinc C0 3 [(3, .int u30), (0, .ref (G.ad y0)), (1, .int y1), (2, .int u6)] rfl (n := 1) (by rw [eu30]; rfl) (by rw [eNL]; decide) rfl dX12_steer_108 ?_
        refine V_goto C0 (tgt := 8) (by decide) dX12_steer_111 ?_
        exact V_sub [1, 2, 3, 0] rfl (ih y0 y1 u6 u30 I7 L R _ hk0 ho0 h f kx)
      refine V_if_ne C0 (tgt := 30) (by decide) dX12_steer_24 (fun c10 => ?_) (fun c10 => ?_)
      · have q8 := (if_neg c10).symm.trans q8
        refine V_aload_n C0 0 rfl rfl dX12_steer_30 ?_
        refine V_iload_n C0 3 rfl rfl dX12_steer_31 ?_
        refine V_bipush C0 (v := (42 : Int32)) (by decide) dX12_steer_32 ?_
        obtain ⟨v11, q12, q8⟩ := bn1_some q8
        refine V_callV C0 (st := []) (As := [.int y3, .int (42 : Int32)]) 11 (c_X12_get G.l G.D G.cA G.ad G.bs G.X C0.2.2.2.2.2.2.2.2.2.1 C0.2.2.2.2.2.2.2.2.2.2.2.2 y0 y3 (42 : Int32) I L R v11 q12) lc_X12_get lk_X12_211 ho0 hk0 ⟨_, rfl, rfl⟩ rfl (by rw [erm]; decide) (Nat.le_of_ble_eq_true rfl) dX12_steer_34 ?_
        show V G _ 37 [(0, .ref (G.ad y0)), (1, .int y1), (2, .int y2), (3, .int y3)] [.int v11] I L R
        refine V_istore C0 [(4, .int v11), (0, .ref (G.ad y0)), (1, .int y1), (2, .int y2), (3, .int y3)] (by rw [eNL]; decide) rfl dX12_steer_37 ?_
        refine V_aload_n C0 1 rfl rfl dX12_steer_39 ?_
        refine V_iload_n C0 4 rfl rfl dX12_steer_40 ?_
        refine V_bipush C0 (v := (43 : Int32)) (by decide) dX12_steer_41 ?_
        obtain ⟨v13, q14, q8⟩ := bn1_some q8
        refine V_callV C0 (st := []) (As := [.int y3, .int (43 : Int32)]) 11 (c_X12_get G.l G.D G.cA G.ad G.bs G.X C0.2.2.2.2.2.2.2.2.2.1 C0.2.2.2.2.2.2.2.2.2.2.2.2 y0 y3 (43 : Int32) I L R v13 q14) lc_X12_get lk_X12_211 ho0 hk0 ⟨_, rfl, rfl⟩ rfl (by rw [erm]; decide) (Nat.le_of_ble_eq_true rfl) dX12_steer_43 ?_
        show V G _ 46 [(4, .int v11), (0, .ref (G.ad y0)), (1, .int y1), (2, .int y2), (3, .int y3)] [.int v13] I L R
        refine V_istore C0 [(5, .int v13), (4, .int v11), (0, .ref (G.ad y0)), (1, .int y1), (2, .int y2), (3, .int y3)] (by rw [eNL]; decide) rfl dX12_steer_46 ?_
        refine V_aload_n C0 2 rfl rfl dX12_steer_48 ?_
        refine V_iload_n C0 5 rfl rfl dX12_steer_49 ?_
        refine V_bipush C0 (v := (44 : Int32)) (by decide) dX12_steer_50 ?_
        obtain ⟨v15, q16, q8⟩ := bn1_some q8
        refine V_callV C0 (st := []) (As := [.int y3, .int (44 : Int32)]) 11 (c_X12_get G.l G.D G.cA G.ad G.bs G.X C0.2.2.2.2.2.2.2.2.2.1 C0.2.2.2.2.2.2.2.2.2.2.2.2 y0 y3 (44 : Int32) I L R v15 q16) lc_X12_get lk_X12_211 ho0 hk0 ⟨_, rfl, rfl⟩ rfl (by rw [erm]; decide) (Nat.le_of_ble_eq_true rfl) dX12_steer_52 ?_
        show V G _ 55 [(5, .int v13), (4, .int v11), (0, .ref (G.ad y0)), (1, .int y1), (2, .int y2), (3, .int y3)] [.int v15] I L R
        refine V_iload_n C0 4 rfl rfl dX12_steer_55 ?_
        refine V_iload C0 1 rfl dX12_steer_56 ?_
        refine V_ineg C0 dX12_steer_58 ?_
        refine V_iload C0 1 rfl dX12_steer_59 ?_
        obtain ⟨v17, q18, q8⟩ := bn1_some q8
        refine V_callS C0 (st := [.int v15]) (As := [.int y2, .int (-v11), .int v11]) (c_X12_limit G.l G.D G.cA G.ad G.bs G.X C0.2.2.2.2.2.2.2.2.2.1 C0.2.2.2.2.2.2.2.2.2.2.2.2 y2 (-v11) v11 I L R v17 q18) lc_X12_limit lk_X12_402 rfl (by rw [erm]; decide) (Nat.le_of_ble_eq_true rfl) dX12_steer_61 ?_
        show V G _ 64 [(5, .int v13), (4, .int v11), (0, .ref (G.ad y0)), (1, .int y1), (2, .int y2), (3, .int y3)] [.int v17, .int v15] I L R
        refine V_iadd C0 dX12_steer_64 ?_
        refine V_iload C0 0 rfl dX12_steer_65 ?_
        refine V_ineg C0 dX12_steer_67 ?_
        refine V_iload C0 0 rfl dX12_steer_68 ?_
        obtain ⟨v19, q20, q8⟩ := bn1_some q8
        refine V_callS C0 (st := []) (As := [.int (v15 + v17), .int (-v13), .int v13]) (c_X12_limit G.l G.D G.cA G.ad G.bs G.X C0.2.2.2.2.2.2.2.2.2.1 C0.2.2.2.2.2.2.2.2.2.2.2.2 (v15 + v17) (-v13) v13 I L R v19 q20) lc_X12_limit lk_X12_402 rfl (by rw [erm]; decide) (Nat.le_of_ble_eq_true rfl) dX12_steer_70 ?_
        show V G _ 73 [(5, .int v13), (4, .int v11), (0, .ref (G.ad y0)), (1, .int y1), (2, .int y2), (3, .int y3)] [.int v19] I L R
        refine V_aload_n C0 2 rfl rfl dX12_steer_73 ?_
        refine V_iload_n C0 5 rfl rfl dX12_steer_74 ?_
        refine V_bipush C0 (v := (44 : Int32)) (by decide) dX12_steer_75 ?_
        obtain ⟨v21, q22, q8⟩ := bn1_some q8
        refine V_callV C0 (st := [.int v19]) (As := [.int y3, .int (44 : Int32)]) 11 (c_X12_get G.l G.D G.cA G.ad G.bs G.X C0.2.2.2.2.2.2.2.2.2.1 C0.2.2.2.2.2.2.2.2.2.2.2.2 y0 y3 (44 : Int32) I L R v21 q22) lc_X12_get lk_X12_211 ho0 hk0 ⟨_, rfl, rfl⟩ rfl (by rw [erm]; decide) (Nat.le_of_ble_eq_true rfl) dX12_steer_77 ?_
        show V G _ 80 [(5, .int v13), (4, .int v11), (0, .ref (G.ad y0)), (1, .int y1), (2, .int y2), (3, .int y3)] [.int v21, .int v19] I L R
        refine V_isub C0 dX12_steer_80 ?_
        obtain ⟨u23, eu23, q8⟩ := wr_some q8
        rw [← eu23]
        refine V_istore C0 [(6, .int u23), (5, .int v13), (4, .int v11), (0, .ref (G.ad y0)), (1, .int y1), (2, .int y2), (3, .int y3)] (by rw [eNL]; decide) rfl dX12_steer_81 ?_
        refine V_aload_n C0 3 rfl rfl dX12_steer_83 ?_
        refine V_iload_n C0 6 rfl rfl dX12_steer_84 ?_
        refine V_bipush C0 (v := (44 : Int32)) (by decide) dX12_steer_85 ?_
        refine V_iload C0 0 rfl dX12_steer_87 ?_
        obtain ⟨I24, q25, q8⟩ := bn1_some q8
        refine V_callV C0 (st := []) (As := [.int y3, .int (44 : Int32), .int u23]) 11 (c_X12_grow G.l G.D G.cA G.ad G.bs G.X C0.2.2.2.2.2.2.2.2.2.1 C0.2.2.2.2.2.2.2.2.2.2.2.2 y0 y3 (44 : Int32) u23 I L R I24 q25) lc_X12_grow lk_X12_259 ho0 hk0 ⟨_, rfl, rfl⟩ rfl (by rw [erm]; decide) (Nat.le_of_ble_eq_true rfl) dX12_steer_89 ?_
        show V G _ 92 [(6, .int u23), (5, .int v13), (4, .int v11), (0, .ref (G.ad y0)), (1, .int y1), (2, .int y2), (3, .int y3)] [] I24 L R
        refine V_aload_n C0 3 rfl rfl dX12_steer_92 ?_
        obtain ⟨a26, qa26, q8⟩ := bnd_some q8
        refine V_getR C0 11 37 fl_X12_71 ho0 hk0 rfl (rf_at qa26) dX12_steer_93 ?_
        refine V_iload_n C0 4 rfl rfl dX12_steer_96 ?_
        refine V_dup2 C0 rfl rfl dX12_steer_97 ?_
        obtain ⟨v27, qv27, q8⟩ := bnd_some q8
        refine V_ri C0 (rf_lt qa26) (rf_kd qa26) qv27 dX12_steer_98 ?_
        refine V_iload C0 0 rfl dX12_steer_99 ?_
        refine V_iadd C0 dX12_steer_101 ?_
        obtain ⟨I28, qI28, q8⟩ := bnd_some q8
        refine V_wi C0 (rf_lt qa26) (rf_kd qa26) qI28 dX12_steer_102 ?_
        refine V_iload_n C0 5 rfl rfl dX12_steer_103 ?_
        refine V_iload C0 0 rfl dX12_steer_104 ?_
        refine V_isub C0 dX12_steer_106 ?_
        obtain ⟨u29, eu29, q8⟩ := wr_some q8
        rw [← eu29]
        refine V_istore_n C0 [(2, .int u29), (6, .int u23), (5, .int v13), (4, .int v11), (0, .ref (G.ad y0)), (1, .int y1), (3, .int y3)] rfl (by rw [eNL]; decide) rfl dX12_steer_107 ?_
        cases q8
        exact V_sub [4, 5, 0, 6] rfl k9
      · have q8 := (if_pos c10).symm.trans q8
        refine V_goto C0 (tgt := 108) (by decide) dX12_steer_27 ?_
        cases q8
        exact V_sub [0, 1, 2, 3] rfl k9
set_option maxRecDepth 100000 in
set_option maxHeartbeats 4000000 in
theorem lp_X12_steer_116 {G : Gm} (C0 : Cx G (yX12_steer.cls) cX12_steer none) (eNL : G.nL = 7) (erm : G.rm = ({ frames := 6, cells := 0, slots := 0, locals := 138 } : Room)) (N : Nat) : ∀ (k : Nat) (y0 : Nat) (y1 : Int32) (y2 : Int32) (y3 : Int32) (I : MI) (L : ML) (R : MR) (z : MI) (hk0 : kd y0 = 11) (ho0 : y0 < NN), LF_X12_steer_116 N k y0 y1 y2 y3 I L R = some z → ∀ f : State → Prop, V G f 192 [(0, .ref (G.ad y0)), (1, .int y1)] [] z L R → V G f 116 [(0, .ref (G.ad y0)), (1, .int y1), (2, .int y2), (3, .int y3)] [] I L R := by
  intro k
  induction k with
  | zero =>
    intro y0 y1 y2 y3 I L R q hk0 ho0 h
    exact absurd h (by simp [LF_X12_steer_116])
  | succ k ih =>
    intro y0 y1 y2 y3 I L R q hk0 ho0 h f kx
    rw [LF_X12_steer_116] at h
    refine V_iload_n C0 3 rfl rfl dX12_steer_116 ?_
    refine V_aload_n C0 0 rfl rfl dX12_steer_117 ?_
    refine V_getI C0 11 21 fl_X12_297 ho0 hk0 rfl dX12_steer_118 ?_
    refine V_icmp_ge C0 (tgt := 192) (by decide) dX12_steer_121 (fun c33 => ?_) (fun c33 => ?_)
    · have h := (if_pos c33).symm.trans h
      cases h
      exact V_sub [0, 1] rfl kx
    · have h := (if_neg c33).symm.trans h
      refine V_aload_n C0 0 rfl rfl dX12_steer_124 ?_
      refine V_getI C0 11 34 fl_X12_306 ho0 hk0 rfl dX12_steer_125 ?_
      refine V_bipush C0 (v := (8 : Int32)) (by decide) dX12_steer_128 ?_
      refine V_irem C0 (by decide) dX12_steer_130 ?_
      refine V_if_ne C0 (tgt := 192) (by decide) dX12_steer_131 (fun c34 => ?_) (fun c34 => ?_)
      · have h := (if_neg c34).symm.trans h
        cases h
        exact V_sub [0, 1] rfl kx
      · have h := (if_pos c34).symm.trans h
        refine V_aload_n C0 0 rfl rfl dX12_steer_134 ?_
        refine V_iload_n C0 3 rfl rfl dX12_steer_135 ?_
        refine V_bipush C0 (v := (17 : Int32)) (by decide) dX12_steer_136 ?_
        refine V_iload_n C0 1 rfl rfl dX12_steer_138 ?_
        obtain ⟨b35, q36, h⟩ := bn1_some h
        refine V_callV C0 (st := []) (As := [.int y3, .int (17 : Int32), .int y1]) 11 (c_X12_turns G.l G.D G.cA G.ad G.bs G.X C0.2.2.2.2.2.2.2.2.2.1 C0.2.2.2.2.2.2.2.2.2.2.2.2 N y0 y3 (17 : Int32) y1 I L R b35 q36) lc_X12_turns lk_X12_405 ho0 hk0 ⟨_, rfl, rfl⟩ rfl (by rw [erm]; decide) (Nat.le_of_ble_eq_true rfl) dX12_steer_139 ?_
        show V G _ 142 [(0, .ref (G.ad y0)), (1, .int y1), (2, .int y2), (3, .int y3)] [.int (b2i b35)] I L R
        obtain ⟨u37, I38, q39, h⟩ := bn2_some h
        have k40 : V G f 186 [(0, .ref (G.ad y0)), (1, .int y1), (2, .int u37), (3, .int y3)] [] I38 L R := by
          obtain ⟨u54, eu54, h⟩ := wr_some h
          refine V_iinc C0 3 [(3, .int u54), (0, .ref (G.ad y0)), (1, .int y1), (2, .int u37)] rfl (n := 1) (by rw [eu54]; rfl) (by rw [eNL]; decide) rfl dX12_steer_186 ?_
          refine V_goto C0 (tgt := 116) (by decide) dX12_steer_189 ?_
          exact V_sub [1, 2, 3, 0] rfl (ih y0 y1 u37 u54 I38 L R _ hk0 ho0 h f kx)
        refine V_if_ne C0 (tgt := 148) (by decide) dX12_steer_142 (fun c41 => ?_) (fun c41 => ?_)
        · have q39 := (if_neg c41).symm.trans q39
          refine V_aload_n C0 0 rfl rfl dX12_steer_148 ?_
          refine V_iload_n C0 3 rfl rfl dX12_steer_149 ?_
          refine V_bipush C0 (v := (42 : Int32)) (by decide) dX12_steer_150 ?_
          obtain ⟨v42, q43, q39⟩ := bn1_some q39
          refine V_callV C0 (st := []) (As := [.int y3, .int (42 : Int32)]) 11 (c_X12_get G.l G.D G.cA G.ad G.bs G.X C0.2.2.2.2.2.2.2.2.2.1 C0.2.2.2.2.2.2.2.2.2.2.2.2 y0 y3 (42 : Int32) I L R v42 q43) lc_X12_get lk_X12_211 ho0 hk0 ⟨_, rfl, rfl⟩ rfl (by rw [erm]; decide) (Nat.le_of_ble_eq_true rfl) dX12_steer_152 ?_
          show V G _ 155 [(0, .ref (G.ad y0)), (1, .int y1), (2, .int y2), (3, .int y3)] [.int v42] I L R
          obtain ⟨s44, q45, q39⟩ := bn1_some q39
          have k46 : V G f 168 [(0, .ref (G.ad y0)), (1, .int y1), (2, .int y2), (3, .int y3)] [.int s44] I L R := by
            refine V_istore C0 [(4, .int s44), (0, .ref (G.ad y0)), (1, .int y1), (2, .int y2), (3, .int y3)] (by rw [eNL]; decide) rfl dX12_steer_168 ?_
            refine V_aload_n C0 1 rfl rfl dX12_steer_170 ?_
            obtain ⟨a50, qa50, q39⟩ := bnd_some q39
            refine V_getR C0 11 37 fl_X12_71 ho0 hk0 rfl (rf_at qa50) dX12_steer_171 ?_
            refine V_iload_n C0 2 rfl rfl dX12_steer_174 ?_
            refine V_dup2 C0 rfl rfl dX12_steer_175 ?_
            obtain ⟨v51, qv51, q39⟩ := bnd_some q39
            refine V_ri C0 (rf_lt qa50) (rf_kd qa50) qv51 dX12_steer_176 ?_
            refine V_iload C0 0 rfl dX12_steer_177 ?_
            refine V_iadd C0 dX12_steer_179 ?_
            obtain ⟨I52, qI52, q39⟩ := bnd_some q39
            refine V_wi C0 (rf_lt qa50) (rf_kd qa50) qI52 dX12_steer_180 ?_
            refine V_iload_n C0 3 rfl rfl dX12_steer_181 ?_
            refine V_iload C0 0 rfl dX12_steer_182 ?_
            refine V_isub C0 dX12_steer_184 ?_
            obtain ⟨u53, eu53, q39⟩ := wr_some q39
            rw [← eu53]
            refine V_istore_n C0 [(2, .int u53), (4, .int s44), (0, .ref (G.ad y0)), (1, .int y1), (3, .int y3)] rfl (by rw [eNL]; decide) rfl dX12_steer_185 ?_
            cases q39
            exact V_sub [2, 3, 0, 4] rfl k40
          refine V_if_le C0 (tgt := 167) (by decide) dX12_steer_155 (fun c47 => ?_) (fun c47 => ?_)
          · have q45 := (if_pos c47).symm.trans q45
            refine V_iconst C0 (v := (0 : Int32)) (by decide) dX12_steer_167 ?_
            cases q45
            exact V_sub [0, 1, 2, 3] rfl k46
          · have q45 := (if_neg c47).symm.trans q45
            refine V_iload_n C0 2 rfl rfl dX12_steer_158 ?_
            refine V_iconst C0 (v := (-1 : Int32)) (by decide) dX12_steer_159 ?_
            refine V_iconst C0 (v := (1 : Int32)) (by decide) dX12_steer_160 ?_
            obtain ⟨v48, q49, q45⟩ := bn1_some q45
            refine V_callS C0 (st := []) (As := [.int y2, .int (-1 : Int32), .int (1 : Int32)]) (c_X12_limit G.l G.D G.cA G.ad G.bs G.X C0.2.2.2.2.2.2.2.2.2.1 C0.2.2.2.2.2.2.2.2.2.2.2.2 y2 (-1 : Int32) (1 : Int32) I L R v48 q49) lc_X12_limit lk_X12_402 rfl (by rw [erm]; decide) (Nat.le_of_ble_eq_true rfl) dX12_steer_161 ?_
            show V G _ 164 [(0, .ref (G.ad y0)), (1, .int y1), (2, .int y2), (3, .int y3)] [.int v48] I L R
            refine V_goto C0 (tgt := 168) (by decide) dX12_steer_164 ?_
            cases q45
            exact V_sub [0, 1, 2, 3] rfl k46
        · have q39 := (if_pos c41).symm.trans q39
          refine V_goto C0 (tgt := 186) (by decide) dX12_steer_145 ?_
          cases q39
          exact V_sub [0, 1, 2, 3] rfl k40
set_option maxRecDepth 100000 in
set_option maxHeartbeats 4000000 in
theorem lp_X12_steer_194 {G : Gm} (C0 : Cx G (yX12_steer.cls) cX12_steer none) (eNL : G.nL = 7) (erm : G.rm = ({ frames := 6, cells := 0, slots := 0, locals := 138 } : Room)) (N : Nat) : ∀ (k : Nat) (y0 : Nat) (y1 : Int32) (y3 : Int32) (I : MI) (L : ML) (R : MR) (z : MI) (hk0 : kd y0 = 11) (ho0 : y0 < NN), LF_X12_steer_194 N k y0 y1 y3 I L R = some z → ∀ f : State → Prop, V G f 225 [] [] z L R → V G f 194 [(0, .ref (G.ad y0)), (1, .int y1), (3, .int y3)] [] I L R := by
  intro k
  induction k with
  | zero =>
    intro y0 y1 y3 I L R q hk0 ho0 h
    exact absurd h (by simp [LF_X12_steer_194])
  | succ k ih =>
    intro y0 y1 y3 I L R q hk0 ho0 h f kx
    rw [LF_X12_steer_194] at h
    refine V_iload_n C0 2 rfl rfl dX12_steer_194 ?_
    refine V_aload_n C0 0 rfl rfl dX12_steer_195 ?_
    refine V_getI C0 11 21 fl_X12_297 ho0 hk0 rfl dX12_steer_196 ?_
    refine V_icmp_ge C0 (tgt := 225) (by decide) dX12_steer_199 (fun c57 => ?_) (fun c57 => ?_)
    · have h := (if_pos c57).symm.trans h
      cases h
      exact V_sub [] rfl kx
    · have h := (if_neg c57).symm.trans h
      refine V_aload_n C0 0 rfl rfl dX12_steer_202 ?_
      refine V_iload_n C0 2 rfl rfl dX12_steer_203 ?_
      refine V_bipush C0 (v := (16 : Int32)) (by decide) dX12_steer_204 ?_
      refine V_iload_n C0 1 rfl rfl dX12_steer_206 ?_
      obtain ⟨b58, q59, h⟩ := bn1_some h
      refine V_callV C0 (st := []) (As := [.int y3, .int (16 : Int32), .int y1]) 11 (c_X12_turns G.l G.D G.cA G.ad G.bs G.X C0.2.2.2.2.2.2.2.2.2.1 C0.2.2.2.2.2.2.2.2.2.2.2.2 N y0 y3 (16 : Int32) y1 I L R b58 q59) lc_X12_turns lk_X12_405 ho0 hk0 ⟨_, rfl, rfl⟩ rfl (by rw [erm]; decide) (Nat.le_of_ble_eq_true rfl) dX12_steer_207 ?_
      show V G _ 210 [(0, .ref (G.ad y0)), (1, .int y1), (3, .int y3)] [.int (b2i b58)] I L R
      obtain ⟨I60, q61, h⟩ := bn1_some h
      have k62 : V G f 219 [(0, .ref (G.ad y0)), (1, .int y1), (3, .int y3)] [] I60 L R := by
        obtain ⟨u66, eu66, h⟩ := wr_some h
        refine V_iinc C0 2 [(3, .int u66), (0, .ref (G.ad y0)), (1, .int y1)] rfl (n := 1) (by rw [eu66]; rfl) (by rw [eNL]; decide) rfl dX12_steer_219 ?_
        refine V_goto C0 (tgt := 194) (by decide) dX12_steer_222 ?_
        exact V_sub [1, 2, 0] rfl (ih y0 y1 u66 I60 L R _ hk0 ho0 h f kx)
      refine V_if_eq C0 (tgt := 219) (by decide) dX12_steer_210 (fun c63 => ?_) (fun c63 => ?_)
      · have q61 := (if_pos c63).symm.trans q61
        cases q61
        exact V_sub [0, 1, 2] rfl k62
      · have q61 := (if_neg c63).symm.trans q61
        refine V_aload_n C0 0 rfl rfl dX12_steer_213 ?_
        refine V_iload_n C0 2 rfl rfl dX12_steer_214 ?_
        refine V_iload_n C0 1 rfl rfl dX12_steer_215 ?_
        obtain ⟨I64, q65, q61⟩ := bn1_some q61
        refine V_callV C0 (st := []) (As := [.int y3, .int y1]) 11 (c_X12_slow G.l G.D G.cA G.ad G.bs G.X C0.2.2.2.2.2.2.2.2.2.1 C0.2.2.2.2.2.2.2.2.2.2.2.2 N y0 y3 y1 I L R I64 q65) lc_X12_slow lk_X12_414 ho0 hk0 ⟨_, rfl, rfl⟩ rfl (by rw [erm]; decide) (Nat.le_of_ble_eq_true rfl) dX12_steer_216 ?_
        show V G _ 219 [(0, .ref (G.ad y0)), (1, .int y1), (3, .int y3)] [] I64 L R
        cases q61
        exact V_sub [0, 1, 2] rfl k62
set_option maxRecDepth 100000 in
set_option maxHeartbeats 4000000 in
theorem c_X12_steer (l : Launch) (D : va_G) (cA : Nat → ClassId) (ad : Nat → Nat) (bs : Nat) (X : State → Prop) (hAd : Ax ad bs) (hX : Stb bs X) (N : Nat) (x0 : Nat) (x1 : Int32) (I : MI) (L : ML) (R : MR) (I' : MI) (h : F_X12_steer N x0 x1 I L R = some (I')) : Cn l D cA ad bs X yX12_steer cX12_steer 7 none 6 138 [.ref (ad x0), .int x1] I L R (none, I', L, R) := by
  refine Cn.ofV hAd hX [(0, .ref (ad x0)), (1, .int x1)] rfl (Nat.le_of_ble_eq_true rfl) (by decide) ?_
  intro G el eD ecA ead ebs eX erm eNL C0
  subst el eD ecA ead ebs eX
  unfold F_X12_steer at h
  obtain ⟨c_x0, h⟩ := ite_some h
  refine V_aload_n C0 0 rfl rfl dX12_steer_0 ?_
  refine V_iload_n C0 1 rfl rfl dX12_steer_1 ?_
  obtain ⟨v1, q2, h⟩ := bn1_some h
  refine V_callV C0 (st := []) (As := [.int x1]) 11 (c_X12_wish G.l G.D G.cA G.ad G.bs G.X C0.2.2.2.2.2.2.2.2.2.1 C0.2.2.2.2.2.2.2.2.2.2.2.2 N x0 x1 I L R v1 q2) lc_X12_wish lk_X12_411 c_x0.2 c_x0.1 ⟨_, rfl, rfl⟩ rfl (by rw [erm]; decide) (Nat.le_of_ble_eq_true rfl) dX12_steer_2 ?_
  show V G _ 5 [(0, .ref (G.ad x0)), (1, .int x1)] [.int v1] I L R
  refine V_istore_n C0 [(2, .int v1), (0, .ref (G.ad x0)), (1, .int x1)] rfl (by rw [eNL]; decide) rfl dX12_steer_5 ?_
  refine V_iconst C0 (v := (0 : Int32)) (by decide) dX12_steer_6 ?_
  refine V_istore_n C0 [(3, .int (0 : Int32)), (2, .int v1), (0, .ref (G.ad x0)), (1, .int x1)] rfl (by rw [eNL]; decide) rfl dX12_steer_7 ?_
  obtain ⟨z31, q32, h⟩ := bn1_some h
  refine V_sub [2, 3, 1, 0] rfl (lp_X12_steer_8 C0 eNL erm N N x0 x1 v1 (0 : Int32) I L R _ c_x0.1 c_x0.2 q32 _ ?_)
  show V G _ 114 [(0, .ref (G.ad x0)), (1, .int x1), (2, .int z31.1)] [] z31.2 L R
  refine V_iconst C0 (v := (0 : Int32)) (by decide) dX12_steer_114 ?_
  refine V_istore_n C0 [(3, .int (0 : Int32)), (0, .ref (G.ad x0)), (1, .int x1), (2, .int z31.1)] rfl (by rw [eNL]; decide) rfl dX12_steer_115 ?_
  obtain ⟨z55, q56, h⟩ := bn1_some h
  refine V_sub [1, 2, 3, 0] rfl (lp_X12_steer_116 C0 eNL erm N N x0 x1 z31.1 (0 : Int32) z31.2 L R _ c_x0.1 c_x0.2 q56 _ ?_)
  show V G _ 192 [(0, .ref (G.ad x0)), (1, .int x1)] [] z55 L R
  refine V_iconst C0 (v := (0 : Int32)) (by decide) dX12_steer_192 ?_
  refine V_istore_n C0 [(3, .int (0 : Int32)), (0, .ref (G.ad x0)), (1, .int x1)] rfl (by rw [eNL]; decide) rfl dX12_steer_193 ?_
  obtain ⟨z67, q68, h⟩ := bn1_some h
  refine V_sub [1, 2, 0] rfl (lp_X12_steer_194 C0 eNL erm N N x0 x1 (0 : Int32) z55 L R _ c_x0.1 c_x0.2 q68 _ ?_)
  show V G _ 225 [] [] z67 L R
  cases h
  exact V_vret C0 dX12_steer_225
theorem dX12_control_0 : decode cX12_control 0 = .ok (.aload_n 0, 1) := by decide +kernel
theorem dX12_control_1 : decode cX12_control 1 = .ok (.getfield 309, 3) := by decide +kernel
theorem dX12_control_4 : decode cX12_control 4 = .ok (.iconst 3, 1) := by decide +kernel
theorem dX12_control_5 : decode cX12_control 5 = .ok (.if_icmp .ne 56, 3) := by decide +kernel
theorem dX12_control_8 : decode cX12_control 8 = .ok (.iconst 0, 1) := by decide +kernel
theorem dX12_control_9 : decode cX12_control 9 = .ok (.istore_n 1, 1) := by decide +kernel
theorem dX12_control_10 : decode cX12_control 10 = .ok (.iload_n 1, 1) := by decide +kernel
theorem dX12_control_11 : decode cX12_control 11 = .ok (.aload_n 0, 1) := by decide +kernel
theorem dX12_control_12 : decode cX12_control 12 = .ok (.getfield 297, 3) := by decide +kernel
theorem dX12_control_15 : decode cX12_control 15 = .ok (.if_icmp .ge 46, 3) := by decide +kernel
theorem dX12_control_18 : decode cX12_control 18 = .ok (.aload_n 0, 1) := by decide +kernel
theorem dX12_control_19 : decode cX12_control 19 = .ok (.iload_n 1, 1) := by decide +kernel
theorem dX12_control_20 : decode cX12_control 20 = .ok (.invokevirtual 393, 3) := by decide +kernel
theorem dX12_control_23 : decode cX12_control 23 = .ok (.ifCond .eq 32, 3) := by decide +kernel
theorem dX12_control_26 : decode cX12_control 26 = .ok (.aload_n 0, 1) := by decide +kernel
theorem dX12_control_27 : decode cX12_control 27 = .ok (.iload_n 1, 1) := by decide +kernel
theorem dX12_control_28 : decode cX12_control 28 = .ok (.bipush 21, 2) := by decide +kernel
theorem dX12_control_30 : decode cX12_control 30 = .ok (.invokevirtual 211, 3) := by decide +kernel
theorem dX12_control_33 : decode cX12_control 33 = .ok (.iconst 2, 1) := by decide +kernel
theorem dX12_control_34 : decode cX12_control 34 = .ok (.if_icmp .ne 21, 3) := by decide +kernel
theorem dX12_control_37 : decode cX12_control 37 = .ok (.aload_n 0, 1) := by decide +kernel
theorem dX12_control_38 : decode cX12_control 38 = .ok (.iload_n 1, 1) := by decide +kernel
theorem dX12_control_39 : decode cX12_control 39 = .ok (.bipush 8, 2) := by decide +kernel
theorem dX12_control_41 : decode cX12_control 41 = .ok (.invokevirtual 217, 3) := by decide +kernel
theorem dX12_control_44 : decode cX12_control 44 = .ok (.ifCond .ne 11, 3) := by decide +kernel
theorem dX12_control_47 : decode cX12_control 47 = .ok (.aload_n 0, 1) := by decide +kernel
theorem dX12_control_48 : decode cX12_control 48 = .ok (.iload_n 1, 1) := by decide +kernel
theorem dX12_control_49 : decode cX12_control 49 = .ok (.bipush 22, 2) := by decide +kernel
theorem dX12_control_51 : decode cX12_control 51 = .ok (.iconst 0, 1) := by decide +kernel
theorem dX12_control_52 : decode cX12_control 52 = .ok (.invokevirtual 246, 3) := by decide +kernel
theorem dX12_control_55 : decode cX12_control 55 = .ok (.iinc 1 1, 3) := by decide +kernel
theorem dX12_control_58 : decode cX12_control 58 = .ok (.goto (-48), 3) := by decide +kernel
theorem dX12_control_61 : decode cX12_control 61 = .ok (.aload_n 0, 1) := by decide +kernel
theorem dX12_control_62 : decode cX12_control 62 = .ok (.getfield 309, 3) := by decide +kernel
theorem dX12_control_65 : decode cX12_control 65 = .ok (.iconst 1, 1) := by decide +kernel
theorem dX12_control_66 : decode cX12_control 66 = .ok (.if_icmp .eq 11, 3) := by decide +kernel
theorem dX12_control_69 : decode cX12_control 69 = .ok (.aload_n 0, 1) := by decide +kernel
theorem dX12_control_70 : decode cX12_control 70 = .ok (.getfield 309, 3) := by decide +kernel
theorem dX12_control_73 : decode cX12_control 73 = .ok (.iconst 2, 1) := by decide +kernel
theorem dX12_control_74 : decode cX12_control 74 = .ok (.if_icmp .ne 30, 3) := by decide +kernel
theorem dX12_control_77 : decode cX12_control 77 = .ok (.aload_n 0, 1) := by decide +kernel
theorem dX12_control_78 : decode cX12_control 78 = .ok (.getfield 306, 3) := by decide +kernel
theorem dX12_control_81 : decode cX12_control 81 = .ok (.iconst 4, 1) := by decide +kernel
theorem dX12_control_82 : decode cX12_control 82 = .ok (.irem, 1) := by decide +kernel
theorem dX12_control_83 : decode cX12_control 83 = .ok (.ifCond .ne 21, 3) := by decide +kernel
theorem dX12_control_86 : decode cX12_control 86 = .ok (.iconst 0, 1) := by decide +kernel
theorem dX12_control_87 : decode cX12_control 87 = .ok (.istore_n 1, 1) := by decide +kernel
theorem dX12_control_88 : decode cX12_control 88 = .ok (.iload_n 1, 1) := by decide +kernel
theorem dX12_control_89 : decode cX12_control 89 = .ok (.iconst 3, 1) := by decide +kernel
theorem dX12_control_90 : decode cX12_control 90 = .ok (.if_icmp .ge 14, 3) := by decide +kernel
theorem dX12_control_93 : decode cX12_control 93 = .ok (.aload_n 0, 1) := by decide +kernel
theorem dX12_control_94 : decode cX12_control 94 = .ok (.iload_n 1, 1) := by decide +kernel
theorem dX12_control_95 : decode cX12_control 95 = .ok (.invokevirtual 417, 3) := by decide +kernel
theorem dX12_control_98 : decode cX12_control 98 = .ok (.iinc 1 1, 3) := by decide +kernel
theorem dX12_control_101 : decode cX12_control 101 = .ok (.goto (-13), 3) := by decide +kernel
theorem dX12_control_104 : decode cX12_control 104 = .ok (.return_, 1) := by decide +kernel
def LF_X12_control_10 (N : Nat) : Nat → Nat → Int32 → MI → ML → MR → Option (MI)
  | 0, _, _, _, _, _ => none
  | k + 1, y0, y1, I, L, R =>
    if (I y0 21) ≤ y1 then
      some (I)
    else
      bn1 (F_X12_isOn N y0 y1 I L R) fun b6 =>
      bn1 (
        if (b2i b6) = 0 then
          some (I)
        else
          bn1 (F_X12_get y0 y1 (21 : Int32) I L R) fun v12 =>
          bn1 (
            if v12 = (2 : Int32) then
              bn1 (F_X12_isA N y0 y1 (8 : Int32) I L R) fun b18 =>
              bn1 (
                if (b2i b18) = 0 then
                  bn1 (F_X12_set y0 y1 (22 : Int32) (0 : Int32) I L R) fun I24 =>
                  some (I24)
                else
                  some (I)
              ) fun (I20 : MI) =>
              some (I20)
            else
              some (I)
          ) fun (I14 : MI) =>
          some (I14)
      ) fun (I8 : MI) =>
      wr (y1 + (1 : Int32)) fun (u26 : Int32) =>
      LF_X12_control_10 N k y0 u26 I8 L R
def LF_X12_control_88 (N : Nat) : Nat → Nat → Int32 → MI → ML → MR → Option (MI)
  | 0, _, _, _, _, _ => none
  | k + 1, y0, y1, I, L, R =>
    if (3 : Int32) ≤ y1 then
      some (I)
    else
      bn1 (F_X12_steer N y0 y1 I L R) fun I32 =>
      wr (y1 + (1 : Int32)) fun (u34 : Int32) =>
      LF_X12_control_88 N k y0 u34 I32 L R
def F_X12_control (N : Nat) (x0 : Nat) (I : MI) (L : ML) (R : MR) : Option (MI) :=
  if kd x0 = 11 ∧ x0 < NN then
  bn1 (
    if (I x0 35) = (3 : Int32) then
      bn1 (LF_X12_control_10 N N x0 (0 : Int32) I L R) fun z27 =>
      some (z27)
    else
      some (I)
  ) fun (I1 : MI) =>
  if (I1 x0 35) = (1 : Int32) then
    if (iR (I1 x0 34) (4 : Int32)) = 0 then
      bn1 (LF_X12_control_88 N N x0 (0 : Int32) I1 L R) fun z35 =>
      some (z35)
    else
      some (I1)
  else
    if (I1 x0 35) = (2 : Int32) then
      if (iR (I1 x0 34) (4 : Int32)) = 0 then
        bn1 (LF_X12_control_88 N N x0 (0 : Int32) I1 L R) fun z39 =>
        some (z39)
      else
        some (I1)
    else
      some (I1)
  else none
set_option maxRecDepth 100000 in
set_option maxHeartbeats 4000000 in
theorem lp_X12_control_10 {G : Gm} (C0 : Cx G (yX12_control.cls) cX12_control none) (eNL : G.nL = 2) (erm : G.rm = ({ frames := 7, cells := 0, slots := 0, locals := 164 } : Room)) (N : Nat) : ∀ (k : Nat) (y0 : Nat) (y1 : Int32) (I : MI) (L : ML) (R : MR) (z : MI) (hk0 : kd y0 = 11) (ho0 : y0 < NN), LF_X12_control_10 N k y0 y1 I L R = some z → ∀ f : State → Prop, V G f 61 [(0, .ref (G.ad y0))] [] z L R → V G f 10 [(0, .ref (G.ad y0)), (1, .int y1)] [] I L R := by
  intro k
  induction k with
  | zero =>
    intro y0 y1 I L R q hk0 ho0 h
    exact absurd h (by simp [LF_X12_control_10])
  | succ k ih =>
    intro y0 y1 I L R q hk0 ho0 h f kx
    rw [LF_X12_control_10] at h
    refine V_iload_n C0 1 rfl rfl dX12_control_10 ?_
    refine V_aload_n C0 0 rfl rfl dX12_control_11 ?_
    refine V_getI C0 11 21 fl_X12_297 ho0 hk0 rfl dX12_control_12 ?_
    refine V_icmp_ge C0 (tgt := 61) (by decide) dX12_control_15 (fun c5 => ?_) (fun c5 => ?_)
    · have h := (if_pos c5).symm.trans h
      cases h
      exact V_sub [0] rfl kx
    · have h := (if_neg c5).symm.trans h
      refine V_aload_n C0 0 rfl rfl dX12_control_18 ?_
      refine V_iload_n C0 1 rfl rfl dX12_control_19 ?_
      obtain ⟨b6, q7, h⟩ := bn1_some h
      refine V_callV C0 (st := []) (As := [.int y1]) 11 (c_X12_isOn G.l G.D G.cA G.ad G.bs G.X C0.2.2.2.2.2.2.2.2.2.1 C0.2.2.2.2.2.2.2.2.2.2.2.2 N y0 y1 I L R b6 q7) lc_X12_isOn lk_X12_393 ho0 hk0 ⟨_, rfl, rfl⟩ rfl (by rw [erm]; decide) (Nat.le_of_ble_eq_true rfl) dX12_control_20 ?_
      show V G _ 23 [(0, .ref (G.ad y0)), (1, .int y1)] [.int (b2i b6)] I L R
      obtain ⟨I8, q9, h⟩ := bn1_some h
      have k10 : V G f 55 [(0, .ref (G.ad y0)), (1, .int y1)] [] I8 L R := by
        obtain ⟨u26, eu26, h⟩ := wr_some h
        refine V_iinc C0 1 [(1, .int u26), (0, .ref (G.ad y0))] rfl (n := 1) (by rw [eu26]; rfl) (by rw [eNL]; decide) rfl dX12_control_55 ?_
        refine V_goto C0 (tgt := 10) (by decide) dX12_control_58 ?_
        exact V_sub [1, 0] rfl (ih y0 u26 I8 L R _ hk0 ho0 h f kx)
      refine V_if_eq C0 (tgt := 55) (by decide) dX12_control_23 (fun c11 => ?_) (fun c11 => ?_)
      · have q9 := (if_pos c11).symm.trans q9
        cases q9
        exact V_sub [0, 1] rfl k10
      · have q9 := (if_neg c11).symm.trans q9
        refine V_aload_n C0 0 rfl rfl dX12_control_26 ?_
        refine V_iload_n C0 1 rfl rfl dX12_control_27 ?_
        refine V_bipush C0 (v := (21 : Int32)) (by decide) dX12_control_28 ?_
        obtain ⟨v12, q13, q9⟩ := bn1_some q9
        refine V_callV C0 (st := []) (As := [.int y1, .int (21 : Int32)]) 11 (c_X12_get G.l G.D G.cA G.ad G.bs G.X C0.2.2.2.2.2.2.2.2.2.1 C0.2.2.2.2.2.2.2.2.2.2.2.2 y0 y1 (21 : Int32) I L R v12 q13) lc_X12_get lk_X12_211 ho0 hk0 ⟨_, rfl, rfl⟩ rfl (by rw [erm]; decide) (Nat.le_of_ble_eq_true rfl) dX12_control_30 ?_
        show V G _ 33 [(0, .ref (G.ad y0)), (1, .int y1)] [.int v12] I L R
        refine V_iconst C0 (v := (2 : Int32)) (by decide) dX12_control_33 ?_
        obtain ⟨I14, q15, q9⟩ := bn1_some q9
        have k16 : V G f 55 [(0, .ref (G.ad y0)), (1, .int y1)] [] I14 L R := by
          cases q9
          exact V_sub [0, 1] rfl k10
        refine V_icmp_ne C0 (tgt := 55) (by decide) dX12_control_34 (fun c17 => ?_) (fun c17 => ?_)
        · have q15 := (if_neg c17).symm.trans q15
          cases q15
          exact V_sub [0, 1] rfl k16
        · have q15 := (if_pos c17).symm.trans q15
          refine V_aload_n C0 0 rfl rfl dX12_control_37 ?_
          refine V_iload_n C0 1 rfl rfl dX12_control_38 ?_
          refine V_bipush C0 (v := (8 : Int32)) (by decide) dX12_control_39 ?_
          obtain ⟨b18, q19, q15⟩ := bn1_some q15
          refine V_callV C0 (st := []) (As := [.int y1, .int (8 : Int32)]) 11 (c_X12_isA G.l G.D G.cA G.ad G.bs G.X C0.2.2.2.2.2.2.2.2.2.1 C0.2.2.2.2.2.2.2.2.2.2.2.2 N y0 y1 (8 : Int32) I L R b18 q19) lc_X12_isA lk_X12_217 ho0 hk0 ⟨_, rfl, rfl⟩ rfl (by rw [erm]; decide) (Nat.le_of_ble_eq_true rfl) dX12_control_41 ?_
          show V G _ 44 [(0, .ref (G.ad y0)), (1, .int y1)] [.int (b2i b18)] I L R
          obtain ⟨I20, q21, q15⟩ := bn1_some q15
          have k22 : V G f 55 [(0, .ref (G.ad y0)), (1, .int y1)] [] I20 L R := by
            cases q15
            exact V_sub [0, 1] rfl k16
          refine V_if_ne C0 (tgt := 55) (by decide) dX12_control_44 (fun c23 => ?_) (fun c23 => ?_)
          · have q21 := (if_neg c23).symm.trans q21
            cases q21
            exact V_sub [0, 1] rfl k22
          · have q21 := (if_pos c23).symm.trans q21
            refine V_aload_n C0 0 rfl rfl dX12_control_47 ?_
            refine V_iload_n C0 1 rfl rfl dX12_control_48 ?_
            refine V_bipush C0 (v := (22 : Int32)) (by decide) dX12_control_49 ?_
            refine V_iconst C0 (v := (0 : Int32)) (by decide) dX12_control_51 ?_
            obtain ⟨I24, q25, q21⟩ := bn1_some q21
            refine V_callV C0 (st := []) (As := [.int y1, .int (22 : Int32), .int (0 : Int32)]) 11 (c_X12_set G.l G.D G.cA G.ad G.bs G.X C0.2.2.2.2.2.2.2.2.2.1 C0.2.2.2.2.2.2.2.2.2.2.2.2 y0 y1 (22 : Int32) (0 : Int32) I L R I24 q25) lc_X12_set lk_X12_246 ho0 hk0 ⟨_, rfl, rfl⟩ rfl (by rw [erm]; decide) (Nat.le_of_ble_eq_true rfl) dX12_control_52 ?_
            show V G _ 55 [(0, .ref (G.ad y0)), (1, .int y1)] [] I24 L R
            cases q21
            exact V_sub [0, 1] rfl k22
set_option maxRecDepth 100000 in
set_option maxHeartbeats 4000000 in
theorem lp_X12_control_88 {G : Gm} (C0 : Cx G (yX12_control.cls) cX12_control none) (eNL : G.nL = 2) (erm : G.rm = ({ frames := 7, cells := 0, slots := 0, locals := 164 } : Room)) (N : Nat) : ∀ (k : Nat) (y0 : Nat) (y1 : Int32) (I : MI) (L : ML) (R : MR) (z : MI) (hk0 : kd y0 = 11) (ho0 : y0 < NN), LF_X12_control_88 N k y0 y1 I L R = some z → ∀ f : State → Prop, V G f 104 [] [] z L R → V G f 88 [(0, .ref (G.ad y0)), (1, .int y1)] [] I L R := by
  intro k
  induction k with
  | zero =>
    intro y0 y1 I L R q hk0 ho0 h
    exact absurd h (by simp [LF_X12_control_88])
  | succ k ih =>
    intro y0 y1 I L R q hk0 ho0 h f kx
    rw [LF_X12_control_88] at h
    refine V_iload_n C0 1 rfl rfl dX12_control_88 ?_
    refine V_iconst C0 (v := (3 : Int32)) (by decide) dX12_control_89 ?_
    refine V_icmp_ge C0 (tgt := 104) (by decide) dX12_control_90 (fun c31 => ?_) (fun c31 => ?_)
    · have h := (if_pos c31).symm.trans h
      cases h
      exact V_sub [] rfl kx
    · have h := (if_neg c31).symm.trans h
      refine V_aload_n C0 0 rfl rfl dX12_control_93 ?_
      refine V_iload_n C0 1 rfl rfl dX12_control_94 ?_
      obtain ⟨I32, q33, h⟩ := bn1_some h
      refine V_callV C0 (st := []) (As := [.int y1]) 11 (c_X12_steer G.l G.D G.cA G.ad G.bs G.X C0.2.2.2.2.2.2.2.2.2.1 C0.2.2.2.2.2.2.2.2.2.2.2.2 N y0 y1 I L R I32 q33) lc_X12_steer lk_X12_417 ho0 hk0 ⟨_, rfl, rfl⟩ rfl (by rw [erm]; decide) (Nat.le_of_ble_eq_true rfl) dX12_control_95 ?_
      show V G _ 98 [(0, .ref (G.ad y0)), (1, .int y1)] [] I32 L R
      obtain ⟨u34, eu34, h⟩ := wr_some h
      refine V_iinc C0 1 [(1, .int u34), (0, .ref (G.ad y0))] rfl (n := 1) (by rw [eu34]; rfl) (by rw [eNL]; decide) rfl dX12_control_98 ?_
      refine V_goto C0 (tgt := 88) (by decide) dX12_control_101 ?_
      exact V_sub [1, 0] rfl (ih y0 u34 I32 L R _ hk0 ho0 h f kx)
set_option maxRecDepth 100000 in
set_option maxHeartbeats 4000000 in
theorem c_X12_control (l : Launch) (D : va_G) (cA : Nat → ClassId) (ad : Nat → Nat) (bs : Nat) (X : State → Prop) (hAd : Ax ad bs) (hX : Stb bs X) (N : Nat) (x0 : Nat) (I : MI) (L : ML) (R : MR) (I' : MI) (h : F_X12_control N x0 I L R = some (I')) : Cn l D cA ad bs X yX12_control cX12_control 2 none 7 164 [.ref (ad x0)] I L R (none, I', L, R) := by
  refine Cn.ofV hAd hX [(0, .ref (ad x0))] rfl (Nat.le_of_ble_eq_true rfl) (by decide) ?_
  intro G el eD ecA ead ebs eX erm eNL C0
  subst el eD ecA ead ebs eX
  unfold F_X12_control at h
  obtain ⟨c_x0, h⟩ := ite_some h
  refine V_aload_n C0 0 rfl rfl dX12_control_0 ?_
  refine V_getI C0 11 35 fl_X12_309 c_x0.2 c_x0.1 rfl dX12_control_1 ?_
  refine V_iconst C0 (v := (3 : Int32)) (by decide) dX12_control_4 ?_
  obtain ⟨I1, q2, h⟩ := bn1_some h
  have k3 : V G (qf G (none, I', L, R)) 61 [(0, .ref (G.ad x0))] [] I1 L R := by
    refine V_aload_n C0 0 rfl rfl dX12_control_61 ?_
    refine V_getI C0 11 35 fl_X12_309 c_x0.2 c_x0.1 rfl dX12_control_62 ?_
    refine V_iconst C0 (v := (1 : Int32)) (by decide) dX12_control_65 ?_
    refine V_icmp_eq C0 (tgt := 77) (by decide) dX12_control_66 (fun c29 => ?_) (fun c29 => ?_)
    · have h := (if_pos c29).symm.trans h
      refine V_aload_n C0 0 rfl rfl dX12_control_77 ?_
      refine V_getI C0 11 34 fl_X12_306 c_x0.2 c_x0.1 rfl dX12_control_78 ?_
      refine V_iconst C0 (v := (4 : Int32)) (by decide) dX12_control_81 ?_
      refine V_irem C0 (by decide) dX12_control_82 ?_
      refine V_if_ne C0 (tgt := 104) (by decide) dX12_control_83 (fun c30 => ?_) (fun c30 => ?_)
      · have h := (if_neg c30).symm.trans h
        cases h
        exact V_vret C0 dX12_control_104
      · have h := (if_pos c30).symm.trans h
        refine V_iconst C0 (v := (0 : Int32)) (by decide) dX12_control_86 ?_
        refine V_istore_n C0 [(1, .int (0 : Int32)), (0, .ref (G.ad x0))] rfl (by rw [eNL]; decide) rfl dX12_control_87 ?_
        obtain ⟨z35, q36, h⟩ := bn1_some h
        refine V_sub [1, 0] rfl (lp_X12_control_88 C0 eNL erm N N x0 (0 : Int32) I1 L R _ c_x0.1 c_x0.2 q36 _ ?_)
        show V G _ 104 [] [] z35 L R
        cases h
        exact V_vret C0 dX12_control_104
    · have h := (if_neg c29).symm.trans h
      refine V_aload_n C0 0 rfl rfl dX12_control_69 ?_
      refine V_getI C0 11 35 fl_X12_309 c_x0.2 c_x0.1 rfl dX12_control_70 ?_
      refine V_iconst C0 (v := (2 : Int32)) (by decide) dX12_control_73 ?_
      refine V_icmp_ne C0 (tgt := 104) (by decide) dX12_control_74 (fun c37 => ?_) (fun c37 => ?_)
      · have h := (if_neg c37).symm.trans h
        cases h
        exact V_vret C0 dX12_control_104
      · have h := (if_pos c37).symm.trans h
        refine V_aload_n C0 0 rfl rfl dX12_control_77 ?_
        refine V_getI C0 11 34 fl_X12_306 c_x0.2 c_x0.1 rfl dX12_control_78 ?_
        refine V_iconst C0 (v := (4 : Int32)) (by decide) dX12_control_81 ?_
        refine V_irem C0 (by decide) dX12_control_82 ?_
        refine V_if_ne C0 (tgt := 104) (by decide) dX12_control_83 (fun c38 => ?_) (fun c38 => ?_)
        · have h := (if_neg c38).symm.trans h
          cases h
          exact V_vret C0 dX12_control_104
        · have h := (if_pos c38).symm.trans h
          refine V_iconst C0 (v := (0 : Int32)) (by decide) dX12_control_86 ?_
          refine V_istore_n C0 [(1, .int (0 : Int32)), (0, .ref (G.ad x0))] rfl (by rw [eNL]; decide) rfl dX12_control_87 ?_
          obtain ⟨z39, q40, h⟩ := bn1_some h
          refine V_sub [1, 0] rfl (lp_X12_control_88 C0 eNL erm N N x0 (0 : Int32) I1 L R _ c_x0.1 c_x0.2 q40 _ ?_)
          show V G _ 104 [] [] z39 L R
          cases h
          exact V_vret C0 dX12_control_104
  refine V_icmp_ne C0 (tgt := 61) (by decide) dX12_control_5 (fun c4 => ?_) (fun c4 => ?_)
  · have q2 := (if_neg c4).symm.trans q2
    cases q2
    exact V_sub [0] rfl k3
  · have q2 := (if_pos c4).symm.trans q2
    refine V_iconst C0 (v := (0 : Int32)) (by decide) dX12_control_8 ?_
    refine V_istore_n C0 [(1, .int (0 : Int32)), (0, .ref (G.ad x0))] rfl (by rw [eNL]; decide) rfl dX12_control_9 ?_
    obtain ⟨z27, q28, q2⟩ := bn1_some q2
    refine V_sub [1, 0] rfl (lp_X12_control_10 C0 eNL erm N N x0 (0 : Int32) I L R _ c_x0.1 c_x0.2 q28 _ ?_)
    show V G _ 61 [(0, .ref (G.ad x0))] [] z27 L R
    cases q2
    exact V_sub [0] rfl k3
theorem dX12_turn_0 : decode cX12_turn 0 = .ok (.aload_n 0, 1) := by decide +kernel
theorem dX12_turn_1 : decode cX12_turn 1 = .ok (.getfield 71, 3) := by decide +kernel
theorem dX12_turn_4 : decode cX12_turn 4 = .ok (.iconst 0, 1) := by decide +kernel
theorem dX12_turn_5 : decode cX12_turn 5 = .ok (.dup2, 1) := by decide +kernel
theorem dX12_turn_6 : decode cX12_turn 6 = .ok (.iaload, 1) := by decide +kernel
theorem dX12_turn_7 : decode cX12_turn 7 = .ok (.aload_n 0, 1) := by decide +kernel
theorem dX12_turn_8 : decode cX12_turn 8 = .ok (.getfield 306, 3) := by decide +kernel
theorem dX12_turn_11 : decode cX12_turn 11 = .ok (.bipush 50, 2) := by decide +kernel
theorem dX12_turn_13 : decode cX12_turn 13 = .ok (.irem, 1) := by decide +kernel
theorem dX12_turn_14 : decode cX12_turn 14 = .ok (.ifCond .ne 7, 3) := by decide +kernel
theorem dX12_turn_17 : decode cX12_turn 17 = .ok (.iconst 1, 1) := by decide +kernel
theorem dX12_turn_18 : decode cX12_turn 18 = .ok (.goto 4, 3) := by decide +kernel
theorem dX12_turn_21 : decode cX12_turn 21 = .ok (.iconst 0, 1) := by decide +kernel
theorem dX12_turn_22 : decode cX12_turn 22 = .ok (.iadd, 1) := by decide +kernel
theorem dX12_turn_23 : decode cX12_turn 23 = .ok (.iastore, 1) := by decide +kernel
theorem dX12_turn_24 : decode cX12_turn 24 = .ok (.iconst 0, 1) := by decide +kernel
theorem dX12_turn_25 : decode cX12_turn 25 = .ok (.istore_n 1, 1) := by decide +kernel
theorem dX12_turn_26 : decode cX12_turn 26 = .ok (.iload_n 1, 1) := by decide +kernel
theorem dX12_turn_27 : decode cX12_turn 27 = .ok (.iconst 3, 1) := by decide +kernel
theorem dX12_turn_28 : decode cX12_turn 28 = .ok (.if_icmp .ge 57, 3) := by decide +kernel
theorem dX12_turn_31 : decode cX12_turn 31 = .ok (.aload_n 0, 1) := by decide +kernel
theorem dX12_turn_32 : decode cX12_turn 32 = .ok (.getfield 71, 3) := by decide +kernel
theorem dX12_turn_35 : decode cX12_turn 35 = .ok (.iload_n 1, 1) := by decide +kernel
theorem dX12_turn_36 : decode cX12_turn 36 = .ok (.aload_n 0, 1) := by decide +kernel
theorem dX12_turn_37 : decode cX12_turn 37 = .ok (.getfield 71, 3) := by decide +kernel
theorem dX12_turn_40 : decode cX12_turn 40 = .ok (.iload_n 1, 1) := by decide +kernel
theorem dX12_turn_41 : decode cX12_turn 41 = .ok (.iaload, 1) := by decide +kernel
theorem dX12_turn_42 : decode cX12_turn 42 = .ok (.sipush (-400), 3) := by decide +kernel
theorem dX12_turn_45 : decode cX12_turn 45 = .ok (.sipush 400, 3) := by decide +kernel
theorem dX12_turn_48 : decode cX12_turn 48 = .ok (.invokestatic 402, 3) := by decide +kernel
theorem dX12_turn_51 : decode cX12_turn 51 = .ok (.iastore, 1) := by decide +kernel
theorem dX12_turn_52 : decode cX12_turn 52 = .ok (.aload_n 0, 1) := by decide +kernel
theorem dX12_turn_53 : decode cX12_turn 53 = .ok (.getfield 68, 3) := by decide +kernel
theorem dX12_turn_56 : decode cX12_turn 56 = .ok (.iload_n 1, 1) := by decide +kernel
theorem dX12_turn_57 : decode cX12_turn 57 = .ok (.aload_n 0, 1) := by decide +kernel
theorem dX12_turn_58 : decode cX12_turn 58 = .ok (.getfield 68, 3) := by decide +kernel
theorem dX12_turn_61 : decode cX12_turn 61 = .ok (.iload_n 1, 1) := by decide +kernel
theorem dX12_turn_62 : decode cX12_turn 62 = .ok (.iaload, 1) := by decide +kernel
theorem dX12_turn_63 : decode cX12_turn 63 = .ok (.aload_n 0, 1) := by decide +kernel
theorem dX12_turn_64 : decode cX12_turn 64 = .ok (.getfield 71, 3) := by decide +kernel
theorem dX12_turn_67 : decode cX12_turn 67 = .ok (.iload_n 1, 1) := by decide +kernel
theorem dX12_turn_68 : decode cX12_turn 68 = .ok (.iaload, 1) := by decide +kernel
theorem dX12_turn_69 : decode cX12_turn 69 = .ok (.iconst 4, 1) := by decide +kernel
theorem dX12_turn_70 : decode cX12_turn 70 = .ok (.idiv, 1) := by decide +kernel
theorem dX12_turn_71 : decode cX12_turn 71 = .ok (.iadd, 1) := by decide +kernel
theorem dX12_turn_72 : decode cX12_turn 72 = .ok (.sipush 3600, 3) := by decide +kernel
theorem dX12_turn_75 : decode cX12_turn 75 = .ok (.invokestatic 115, 3) := by decide +kernel
theorem dX12_turn_78 : decode cX12_turn 78 = .ok (.iastore, 1) := by decide +kernel
theorem dX12_turn_79 : decode cX12_turn 79 = .ok (.iinc 1 1, 3) := by decide +kernel
theorem dX12_turn_82 : decode cX12_turn 82 = .ok (.goto (-56), 3) := by decide +kernel
theorem dX12_turn_85 : decode cX12_turn 85 = .ok (.return_, 1) := by decide +kernel
def LF_X12_turn_26 (N : Nat) : Nat → Nat → Int32 → MI → ML → MR → Option (MI)
  | 0, _, _, _, _, _ => none
  | k + 1, y0, y1, I, L, R =>
    if (3 : Int32) ≤ y1 then
      some (I)
    else
      (rf R y0 37 20).bind fun a9 =>
      (ri I a9 y1).bind fun v10 =>
      bn1 (F_X12_limit v10 (-400 : Int32) (400 : Int32) I L R) fun v11 =>
      (wi I a9 y1 v11).bind fun I13 =>
      (rf R y0 36 20).bind fun a14 =>
      (ri I13 a14 y1).bind fun v15 =>
      (ri I13 a9 y1).bind fun v16 =>
      bn1 (F_X12_mod (v15 + (v16 / (4 : Int32))) (3600 : Int32) I13 L R) fun v17 =>
      (wi I13 a14 y1 v17).bind fun I19 =>
      wr (y1 + (1 : Int32)) fun (u20 : Int32) =>
      LF_X12_turn_26 N k y0 u20 I19 L R
def F_X12_turn (N : Nat) (x0 : Nat) (I : MI) (L : ML) (R : MR) : Option (MI) :=
  if kd x0 = 11 ∧ x0 < NN then
  (rf R x0 37 20).bind fun a1 =>
  (ri I a1 (0 : Int32)).bind fun v2 =>
  bn1 (
    if (iR (I x0 34) (50 : Int32)) = 0 then
      some ((1 : Int32))
    else
      some ((0 : Int32))
  ) fun (s3 : Int32) =>
  (wi I a1 (0 : Int32) (v2 + s3)).bind fun I7 =>
  bn1 (LF_X12_turn_26 N N x0 (0 : Int32) I7 L R) fun z21 =>
  some (z21)
  else none
set_option maxRecDepth 100000 in
set_option maxHeartbeats 4000000 in
theorem lp_X12_turn_26 {G : Gm} (C0 : Cx G (yX12_turn.cls) cX12_turn none) (eNL : G.nL = 2) (erm : G.rm = ({ frames := 1, cells := 0, slots := 0, locals := 22 } : Room)) (N : Nat) : ∀ (k : Nat) (y0 : Nat) (y1 : Int32) (I : MI) (L : ML) (R : MR) (z : MI) (hk0 : kd y0 = 11) (ho0 : y0 < NN), LF_X12_turn_26 N k y0 y1 I L R = some z → ∀ f : State → Prop, V G f 85 [] [] z L R → V G f 26 [(0, .ref (G.ad y0)), (1, .int y1)] [] I L R := by
  intro k
  induction k with
  | zero =>
    intro y0 y1 I L R q hk0 ho0 h
    exact absurd h (by simp [LF_X12_turn_26])
  | succ k ih =>
    intro y0 y1 I L R q hk0 ho0 h f kx
    rw [LF_X12_turn_26] at h
    refine V_iload_n C0 1 rfl rfl dX12_turn_26 ?_
    refine V_iconst C0 (v := (3 : Int32)) (by decide) dX12_turn_27 ?_
    refine V_icmp_ge C0 (tgt := 85) (by decide) dX12_turn_28 (fun c8 => ?_) (fun c8 => ?_)
    · have h := (if_pos c8).symm.trans h
      cases h
      exact V_sub [] rfl kx
    · have h := (if_neg c8).symm.trans h
      refine V_aload_n C0 0 rfl rfl dX12_turn_31 ?_
      obtain ⟨a9, qa9, h⟩ := bnd_some h
      refine V_getR C0 11 37 fl_X12_71 ho0 hk0 rfl (rf_at qa9) dX12_turn_32 ?_
      refine V_iload_n C0 1 rfl rfl dX12_turn_35 ?_
      refine V_aload_n C0 0 rfl rfl dX12_turn_36 ?_
      refine V_getR C0 11 37 fl_X12_71 ho0 hk0 rfl (rf_at qa9) dX12_turn_37 ?_
      refine V_iload_n C0 1 rfl rfl dX12_turn_40 ?_
      obtain ⟨v10, qv10, h⟩ := bnd_some h
      refine V_ri C0 (rf_lt qa9) (rf_kd qa9) qv10 dX12_turn_41 ?_
      refine V_sipush C0 (v := (-400 : Int32)) (by decide) dX12_turn_42 ?_
      refine V_sipush C0 (v := (400 : Int32)) (by decide) dX12_turn_45 ?_
      obtain ⟨v11, q12, h⟩ := bn1_some h
      refine V_callS C0 (st := [.int y1, .ref (G.ad a9)]) (As := [.int v10, .int (-400 : Int32), .int (400 : Int32)]) (c_X12_limit G.l G.D G.cA G.ad G.bs G.X C0.2.2.2.2.2.2.2.2.2.1 C0.2.2.2.2.2.2.2.2.2.2.2.2 v10 (-400 : Int32) (400 : Int32) I L R v11 q12) lc_X12_limit lk_X12_402 rfl (by rw [erm]; decide) (Nat.le_of_ble_eq_true rfl) dX12_turn_48 ?_
      show V G _ 51 [(0, .ref (G.ad y0)), (1, .int y1)] [.int v11, .int y1, .ref (G.ad a9)] I L R
      obtain ⟨I13, qI13, h⟩ := bnd_some h
      refine V_wi C0 (rf_lt qa9) (rf_kd qa9) qI13 dX12_turn_51 ?_
      refine V_aload_n C0 0 rfl rfl dX12_turn_52 ?_
      obtain ⟨a14, qa14, h⟩ := bnd_some h
      refine V_getR C0 11 36 fl_X12_68 ho0 hk0 rfl (rf_at qa14) dX12_turn_53 ?_
      refine V_iload_n C0 1 rfl rfl dX12_turn_56 ?_
      refine V_aload_n C0 0 rfl rfl dX12_turn_57 ?_
      refine V_getR C0 11 36 fl_X12_68 ho0 hk0 rfl (rf_at qa14) dX12_turn_58 ?_
      refine V_iload_n C0 1 rfl rfl dX12_turn_61 ?_
      obtain ⟨v15, qv15, h⟩ := bnd_some h
      refine V_ri C0 (rf_lt qa14) (rf_kd qa14) qv15 dX12_turn_62 ?_
      refine V_aload_n C0 0 rfl rfl dX12_turn_63 ?_
      refine V_getR C0 11 37 fl_X12_71 ho0 hk0 rfl (rf_at qa9) dX12_turn_64 ?_
      refine V_iload_n C0 1 rfl rfl dX12_turn_67 ?_
      obtain ⟨v16, qv16, h⟩ := bnd_some h
      refine V_ri C0 (rf_lt qa9) (rf_kd qa9) qv16 dX12_turn_68 ?_
      refine V_iconst C0 (v := (4 : Int32)) (by decide) dX12_turn_69 ?_
      refine V_idiv C0 (by decide) dX12_turn_70 ?_
      refine V_iadd C0 dX12_turn_71 ?_
      refine V_sipush C0 (v := (3600 : Int32)) (by decide) dX12_turn_72 ?_
      obtain ⟨v17, q18, h⟩ := bn1_some h
      refine V_callS C0 (st := [.int y1, .ref (G.ad a14)]) (As := [.int (v15 + (v16 / (4 : Int32))), .int (3600 : Int32)]) (c_X12_mod G.l G.D G.cA G.ad G.bs G.X C0.2.2.2.2.2.2.2.2.2.1 C0.2.2.2.2.2.2.2.2.2.2.2.2 (v15 + (v16 / (4 : Int32))) (3600 : Int32) I13 L R v17 q18) lc_X12_mod lk_X12_115 rfl (by rw [erm]; decide) (Nat.le_of_ble_eq_true rfl) dX12_turn_75 ?_
      show V G _ 78 [(0, .ref (G.ad y0)), (1, .int y1)] [.int v17, .int y1, .ref (G.ad a14)] I13 L R
      obtain ⟨I19, qI19, h⟩ := bnd_some h
      refine V_wi C0 (rf_lt qa14) (rf_kd qa14) qI19 dX12_turn_78 ?_
      obtain ⟨u20, eu20, h⟩ := wr_some h
      refine V_iinc C0 1 [(1, .int u20), (0, .ref (G.ad y0))] rfl (n := 1) (by rw [eu20]; rfl) (by rw [eNL]; decide) rfl dX12_turn_79 ?_
      refine V_goto C0 (tgt := 26) (by decide) dX12_turn_82 ?_
      exact V_sub [1, 0] rfl (ih y0 u20 I19 L R _ hk0 ho0 h f kx)
set_option maxRecDepth 100000 in
set_option maxHeartbeats 4000000 in
theorem c_X12_turn (l : Launch) (D : va_G) (cA : Nat → ClassId) (ad : Nat → Nat) (bs : Nat) (X : State → Prop) (hAd : Ax ad bs) (hX : Stb bs X) (N : Nat) (x0 : Nat) (I : MI) (L : ML) (R : MR) (I' : MI) (h : F_X12_turn N x0 I L R = some (I')) : Cn l D cA ad bs X yX12_turn cX12_turn 2 none 1 22 [.ref (ad x0)] I L R (none, I', L, R) := by
  refine Cn.ofV hAd hX [(0, .ref (ad x0))] rfl (Nat.le_of_ble_eq_true rfl) (by decide) ?_
  intro G el eD ecA ead ebs eX erm eNL C0
  subst el eD ecA ead ebs eX
  unfold F_X12_turn at h
  obtain ⟨c_x0, h⟩ := ite_some h
  refine V_aload_n C0 0 rfl rfl dX12_turn_0 ?_
  obtain ⟨a1, qa1, h⟩ := bnd_some h
  refine V_getR C0 11 37 fl_X12_71 c_x0.2 c_x0.1 rfl (rf_at qa1) dX12_turn_1 ?_
  refine V_iconst C0 (v := (0 : Int32)) (by decide) dX12_turn_4 ?_
  refine V_dup2 C0 rfl rfl dX12_turn_5 ?_
  obtain ⟨v2, qv2, h⟩ := bnd_some h
  refine V_ri C0 (rf_lt qa1) (rf_kd qa1) qv2 dX12_turn_6 ?_
  refine V_aload_n C0 0 rfl rfl dX12_turn_7 ?_
  refine V_getI C0 11 34 fl_X12_306 c_x0.2 c_x0.1 rfl dX12_turn_8 ?_
  refine V_bipush C0 (v := (50 : Int32)) (by decide) dX12_turn_11 ?_
  refine V_irem C0 (by decide) dX12_turn_13 ?_
  obtain ⟨s3, q4, h⟩ := bn1_some h
  have k5 : V G (qf G (none, I', L, R)) 22 [(0, .ref (G.ad x0))] [.int s3, .int v2, .int (0 : Int32), .ref (G.ad a1)] I L R := by
    refine V_iadd C0 dX12_turn_22 ?_
    obtain ⟨I7, qI7, h⟩ := bnd_some h
    refine V_wi C0 (rf_lt qa1) (rf_kd qa1) qI7 dX12_turn_23 ?_
    refine V_iconst C0 (v := (0 : Int32)) (by decide) dX12_turn_24 ?_
    refine V_istore_n C0 [(1, .int (0 : Int32)), (0, .ref (G.ad x0))] rfl (by rw [eNL]; decide) rfl dX12_turn_25 ?_
    obtain ⟨z21, q22, h⟩ := bn1_some h
    refine V_sub [1, 0] rfl (lp_X12_turn_26 C0 eNL erm N N x0 (0 : Int32) I7 L R _ c_x0.1 c_x0.2 q22 _ ?_)
    show V G _ 85 [] [] z21 L R
    cases h
    exact V_vret C0 dX12_turn_85
  refine V_if_ne C0 (tgt := 21) (by decide) dX12_turn_14 (fun c6 => ?_) (fun c6 => ?_)
  · have q4 := (if_neg c6).symm.trans q4
    refine V_iconst C0 (v := (0 : Int32)) (by decide) dX12_turn_21 ?_
    cases q4
    exact V_sub [0] rfl k5
  · have q4 := (if_pos c6).symm.trans q4
    refine V_iconst C0 (v := (1 : Int32)) (by decide) dX12_turn_17 ?_
    refine V_goto C0 (tgt := 22) (by decide) dX12_turn_18 ?_
    cases q4
    exact V_sub [0] rfl k5
theorem dX12_given_0 : decode cX12_given 0 = .ok (.aload_n 0, 1) := by decide +kernel
theorem dX12_given_1 : decode cX12_given 1 = .ok (.iload_n 1, 1) := by decide +kernel
theorem dX12_given_2 : decode cX12_given 2 = .ok (.bipush 25, 2) := by decide +kernel
theorem dX12_given_4 : decode cX12_given 4 = .ok (.invokevirtual 217, 3) := by decide +kernel
theorem dX12_given_7 : decode cX12_given 7 = .ok (.ifCond .eq 61, 3) := by decide +kernel
theorem dX12_given_10 : decode cX12_given 10 = .ok (.aload_n 0, 1) := by decide +kernel
theorem dX12_given_11 : decode cX12_given 11 = .ok (.iload_n 1, 1) := by decide +kernel
theorem dX12_given_12 : decode cX12_given 12 = .ok (.bipush 27, 2) := by decide +kernel
theorem dX12_given_14 : decode cX12_given 14 = .ok (.invokevirtual 211, 3) := by decide +kernel
theorem dX12_given_17 : decode cX12_given 17 = .ok (.istore_n 2, 1) := by decide +kernel
theorem dX12_given_18 : decode cX12_given 18 = .ok (.aload_n 0, 1) := by decide +kernel
theorem dX12_given_19 : decode cX12_given 19 = .ok (.iload_n 2, 1) := by decide +kernel
theorem dX12_given_20 : decode cX12_given 20 = .ok (.invokevirtual 366, 3) := by decide +kernel
theorem dX12_given_23 : decode cX12_given 23 = .ok (.ifCond .eq 13, 3) := by decide +kernel
theorem dX12_given_26 : decode cX12_given 26 = .ok (.aload_n 0, 1) := by decide +kernel
theorem dX12_given_27 : decode cX12_given 27 = .ok (.iload_n 2, 1) := by decide +kernel
theorem dX12_given_28 : decode cX12_given 28 = .ok (.bipush 10, 2) := by decide +kernel
theorem dX12_given_30 : decode cX12_given 30 = .ok (.invokevirtual 211, 3) := by decide +kernel
theorem dX12_given_33 : decode cX12_given 33 = .ok (.ifCond .gt 5, 3) := by decide +kernel
theorem dX12_given_36 : decode cX12_given 36 = .ok (.iconst 0, 1) := by decide +kernel
theorem dX12_given_37 : decode cX12_given 37 = .ok (.ireturn, 1) := by decide +kernel
theorem dX12_given_38 : decode cX12_given 38 = .ok (.aload_n 0, 1) := by decide +kernel
theorem dX12_given_39 : decode cX12_given 39 = .ok (.iload_n 2, 1) := by decide +kernel
theorem dX12_given_40 : decode cX12_given 40 = .ok (.bipush 10, 2) := by decide +kernel
theorem dX12_given_42 : decode cX12_given 42 = .ok (.aload_n 0, 1) := by decide +kernel
theorem dX12_given_43 : decode cX12_given 43 = .ok (.getfield 306, 3) := by decide +kernel
theorem dX12_given_46 : decode cX12_given 46 = .ok (.bipush 8, 2) := by decide +kernel
theorem dX12_given_48 : decode cX12_given 48 = .ok (.irem, 1) := by decide +kernel
theorem dX12_given_49 : decode cX12_given 49 = .ok (.ifCond .ne 7, 3) := by decide +kernel
theorem dX12_given_52 : decode cX12_given 52 = .ok (.iconst (-1), 1) := by decide +kernel
theorem dX12_given_53 : decode cX12_given 53 = .ok (.goto 4, 3) := by decide +kernel
theorem dX12_given_56 : decode cX12_given 56 = .ok (.iconst 0, 1) := by decide +kernel
theorem dX12_given_57 : decode cX12_given 57 = .ok (.invokevirtual 259, 3) := by decide +kernel
theorem dX12_given_60 : decode cX12_given 60 = .ok (.aload_n 0, 1) := by decide +kernel
theorem dX12_given_61 : decode cX12_given 61 = .ok (.iload_n 1, 1) := by decide +kernel
theorem dX12_given_62 : decode cX12_given 62 = .ok (.bipush 43, 2) := by decide +kernel
theorem dX12_given_64 : decode cX12_given 64 = .ok (.invokevirtual 211, 3) := by decide +kernel
theorem dX12_given_67 : decode cX12_given 67 = .ok (.ireturn, 1) := by decide +kernel
theorem dX12_given_68 : decode cX12_given 68 = .ok (.sipush 900, 3) := by decide +kernel
theorem dX12_given_71 : decode cX12_given 71 = .ok (.aload_n 0, 1) := by decide +kernel
theorem dX12_given_72 : decode cX12_given 72 = .ok (.iload_n 1, 1) := by decide +kernel
theorem dX12_given_73 : decode cX12_given 73 = .ok (.bipush 54, 2) := by decide +kernel
theorem dX12_given_75 : decode cX12_given 75 = .ok (.invokevirtual 211, 3) := by decide +kernel
theorem dX12_given_78 : decode cX12_given 78 = .ok (.imul, 1) := by decide +kernel
theorem dX12_given_79 : decode cX12_given 79 = .ok (.istore_n 2, 1) := by decide +kernel
theorem dX12_given_80 : decode cX12_given 80 = .ok (.aload_n 0, 1) := by decide +kernel
theorem dX12_given_81 : decode cX12_given 81 = .ok (.iload_n 1, 1) := by decide +kernel
theorem dX12_given_82 : decode cX12_given 82 = .ok (.bipush 24, 2) := by decide +kernel
theorem dX12_given_84 : decode cX12_given 84 = .ok (.invokevirtual 217, 3) := by decide +kernel
theorem dX12_given_87 : decode cX12_given 87 = .ok (.ifCond .eq 62, 3) := by decide +kernel
theorem dX12_given_90 : decode cX12_given 90 = .ok (.aload_n 0, 1) := by decide +kernel
theorem dX12_given_91 : decode cX12_given 91 = .ok (.iload_n 1, 1) := by decide +kernel
theorem dX12_given_92 : decode cX12_given 92 = .ok (.bipush 55, 2) := by decide +kernel
theorem dX12_given_94 : decode cX12_given 94 = .ok (.invokevirtual 211, 3) := by decide +kernel
theorem dX12_given_97 : decode cX12_given 97 = .ok (.istore_n 3, 1) := by decide +kernel
theorem dX12_given_98 : decode cX12_given 98 = .ok (.aload_n 0, 1) := by decide +kernel
theorem dX12_given_99 : decode cX12_given 99 = .ok (.iload_n 1, 1) := by decide +kernel
theorem dX12_given_100 : decode cX12_given 100 = .ok (.bipush 56, 2) := by decide +kernel
theorem dX12_given_102 : decode cX12_given 102 = .ok (.aload_n 0, 1) := by decide +kernel
theorem dX12_given_103 : decode cX12_given 103 = .ok (.iload_n 1, 1) := by decide +kernel
theorem dX12_given_104 : decode cX12_given 104 = .ok (.bipush 56, 2) := by decide +kernel
theorem dX12_given_106 : decode cX12_given 106 = .ok (.invokevirtual 211, 3) := by decide +kernel
theorem dX12_given_109 : decode cX12_given 109 = .ok (.aload_n 0, 1) := by decide +kernel
theorem dX12_given_110 : decode cX12_given 110 = .ok (.iload_n 1, 1) := by decide +kernel
theorem dX12_given_111 : decode cX12_given 111 = .ok (.bipush 56, 2) := by decide +kernel
theorem dX12_given_113 : decode cX12_given 113 = .ok (.invokevirtual 211, 3) := by decide +kernel
theorem dX12_given_116 : decode cX12_given 116 = .ok (.aload_n 0, 1) := by decide +kernel
theorem dX12_given_117 : decode cX12_given 117 = .ok (.getfield 68, 3) := by decide +kernel
theorem dX12_given_120 : decode cX12_given 120 = .ok (.iconst 1, 1) := by decide +kernel
theorem dX12_given_121 : decode cX12_given 121 = .ok (.iaload, 1) := by decide +kernel
theorem dX12_given_122 : decode cX12_given 122 = .ok (.invokestatic 381, 3) := by decide +kernel
theorem dX12_given_125 : decode cX12_given 125 = .ok (.iload_n 3, 1) := by decide +kernel
theorem dX12_given_126 : decode cX12_given 126 = .ok (.ineg, 1) := by decide +kernel
theorem dX12_given_127 : decode cX12_given 127 = .ok (.iload_n 3, 1) := by decide +kernel
theorem dX12_given_128 : decode cX12_given 128 = .ok (.invokestatic 402, 3) := by decide +kernel
theorem dX12_given_131 : decode cX12_given 131 = .ok (.iadd, 1) := by decide +kernel
theorem dX12_given_132 : decode cX12_given 132 = .ok (.sipush 3600, 3) := by decide +kernel
theorem dX12_given_135 : decode cX12_given 135 = .ok (.invokestatic 115, 3) := by decide +kernel
theorem dX12_given_138 : decode cX12_given 138 = .ok (.invokevirtual 246, 3) := by decide +kernel
theorem dX12_given_141 : decode cX12_given 141 = .ok (.aload_n 0, 1) := by decide +kernel
theorem dX12_given_142 : decode cX12_given 142 = .ok (.iload_n 1, 1) := by decide +kernel
theorem dX12_given_143 : decode cX12_given 143 = .ok (.bipush 56, 2) := by decide +kernel
theorem dX12_given_145 : decode cX12_given 145 = .ok (.invokevirtual 211, 3) := by decide +kernel
theorem dX12_given_148 : decode cX12_given 148 = .ok (.istore_n 2, 1) := by decide +kernel
theorem dX12_given_149 : decode cX12_given 149 = .ok (.aload_n 0, 1) := by decide +kernel
theorem dX12_given_150 : decode cX12_given 150 = .ok (.getfield 68, 3) := by decide +kernel
theorem dX12_given_153 : decode cX12_given 153 = .ok (.iconst 1, 1) := by decide +kernel
theorem dX12_given_154 : decode cX12_given 154 = .ok (.iaload, 1) := by decide +kernel
theorem dX12_given_155 : decode cX12_given 155 = .ok (.iload_n 2, 1) := by decide +kernel
theorem dX12_given_156 : decode cX12_given 156 = .ok (.invokestatic 381, 3) := by decide +kernel
theorem dX12_given_159 : decode cX12_given 159 = .ok (.invokestatic 384, 3) := by decide +kernel
theorem dX12_given_162 : decode cX12_given 162 = .ok (.bipush 120, 2) := by decide +kernel
theorem dX12_given_164 : decode cX12_given 164 = .ok (.idiv, 1) := by decide +kernel
theorem dX12_given_165 : decode cX12_given 165 = .ok (.istore_n 3, 1) := by decide +kernel
theorem dX12_given_166 : decode cX12_given 166 = .ok (.aload_n 0, 1) := by decide +kernel
theorem dX12_given_167 : decode cX12_given 167 = .ok (.iload_n 1, 1) := by decide +kernel
theorem dX12_given_168 : decode cX12_given 168 = .ok (.bipush 43, 2) := by decide +kernel
theorem dX12_given_170 : decode cX12_given 170 = .ok (.invokevirtual 211, 3) := by decide +kernel
theorem dX12_given_173 : decode cX12_given 173 = .ok (.aload_n 0, 1) := by decide +kernel
theorem dX12_given_174 : decode cX12_given 174 = .ok (.getfield 336, 3) := by decide +kernel
theorem dX12_given_177 : decode cX12_given 177 = .ok (.imul, 1) := by decide +kernel
theorem dX12_given_178 : decode cX12_given 178 = .ok (.bipush 100, 2) := by decide +kernel
theorem dX12_given_180 : decode cX12_given 180 = .ok (.idiv, 1) := by decide +kernel
theorem dX12_given_181 : decode cX12_given 181 = .ok (.aload_n 0, 1) := by decide +kernel
theorem dX12_given_182 : decode cX12_given 182 = .ok (.getfield 103, 3) := by decide +kernel
theorem dX12_given_185 : decode cX12_given 185 = .ok (.iload_n 3, 1) := by decide +kernel
theorem dX12_given_186 : decode cX12_given 186 = .ok (.iaload, 1) := by decide +kernel
theorem dX12_given_187 : decode cX12_given 187 = .ok (.imul, 1) := by decide +kernel
theorem dX12_given_188 : decode cX12_given 188 = .ok (.bipush 100, 2) := by decide +kernel
theorem dX12_given_190 : decode cX12_given 190 = .ok (.idiv, 1) := by decide +kernel
theorem dX12_given_191 : decode cX12_given 191 = .ok (.ireturn, 1) := by decide +kernel
def F_X12_given (N : Nat) (x0 : Nat) (x1 : Int32) (I : MI) (L : ML) (R : MR) : Option (Int32 × MI) :=
  if kd x0 = 11 ∧ x0 < NN then
  bn1 (F_X12_isA N x0 x1 (25 : Int32) I L R) fun b1 =>
  if (b2i b1) = 0 then
    bn1 (F_X12_get x0 x1 (54 : Int32) I L R) fun v4 =>
    wr ((900 : Int32) * v4) fun (u6 : Int32) =>
    bn1 (F_X12_isA N x0 x1 (24 : Int32) I L R) fun b7 =>
    bn2 (
      if (b2i b7) = 0 then
        some (u6, I)
      else
        bn1 (F_X12_get x0 x1 (55 : Int32) I L R) fun v14 =>
        bn1 (F_X12_get x0 x1 (56 : Int32) I L R) fun v16 =>
        bn1 (F_X12_get x0 x1 (56 : Int32) I L R) fun v18 =>
        (rf R x0 36 20).bind fun a20 =>
        (ri I a20 (1 : Int32)).bind fun v21 =>
        bn1 (F_X12_off v18 v21 I L R) fun v22 =>
        bn1 (F_X12_limit v22 (-v14) v14 I L R) fun v24 =>
        bn1 (F_X12_mod (v16 + v24) (3600 : Int32) I L R) fun v26 =>
        bn1 (F_X12_set x0 x1 (56 : Int32) v26 I L R) fun I28 =>
        bn1 (F_X12_get x0 x1 (56 : Int32) I28 L R) fun v30 =>
        some (v30, I28)
    ) fun (u9 : Int32) (I10 : MI) =>
    (rf R x0 36 20).bind fun a32 =>
    (ri I10 a32 (1 : Int32)).bind fun v33 =>
    bn1 (F_X12_off v33 u9 I10 L R) fun v34 =>
    bn1 (F_X12_amount v34 I10 L R) fun v36 =>
    wr (v36 / (120 : Int32)) fun (u38 : Int32) =>
    bn1 (F_X12_get x0 x1 (43 : Int32) I10 L R) fun v39 =>
    (rf R x0 61 20).bind fun a41 =>
    (ri I10 a41 u38).bind fun v42 =>
    some (((((v39 * (I10 x0 47)) / (100 : Int32)) * v42) / (100 : Int32)), I10)
  else
    bn1 (F_X12_get x0 x1 (27 : Int32) I L R) fun v43 =>
    bn1 (F_X12_isWhole x0 v43 I L R) fun b45 =>
    if (b2i b45) = 0 then
      some ((0 : Int32), I)
    else
      bn1 (F_X12_get x0 v43 (10 : Int32) I L R) fun v48 =>
      if 0 < v48 then
        bn1 (
          if (iR (I x0 34) (8 : Int32)) = 0 then
            some ((-1 : Int32))
          else
            some ((0 : Int32))
        ) fun (s51 : Int32) =>
        bn1 (F_X12_grow x0 v43 (10 : Int32) s51 I L R) fun I55 =>
        bn1 (F_X12_get x0 x1 (43 : Int32) I55 L R) fun v57 =>
        some (v57, I55)
      else
        some ((0 : Int32), I)
  else none
set_option maxRecDepth 100000 in
set_option maxHeartbeats 4000000 in
theorem c_X12_given (l : Launch) (D : va_G) (cA : Nat → ClassId) (ad : Nat → Nat) (bs : Nat) (X : State → Prop) (hAd : Ax ad bs) (hX : Stb bs X) (N : Nat) (x0 : Nat) (x1 : Int32) (I : MI) (L : ML) (R : MR) (r : Int32) (I' : MI) (h : F_X12_given N x0 x1 I L R = some (r, I')) : Cn l D cA ad bs X yX12_given cX12_given 4 (some .int) 2 45 [.ref (ad x0), .int x1] I L R (some (.int r), I', L, R) := by
  refine Cn.ofV hAd hX [(0, .ref (ad x0)), (1, .int x1)] rfl (Nat.le_of_ble_eq_true rfl) (by decide) ?_
  intro G el eD ecA ead ebs eX erm eNL C0
  subst el eD ecA ead ebs eX
  unfold F_X12_given at h
  obtain ⟨c_x0, h⟩ := ite_some h
  refine V_aload_n C0 0 rfl rfl dX12_given_0 ?_
  refine V_iload_n C0 1 rfl rfl dX12_given_1 ?_
  refine V_bipush C0 (v := (25 : Int32)) (by decide) dX12_given_2 ?_
  obtain ⟨b1, q2, h⟩ := bn1_some h
  refine V_callV C0 (st := []) (As := [.int x1, .int (25 : Int32)]) 11 (c_X12_isA G.l G.D G.cA G.ad G.bs G.X C0.2.2.2.2.2.2.2.2.2.1 C0.2.2.2.2.2.2.2.2.2.2.2.2 N x0 x1 (25 : Int32) I L R b1 q2) lc_X12_isA lk_X12_217 c_x0.2 c_x0.1 ⟨_, rfl, rfl⟩ rfl (by rw [erm]; decide) (Nat.le_of_ble_eq_true rfl) dX12_given_4 ?_
  show V G _ 7 [(0, .ref (G.ad x0)), (1, .int x1)] [.int (b2i b1)] I L R
  refine V_if_eq C0 (tgt := 68) (by decide) dX12_given_7 (fun c3 => ?_) (fun c3 => ?_)
  · have h := (if_pos c3).symm.trans h
    refine V_sipush C0 (v := (900 : Int32)) (by decide) dX12_given_68 ?_
    refine V_aload_n C0 0 rfl rfl dX12_given_71 ?_
    refine V_iload_n C0 1 rfl rfl dX12_given_72 ?_
    refine V_bipush C0 (v := (54 : Int32)) (by decide) dX12_given_73 ?_
    obtain ⟨v4, q5, h⟩ := bn1_some h
    refine V_callV C0 (st := [.int (900 : Int32)]) (As := [.int x1, .int (54 : Int32)]) 11 (c_X12_get G.l G.D G.cA G.ad G.bs G.X C0.2.2.2.2.2.2.2.2.2.1 C0.2.2.2.2.2.2.2.2.2.2.2.2 x0 x1 (54 : Int32) I L R v4 q5) lc_X12_get lk_X12_211 c_x0.2 c_x0.1 ⟨_, rfl, rfl⟩ rfl (by rw [erm]; decide) (Nat.le_of_ble_eq_true rfl) dX12_given_75 ?_
    show V G _ 78 [(0, .ref (G.ad x0)), (1, .int x1)] [.int v4, .int (900 : Int32)] I L R
    refine V_imul C0 dX12_given_78 ?_
    obtain ⟨u6, eu6, h⟩ := wr_some h
    rw [← eu6]
    refine V_istore_n C0 [(2, .int u6), (0, .ref (G.ad x0)), (1, .int x1)] rfl (by rw [eNL]; decide) rfl dX12_given_79 ?_
    refine V_aload_n C0 1 rfl rfl dX12_given_80 ?_
    refine V_iload_n C0 2 rfl rfl dX12_given_81 ?_
    refine V_bipush C0 (v := (24 : Int32)) (by decide) dX12_given_82 ?_
    obtain ⟨b7, q8, h⟩ := bn1_some h
    refine V_callV C0 (st := []) (As := [.int x1, .int (24 : Int32)]) 11 (c_X12_isA G.l G.D G.cA G.ad G.bs G.X C0.2.2.2.2.2.2.2.2.2.1 C0.2.2.2.2.2.2.2.2.2.2.2.2 N x0 x1 (24 : Int32) I L R b7 q8) lc_X12_isA lk_X12_217 c_x0.2 c_x0.1 ⟨_, rfl, rfl⟩ rfl (by rw [erm]; decide) (Nat.le_of_ble_eq_true rfl) dX12_given_84 ?_
    show V G _ 87 [(2, .int u6), (0, .ref (G.ad x0)), (1, .int x1)] [.int (b2i b7)] I L R
    obtain ⟨u9, I10, q11, h⟩ := bn2_some h
    have k12 : V G (qf G (some (.int r), I', L, R)) 149 [(0, .ref (G.ad x0)), (1, .int x1), (2, .int u9)] [] I10 L R := by
      refine V_aload_n C0 0 rfl rfl dX12_given_149 ?_
      obtain ⟨a32, qa32, h⟩ := bnd_some h
      refine V_getR C0 11 36 fl_X12_68 c_x0.2 c_x0.1 rfl (rf_at qa32) dX12_given_150 ?_
      refine V_iconst C0 (v := (1 : Int32)) (by decide) dX12_given_153 ?_
      obtain ⟨v33, qv33, h⟩ := bnd_some h
      refine V_ri C0 (rf_lt qa32) (rf_kd qa32) qv33 dX12_given_154 ?_
      refine V_iload_n C0 2 rfl rfl dX12_given_155 ?_
      obtain ⟨v34, q35, h⟩ := bn1_some h
      refine V_callS C0 (st := []) (As := [.int v33, .int u9]) (c_X12_off G.l G.D G.cA G.ad G.bs G.X C0.2.2.2.2.2.2.2.2.2.1 C0.2.2.2.2.2.2.2.2.2.2.2.2 v33 u9 I10 L R v34 q35) lc_X12_off lk_X12_381 rfl (by rw [erm]; decide) (Nat.le_of_ble_eq_true rfl) dX12_given_156 ?_
      show V G _ 159 [(0, .ref (G.ad x0)), (1, .int x1), (2, .int u9)] [.int v34] I10 L R
      obtain ⟨v36, q37, h⟩ := bn1_some h
      refine V_callS C0 (st := []) (As := [.int v34]) (c_X12_amount G.l G.D G.cA G.ad G.bs G.X C0.2.2.2.2.2.2.2.2.2.1 C0.2.2.2.2.2.2.2.2.2.2.2.2 v34 I10 L R v36 q37) lc_X12_amount lk_X12_384 rfl (by rw [erm]; decide) (Nat.le_of_ble_eq_true rfl) dX12_given_159 ?_
      show V G _ 162 [(0, .ref (G.ad x0)), (1, .int x1), (2, .int u9)] [.int v36] I10 L R
      refine V_bipush C0 (v := (120 : Int32)) (by decide) dX12_given_162 ?_
      refine V_idiv C0 (by decide) dX12_given_164 ?_
      obtain ⟨u38, eu38, h⟩ := wr_some h
      rw [← eu38]
      refine V_istore_n C0 [(3, .int u38), (0, .ref (G.ad x0)), (1, .int x1), (2, .int u9)] rfl (by rw [eNL]; decide) rfl dX12_given_165 ?_
      refine V_aload_n C0 1 rfl rfl dX12_given_166 ?_
      refine V_iload_n C0 2 rfl rfl dX12_given_167 ?_
      refine V_bipush C0 (v := (43 : Int32)) (by decide) dX12_given_168 ?_
      obtain ⟨v39, q40, h⟩ := bn1_some h
      refine V_callV C0 (st := []) (As := [.int x1, .int (43 : Int32)]) 11 (c_X12_get G.l G.D G.cA G.ad G.bs G.X C0.2.2.2.2.2.2.2.2.2.1 C0.2.2.2.2.2.2.2.2.2.2.2.2 x0 x1 (43 : Int32) I10 L R v39 q40) lc_X12_get lk_X12_211 c_x0.2 c_x0.1 ⟨_, rfl, rfl⟩ rfl (by rw [erm]; decide) (Nat.le_of_ble_eq_true rfl) dX12_given_170 ?_
      show V G _ 173 [(3, .int u38), (0, .ref (G.ad x0)), (1, .int x1), (2, .int u9)] [.int v39] I10 L R
      refine V_aload_n C0 1 rfl rfl dX12_given_173 ?_
      refine V_getI C0 11 47 fl_X12_336 c_x0.2 c_x0.1 rfl dX12_given_174 ?_
      refine V_imul C0 dX12_given_177 ?_
      refine V_bipush C0 (v := (100 : Int32)) (by decide) dX12_given_178 ?_
      refine V_idiv C0 (by decide) dX12_given_180 ?_
      refine V_aload_n C0 1 rfl rfl dX12_given_181 ?_
      obtain ⟨a41, qa41, h⟩ := bnd_some h
      refine V_getR C0 11 61 fl_X12_103 c_x0.2 c_x0.1 rfl (rf_at qa41) dX12_given_182 ?_
      refine V_iload_n C0 0 rfl rfl dX12_given_185 ?_
      obtain ⟨v42, qv42, h⟩ := bnd_some h
      refine V_ri C0 (rf_lt qa41) (rf_kd qa41) qv42 dX12_given_186 ?_
      refine V_imul C0 dX12_given_187 ?_
      refine V_bipush C0 (v := (100 : Int32)) (by decide) dX12_given_188 ?_
      refine V_idiv C0 (by decide) dX12_given_190 ?_
      cases h
      exact V_iret C0 dX12_given_191
    refine V_if_eq C0 (tgt := 149) (by decide) dX12_given_87 (fun c13 => ?_) (fun c13 => ?_)
    · have q11 := (if_pos c13).symm.trans q11
      cases q11
      exact V_sub [1, 2, 0] rfl k12
    · have q11 := (if_neg c13).symm.trans q11
      refine V_aload_n C0 1 rfl rfl dX12_given_90 ?_
      refine V_iload_n C0 2 rfl rfl dX12_given_91 ?_
      refine V_bipush C0 (v := (55 : Int32)) (by decide) dX12_given_92 ?_
      obtain ⟨v14, q15, q11⟩ := bn1_some q11
      refine V_callV C0 (st := []) (As := [.int x1, .int (55 : Int32)]) 11 (c_X12_get G.l G.D G.cA G.ad G.bs G.X C0.2.2.2.2.2.2.2.2.2.1 C0.2.2.2.2.2.2.2.2.2.2.2.2 x0 x1 (55 : Int32) I L R v14 q15) lc_X12_get lk_X12_211 c_x0.2 c_x0.1 ⟨_, rfl, rfl⟩ rfl (by rw [erm]; decide) (Nat.le_of_ble_eq_true rfl) dX12_given_94 ?_
      show V G _ 97 [(2, .int u6), (0, .ref (G.ad x0)), (1, .int x1)] [.int v14] I L R
      refine V_istore_n C0 [(3, .int v14), (2, .int u6), (0, .ref (G.ad x0)), (1, .int x1)] rfl (by rw [eNL]; decide) rfl dX12_given_97 ?_
      refine V_aload_n C0 2 rfl rfl dX12_given_98 ?_
      refine V_iload_n C0 3 rfl rfl dX12_given_99 ?_
      refine V_bipush C0 (v := (56 : Int32)) (by decide) dX12_given_100 ?_
      refine V_aload_n C0 2 rfl rfl dX12_given_102 ?_
      refine V_iload_n C0 3 rfl rfl dX12_given_103 ?_
      refine V_bipush C0 (v := (56 : Int32)) (by decide) dX12_given_104 ?_
      obtain ⟨v16, q17, q11⟩ := bn1_some q11
      refine V_callV C0 (st := [.int (56 : Int32), .int x1, .ref (G.ad x0)]) (As := [.int x1, .int (56 : Int32)]) 11 (c_X12_get G.l G.D G.cA G.ad G.bs G.X C0.2.2.2.2.2.2.2.2.2.1 C0.2.2.2.2.2.2.2.2.2.2.2.2 x0 x1 (56 : Int32) I L R v16 q17) lc_X12_get lk_X12_211 c_x0.2 c_x0.1 ⟨_, rfl, rfl⟩ rfl (by rw [erm]; decide) (Nat.le_of_ble_eq_true rfl) dX12_given_106 ?_
      show V G _ 109 [(3, .int v14), (2, .int u6), (0, .ref (G.ad x0)), (1, .int x1)] [.int v16, .int (56 : Int32), .int x1, .ref (G.ad x0)] I L R
      refine V_aload_n C0 2 rfl rfl dX12_given_109 ?_
      refine V_iload_n C0 3 rfl rfl dX12_given_110 ?_
      refine V_bipush C0 (v := (56 : Int32)) (by decide) dX12_given_111 ?_
      obtain ⟨v18, q19, q11⟩ := bn1_some q11
      refine V_callV C0 (st := [.int v16, .int (56 : Int32), .int x1, .ref (G.ad x0)]) (As := [.int x1, .int (56 : Int32)]) 11 (c_X12_get G.l G.D G.cA G.ad G.bs G.X C0.2.2.2.2.2.2.2.2.2.1 C0.2.2.2.2.2.2.2.2.2.2.2.2 x0 x1 (56 : Int32) I L R v18 q19) lc_X12_get lk_X12_211 c_x0.2 c_x0.1 ⟨_, rfl, rfl⟩ rfl (by rw [erm]; decide) (Nat.le_of_ble_eq_true rfl) dX12_given_113 ?_
      show V G _ 116 [(3, .int v14), (2, .int u6), (0, .ref (G.ad x0)), (1, .int x1)] [.int v18, .int v16, .int (56 : Int32), .int x1, .ref (G.ad x0)] I L R
      refine V_aload_n C0 2 rfl rfl dX12_given_116 ?_
      obtain ⟨a20, qa20, q11⟩ := bnd_some q11
      refine V_getR C0 11 36 fl_X12_68 c_x0.2 c_x0.1 rfl (rf_at qa20) dX12_given_117 ?_
      refine V_iconst C0 (v := (1 : Int32)) (by decide) dX12_given_120 ?_
      obtain ⟨v21, qv21, q11⟩ := bnd_some q11
      refine V_ri C0 (rf_lt qa20) (rf_kd qa20) qv21 dX12_given_121 ?_
      obtain ⟨v22, q23, q11⟩ := bn1_some q11
      refine V_callS C0 (st := [.int v16, .int (56 : Int32), .int x1, .ref (G.ad x0)]) (As := [.int v18, .int v21]) (c_X12_off G.l G.D G.cA G.ad G.bs G.X C0.2.2.2.2.2.2.2.2.2.1 C0.2.2.2.2.2.2.2.2.2.2.2.2 v18 v21 I L R v22 q23) lc_X12_off lk_X12_381 rfl (by rw [erm]; decide) (Nat.le_of_ble_eq_true rfl) dX12_given_122 ?_
      show V G _ 125 [(3, .int v14), (2, .int u6), (0, .ref (G.ad x0)), (1, .int x1)] [.int v22, .int v16, .int (56 : Int32), .int x1, .ref (G.ad x0)] I L R
      refine V_iload_n C0 0 rfl rfl dX12_given_125 ?_
      refine V_ineg C0 dX12_given_126 ?_
      refine V_iload_n C0 0 rfl rfl dX12_given_127 ?_
      obtain ⟨v24, q25, q11⟩ := bn1_some q11
      refine V_callS C0 (st := [.int v16, .int (56 : Int32), .int x1, .ref (G.ad x0)]) (As := [.int v22, .int (-v14), .int v14]) (c_X12_limit G.l G.D G.cA G.ad G.bs G.X C0.2.2.2.2.2.2.2.2.2.1 C0.2.2.2.2.2.2.2.2.2.2.2.2 v22 (-v14) v14 I L R v24 q25) lc_X12_limit lk_X12_402 rfl (by rw [erm]; decide) (Nat.le_of_ble_eq_true rfl) dX12_given_128 ?_
      show V G _ 131 [(3, .int v14), (2, .int u6), (0, .ref (G.ad x0)), (1, .int x1)] [.int v24, .int v16, .int (56 : Int32), .int x1, .ref (G.ad x0)] I L R
      refine V_iadd C0 dX12_given_131 ?_
      refine V_sipush C0 (v := (3600 : Int32)) (by decide) dX12_given_132 ?_
      obtain ⟨v26, q27, q11⟩ := bn1_some q11
      refine V_callS C0 (st := [.int (56 : Int32), .int x1, .ref (G.ad x0)]) (As := [.int (v16 + v24), .int (3600 : Int32)]) (c_X12_mod G.l G.D G.cA G.ad G.bs G.X C0.2.2.2.2.2.2.2.2.2.1 C0.2.2.2.2.2.2.2.2.2.2.2.2 (v16 + v24) (3600 : Int32) I L R v26 q27) lc_X12_mod lk_X12_115 rfl (by rw [erm]; decide) (Nat.le_of_ble_eq_true rfl) dX12_given_135 ?_
      show V G _ 138 [(3, .int v14), (2, .int u6), (0, .ref (G.ad x0)), (1, .int x1)] [.int v26, .int (56 : Int32), .int x1, .ref (G.ad x0)] I L R
      obtain ⟨I28, q29, q11⟩ := bn1_some q11
      refine V_callV C0 (st := []) (As := [.int x1, .int (56 : Int32), .int v26]) 11 (c_X12_set G.l G.D G.cA G.ad G.bs G.X C0.2.2.2.2.2.2.2.2.2.1 C0.2.2.2.2.2.2.2.2.2.2.2.2 x0 x1 (56 : Int32) v26 I L R I28 q29) lc_X12_set lk_X12_246 c_x0.2 c_x0.1 ⟨_, rfl, rfl⟩ rfl (by rw [erm]; decide) (Nat.le_of_ble_eq_true rfl) dX12_given_138 ?_
      show V G _ 141 [(3, .int v14), (2, .int u6), (0, .ref (G.ad x0)), (1, .int x1)] [] I28 L R
      refine V_aload_n C0 2 rfl rfl dX12_given_141 ?_
      refine V_iload_n C0 3 rfl rfl dX12_given_142 ?_
      refine V_bipush C0 (v := (56 : Int32)) (by decide) dX12_given_143 ?_
      obtain ⟨v30, q31, q11⟩ := bn1_some q11
      refine V_callV C0 (st := []) (As := [.int x1, .int (56 : Int32)]) 11 (c_X12_get G.l G.D G.cA G.ad G.bs G.X C0.2.2.2.2.2.2.2.2.2.1 C0.2.2.2.2.2.2.2.2.2.2.2.2 x0 x1 (56 : Int32) I28 L R v30 q31) lc_X12_get lk_X12_211 c_x0.2 c_x0.1 ⟨_, rfl, rfl⟩ rfl (by rw [erm]; decide) (Nat.le_of_ble_eq_true rfl) dX12_given_145 ?_
      show V G _ 148 [(3, .int v14), (2, .int u6), (0, .ref (G.ad x0)), (1, .int x1)] [.int v30] I28 L R
      refine V_istore_n C0 [(2, .int v30), (3, .int v14), (0, .ref (G.ad x0)), (1, .int x1)] rfl (by rw [eNL]; decide) rfl dX12_given_148 ?_
      cases q11
      exact V_sub [2, 3, 0] rfl k12
  · have h := (if_neg c3).symm.trans h
    refine V_aload_n C0 0 rfl rfl dX12_given_10 ?_
    refine V_iload_n C0 1 rfl rfl dX12_given_11 ?_
    refine V_bipush C0 (v := (27 : Int32)) (by decide) dX12_given_12 ?_
    obtain ⟨v43, q44, h⟩ := bn1_some h
    refine V_callV C0 (st := []) (As := [.int x1, .int (27 : Int32)]) 11 (c_X12_get G.l G.D G.cA G.ad G.bs G.X C0.2.2.2.2.2.2.2.2.2.1 C0.2.2.2.2.2.2.2.2.2.2.2.2 x0 x1 (27 : Int32) I L R v43 q44) lc_X12_get lk_X12_211 c_x0.2 c_x0.1 ⟨_, rfl, rfl⟩ rfl (by rw [erm]; decide) (Nat.le_of_ble_eq_true rfl) dX12_given_14 ?_
    show V G _ 17 [(0, .ref (G.ad x0)), (1, .int x1)] [.int v43] I L R
    refine V_istore_n C0 [(2, .int v43), (0, .ref (G.ad x0)), (1, .int x1)] rfl (by rw [eNL]; decide) rfl dX12_given_17 ?_
    refine V_aload_n C0 1 rfl rfl dX12_given_18 ?_
    refine V_iload_n C0 0 rfl rfl dX12_given_19 ?_
    obtain ⟨b45, q46, h⟩ := bn1_some h
    refine V_callV C0 (st := []) (As := [.int v43]) 11 (c_X12_isWhole G.l G.D G.cA G.ad G.bs G.X C0.2.2.2.2.2.2.2.2.2.1 C0.2.2.2.2.2.2.2.2.2.2.2.2 x0 v43 I L R b45 q46) lc_X12_isWhole lk_X12_366 c_x0.2 c_x0.1 ⟨_, rfl, rfl⟩ rfl (by rw [erm]; decide) (Nat.le_of_ble_eq_true rfl) dX12_given_20 ?_
    show V G _ 23 [(2, .int v43), (0, .ref (G.ad x0)), (1, .int x1)] [.int (b2i b45)] I L R
    refine V_if_eq C0 (tgt := 36) (by decide) dX12_given_23 (fun c47 => ?_) (fun c47 => ?_)
    · have h := (if_pos c47).symm.trans h
      refine V_iconst C0 (v := (0 : Int32)) (by decide) dX12_given_36 ?_
      cases h
      exact V_iret C0 dX12_given_37
    · have h := (if_neg c47).symm.trans h
      refine V_aload_n C0 1 rfl rfl dX12_given_26 ?_
      refine V_iload_n C0 0 rfl rfl dX12_given_27 ?_
      refine V_bipush C0 (v := (10 : Int32)) (by decide) dX12_given_28 ?_
      obtain ⟨v48, q49, h⟩ := bn1_some h
      refine V_callV C0 (st := []) (As := [.int v43, .int (10 : Int32)]) 11 (c_X12_get G.l G.D G.cA G.ad G.bs G.X C0.2.2.2.2.2.2.2.2.2.1 C0.2.2.2.2.2.2.2.2.2.2.2.2 x0 v43 (10 : Int32) I L R v48 q49) lc_X12_get lk_X12_211 c_x0.2 c_x0.1 ⟨_, rfl, rfl⟩ rfl (by rw [erm]; decide) (Nat.le_of_ble_eq_true rfl) dX12_given_30 ?_
      show V G _ 33 [(2, .int v43), (0, .ref (G.ad x0)), (1, .int x1)] [.int v48] I L R
      refine V_if_gt C0 (tgt := 38) (by decide) dX12_given_33 (fun c50 => ?_) (fun c50 => ?_)
      · have h := (if_pos c50).symm.trans h
        refine V_aload_n C0 1 rfl rfl dX12_given_38 ?_
        refine V_iload_n C0 0 rfl rfl dX12_given_39 ?_
        refine V_bipush C0 (v := (10 : Int32)) (by decide) dX12_given_40 ?_
        refine V_aload_n C0 1 rfl rfl dX12_given_42 ?_
        refine V_getI C0 11 34 fl_X12_306 c_x0.2 c_x0.1 rfl dX12_given_43 ?_
        refine V_bipush C0 (v := (8 : Int32)) (by decide) dX12_given_46 ?_
        refine V_irem C0 (by decide) dX12_given_48 ?_
        obtain ⟨s51, q52, h⟩ := bn1_some h
        have k53 : V G (qf G (some (.int r), I', L, R)) 57 [(0, .ref (G.ad x0)), (1, .int x1)] [.int s51, .int (10 : Int32), .int v43, .ref (G.ad x0)] I L R := by
          obtain ⟨I55, q56, h⟩ := bn1_some h
          refine V_callV C0 (st := []) (As := [.int v43, .int (10 : Int32), .int s51]) 11 (c_X12_grow G.l G.D G.cA G.ad G.bs G.X C0.2.2.2.2.2.2.2.2.2.1 C0.2.2.2.2.2.2.2.2.2.2.2.2 x0 v43 (10 : Int32) s51 I L R I55 q56) lc_X12_grow lk_X12_259 c_x0.2 c_x0.1 ⟨_, rfl, rfl⟩ rfl (by rw [erm]; decide) (Nat.le_of_ble_eq_true rfl) dX12_given_57 ?_
          show V G _ 60 [(0, .ref (G.ad x0)), (1, .int x1)] [] I55 L R
          refine V_aload_n C0 0 rfl rfl dX12_given_60 ?_
          refine V_iload_n C0 1 rfl rfl dX12_given_61 ?_
          refine V_bipush C0 (v := (43 : Int32)) (by decide) dX12_given_62 ?_
          obtain ⟨v57, q58, h⟩ := bn1_some h
          refine V_callV C0 (st := []) (As := [.int x1, .int (43 : Int32)]) 11 (c_X12_get G.l G.D G.cA G.ad G.bs G.X C0.2.2.2.2.2.2.2.2.2.1 C0.2.2.2.2.2.2.2.2.2.2.2.2 x0 x1 (43 : Int32) I55 L R v57 q58) lc_X12_get lk_X12_211 c_x0.2 c_x0.1 ⟨_, rfl, rfl⟩ rfl (by rw [erm]; decide) (Nat.le_of_ble_eq_true rfl) dX12_given_64 ?_
          show V G _ 67 [(0, .ref (G.ad x0)), (1, .int x1)] [.int v57] I55 L R
          cases h
          exact V_iret C0 dX12_given_67
        refine V_if_ne C0 (tgt := 56) (by decide) dX12_given_49 (fun c54 => ?_) (fun c54 => ?_)
        · have q52 := (if_neg c54).symm.trans q52
          refine V_iconst C0 (v := (0 : Int32)) (by decide) dX12_given_56 ?_
          cases q52
          exact V_sub [1, 2] rfl k53
        · have q52 := (if_pos c54).symm.trans q52
          refine V_iconst C0 (v := (-1 : Int32)) (by decide) dX12_given_52 ?_
          refine V_goto C0 (tgt := 57) (by decide) dX12_given_53 ?_
          cases q52
          exact V_sub [1, 2] rfl k53
      · have h := (if_neg c50).symm.trans h
        refine V_iconst C0 (v := (0 : Int32)) (by decide) dX12_given_36 ?_
        cases h
        exact V_iret C0 dX12_given_37
theorem dX12_brownout_0 : decode cX12_brownout 0 = .ok (.aload_n 0, 1) := by decide +kernel
theorem dX12_brownout_1 : decode cX12_brownout 1 = .ok (.dup, 1) := by decide +kernel
theorem dX12_brownout_2 : decode cX12_brownout 2 = .ok (.getfield 312, 3) := by decide +kernel
theorem dX12_brownout_5 : decode cX12_brownout 5 = .ok (.iconst 1, 1) := by decide +kernel
theorem dX12_brownout_6 : decode cX12_brownout 6 = .ok (.iadd, 1) := by decide +kernel
theorem dX12_brownout_7 : decode cX12_brownout 7 = .ok (.putfield 312, 3) := by decide +kernel
theorem dX12_brownout_10 : decode cX12_brownout 10 = .ok (.aload_n 0, 1) := by decide +kernel
theorem dX12_brownout_11 : decode cX12_brownout 11 = .ok (.iconst 1, 1) := by decide +kernel
theorem dX12_brownout_12 : decode cX12_brownout 12 = .ok (.putfield 429, 3) := by decide +kernel
theorem dX12_brownout_15 : decode cX12_brownout 15 = .ok (.iconst (-1), 1) := by decide +kernel
theorem dX12_brownout_16 : decode cX12_brownout 16 = .ok (.istore_n 1, 1) := by decide +kernel
theorem dX12_brownout_17 : decode cX12_brownout 17 = .ok (.iconst 0, 1) := by decide +kernel
theorem dX12_brownout_18 : decode cX12_brownout 18 = .ok (.istore_n 2, 1) := by decide +kernel
theorem dX12_brownout_19 : decode cX12_brownout 19 = .ok (.iload_n 2, 1) := by decide +kernel
theorem dX12_brownout_20 : decode cX12_brownout 20 = .ok (.aload_n 0, 1) := by decide +kernel
theorem dX12_brownout_21 : decode cX12_brownout 21 = .ok (.getfield 297, 3) := by decide +kernel
theorem dX12_brownout_24 : decode cX12_brownout 24 = .ok (.if_icmp .ge 41, 3) := by decide +kernel
theorem dX12_brownout_27 : decode cX12_brownout 27 = .ok (.aload_n 0, 1) := by decide +kernel
theorem dX12_brownout_28 : decode cX12_brownout 28 = .ok (.iload_n 2, 1) := by decide +kernel
theorem dX12_brownout_29 : decode cX12_brownout 29 = .ok (.invokevirtual 393, 3) := by decide +kernel
theorem dX12_brownout_32 : decode cX12_brownout 32 = .ok (.ifCond .eq 27, 3) := by decide +kernel
theorem dX12_brownout_35 : decode cX12_brownout 35 = .ok (.iload_n 1, 1) := by decide +kernel
theorem dX12_brownout_36 : decode cX12_brownout 36 = .ok (.iconst (-1), 1) := by decide +kernel
theorem dX12_brownout_37 : decode cX12_brownout 37 = .ok (.if_icmp .eq 20, 3) := by decide +kernel
theorem dX12_brownout_40 : decode cX12_brownout 40 = .ok (.aload_n 0, 1) := by decide +kernel
theorem dX12_brownout_41 : decode cX12_brownout 41 = .ok (.iload_n 2, 1) := by decide +kernel
theorem dX12_brownout_42 : decode cX12_brownout 42 = .ok (.bipush 21, 2) := by decide +kernel
theorem dX12_brownout_44 : decode cX12_brownout 44 = .ok (.invokevirtual 211, 3) := by decide +kernel
theorem dX12_brownout_47 : decode cX12_brownout 47 = .ok (.aload_n 0, 1) := by decide +kernel
theorem dX12_brownout_48 : decode cX12_brownout 48 = .ok (.iload_n 1, 1) := by decide +kernel
theorem dX12_brownout_49 : decode cX12_brownout 49 = .ok (.bipush 21, 2) := by decide +kernel
theorem dX12_brownout_51 : decode cX12_brownout 51 = .ok (.invokevirtual 211, 3) := by decide +kernel
theorem dX12_brownout_54 : decode cX12_brownout 54 = .ok (.if_icmp .lt 5, 3) := by decide +kernel
theorem dX12_brownout_57 : decode cX12_brownout 57 = .ok (.iload_n 2, 1) := by decide +kernel
theorem dX12_brownout_58 : decode cX12_brownout 58 = .ok (.istore_n 1, 1) := by decide +kernel
theorem dX12_brownout_59 : decode cX12_brownout 59 = .ok (.iinc 2 1, 3) := by decide +kernel
theorem dX12_brownout_62 : decode cX12_brownout 62 = .ok (.goto (-43), 3) := by decide +kernel
theorem dX12_brownout_65 : decode cX12_brownout 65 = .ok (.iload_n 1, 1) := by decide +kernel
theorem dX12_brownout_66 : decode cX12_brownout 66 = .ok (.iconst (-1), 1) := by decide +kernel
theorem dX12_brownout_67 : decode cX12_brownout 67 = .ok (.if_icmp .eq 11, 3) := by decide +kernel
theorem dX12_brownout_70 : decode cX12_brownout 70 = .ok (.aload_n 0, 1) := by decide +kernel
theorem dX12_brownout_71 : decode cX12_brownout 71 = .ok (.iload_n 1, 1) := by decide +kernel
theorem dX12_brownout_72 : decode cX12_brownout 72 = .ok (.bipush 22, 2) := by decide +kernel
theorem dX12_brownout_74 : decode cX12_brownout 74 = .ok (.iconst 0, 1) := by decide +kernel
theorem dX12_brownout_75 : decode cX12_brownout 75 = .ok (.invokevirtual 246, 3) := by decide +kernel
theorem dX12_brownout_78 : decode cX12_brownout 78 = .ok (.return_, 1) := by decide +kernel
def LF_X12_brownout_19 (N : Nat) : Nat → Nat → Int32 → Int32 → MI → ML → MR → Option (Int32)
  | 0, _, _, _, _, _, _ => none
  | k + 1, y0, y1, y2, I, L, R =>
    if (I y0 21) ≤ y2 then
      some (y1)
    else
      bn1 (F_X12_isOn N y0 y2 I L R) fun b4 =>
      bn1 (
        if (b2i b4) = 0 then
          some (y1)
        else
          bn1 (
            if y1 = (-1 : Int32) then
              some (y2)
            else
              bn1 (F_X12_get y0 y2 (21 : Int32) I L R) fun v14 =>
              bn1 (F_X12_get y0 y1 (21 : Int32) I L R) fun v16 =>
              bn1 (
                if v14 < v16 then
                  some (y1)
                else
                  some (y2)
              ) fun (u18 : Int32) =>
              some (u18)
          ) fun (u10 : Int32) =>
          some (u10)
      ) fun (u6 : Int32) =>
      wr (y2 + (1 : Int32)) fun (u22 : Int32) =>
      LF_X12_brownout_19 N k y0 u6 u22 I L R
def F_X12_brownout (N : Nat) (x0 : Nat) (I : MI) (L : ML) (R : MR) : Option (MI) :=
  if kd x0 = 11 ∧ x0 < NN then
  wr (uI I x0 39 ((I x0 39) + (1 : Int32))) fun (I1 : MI) =>
  wr (uI I1 x0 50 (1 : Int32)) fun (I2 : MI) =>
  bn1 (LF_X12_brownout_19 N N x0 (-1 : Int32) (0 : Int32) I2 L R) fun z23 =>
  if z23 = (-1 : Int32) then
    some (I2)
  else
    bn1 (F_X12_set x0 z23 (22 : Int32) (0 : Int32) I2 L R) fun I26 =>
    some (I26)
  else none
set_option maxRecDepth 100000 in
set_option maxHeartbeats 4000000 in
theorem lp_X12_brownout_19 {G : Gm} (C0 : Cx G (yX12_brownout.cls) cX12_brownout none) (eNL : G.nL = 3) (erm : G.rm = ({ frames := 3, cells := 0, slots := 0, locals := 66 } : Room)) (N : Nat) : ∀ (k : Nat) (y0 : Nat) (y1 : Int32) (y2 : Int32) (I : MI) (L : ML) (R : MR) (z : Int32) (hk0 : kd y0 = 11) (ho0 : y0 < NN), LF_X12_brownout_19 N k y0 y1 y2 I L R = some z → ∀ f : State → Prop, V G f 65 [(0, .ref (G.ad y0)), (1, .int z)] [] I L R → V G f 19 [(0, .ref (G.ad y0)), (1, .int y1), (2, .int y2)] [] I L R := by
  intro k
  induction k with
  | zero =>
    intro y0 y1 y2 I L R q hk0 ho0 h
    exact absurd h (by simp [LF_X12_brownout_19])
  | succ k ih =>
    intro y0 y1 y2 I L R q hk0 ho0 h f kx
    rw [LF_X12_brownout_19] at h
    refine V_iload_n C0 2 rfl rfl dX12_brownout_19 ?_
    refine V_aload_n C0 0 rfl rfl dX12_brownout_20 ?_
    refine V_getI C0 11 21 fl_X12_297 ho0 hk0 rfl dX12_brownout_21 ?_
    refine V_icmp_ge C0 (tgt := 65) (by decide) dX12_brownout_24 (fun c3 => ?_) (fun c3 => ?_)
    · have h := (if_pos c3).symm.trans h
      cases h
      exact V_sub [0, 1] rfl kx
    · have h := (if_neg c3).symm.trans h
      refine V_aload_n C0 0 rfl rfl dX12_brownout_27 ?_
      refine V_iload_n C0 2 rfl rfl dX12_brownout_28 ?_
      obtain ⟨b4, q5, h⟩ := bn1_some h
      refine V_callV C0 (st := []) (As := [.int y2]) 11 (c_X12_isOn G.l G.D G.cA G.ad G.bs G.X C0.2.2.2.2.2.2.2.2.2.1 C0.2.2.2.2.2.2.2.2.2.2.2.2 N y0 y2 I L R b4 q5) lc_X12_isOn lk_X12_393 ho0 hk0 ⟨_, rfl, rfl⟩ rfl (by rw [erm]; decide) (Nat.le_of_ble_eq_true rfl) dX12_brownout_29 ?_
      show V G _ 32 [(0, .ref (G.ad y0)), (1, .int y1), (2, .int y2)] [.int (b2i b4)] I L R
      obtain ⟨u6, q7, h⟩ := bn1_some h
      have k8 : V G f 59 [(0, .ref (G.ad y0)), (1, .int u6), (2, .int y2)] [] I L R := by
        obtain ⟨u22, eu22, h⟩ := wr_some h
        refine V_iinc C0 2 [(2, .int u22), (0, .ref (G.ad y0)), (1, .int u6)] rfl (n := 1) (by rw [eu22]; rfl) (by rw [eNL]; decide) rfl dX12_brownout_59 ?_
        refine V_goto C0 (tgt := 19) (by decide) dX12_brownout_62 ?_
        exact V_sub [1, 2, 0] rfl (ih y0 u6 u22 I L R _ hk0 ho0 h f kx)
      refine V_if_eq C0 (tgt := 59) (by decide) dX12_brownout_32 (fun c9 => ?_) (fun c9 => ?_)
      · have q7 := (if_pos c9).symm.trans q7
        cases q7
        exact V_sub [0, 1, 2] rfl k8
      · have q7 := (if_neg c9).symm.trans q7
        refine V_iload_n C0 1 rfl rfl dX12_brownout_35 ?_
        refine V_iconst C0 (v := (-1 : Int32)) (by decide) dX12_brownout_36 ?_
        obtain ⟨u10, q11, q7⟩ := bn1_some q7
        have k12 : V G f 59 [(0, .ref (G.ad y0)), (1, .int u10), (2, .int y2)] [] I L R := by
          cases q7
          exact V_sub [0, 1, 2] rfl k8
        refine V_icmp_eq C0 (tgt := 57) (by decide) dX12_brownout_37 (fun c13 => ?_) (fun c13 => ?_)
        · have q11 := (if_pos c13).symm.trans q11
          refine V_iload_n C0 2 rfl rfl dX12_brownout_57 ?_
          refine V_istore_n C0 [(1, .int y2), (0, .ref (G.ad y0)), (2, .int y2)] rfl (by rw [eNL]; decide) rfl dX12_brownout_58 ?_
          cases q11
          exact V_sub [1, 0, 2] rfl k12
        · have q11 := (if_neg c13).symm.trans q11
          refine V_aload_n C0 0 rfl rfl dX12_brownout_40 ?_
          refine V_iload_n C0 2 rfl rfl dX12_brownout_41 ?_
          refine V_bipush C0 (v := (21 : Int32)) (by decide) dX12_brownout_42 ?_
          obtain ⟨v14, q15, q11⟩ := bn1_some q11
          refine V_callV C0 (st := []) (As := [.int y2, .int (21 : Int32)]) 11 (c_X12_get G.l G.D G.cA G.ad G.bs G.X C0.2.2.2.2.2.2.2.2.2.1 C0.2.2.2.2.2.2.2.2.2.2.2.2 y0 y2 (21 : Int32) I L R v14 q15) lc_X12_get lk_X12_211 ho0 hk0 ⟨_, rfl, rfl⟩ rfl (by rw [erm]; decide) (Nat.le_of_ble_eq_true rfl) dX12_brownout_44 ?_
          show V G _ 47 [(0, .ref (G.ad y0)), (1, .int y1), (2, .int y2)] [.int v14] I L R
          refine V_aload_n C0 0 rfl rfl dX12_brownout_47 ?_
          refine V_iload_n C0 1 rfl rfl dX12_brownout_48 ?_
          refine V_bipush C0 (v := (21 : Int32)) (by decide) dX12_brownout_49 ?_
          obtain ⟨v16, q17, q11⟩ := bn1_some q11
          refine V_callV C0 (st := [.int v14]) (As := [.int y1, .int (21 : Int32)]) 11 (c_X12_get G.l G.D G.cA G.ad G.bs G.X C0.2.2.2.2.2.2.2.2.2.1 C0.2.2.2.2.2.2.2.2.2.2.2.2 y0 y1 (21 : Int32) I L R v16 q17) lc_X12_get lk_X12_211 ho0 hk0 ⟨_, rfl, rfl⟩ rfl (by rw [erm]; decide) (Nat.le_of_ble_eq_true rfl) dX12_brownout_51 ?_
          show V G _ 54 [(0, .ref (G.ad y0)), (1, .int y1), (2, .int y2)] [.int v16, .int v14] I L R
          obtain ⟨u18, q19, q11⟩ := bn1_some q11
          have k20 : V G f 59 [(0, .ref (G.ad y0)), (1, .int u18), (2, .int y2)] [] I L R := by
            cases q11
            exact V_sub [0, 1, 2] rfl k12
          refine V_icmp_lt C0 (tgt := 59) (by decide) dX12_brownout_54 (fun c21 => ?_) (fun c21 => ?_)
          · have q19 := (if_pos c21).symm.trans q19
            cases q19
            exact V_sub [0, 1, 2] rfl k20
          · have q19 := (if_neg c21).symm.trans q19
            refine V_iload_n C0 2 rfl rfl dX12_brownout_57 ?_
            refine V_istore_n C0 [(1, .int y2), (0, .ref (G.ad y0)), (2, .int y2)] rfl (by rw [eNL]; decide) rfl dX12_brownout_58 ?_
            cases q19
            exact V_sub [1, 0, 2] rfl k20
set_option maxRecDepth 100000 in
set_option maxHeartbeats 4000000 in
theorem c_X12_brownout (l : Launch) (D : va_G) (cA : Nat → ClassId) (ad : Nat → Nat) (bs : Nat) (X : State → Prop) (hAd : Ax ad bs) (hX : Stb bs X) (N : Nat) (x0 : Nat) (I : MI) (L : ML) (R : MR) (I' : MI) (h : F_X12_brownout N x0 I L R = some (I')) : Cn l D cA ad bs X yX12_brownout cX12_brownout 3 none 3 66 [.ref (ad x0)] I L R (none, I', L, R) := by
  refine Cn.ofV hAd hX [(0, .ref (ad x0))] rfl (Nat.le_of_ble_eq_true rfl) (by decide) ?_
  intro G el eD ecA ead ebs eX erm eNL C0
  subst el eD ecA ead ebs eX
  unfold F_X12_brownout at h
  obtain ⟨c_x0, h⟩ := ite_some h
  refine V_aload_n C0 0 rfl rfl dX12_brownout_0 ?_
  refine V_dup C0 rfl dX12_brownout_1 ?_
  refine V_getI C0 11 39 fl_X12_312 c_x0.2 c_x0.1 rfl dX12_brownout_2 ?_
  refine V_iconst C0 (v := (1 : Int32)) (by decide) dX12_brownout_5 ?_
  refine V_iadd C0 dX12_brownout_6 ?_
  obtain ⟨I1, eI1, h⟩ := wr_some h
  refine V_putI C0 11 39 fp_X12_312 c_x0.2 c_x0.1 rfl dX12_brownout_7 ?_
  rw [← eI1]
  refine V_aload_n C0 0 rfl rfl dX12_brownout_10 ?_
  refine V_iconst C0 (v := (1 : Int32)) (by decide) dX12_brownout_11 ?_
  obtain ⟨I2, eI2, h⟩ := wr_some h
  refine V_putZ C0 11 50 fp_X12_429 c_x0.2 c_x0.1 rfl (by decide) dX12_brownout_12 ?_
  rw [← eI2]
  refine V_iconst C0 (v := (-1 : Int32)) (by decide) dX12_brownout_15 ?_
  refine V_istore_n C0 [(1, .int (-1 : Int32)), (0, .ref (G.ad x0))] rfl (by rw [eNL]; decide) rfl dX12_brownout_16 ?_
  refine V_iconst C0 (v := (0 : Int32)) (by decide) dX12_brownout_17 ?_
  refine V_istore_n C0 [(2, .int (0 : Int32)), (1, .int (-1 : Int32)), (0, .ref (G.ad x0))] rfl (by rw [eNL]; decide) rfl dX12_brownout_18 ?_
  obtain ⟨z23, q24, h⟩ := bn1_some h
  refine V_sub [2, 1, 0] rfl (lp_X12_brownout_19 C0 eNL erm N N x0 (-1 : Int32) (0 : Int32) I2 L R _ c_x0.1 c_x0.2 q24 _ ?_)
  show V G _ 65 [(0, .ref (G.ad x0)), (1, .int z23)] [] I2 L R
  refine V_iload_n C0 1 rfl rfl dX12_brownout_65 ?_
  refine V_iconst C0 (v := (-1 : Int32)) (by decide) dX12_brownout_66 ?_
  refine V_icmp_eq C0 (tgt := 78) (by decide) dX12_brownout_67 (fun c25 => ?_) (fun c25 => ?_)
  · have h := (if_pos c25).symm.trans h
    cases h
    exact V_vret C0 dX12_brownout_78
  · have h := (if_neg c25).symm.trans h
    refine V_aload_n C0 0 rfl rfl dX12_brownout_70 ?_
    refine V_iload_n C0 1 rfl rfl dX12_brownout_71 ?_
    refine V_bipush C0 (v := (22 : Int32)) (by decide) dX12_brownout_72 ?_
    refine V_iconst C0 (v := (0 : Int32)) (by decide) dX12_brownout_74 ?_
    obtain ⟨I26, q27, h⟩ := bn1_some h
    refine V_callV C0 (st := []) (As := [.int z23, .int (22 : Int32), .int (0 : Int32)]) 11 (c_X12_set G.l G.D G.cA G.ad G.bs G.X C0.2.2.2.2.2.2.2.2.2.1 C0.2.2.2.2.2.2.2.2.2.2.2.2 x0 z23 (22 : Int32) (0 : Int32) I2 L R I26 q27) lc_X12_set lk_X12_246 c_x0.2 c_x0.1 ⟨_, rfl, rfl⟩ rfl (by rw [erm]; decide) (Nat.le_of_ble_eq_true rfl) dX12_brownout_75 ?_
    show V G _ 78 [(0, .ref (G.ad x0)), (1, .int z23)] [] I26 L R
    cases h
    exact V_vret C0 dX12_brownout_78
theorem dX12_power_0 : decode cX12_power 0 = .ok (.aload_n 0, 1) := by decide +kernel
theorem dX12_power_1 : decode cX12_power 1 = .ok (.iconst 0, 1) := by decide +kernel
theorem dX12_power_2 : decode cX12_power 2 = .ok (.putfield 339, 3) := by decide +kernel
theorem dX12_power_5 : decode cX12_power 5 = .ok (.aload_n 0, 1) := by decide +kernel
theorem dX12_power_6 : decode cX12_power 6 = .ok (.iconst 0, 1) := by decide +kernel
theorem dX12_power_7 : decode cX12_power 7 = .ok (.putfield 342, 3) := by decide +kernel
theorem dX12_power_10 : decode cX12_power 10 = .ok (.iconst 0, 1) := by decide +kernel
theorem dX12_power_11 : decode cX12_power 11 = .ok (.istore_n 1, 1) := by decide +kernel
theorem dX12_power_12 : decode cX12_power 12 = .ok (.iload_n 1, 1) := by decide +kernel
theorem dX12_power_13 : decode cX12_power 13 = .ok (.aload_n 0, 1) := by decide +kernel
theorem dX12_power_14 : decode cX12_power 14 = .ok (.getfield 297, 3) := by decide +kernel
theorem dX12_power_17 : decode cX12_power 17 = .ok (.if_icmp .ge 55, 3) := by decide +kernel
theorem dX12_power_20 : decode cX12_power 20 = .ok (.aload_n 0, 1) := by decide +kernel
theorem dX12_power_21 : decode cX12_power 21 = .ok (.iload_n 1, 1) := by decide +kernel
theorem dX12_power_22 : decode cX12_power 22 = .ok (.bipush 22, 2) := by decide +kernel
theorem dX12_power_24 : decode cX12_power 24 = .ok (.invokevirtual 217, 3) := by decide +kernel
theorem dX12_power_27 : decode cX12_power 27 = .ok (.ifCond .eq 15, 3) := by decide +kernel
theorem dX12_power_30 : decode cX12_power 30 = .ok (.aload_n 0, 1) := by decide +kernel
theorem dX12_power_31 : decode cX12_power 31 = .ok (.iload_n 1, 1) := by decide +kernel
theorem dX12_power_32 : decode cX12_power 32 = .ok (.invokevirtual 366, 3) := by decide +kernel
theorem dX12_power_35 : decode cX12_power 35 = .ok (.ifCond .eq 7, 3) := by decide +kernel
theorem dX12_power_38 : decode cX12_power 38 = .ok (.iconst 1, 1) := by decide +kernel
theorem dX12_power_39 : decode cX12_power 39 = .ok (.goto 4, 3) := by decide +kernel
theorem dX12_power_42 : decode cX12_power 42 = .ok (.iconst 0, 1) := by decide +kernel
theorem dX12_power_43 : decode cX12_power 43 = .ok (.istore_n 2, 1) := by decide +kernel
theorem dX12_power_44 : decode cX12_power 44 = .ok (.aload_n 0, 1) := by decide +kernel
theorem dX12_power_45 : decode cX12_power 45 = .ok (.dup, 1) := by decide +kernel
theorem dX12_power_46 : decode cX12_power 46 = .ok (.getfield 339, 3) := by decide +kernel
theorem dX12_power_49 : decode cX12_power 49 = .ok (.iload_n 2, 1) := by decide +kernel
theorem dX12_power_50 : decode cX12_power 50 = .ok (.ifCond .eq 11, 3) := by decide +kernel
theorem dX12_power_53 : decode cX12_power 53 = .ok (.aload_n 0, 1) := by decide +kernel
theorem dX12_power_54 : decode cX12_power 54 = .ok (.iload_n 1, 1) := by decide +kernel
theorem dX12_power_55 : decode cX12_power 55 = .ok (.invokevirtual 420, 3) := by decide +kernel
theorem dX12_power_58 : decode cX12_power 58 = .ok (.goto 4, 3) := by decide +kernel
theorem dX12_power_61 : decode cX12_power 61 = .ok (.iconst 0, 1) := by decide +kernel
theorem dX12_power_62 : decode cX12_power 62 = .ok (.iadd, 1) := by decide +kernel
theorem dX12_power_63 : decode cX12_power 63 = .ok (.putfield 339, 3) := by decide +kernel
theorem dX12_power_66 : decode cX12_power 66 = .ok (.iinc 1 1, 3) := by decide +kernel
theorem dX12_power_69 : decode cX12_power 69 = .ok (.goto (-57), 3) := by decide +kernel
theorem dX12_power_72 : decode cX12_power 72 = .ok (.iconst 0, 1) := by decide +kernel
theorem dX12_power_73 : decode cX12_power 73 = .ok (.istore_n 1, 1) := by decide +kernel
theorem dX12_power_74 : decode cX12_power 74 = .ok (.iload_n 1, 1) := by decide +kernel
theorem dX12_power_75 : decode cX12_power 75 = .ok (.aload_n 0, 1) := by decide +kernel
theorem dX12_power_76 : decode cX12_power 76 = .ok (.getfield 297, 3) := by decide +kernel
theorem dX12_power_79 : decode cX12_power 79 = .ok (.if_icmp .ge 54, 3) := by decide +kernel
theorem dX12_power_82 : decode cX12_power 82 = .ok (.aload_n 0, 1) := by decide +kernel
theorem dX12_power_83 : decode cX12_power 83 = .ok (.dup, 1) := by decide +kernel
theorem dX12_power_84 : decode cX12_power 84 = .ok (.getfield 342, 3) := by decide +kernel
theorem dX12_power_87 : decode cX12_power 87 = .ok (.aload_n 0, 1) := by decide +kernel
theorem dX12_power_88 : decode cX12_power 88 = .ok (.iload_n 1, 1) := by decide +kernel
theorem dX12_power_89 : decode cX12_power 89 = .ok (.invokevirtual 393, 3) := by decide +kernel
theorem dX12_power_92 : decode cX12_power 92 = .ok (.ifCond .ne 21, 3) := by decide +kernel
theorem dX12_power_95 : decode cX12_power 95 = .ok (.aload_n 0, 1) := by decide +kernel
theorem dX12_power_96 : decode cX12_power 96 = .ok (.iload_n 1, 1) := by decide +kernel
theorem dX12_power_97 : decode cX12_power 97 = .ok (.bipush 22, 2) := by decide +kernel
theorem dX12_power_99 : decode cX12_power 99 = .ok (.invokevirtual 217, 3) := by decide +kernel
theorem dX12_power_102 : decode cX12_power 102 = .ok (.ifCond .eq 20, 3) := by decide +kernel
theorem dX12_power_105 : decode cX12_power 105 = .ok (.aload_n 0, 1) := by decide +kernel
theorem dX12_power_106 : decode cX12_power 106 = .ok (.iload_n 1, 1) := by decide +kernel
theorem dX12_power_107 : decode cX12_power 107 = .ok (.invokevirtual 366, 3) := by decide +kernel
theorem dX12_power_110 : decode cX12_power 110 = .ok (.ifCond .eq 12, 3) := by decide +kernel
theorem dX12_power_113 : decode cX12_power 113 = .ok (.aload_n 0, 1) := by decide +kernel
theorem dX12_power_114 : decode cX12_power 114 = .ok (.iload_n 1, 1) := by decide +kernel
theorem dX12_power_115 : decode cX12_power 115 = .ok (.iconst 2, 1) := by decide +kernel
theorem dX12_power_116 : decode cX12_power 116 = .ok (.invokevirtual 250, 3) := by decide +kernel
theorem dX12_power_119 : decode cX12_power 119 = .ok (.goto 4, 3) := by decide +kernel
theorem dX12_power_122 : decode cX12_power 122 = .ok (.iconst 0, 1) := by decide +kernel
theorem dX12_power_123 : decode cX12_power 123 = .ok (.iadd, 1) := by decide +kernel
theorem dX12_power_124 : decode cX12_power 124 = .ok (.putfield 342, 3) := by decide +kernel
theorem dX12_power_127 : decode cX12_power 127 = .ok (.iinc 1 1, 3) := by decide +kernel
theorem dX12_power_130 : decode cX12_power 130 = .ok (.goto (-56), 3) := by decide +kernel
theorem dX12_power_133 : decode cX12_power 133 = .ok (.aload_n 0, 1) := by decide +kernel
theorem dX12_power_134 : decode cX12_power 134 = .ok (.getfield 339, 3) := by decide +kernel
theorem dX12_power_137 : decode cX12_power 137 = .ok (.aload_n 0, 1) := by decide +kernel
theorem dX12_power_138 : decode cX12_power 138 = .ok (.getfield 342, 3) := by decide +kernel
theorem dX12_power_141 : decode cX12_power 141 = .ok (.isub, 1) := by decide +kernel
theorem dX12_power_142 : decode cX12_power 142 = .ok (.istore_n 1, 1) := by decide +kernel
theorem dX12_power_143 : decode cX12_power 143 = .ok (.iconst 0, 1) := by decide +kernel
theorem dX12_power_144 : decode cX12_power 144 = .ok (.istore_n 2, 1) := by decide +kernel
theorem dX12_power_145 : decode cX12_power 145 = .ok (.iload_n 2, 1) := by decide +kernel
theorem dX12_power_146 : decode cX12_power 146 = .ok (.aload_n 0, 1) := by decide +kernel
theorem dX12_power_147 : decode cX12_power 147 = .ok (.getfield 297, 3) := by decide +kernel
theorem dX12_power_150 : decode cX12_power 150 = .ok (.if_icmp .ge 132, 3) := by decide +kernel
theorem dX12_power_153 : decode cX12_power 153 = .ok (.aload_n 0, 1) := by decide +kernel
theorem dX12_power_154 : decode cX12_power 154 = .ok (.iload_n 2, 1) := by decide +kernel
theorem dX12_power_155 : decode cX12_power 155 = .ok (.iconst 2, 1) := by decide +kernel
theorem dX12_power_156 : decode cX12_power 156 = .ok (.invokevirtual 217, 3) := by decide +kernel
theorem dX12_power_159 : decode cX12_power 159 = .ok (.ifCond .eq 117, 3) := by decide +kernel
theorem dX12_power_162 : decode cX12_power 162 = .ok (.aload_n 0, 1) := by decide +kernel
theorem dX12_power_163 : decode cX12_power 163 = .ok (.iload_n 2, 1) := by decide +kernel
theorem dX12_power_164 : decode cX12_power 164 = .ok (.invokevirtual 366, 3) := by decide +kernel
theorem dX12_power_167 : decode cX12_power 167 = .ok (.ifCond .ne 6, 3) := by decide +kernel
theorem dX12_power_170 : decode cX12_power 170 = .ok (.goto 106, 3) := by decide +kernel
theorem dX12_power_173 : decode cX12_power 173 = .ok (.aload_n 0, 1) := by decide +kernel
theorem dX12_power_174 : decode cX12_power 174 = .ok (.iload_n 2, 1) := by decide +kernel
theorem dX12_power_175 : decode cX12_power 175 = .ok (.bipush 13, 2) := by decide +kernel
theorem dX12_power_177 : decode cX12_power 177 = .ok (.invokevirtual 211, 3) := by decide +kernel
theorem dX12_power_180 : decode cX12_power 180 = .ok (.istore_n 3, 1) := by decide +kernel
theorem dX12_power_181 : decode cX12_power 181 = .ok (.iload_n 1, 1) := by decide +kernel
theorem dX12_power_182 : decode cX12_power 182 = .ok (.ifCond .le 29, 3) := by decide +kernel
theorem dX12_power_185 : decode cX12_power 185 = .ok (.iload_n 1, 1) := by decide +kernel
theorem dX12_power_186 : decode cX12_power 186 = .ok (.iload_n 3, 1) := by decide +kernel
theorem dX12_power_187 : decode cX12_power 187 = .ok (.invokestatic 423, 3) := by decide +kernel
theorem dX12_power_190 : decode cX12_power 190 = .ok (.aload_n 0, 1) := by decide +kernel
theorem dX12_power_191 : decode cX12_power 191 = .ok (.iload_n 2, 1) := by decide +kernel
theorem dX12_power_192 : decode cX12_power 192 = .ok (.bipush 9, 2) := by decide +kernel
theorem dX12_power_194 : decode cX12_power 194 = .ok (.invokevirtual 211, 3) := by decide +kernel
theorem dX12_power_197 : decode cX12_power 197 = .ok (.aload_n 0, 1) := by decide +kernel
theorem dX12_power_198 : decode cX12_power 198 = .ok (.iload_n 2, 1) := by decide +kernel
theorem dX12_power_199 : decode cX12_power 199 = .ok (.bipush 10, 2) := by decide +kernel
theorem dX12_power_201 : decode cX12_power 201 = .ok (.invokevirtual 211, 3) := by decide +kernel
theorem dX12_power_204 : decode cX12_power 204 = .ok (.isub, 1) := by decide +kernel
theorem dX12_power_205 : decode cX12_power 205 = .ok (.invokestatic 423, 3) := by decide +kernel
theorem dX12_power_208 : decode cX12_power 208 = .ok (.goto 19, 3) := by decide +kernel
theorem dX12_power_211 : decode cX12_power 211 = .ok (.iload_n 1, 1) := by decide +kernel
theorem dX12_power_212 : decode cX12_power 212 = .ok (.ineg, 1) := by decide +kernel
theorem dX12_power_213 : decode cX12_power 213 = .ok (.iload_n 3, 1) := by decide +kernel
theorem dX12_power_214 : decode cX12_power 214 = .ok (.invokestatic 423, 3) := by decide +kernel
theorem dX12_power_217 : decode cX12_power 217 = .ok (.aload_n 0, 1) := by decide +kernel
theorem dX12_power_218 : decode cX12_power 218 = .ok (.iload_n 2, 1) := by decide +kernel
theorem dX12_power_219 : decode cX12_power 219 = .ok (.bipush 10, 2) := by decide +kernel
theorem dX12_power_221 : decode cX12_power 221 = .ok (.invokevirtual 211, 3) := by decide +kernel
theorem dX12_power_224 : decode cX12_power 224 = .ok (.invokestatic 423, 3) := by decide +kernel
theorem dX12_power_227 : decode cX12_power 227 = .ok (.istore 4, 2) := by decide +kernel
theorem dX12_power_229 : decode cX12_power 229 = .ok (.iload 4, 2) := by decide +kernel
theorem dX12_power_231 : decode cX12_power 231 = .ok (.ifCond .ge 7, 3) := by decide +kernel
theorem dX12_power_234 : decode cX12_power 234 = .ok (.iconst 0, 1) := by decide +kernel
theorem dX12_power_235 : decode cX12_power 235 = .ok (.goto 5, 3) := by decide +kernel
theorem dX12_power_238 : decode cX12_power 238 = .ok (.iload 4, 2) := by decide +kernel
theorem dX12_power_240 : decode cX12_power 240 = .ok (.istore 4, 2) := by decide +kernel
theorem dX12_power_242 : decode cX12_power 242 = .ok (.aload_n 0, 1) := by decide +kernel
theorem dX12_power_243 : decode cX12_power 243 = .ok (.iload_n 2, 1) := by decide +kernel
theorem dX12_power_244 : decode cX12_power 244 = .ok (.bipush 10, 2) := by decide +kernel
theorem dX12_power_246 : decode cX12_power 246 = .ok (.iload_n 1, 1) := by decide +kernel
theorem dX12_power_247 : decode cX12_power 247 = .ok (.ifCond .le 8, 3) := by decide +kernel
theorem dX12_power_250 : decode cX12_power 250 = .ok (.iload 4, 2) := by decide +kernel
theorem dX12_power_252 : decode cX12_power 252 = .ok (.goto 6, 3) := by decide +kernel
theorem dX12_power_255 : decode cX12_power 255 = .ok (.iload 4, 2) := by decide +kernel
theorem dX12_power_257 : decode cX12_power 257 = .ok (.ineg, 1) := by decide +kernel
theorem dX12_power_258 : decode cX12_power 258 = .ok (.invokevirtual 259, 3) := by decide +kernel
theorem dX12_power_261 : decode cX12_power 261 = .ok (.iload_n 1, 1) := by decide +kernel
theorem dX12_power_262 : decode cX12_power 262 = .ok (.iload_n 1, 1) := by decide +kernel
theorem dX12_power_263 : decode cX12_power 263 = .ok (.ifCond .le 9, 3) := by decide +kernel
theorem dX12_power_266 : decode cX12_power 266 = .ok (.iload 4, 2) := by decide +kernel
theorem dX12_power_268 : decode cX12_power 268 = .ok (.ineg, 1) := by decide +kernel
theorem dX12_power_269 : decode cX12_power 269 = .ok (.goto 5, 3) := by decide +kernel
theorem dX12_power_272 : decode cX12_power 272 = .ok (.iload 4, 2) := by decide +kernel
theorem dX12_power_274 : decode cX12_power 274 = .ok (.iadd, 1) := by decide +kernel
theorem dX12_power_275 : decode cX12_power 275 = .ok (.istore_n 1, 1) := by decide +kernel
theorem dX12_power_276 : decode cX12_power 276 = .ok (.iinc 2 1, 3) := by decide +kernel
theorem dX12_power_279 : decode cX12_power 279 = .ok (.goto (-134), 3) := by decide +kernel
theorem dX12_power_282 : decode cX12_power 282 = .ok (.iload_n 1, 1) := by decide +kernel
theorem dX12_power_283 : decode cX12_power 283 = .ok (.ifCond .ge 7, 3) := by decide +kernel
theorem dX12_power_286 : decode cX12_power 286 = .ok (.aload_n 0, 1) := by decide +kernel
theorem dX12_power_287 : decode cX12_power 287 = .ok (.invokevirtual 426, 3) := by decide +kernel
theorem dX12_power_290 : decode cX12_power 290 = .ok (.return_, 1) := by decide +kernel
def LF_X12_power_12 (N : Nat) : Nat → Nat → Int32 → MI → ML → MR → Option (MI)
  | 0, _, _, _, _, _ => none
  | k + 1, y0, y1, I, L, R =>
    if (I y0 21) ≤ y1 then
      some (I)
    else
      bn1 (F_X12_isA N y0 y1 (22 : Int32) I L R) fun b4 =>
      bn1 (
        if (b2i b4) = 0 then
          some ((0 : Int32))
        else
          bn1 (F_X12_isWhole y0 y1 I L R) fun b10 =>
          bn1 (
            if (b2i b10) = 0 then
              some ((0 : Int32))
            else
              some ((1 : Int32))
          ) fun (s12 : Int32) =>
          some (s12)
      ) fun (s6 : Int32) =>
      bn2 (
        if s6 = 0 then
          some ((0 : Int32), I)
        else
          bn2 (F_X12_given N y0 y1 I L R) fun v21 I22 =>
          some (v21, I22)
      ) fun (s16 : Int32) (I17 : MI) =>
      wr (uI I17 y0 48 ((I y0 48) + s16)) fun (I24 : MI) =>
      wr (y1 + (1 : Int32)) fun (u25 : Int32) =>
      LF_X12_power_12 N k y0 u25 I24 L R
def LF_X12_power_74 (N : Nat) : Nat → Nat → Int32 → MI → ML → MR → Option (MI)
  | 0, _, _, _, _, _ => none
  | k + 1, y0, y1, I, L, R =>
    if (I y0 21) ≤ y1 then
      some (I)
    else
      bn1 (F_X12_isOn N y0 y1 I L R) fun b29 =>
      bn2 (
        if (b2i b29) = 0 then
          bn1 (F_X12_isA N y0 y1 (22 : Int32) I L R) fun b39 =>
          bn2 (
            if (b2i b39) = 0 then
              some ((0 : Int32), I)
            else
              bn1 (F_X12_isWhole y0 y1 I L R) fun b46 =>
              bn2 (
                if (b2i b46) = 0 then
                  some ((0 : Int32), I)
                else
                  bn2 (F_X12_answer N y0 y1 (2 : Int32) I L R) fun v53 I54 =>
                  some (v53, I54)
              ) fun (s48 : Int32) (I49 : MI) =>
              some (s48, I49)
          ) fun (s41 : Int32) (I42 : MI) =>
          some (s41, I42)
        else
          bn2 (F_X12_answer N y0 y1 (2 : Int32) I L R) fun v36 I37 =>
          some (v36, I37)
      ) fun (s31 : Int32) (I32 : MI) =>
      wr (uI I32 y0 49 ((I y0 49) + s31)) fun (I56 : MI) =>
      wr (y1 + (1 : Int32)) fun (u57 : Int32) =>
      LF_X12_power_74 N k y0 u57 I56 L R
def LF_X12_power_145 (N : Nat) : Nat → Nat → Int32 → Int32 → MI → ML → MR → Option (Int32 × MI)
  | 0, _, _, _, _, _, _ => none
  | k + 1, y0, y1, y2, I, L, R =>
    if (I y0 21) ≤ y2 then
      some (y1, I)
    else
      bn1 (F_X12_isA N y0 y2 (2 : Int32) I L R) fun b62 =>
      bn2 (
        if (b2i b62) = 0 then
          some (y1, I)
        else
          bn1 (F_X12_isWhole y0 y2 I L R) fun b69 =>
          bn2 (
            if (b2i b69) = 0 then
              some (y1, I)
            else
              bn1 (F_X12_get y0 y2 (13 : Int32) I L R) fun v76 =>
              bn1 (
                if y1 ≤ 0 then
                  bn1 (F_X12_least (-y1) v76 I L R) fun v82 =>
                  bn1 (F_X12_get y0 y2 (10 : Int32) I L R) fun v84 =>
                  bn1 (F_X12_least v82 v84 I L R) fun v86 =>
                  some (v86)
                else
                  bn1 (F_X12_least y1 v76 I L R) fun v88 =>
                  bn1 (F_X12_get y0 y2 (9 : Int32) I L R) fun v90 =>
                  bn1 (F_X12_get y0 y2 (10 : Int32) I L R) fun v92 =>
                  bn1 (F_X12_least v88 (v90 - v92) I L R) fun v94 =>
                  some (v94)
              ) fun (s78 : Int32) =>
              bn1 (
                if 0 ≤ s78 then
                  some (s78)
                else
                  some ((0 : Int32))
              ) fun (s96 : Int32) =>
              bn1 (
                if y1 ≤ 0 then
                  some ((-s96))
                else
                  some (s96)
              ) fun (s100 : Int32) =>
              bn1 (F_X12_grow y0 y2 (10 : Int32) s100 I L R) fun I104 =>
              bn1 (
                if y1 ≤ 0 then
                  some (s96)
                else
                  some ((-s96))
              ) fun (s106 : Int32) =>
              wr (y1 + s106) fun (u110 : Int32) =>
              some (u110, I104)
          ) fun (u71 : Int32) (I72 : MI) =>
          some (u71, I72)
      ) fun (u64 : Int32) (I65 : MI) =>
      wr (y2 + (1 : Int32)) fun (u111 : Int32) =>
      LF_X12_power_145 N k y0 u64 u111 I65 L R
def F_X12_power (N : Nat) (x0 : Nat) (I : MI) (L : ML) (R : MR) : Option (MI) :=
  if kd x0 = 11 ∧ x0 < NN then
  wr (uI I x0 48 (0 : Int32)) fun (I1 : MI) =>
  wr (uI I1 x0 49 (0 : Int32)) fun (I2 : MI) =>
  bn1 (LF_X12_power_12 N N x0 (0 : Int32) I2 L R) fun z26 =>
  bn1 (LF_X12_power_74 N N x0 (0 : Int32) z26 L R) fun z58 =>
  wr ((z58 x0 48) - (z58 x0 49)) fun (u60 : Int32) =>
  bn1 (LF_X12_power_145 N N x0 u60 (0 : Int32) z58 L R) fun z112 =>
  if 0 ≤ z112.1 then
    some (z112.2)
  else
    bn1 (F_X12_brownout N x0 z112.2 L R) fun I115 =>
    some (I115)
  else none
set_option maxRecDepth 100000 in
set_option maxHeartbeats 4000000 in
theorem lp_X12_power_12 {G : Gm} (C0 : Cx G (yX12_power.cls) cX12_power none) (eNL : G.nL = 5) (erm : G.rm = ({ frames := 4, cells := 0, slots := 0, locals := 88 } : Room)) (N : Nat) : ∀ (k : Nat) (y0 : Nat) (y1 : Int32) (I : MI) (L : ML) (R : MR) (z : MI) (hk0 : kd y0 = 11) (ho0 : y0 < NN), LF_X12_power_12 N k y0 y1 I L R = some z → ∀ f : State → Prop, V G f 72 [(0, .ref (G.ad y0))] [] z L R → V G f 12 [(0, .ref (G.ad y0)), (1, .int y1)] [] I L R := by
  intro k
  induction k with
  | zero =>
    intro y0 y1 I L R q hk0 ho0 h
    exact absurd h (by simp [LF_X12_power_12])
  | succ k ih =>
    intro y0 y1 I L R q hk0 ho0 h f kx
    rw [LF_X12_power_12] at h
    refine V_iload_n C0 1 rfl rfl dX12_power_12 ?_
    refine V_aload_n C0 0 rfl rfl dX12_power_13 ?_
    refine V_getI C0 11 21 fl_X12_297 ho0 hk0 rfl dX12_power_14 ?_
    refine V_icmp_ge C0 (tgt := 72) (by decide) dX12_power_17 (fun c3 => ?_) (fun c3 => ?_)
    · have h := (if_pos c3).symm.trans h
      cases h
      exact V_sub [0] rfl kx
    · have h := (if_neg c3).symm.trans h
      refine V_aload_n C0 0 rfl rfl dX12_power_20 ?_
      refine V_iload_n C0 1 rfl rfl dX12_power_21 ?_
      refine V_bipush C0 (v := (22 : Int32)) (by decide) dX12_power_22 ?_
      obtain ⟨b4, q5, h⟩ := bn1_some h
      refine V_callV C0 (st := []) (As := [.int y1, .int (22 : Int32)]) 11 (c_X12_isA G.l G.D G.cA G.ad G.bs G.X C0.2.2.2.2.2.2.2.2.2.1 C0.2.2.2.2.2.2.2.2.2.2.2.2 N y0 y1 (22 : Int32) I L R b4 q5) lc_X12_isA lk_X12_217 ho0 hk0 ⟨_, rfl, rfl⟩ rfl (by rw [erm]; decide) (Nat.le_of_ble_eq_true rfl) dX12_power_24 ?_
      show V G _ 27 [(0, .ref (G.ad y0)), (1, .int y1)] [.int (b2i b4)] I L R
      obtain ⟨s6, q7, h⟩ := bn1_some h
      have k8 : V G f 43 [(0, .ref (G.ad y0)), (1, .int y1)] [.int s6] I L R := by
        refine V_istore_n C0 [(2, .int s6), (0, .ref (G.ad y0)), (1, .int y1)] rfl (by rw [eNL]; decide) rfl dX12_power_43 ?_
        refine V_aload_n C0 1 rfl rfl dX12_power_44 ?_
        refine V_dup C0 rfl dX12_power_45 ?_
        refine V_getI C0 11 48 fl_X12_339 ho0 hk0 rfl dX12_power_46 ?_
        refine V_iload_n C0 0 rfl rfl dX12_power_49 ?_
        obtain ⟨s16, I17, q18, h⟩ := bn2_some h
        have k19 : V G f 62 [(0, .ref (G.ad y0)), (1, .int y1)] [.int s16, .int (I y0 48), .ref (G.ad y0)] I17 L R := by
          refine V_iadd C0 dX12_power_62 ?_
          obtain ⟨I24, eI24, h⟩ := wr_some h
          refine V_putI C0 11 48 fp_X12_339 ho0 hk0 rfl dX12_power_63 ?_
          rw [← eI24]
          obtain ⟨u25, eu25, h⟩ := wr_some h
          refine V_iinc C0 1 [(1, .int u25), (0, .ref (G.ad y0))] rfl (n := 1) (by rw [eu25]; rfl) (by rw [eNL]; decide) rfl dX12_power_66 ?_
          refine V_goto C0 (tgt := 12) (by decide) dX12_power_69 ?_
          exact V_sub [1, 0] rfl (ih y0 u25 I24 L R _ hk0 ho0 h f kx)
        refine V_if_eq C0 (tgt := 61) (by decide) dX12_power_50 (fun c20 => ?_) (fun c20 => ?_)
        · have q18 := (if_pos c20).symm.trans q18
          refine V_iconst C0 (v := (0 : Int32)) (by decide) dX12_power_61 ?_
          cases q18
          exact V_sub [1, 2] rfl k19
        · have q18 := (if_neg c20).symm.trans q18
          refine V_aload_n C0 1 rfl rfl dX12_power_53 ?_
          refine V_iload_n C0 2 rfl rfl dX12_power_54 ?_
          obtain ⟨v21, I22, q23, q18⟩ := bn2_some q18
          refine V_callV C0 (st := [.int (I y0 48), .ref (G.ad y0)]) (As := [.int y1]) 11 (c_X12_given G.l G.D G.cA G.ad G.bs G.X C0.2.2.2.2.2.2.2.2.2.1 C0.2.2.2.2.2.2.2.2.2.2.2.2 N y0 y1 I L R v21 I22 q23) lc_X12_given lk_X12_420 ho0 hk0 ⟨_, rfl, rfl⟩ rfl (by rw [erm]; decide) (Nat.le_of_ble_eq_true rfl) dX12_power_55 ?_
          show V G _ 58 [(2, .int s6), (0, .ref (G.ad y0)), (1, .int y1)] [.int v21, .int (I y0 48), .ref (G.ad y0)] I22 L R
          refine V_goto C0 (tgt := 62) (by decide) dX12_power_58 ?_
          cases q18
          exact V_sub [1, 2] rfl k19
      refine V_if_eq C0 (tgt := 42) (by decide) dX12_power_27 (fun c9 => ?_) (fun c9 => ?_)
      · have q7 := (if_pos c9).symm.trans q7
        refine V_iconst C0 (v := (0 : Int32)) (by decide) dX12_power_42 ?_
        cases q7
        exact V_sub [0, 1] rfl k8
      · have q7 := (if_neg c9).symm.trans q7
        refine V_aload_n C0 0 rfl rfl dX12_power_30 ?_
        refine V_iload_n C0 1 rfl rfl dX12_power_31 ?_
        obtain ⟨b10, q11, q7⟩ := bn1_some q7
        refine V_callV C0 (st := []) (As := [.int y1]) 11 (c_X12_isWhole G.l G.D G.cA G.ad G.bs G.X C0.2.2.2.2.2.2.2.2.2.1 C0.2.2.2.2.2.2.2.2.2.2.2.2 y0 y1 I L R b10 q11) lc_X12_isWhole lk_X12_366 ho0 hk0 ⟨_, rfl, rfl⟩ rfl (by rw [erm]; decide) (Nat.le_of_ble_eq_true rfl) dX12_power_32 ?_
        show V G _ 35 [(0, .ref (G.ad y0)), (1, .int y1)] [.int (b2i b10)] I L R
        obtain ⟨s12, q13, q7⟩ := bn1_some q7
        have k14 : V G f 43 [(0, .ref (G.ad y0)), (1, .int y1)] [.int s12] I L R := by
          cases q7
          exact V_sub [0, 1] rfl k8
        refine V_if_eq C0 (tgt := 42) (by decide) dX12_power_35 (fun c15 => ?_) (fun c15 => ?_)
        · have q13 := (if_pos c15).symm.trans q13
          refine V_iconst C0 (v := (0 : Int32)) (by decide) dX12_power_42 ?_
          cases q13
          exact V_sub [0, 1] rfl k14
        · have q13 := (if_neg c15).symm.trans q13
          refine V_iconst C0 (v := (1 : Int32)) (by decide) dX12_power_38 ?_
          refine V_goto C0 (tgt := 43) (by decide) dX12_power_39 ?_
          cases q13
          exact V_sub [0, 1] rfl k14
set_option maxRecDepth 100000 in
set_option maxHeartbeats 4000000 in
theorem lp_X12_power_74 {G : Gm} (C0 : Cx G (yX12_power.cls) cX12_power none) (eNL : G.nL = 5) (erm : G.rm = ({ frames := 4, cells := 0, slots := 0, locals := 88 } : Room)) (N : Nat) : ∀ (k : Nat) (y0 : Nat) (y1 : Int32) (I : MI) (L : ML) (R : MR) (z : MI) (hk0 : kd y0 = 11) (ho0 : y0 < NN), LF_X12_power_74 N k y0 y1 I L R = some z → ∀ f : State → Prop, V G f 133 [(0, .ref (G.ad y0))] [] z L R → V G f 74 [(0, .ref (G.ad y0)), (1, .int y1)] [] I L R := by
  intro k
  induction k with
  | zero =>
    intro y0 y1 I L R q hk0 ho0 h
    exact absurd h (by simp [LF_X12_power_74])
  | succ k ih =>
    intro y0 y1 I L R q hk0 ho0 h f kx
    rw [LF_X12_power_74] at h
    refine V_iload_n C0 1 rfl rfl dX12_power_74 ?_
    refine V_aload_n C0 0 rfl rfl dX12_power_75 ?_
    refine V_getI C0 11 21 fl_X12_297 ho0 hk0 rfl dX12_power_76 ?_
    refine V_icmp_ge C0 (tgt := 133) (by decide) dX12_power_79 (fun c28 => ?_) (fun c28 => ?_)
    · have h := (if_pos c28).symm.trans h
      cases h
      exact V_sub [0] rfl kx
    · have h := (if_neg c28).symm.trans h
      refine V_aload_n C0 0 rfl rfl dX12_power_82 ?_
      refine V_dup C0 rfl dX12_power_83 ?_
      refine V_getI C0 11 49 fl_X12_342 ho0 hk0 rfl dX12_power_84 ?_
      refine V_aload_n C0 0 rfl rfl dX12_power_87 ?_
      refine V_iload_n C0 1 rfl rfl dX12_power_88 ?_
      obtain ⟨b29, q30, h⟩ := bn1_some h
      refine V_callV C0 (st := [.int (I y0 49), .ref (G.ad y0)]) (As := [.int y1]) 11 (c_X12_isOn G.l G.D G.cA G.ad G.bs G.X C0.2.2.2.2.2.2.2.2.2.1 C0.2.2.2.2.2.2.2.2.2.2.2.2 N y0 y1 I L R b29 q30) lc_X12_isOn lk_X12_393 ho0 hk0 ⟨_, rfl, rfl⟩ rfl (by rw [erm]; decide) (Nat.le_of_ble_eq_true rfl) dX12_power_89 ?_
      show V G _ 92 [(0, .ref (G.ad y0)), (1, .int y1)] [.int (b2i b29), .int (I y0 49), .ref (G.ad y0)] I L R
      obtain ⟨s31, I32, q33, h⟩ := bn2_some h
      have k34 : V G f 123 [(0, .ref (G.ad y0)), (1, .int y1)] [.int s31, .int (I y0 49), .ref (G.ad y0)] I32 L R := by
        refine V_iadd C0 dX12_power_123 ?_
        obtain ⟨I56, eI56, h⟩ := wr_some h
        refine V_putI C0 11 49 fp_X12_342 ho0 hk0 rfl dX12_power_124 ?_
        rw [← eI56]
        obtain ⟨u57, eu57, h⟩ := wr_some h
        refine V_iinc C0 1 [(1, .int u57), (0, .ref (G.ad y0))] rfl (n := 1) (by rw [eu57]; rfl) (by rw [eNL]; decide) rfl dX12_power_127 ?_
        refine V_goto C0 (tgt := 74) (by decide) dX12_power_130 ?_
        exact V_sub [1, 0] rfl (ih y0 u57 I56 L R _ hk0 ho0 h f kx)
      refine V_if_ne C0 (tgt := 113) (by decide) dX12_power_92 (fun c35 => ?_) (fun c35 => ?_)
      · have q33 := (if_neg c35).symm.trans q33
        refine V_aload_n C0 0 rfl rfl dX12_power_113 ?_
        refine V_iload_n C0 1 rfl rfl dX12_power_114 ?_
        refine V_iconst C0 (v := (2 : Int32)) (by decide) dX12_power_115 ?_
        obtain ⟨v36, I37, q38, q33⟩ := bn2_some q33
        refine V_callV C0 (st := [.int (I y0 49), .ref (G.ad y0)]) (As := [.int y1, .int (2 : Int32)]) 11 (c_X12_answer G.l G.D G.cA G.ad G.bs G.X C0.2.2.2.2.2.2.2.2.2.1 C0.2.2.2.2.2.2.2.2.2.2.2.2 N y0 y1 (2 : Int32) I L R v36 I37 q38) lc_X12_answer lk_X12_250 ho0 hk0 ⟨_, rfl, rfl⟩ rfl (by rw [erm]; decide) (Nat.le_of_ble_eq_true rfl) dX12_power_116 ?_
        show V G _ 119 [(0, .ref (G.ad y0)), (1, .int y1)] [.int v36, .int (I y0 49), .ref (G.ad y0)] I37 L R
        refine V_goto C0 (tgt := 123) (by decide) dX12_power_119 ?_
        cases q33
        exact V_sub [0, 1] rfl k34
      · have q33 := (if_pos c35).symm.trans q33
        refine V_aload_n C0 0 rfl rfl dX12_power_95 ?_
        refine V_iload_n C0 1 rfl rfl dX12_power_96 ?_
        refine V_bipush C0 (v := (22 : Int32)) (by decide) dX12_power_97 ?_
        obtain ⟨b39, q40, q33⟩ := bn1_some q33
        refine V_callV C0 (st := [.int (I y0 49), .ref (G.ad y0)]) (As := [.int y1, .int (22 : Int32)]) 11 (c_X12_isA G.l G.D G.cA G.ad G.bs G.X C0.2.2.2.2.2.2.2.2.2.1 C0.2.2.2.2.2.2.2.2.2.2.2.2 N y0 y1 (22 : Int32) I L R b39 q40) lc_X12_isA lk_X12_217 ho0 hk0 ⟨_, rfl, rfl⟩ rfl (by rw [erm]; decide) (Nat.le_of_ble_eq_true rfl) dX12_power_99 ?_
        show V G _ 102 [(0, .ref (G.ad y0)), (1, .int y1)] [.int (b2i b39), .int (I y0 49), .ref (G.ad y0)] I L R
        obtain ⟨s41, I42, q43, q33⟩ := bn2_some q33
        have k44 : V G f 123 [(0, .ref (G.ad y0)), (1, .int y1)] [.int s41, .int (I y0 49), .ref (G.ad y0)] I42 L R := by
          cases q33
          exact V_sub [0, 1] rfl k34
        refine V_if_eq C0 (tgt := 122) (by decide) dX12_power_102 (fun c45 => ?_) (fun c45 => ?_)
        · have q43 := (if_pos c45).symm.trans q43
          refine V_iconst C0 (v := (0 : Int32)) (by decide) dX12_power_122 ?_
          cases q43
          exact V_sub [0, 1] rfl k44
        · have q43 := (if_neg c45).symm.trans q43
          refine V_aload_n C0 0 rfl rfl dX12_power_105 ?_
          refine V_iload_n C0 1 rfl rfl dX12_power_106 ?_
          obtain ⟨b46, q47, q43⟩ := bn1_some q43
          refine V_callV C0 (st := [.int (I y0 49), .ref (G.ad y0)]) (As := [.int y1]) 11 (c_X12_isWhole G.l G.D G.cA G.ad G.bs G.X C0.2.2.2.2.2.2.2.2.2.1 C0.2.2.2.2.2.2.2.2.2.2.2.2 y0 y1 I L R b46 q47) lc_X12_isWhole lk_X12_366 ho0 hk0 ⟨_, rfl, rfl⟩ rfl (by rw [erm]; decide) (Nat.le_of_ble_eq_true rfl) dX12_power_107 ?_
          show V G _ 110 [(0, .ref (G.ad y0)), (1, .int y1)] [.int (b2i b46), .int (I y0 49), .ref (G.ad y0)] I L R
          obtain ⟨s48, I49, q50, q43⟩ := bn2_some q43
          have k51 : V G f 123 [(0, .ref (G.ad y0)), (1, .int y1)] [.int s48, .int (I y0 49), .ref (G.ad y0)] I49 L R := by
            cases q43
            exact V_sub [0, 1] rfl k44
          refine V_if_eq C0 (tgt := 122) (by decide) dX12_power_110 (fun c52 => ?_) (fun c52 => ?_)
          · have q50 := (if_pos c52).symm.trans q50
            refine V_iconst C0 (v := (0 : Int32)) (by decide) dX12_power_122 ?_
            cases q50
            exact V_sub [0, 1] rfl k51
          · have q50 := (if_neg c52).symm.trans q50
            refine V_aload_n C0 0 rfl rfl dX12_power_113 ?_
            refine V_iload_n C0 1 rfl rfl dX12_power_114 ?_
            refine V_iconst C0 (v := (2 : Int32)) (by decide) dX12_power_115 ?_
            obtain ⟨v53, I54, q55, q50⟩ := bn2_some q50
            refine V_callV C0 (st := [.int (I y0 49), .ref (G.ad y0)]) (As := [.int y1, .int (2 : Int32)]) 11 (c_X12_answer G.l G.D G.cA G.ad G.bs G.X C0.2.2.2.2.2.2.2.2.2.1 C0.2.2.2.2.2.2.2.2.2.2.2.2 N y0 y1 (2 : Int32) I L R v53 I54 q55) lc_X12_answer lk_X12_250 ho0 hk0 ⟨_, rfl, rfl⟩ rfl (by rw [erm]; decide) (Nat.le_of_ble_eq_true rfl) dX12_power_116 ?_
            show V G _ 119 [(0, .ref (G.ad y0)), (1, .int y1)] [.int v53, .int (I y0 49), .ref (G.ad y0)] I54 L R
            refine V_goto C0 (tgt := 123) (by decide) dX12_power_119 ?_
            cases q50
            exact V_sub [0, 1] rfl k51
set_option maxRecDepth 100000 in
set_option maxHeartbeats 4000000 in
theorem lp_X12_power_145 {G : Gm} (C0 : Cx G (yX12_power.cls) cX12_power none) (eNL : G.nL = 5) (erm : G.rm = ({ frames := 4, cells := 0, slots := 0, locals := 88 } : Room)) (N : Nat) : ∀ (k : Nat) (y0 : Nat) (y1 : Int32) (y2 : Int32) (I : MI) (L : ML) (R : MR) (z : Int32 × MI) (hk0 : kd y0 = 11) (ho0 : y0 < NN), LF_X12_power_145 N k y0 y1 y2 I L R = some z → ∀ f : State → Prop, V G f 282 [(0, .ref (G.ad y0)), (1, .int z.1)] [] z.2 L R → V G f 145 [(0, .ref (G.ad y0)), (1, .int y1), (2, .int y2)] [] I L R := by
  intro k
  induction k with
  | zero =>
    intro y0 y1 y2 I L R q hk0 ho0 h
    exact absurd h (by simp [LF_X12_power_145])
  | succ k ih =>
    intro y0 y1 y2 I L R q hk0 ho0 h f kx
    rw [LF_X12_power_145] at h
    refine V_iload_n C0 2 rfl rfl dX12_power_145 ?_
    refine V_aload_n C0 0 rfl rfl dX12_power_146 ?_
    refine V_getI C0 11 21 fl_X12_297 ho0 hk0 rfl dX12_power_147 ?_
    refine V_icmp_ge C0 (tgt := 282) (by decide) dX12_power_150 (fun c61 => ?_) (fun c61 => ?_)
    · have h := (if_pos c61).symm.trans h
      cases h
      exact V_sub [0, 1] rfl kx
    · have h := (if_neg c61).symm.trans h
      refine V_aload_n C0 0 rfl rfl dX12_power_153 ?_
      refine V_iload_n C0 2 rfl rfl dX12_power_154 ?_
      refine V_iconst C0 (v := (2 : Int32)) (by decide) dX12_power_155 ?_
      obtain ⟨b62, q63, h⟩ := bn1_some h
      refine V_callV C0 (st := []) (As := [.int y2, .int (2 : Int32)]) 11 (c_X12_isA G.l G.D G.cA G.ad G.bs G.X C0.2.2.2.2.2.2.2.2.2.1 C0.2.2.2.2.2.2.2.2.2.2.2.2 N y0 y2 (2 : Int32) I L R b62 q63) lc_X12_isA lk_X12_217 ho0 hk0 ⟨_, rfl, rfl⟩ rfl (by rw [erm]; decide) (Nat.le_of_ble_eq_true rfl) dX12_power_156 ?_
      show V G _ 159 [(0, .ref (G.ad y0)), (1, .int y1), (2, .int y2)] [.int (b2i b62)] I L R
      obtain ⟨u64, I65, q66, h⟩ := bn2_some h
      have k67 : V G f 276 [(0, .ref (G.ad y0)), (1, .int u64), (2, .int y2)] [] I65 L R := by
        obtain ⟨u111, eu111, h⟩ := wr_some h
        refine V_iinc C0 2 [(2, .int u111), (0, .ref (G.ad y0)), (1, .int u64)] rfl (n := 1) (by rw [eu111]; rfl) (by rw [eNL]; decide) rfl dX12_power_276 ?_
        refine V_goto C0 (tgt := 145) (by decide) dX12_power_279 ?_
        exact V_sub [1, 2, 0] rfl (ih y0 u64 u111 I65 L R _ hk0 ho0 h f kx)
      refine V_if_eq C0 (tgt := 276) (by decide) dX12_power_159 (fun c68 => ?_) (fun c68 => ?_)
      · have q66 := (if_pos c68).symm.trans q66
        cases q66
        exact V_sub [0, 1, 2] rfl k67
      · have q66 := (if_neg c68).symm.trans q66
        refine V_aload_n C0 0 rfl rfl dX12_power_162 ?_
        refine V_iload_n C0 2 rfl rfl dX12_power_163 ?_
        obtain ⟨b69, q70, q66⟩ := bn1_some q66
        refine V_callV C0 (st := []) (As := [.int y2]) 11 (c_X12_isWhole G.l G.D G.cA G.ad G.bs G.X C0.2.2.2.2.2.2.2.2.2.1 C0.2.2.2.2.2.2.2.2.2.2.2.2 y0 y2 I L R b69 q70) lc_X12_isWhole lk_X12_366 ho0 hk0 ⟨_, rfl, rfl⟩ rfl (by rw [erm]; decide) (Nat.le_of_ble_eq_true rfl) dX12_power_164 ?_
        show V G _ 167 [(0, .ref (G.ad y0)), (1, .int y1), (2, .int y2)] [.int (b2i b69)] I L R
        obtain ⟨u71, I72, q73, q66⟩ := bn2_some q66
        have k74 : V G f 276 [(0, .ref (G.ad y0)), (1, .int u71), (2, .int y2)] [] I72 L R := by
          cases q66
          exact V_sub [0, 1, 2] rfl k67
        refine V_if_ne C0 (tgt := 173) (by decide) dX12_power_167 (fun c75 => ?_) (fun c75 => ?_)
        · have q73 := (if_neg c75).symm.trans q73
          refine V_aload_n C0 0 rfl rfl dX12_power_173 ?_
          refine V_iload_n C0 2 rfl rfl dX12_power_174 ?_
          refine V_bipush C0 (v := (13 : Int32)) (by decide) dX12_power_175 ?_
          obtain ⟨v76, q77, q73⟩ := bn1_some q73
          refine V_callV C0 (st := []) (As := [.int y2, .int (13 : Int32)]) 11 (c_X12_get G.l G.D G.cA G.ad G.bs G.X C0.2.2.2.2.2.2.2.2.2.1 C0.2.2.2.2.2.2.2.2.2.2.2.2 y0 y2 (13 : Int32) I L R v76 q77) lc_X12_get lk_X12_211 ho0 hk0 ⟨_, rfl, rfl⟩ rfl (by rw [erm]; decide) (Nat.le_of_ble_eq_true rfl) dX12_power_177 ?_
          show V G _ 180 [(0, .ref (G.ad y0)), (1, .int y1), (2, .int y2)] [.int v76] I L R
          refine V_istore_n C0 [(3, .int v76), (0, .ref (G.ad y0)), (1, .int y1), (2, .int y2)] rfl (by rw [eNL]; decide) rfl dX12_power_180 ?_
          refine V_iload_n C0 2 rfl rfl dX12_power_181 ?_
          obtain ⟨s78, q79, q73⟩ := bn1_some q73
          have k80 : V G f 227 [(0, .ref (G.ad y0)), (1, .int y1), (2, .int y2)] [.int s78] I L R := by
            refine V_istore C0 [(4, .int s78), (0, .ref (G.ad y0)), (1, .int y1), (2, .int y2)] (by rw [eNL]; decide) rfl dX12_power_227 ?_
            refine V_iload C0 0 rfl dX12_power_229 ?_
            obtain ⟨s96, q97, q73⟩ := bn1_some q73
            have k98 : V G f 240 [(0, .ref (G.ad y0)), (1, .int y1), (2, .int y2)] [.int s96] I L R := by
              refine V_istore C0 [(4, .int s96), (0, .ref (G.ad y0)), (1, .int y1), (2, .int y2)] (by rw [eNL]; decide) rfl dX12_power_240 ?_
              refine V_aload_n C0 1 rfl rfl dX12_power_242 ?_
              refine V_iload_n C0 3 rfl rfl dX12_power_243 ?_
              refine V_bipush C0 (v := (10 : Int32)) (by decide) dX12_power_244 ?_
              refine V_iload_n C0 2 rfl rfl dX12_power_246 ?_
              obtain ⟨s100, q101, q73⟩ := bn1_some q73
              have k102 : V G f 258 [(0, .ref (G.ad y0)), (1, .int y1), (2, .int y2), (4, .int s96)] [.int s100, .int (10 : Int32), .int y2, .ref (G.ad y0)] I L R := by
                obtain ⟨I104, q105, q73⟩ := bn1_some q73
                refine V_callV C0 (st := []) (As := [.int y2, .int (10 : Int32), .int s100]) 11 (c_X12_grow G.l G.D G.cA G.ad G.bs G.X C0.2.2.2.2.2.2.2.2.2.1 C0.2.2.2.2.2.2.2.2.2.2.2.2 y0 y2 (10 : Int32) s100 I L R I104 q105) lc_X12_grow lk_X12_259 ho0 hk0 ⟨_, rfl, rfl⟩ rfl (by rw [erm]; decide) (Nat.le_of_ble_eq_true rfl) dX12_power_258 ?_
                show V G _ 261 [(0, .ref (G.ad y0)), (1, .int y1), (2, .int y2), (4, .int s96)] [] I104 L R
                refine V_iload_n C0 1 rfl rfl dX12_power_261 ?_
                refine V_iload_n C0 1 rfl rfl dX12_power_262 ?_
                obtain ⟨s106, q107, q73⟩ := bn1_some q73
                have k108 : V G f 274 [(0, .ref (G.ad y0)), (2, .int y2)] [.int s106, .int y1] I104 L R := by
                  refine V_iadd C0 dX12_power_274 ?_
                  obtain ⟨u110, eu110, q73⟩ := wr_some q73
                  rw [← eu110]
                  refine V_istore_n C0 [(1, .int u110), (0, .ref (G.ad y0)), (2, .int y2)] rfl (by rw [eNL]; decide) rfl dX12_power_275 ?_
                  cases q73
                  exact V_sub [1, 0, 2] rfl k74
                refine V_if_le C0 (tgt := 272) (by decide) dX12_power_263 (fun c109 => ?_) (fun c109 => ?_)
                · have q107 := (if_pos c109).symm.trans q107
                  refine V_iload C0 3 rfl dX12_power_272 ?_
                  cases q107
                  exact V_sub [0, 2] rfl k108
                · have q107 := (if_neg c109).symm.trans q107
                  refine V_iload C0 3 rfl dX12_power_266 ?_
                  refine V_ineg C0 dX12_power_268 ?_
                  refine V_goto C0 (tgt := 274) (by decide) dX12_power_269 ?_
                  cases q107
                  exact V_sub [0, 2] rfl k108
              refine V_if_le C0 (tgt := 255) (by decide) dX12_power_247 (fun c103 => ?_) (fun c103 => ?_)
              · have q101 := (if_pos c103).symm.trans q101
                refine V_iload C0 0 rfl dX12_power_255 ?_
                refine V_ineg C0 dX12_power_257 ?_
                cases q101
                exact V_sub [1, 2, 3, 0] rfl k102
              · have q101 := (if_neg c103).symm.trans q101
                refine V_iload C0 0 rfl dX12_power_250 ?_
                refine V_goto C0 (tgt := 258) (by decide) dX12_power_252 ?_
                cases q101
                exact V_sub [1, 2, 3, 0] rfl k102
            refine V_if_ge C0 (tgt := 238) (by decide) dX12_power_231 (fun c99 => ?_) (fun c99 => ?_)
            · have q97 := (if_pos c99).symm.trans q97
              refine V_iload C0 0 rfl dX12_power_238 ?_
              cases q97
              exact V_sub [1, 2, 3] rfl k98
            · have q97 := (if_neg c99).symm.trans q97
              refine V_iconst C0 (v := (0 : Int32)) (by decide) dX12_power_234 ?_
              refine V_goto C0 (tgt := 240) (by decide) dX12_power_235 ?_
              cases q97
              exact V_sub [1, 2, 3] rfl k98
          refine V_if_le C0 (tgt := 211) (by decide) dX12_power_182 (fun c81 => ?_) (fun c81 => ?_)
          · have q79 := (if_pos c81).symm.trans q79
            refine V_iload_n C0 2 rfl rfl dX12_power_211 ?_
            refine V_ineg C0 dX12_power_212 ?_
            refine V_iload_n C0 0 rfl rfl dX12_power_213 ?_
            obtain ⟨v82, q83, q79⟩ := bn1_some q79
            refine V_callS C0 (st := []) (As := [.int (-y1), .int v76]) (c_X12_least G.l G.D G.cA G.ad G.bs G.X C0.2.2.2.2.2.2.2.2.2.1 C0.2.2.2.2.2.2.2.2.2.2.2.2 (-y1) v76 I L R v82 q83) lc_X12_least lk_X12_423 rfl (by rw [erm]; decide) (Nat.le_of_ble_eq_true rfl) dX12_power_214 ?_
            show V G _ 217 [(3, .int v76), (0, .ref (G.ad y0)), (1, .int y1), (2, .int y2)] [.int v82] I L R
            refine V_aload_n C0 1 rfl rfl dX12_power_217 ?_
            refine V_iload_n C0 3 rfl rfl dX12_power_218 ?_
            refine V_bipush C0 (v := (10 : Int32)) (by decide) dX12_power_219 ?_
            obtain ⟨v84, q85, q79⟩ := bn1_some q79
            refine V_callV C0 (st := [.int v82]) (As := [.int y2, .int (10 : Int32)]) 11 (c_X12_get G.l G.D G.cA G.ad G.bs G.X C0.2.2.2.2.2.2.2.2.2.1 C0.2.2.2.2.2.2.2.2.2.2.2.2 y0 y2 (10 : Int32) I L R v84 q85) lc_X12_get lk_X12_211 ho0 hk0 ⟨_, rfl, rfl⟩ rfl (by rw [erm]; decide) (Nat.le_of_ble_eq_true rfl) dX12_power_221 ?_
            show V G _ 224 [(3, .int v76), (0, .ref (G.ad y0)), (1, .int y1), (2, .int y2)] [.int v84, .int v82] I L R
            obtain ⟨v86, q87, q79⟩ := bn1_some q79
            refine V_callS C0 (st := []) (As := [.int v82, .int v84]) (c_X12_least G.l G.D G.cA G.ad G.bs G.X C0.2.2.2.2.2.2.2.2.2.1 C0.2.2.2.2.2.2.2.2.2.2.2.2 v82 v84 I L R v86 q87) lc_X12_least lk_X12_423 rfl (by rw [erm]; decide) (Nat.le_of_ble_eq_true rfl) dX12_power_224 ?_
            show V G _ 227 [(3, .int v76), (0, .ref (G.ad y0)), (1, .int y1), (2, .int y2)] [.int v86] I L R
            cases q79
            exact V_sub [1, 2, 3] rfl k80
          · have q79 := (if_neg c81).symm.trans q79
            refine V_iload_n C0 2 rfl rfl dX12_power_185 ?_
            refine V_iload_n C0 0 rfl rfl dX12_power_186 ?_
            obtain ⟨v88, q89, q79⟩ := bn1_some q79
            refine V_callS C0 (st := []) (As := [.int y1, .int v76]) (c_X12_least G.l G.D G.cA G.ad G.bs G.X C0.2.2.2.2.2.2.2.2.2.1 C0.2.2.2.2.2.2.2.2.2.2.2.2 y1 v76 I L R v88 q89) lc_X12_least lk_X12_423 rfl (by rw [erm]; decide) (Nat.le_of_ble_eq_true rfl) dX12_power_187 ?_
            show V G _ 190 [(3, .int v76), (0, .ref (G.ad y0)), (1, .int y1), (2, .int y2)] [.int v88] I L R
            refine V_aload_n C0 1 rfl rfl dX12_power_190 ?_
            refine V_iload_n C0 3 rfl rfl dX12_power_191 ?_
            refine V_bipush C0 (v := (9 : Int32)) (by decide) dX12_power_192 ?_
            obtain ⟨v90, q91, q79⟩ := bn1_some q79
            refine V_callV C0 (st := [.int v88]) (As := [.int y2, .int (9 : Int32)]) 11 (c_X12_get G.l G.D G.cA G.ad G.bs G.X C0.2.2.2.2.2.2.2.2.2.1 C0.2.2.2.2.2.2.2.2.2.2.2.2 y0 y2 (9 : Int32) I L R v90 q91) lc_X12_get lk_X12_211 ho0 hk0 ⟨_, rfl, rfl⟩ rfl (by rw [erm]; decide) (Nat.le_of_ble_eq_true rfl) dX12_power_194 ?_
            show V G _ 197 [(3, .int v76), (0, .ref (G.ad y0)), (1, .int y1), (2, .int y2)] [.int v90, .int v88] I L R
            refine V_aload_n C0 1 rfl rfl dX12_power_197 ?_
            refine V_iload_n C0 3 rfl rfl dX12_power_198 ?_
            refine V_bipush C0 (v := (10 : Int32)) (by decide) dX12_power_199 ?_
            obtain ⟨v92, q93, q79⟩ := bn1_some q79
            refine V_callV C0 (st := [.int v90, .int v88]) (As := [.int y2, .int (10 : Int32)]) 11 (c_X12_get G.l G.D G.cA G.ad G.bs G.X C0.2.2.2.2.2.2.2.2.2.1 C0.2.2.2.2.2.2.2.2.2.2.2.2 y0 y2 (10 : Int32) I L R v92 q93) lc_X12_get lk_X12_211 ho0 hk0 ⟨_, rfl, rfl⟩ rfl (by rw [erm]; decide) (Nat.le_of_ble_eq_true rfl) dX12_power_201 ?_
            show V G _ 204 [(3, .int v76), (0, .ref (G.ad y0)), (1, .int y1), (2, .int y2)] [.int v92, .int v90, .int v88] I L R
            refine V_isub C0 dX12_power_204 ?_
            obtain ⟨v94, q95, q79⟩ := bn1_some q79
            refine V_callS C0 (st := []) (As := [.int v88, .int (v90 - v92)]) (c_X12_least G.l G.D G.cA G.ad G.bs G.X C0.2.2.2.2.2.2.2.2.2.1 C0.2.2.2.2.2.2.2.2.2.2.2.2 v88 (v90 - v92) I L R v94 q95) lc_X12_least lk_X12_423 rfl (by rw [erm]; decide) (Nat.le_of_ble_eq_true rfl) dX12_power_205 ?_
            show V G _ 208 [(3, .int v76), (0, .ref (G.ad y0)), (1, .int y1), (2, .int y2)] [.int v94] I L R
            refine V_goto C0 (tgt := 227) (by decide) dX12_power_208 ?_
            cases q79
            exact V_sub [1, 2, 3] rfl k80
        · have q73 := (if_pos c75).symm.trans q73
          refine V_goto C0 (tgt := 276) (by decide) dX12_power_170 ?_
          cases q73
          exact V_sub [0, 1, 2] rfl k74
set_option maxRecDepth 100000 in
set_option maxHeartbeats 4000000 in
theorem c_X12_power (l : Launch) (D : va_G) (cA : Nat → ClassId) (ad : Nat → Nat) (bs : Nat) (X : State → Prop) (hAd : Ax ad bs) (hX : Stb bs X) (N : Nat) (x0 : Nat) (I : MI) (L : ML) (R : MR) (I' : MI) (h : F_X12_power N x0 I L R = some (I')) : Cn l D cA ad bs X yX12_power cX12_power 5 none 4 88 [.ref (ad x0)] I L R (none, I', L, R) := by
  refine Cn.ofV hAd hX [(0, .ref (ad x0))] rfl (Nat.le_of_ble_eq_true rfl) (by decide) ?_
  intro G el eD ecA ead ebs eX erm eNL C0
  subst el eD ecA ead ebs eX
  unfold F_X12_power at h
  obtain ⟨c_x0, h⟩ := ite_some h
  refine V_aload_n C0 0 rfl rfl dX12_power_0 ?_
  refine V_iconst C0 (v := (0 : Int32)) (by decide) dX12_power_1 ?_
  obtain ⟨I1, eI1, h⟩ := wr_some h
  refine V_putI C0 11 48 fp_X12_339 c_x0.2 c_x0.1 rfl dX12_power_2 ?_
  rw [← eI1]
  refine V_aload_n C0 0 rfl rfl dX12_power_5 ?_
  refine V_iconst C0 (v := (0 : Int32)) (by decide) dX12_power_6 ?_
  obtain ⟨I2, eI2, h⟩ := wr_some h
  refine V_putI C0 11 49 fp_X12_342 c_x0.2 c_x0.1 rfl dX12_power_7 ?_
  rw [← eI2]
  refine V_iconst C0 (v := (0 : Int32)) (by decide) dX12_power_10 ?_
  refine V_istore_n C0 [(1, .int (0 : Int32)), (0, .ref (G.ad x0))] rfl (by rw [eNL]; decide) rfl dX12_power_11 ?_
  obtain ⟨z26, q27, h⟩ := bn1_some h
  refine V_sub [1, 0] rfl (lp_X12_power_12 C0 eNL erm N N x0 (0 : Int32) I2 L R _ c_x0.1 c_x0.2 q27 _ ?_)
  show V G _ 72 [(0, .ref (G.ad x0))] [] z26 L R
  refine V_iconst C0 (v := (0 : Int32)) (by decide) dX12_power_72 ?_
  refine V_istore_n C0 [(1, .int (0 : Int32)), (0, .ref (G.ad x0))] rfl (by rw [eNL]; decide) rfl dX12_power_73 ?_
  obtain ⟨z58, q59, h⟩ := bn1_some h
  refine V_sub [1, 0] rfl (lp_X12_power_74 C0 eNL erm N N x0 (0 : Int32) z26 L R _ c_x0.1 c_x0.2 q59 _ ?_)
  show V G _ 133 [(0, .ref (G.ad x0))] [] z58 L R
  refine V_aload_n C0 0 rfl rfl dX12_power_133 ?_
  refine V_getI C0 11 48 fl_X12_339 c_x0.2 c_x0.1 rfl dX12_power_134 ?_
  refine V_aload_n C0 0 rfl rfl dX12_power_137 ?_
  refine V_getI C0 11 49 fl_X12_342 c_x0.2 c_x0.1 rfl dX12_power_138 ?_
  refine V_isub C0 dX12_power_141 ?_
  obtain ⟨u60, eu60, h⟩ := wr_some h
  rw [← eu60]
  refine V_istore_n C0 [(1, .int u60), (0, .ref (G.ad x0))] rfl (by rw [eNL]; decide) rfl dX12_power_142 ?_
  refine V_iconst C0 (v := (0 : Int32)) (by decide) dX12_power_143 ?_
  refine V_istore_n C0 [(2, .int (0 : Int32)), (1, .int u60), (0, .ref (G.ad x0))] rfl (by rw [eNL]; decide) rfl dX12_power_144 ?_
  obtain ⟨z112, q113, h⟩ := bn1_some h
  refine V_sub [2, 1, 0] rfl (lp_X12_power_145 C0 eNL erm N N x0 u60 (0 : Int32) z58 L R _ c_x0.1 c_x0.2 q113 _ ?_)
  show V G _ 282 [(0, .ref (G.ad x0)), (1, .int z112.1)] [] z112.2 L R
  refine V_iload_n C0 1 rfl rfl dX12_power_282 ?_
  refine V_if_ge C0 (tgt := 290) (by decide) dX12_power_283 (fun c114 => ?_) (fun c114 => ?_)
  · have h := (if_pos c114).symm.trans h
    cases h
    exact V_vret C0 dX12_power_290
  · have h := (if_neg c114).symm.trans h
    refine V_aload_n C0 0 rfl rfl dX12_power_286 ?_
    obtain ⟨I115, q116, h⟩ := bn1_some h
    refine V_callV C0 (st := []) (As := []) 11 (c_X12_brownout G.l G.D G.cA G.ad G.bs G.X C0.2.2.2.2.2.2.2.2.2.1 C0.2.2.2.2.2.2.2.2.2.2.2.2 N x0 z112.2 L R I115 q116) lc_X12_brownout lk_X12_426 c_x0.2 c_x0.1 ⟨_, rfl, rfl⟩ rfl (by rw [erm]; decide) (Nat.le_of_ble_eq_true rfl) dX12_power_287 ?_
    show V G _ 290 [(0, .ref (G.ad x0)), (1, .int z112.1)] [] I115 L R
    cases h
    exact V_vret C0 dX12_power_290
theorem dX12_flow_0 : decode cX12_flow 0 = .ok (.iconst 0, 1) := by decide +kernel
theorem dX12_flow_1 : decode cX12_flow 1 = .ok (.istore_n 1, 1) := by decide +kernel
theorem dX12_flow_2 : decode cX12_flow 2 = .ok (.iload_n 1, 1) := by decide +kernel
theorem dX12_flow_3 : decode cX12_flow 3 = .ok (.aload_n 0, 1) := by decide +kernel
theorem dX12_flow_4 : decode cX12_flow 4 = .ok (.getfield 297, 3) := by decide +kernel
theorem dX12_flow_7 : decode cX12_flow 7 = .ok (.if_icmp .ge 204, 3) := by decide +kernel
theorem dX12_flow_10 : decode cX12_flow 10 = .ok (.aload_n 0, 1) := by decide +kernel
theorem dX12_flow_11 : decode cX12_flow 11 = .ok (.iload_n 1, 1) := by decide +kernel
theorem dX12_flow_12 : decode cX12_flow 12 = .ok (.bipush 28, 2) := by decide +kernel
theorem dX12_flow_14 : decode cX12_flow 14 = .ok (.invokevirtual 217, 3) := by decide +kernel
theorem dX12_flow_17 : decode cX12_flow 17 = .ok (.ifCond .eq 188, 3) := by decide +kernel
theorem dX12_flow_20 : decode cX12_flow 20 = .ok (.aload_n 0, 1) := by decide +kernel
theorem dX12_flow_21 : decode cX12_flow 21 = .ok (.iload_n 1, 1) := by decide +kernel
theorem dX12_flow_22 : decode cX12_flow 22 = .ok (.invokevirtual 366, 3) := by decide +kernel
theorem dX12_flow_25 : decode cX12_flow 25 = .ok (.ifCond .ne 6, 3) := by decide +kernel
theorem dX12_flow_28 : decode cX12_flow 28 = .ok (.goto 177, 3) := by decide +kernel
theorem dX12_flow_31 : decode cX12_flow 31 = .ok (.aload_n 0, 1) := by decide +kernel
theorem dX12_flow_32 : decode cX12_flow 32 = .ok (.iload_n 1, 1) := by decide +kernel
theorem dX12_flow_33 : decode cX12_flow 33 = .ok (.bipush 59, 2) := by decide +kernel
theorem dX12_flow_35 : decode cX12_flow 35 = .ok (.invokevirtual 211, 3) := by decide +kernel
theorem dX12_flow_38 : decode cX12_flow 38 = .ok (.istore_n 2, 1) := by decide +kernel
theorem dX12_flow_39 : decode cX12_flow 39 = .ok (.aload_n 0, 1) := by decide +kernel
theorem dX12_flow_40 : decode cX12_flow 40 = .ok (.iload_n 1, 1) := by decide +kernel
theorem dX12_flow_41 : decode cX12_flow 41 = .ok (.bipush 60, 2) := by decide +kernel
theorem dX12_flow_43 : decode cX12_flow 43 = .ok (.invokevirtual 211, 3) := by decide +kernel
theorem dX12_flow_46 : decode cX12_flow 46 = .ok (.istore_n 3, 1) := by decide +kernel
theorem dX12_flow_47 : decode cX12_flow 47 = .ok (.aload_n 0, 1) := by decide +kernel
theorem dX12_flow_48 : decode cX12_flow 48 = .ok (.iload_n 2, 1) := by decide +kernel
theorem dX12_flow_49 : decode cX12_flow 49 = .ok (.invokevirtual 366, 3) := by decide +kernel
theorem dX12_flow_52 : decode cX12_flow 52 = .ok (.ifCond .eq 153, 3) := by decide +kernel
theorem dX12_flow_55 : decode cX12_flow 55 = .ok (.aload_n 0, 1) := by decide +kernel
theorem dX12_flow_56 : decode cX12_flow 56 = .ok (.iload_n 3, 1) := by decide +kernel
theorem dX12_flow_57 : decode cX12_flow 57 = .ok (.invokevirtual 366, 3) := by decide +kernel
theorem dX12_flow_60 : decode cX12_flow 60 = .ok (.ifCond .ne 6, 3) := by decide +kernel
theorem dX12_flow_63 : decode cX12_flow 63 = .ok (.goto 142, 3) := by decide +kernel
theorem dX12_flow_66 : decode cX12_flow 66 = .ok (.aload_n 0, 1) := by decide +kernel
theorem dX12_flow_67 : decode cX12_flow 67 = .ok (.iload_n 3, 1) := by decide +kernel
theorem dX12_flow_68 : decode cX12_flow 68 = .ok (.bipush 10, 2) := by decide +kernel
theorem dX12_flow_70 : decode cX12_flow 70 = .ok (.invokevirtual 211, 3) := by decide +kernel
theorem dX12_flow_73 : decode cX12_flow 73 = .ok (.aload_n 0, 1) := by decide +kernel
theorem dX12_flow_74 : decode cX12_flow 74 = .ok (.iload_n 2, 1) := by decide +kernel
theorem dX12_flow_75 : decode cX12_flow 75 = .ok (.bipush 10, 2) := by decide +kernel
theorem dX12_flow_77 : decode cX12_flow 77 = .ok (.invokevirtual 211, 3) := by decide +kernel
theorem dX12_flow_80 : decode cX12_flow 80 = .ok (.if_icmp .le 7, 3) := by decide +kernel
theorem dX12_flow_83 : decode cX12_flow 83 = .ok (.iconst 1, 1) := by decide +kernel
theorem dX12_flow_84 : decode cX12_flow 84 = .ok (.goto 4, 3) := by decide +kernel
theorem dX12_flow_87 : decode cX12_flow 87 = .ok (.iconst 0, 1) := by decide +kernel
theorem dX12_flow_88 : decode cX12_flow 88 = .ok (.istore 4, 2) := by decide +kernel
theorem dX12_flow_90 : decode cX12_flow 90 = .ok (.iload 4, 2) := by decide +kernel
theorem dX12_flow_92 : decode cX12_flow 92 = .ok (.ifCond .eq 7, 3) := by decide +kernel
theorem dX12_flow_95 : decode cX12_flow 95 = .ok (.iload_n 3, 1) := by decide +kernel
theorem dX12_flow_96 : decode cX12_flow 96 = .ok (.goto 4, 3) := by decide +kernel
theorem dX12_flow_99 : decode cX12_flow 99 = .ok (.iload_n 2, 1) := by decide +kernel
theorem dX12_flow_100 : decode cX12_flow 100 = .ok (.istore 5, 2) := by decide +kernel
theorem dX12_flow_102 : decode cX12_flow 102 = .ok (.iload 4, 2) := by decide +kernel
theorem dX12_flow_104 : decode cX12_flow 104 = .ok (.ifCond .eq 7, 3) := by decide +kernel
theorem dX12_flow_107 : decode cX12_flow 107 = .ok (.iload_n 2, 1) := by decide +kernel
theorem dX12_flow_108 : decode cX12_flow 108 = .ok (.goto 4, 3) := by decide +kernel
theorem dX12_flow_111 : decode cX12_flow 111 = .ok (.iload_n 3, 1) := by decide +kernel
theorem dX12_flow_112 : decode cX12_flow 112 = .ok (.istore 6, 2) := by decide +kernel
theorem dX12_flow_114 : decode cX12_flow 114 = .ok (.aload_n 0, 1) := by decide +kernel
theorem dX12_flow_115 : decode cX12_flow 115 = .ok (.iload_n 1, 1) := by decide +kernel
theorem dX12_flow_116 : decode cX12_flow 116 = .ok (.bipush 61, 2) := by decide +kernel
theorem dX12_flow_118 : decode cX12_flow 118 = .ok (.invokevirtual 211, 3) := by decide +kernel
theorem dX12_flow_121 : decode cX12_flow 121 = .ok (.aload_n 0, 1) := by decide +kernel
theorem dX12_flow_122 : decode cX12_flow 122 = .ok (.iload 5, 2) := by decide +kernel
theorem dX12_flow_124 : decode cX12_flow 124 = .ok (.bipush 10, 2) := by decide +kernel
theorem dX12_flow_126 : decode cX12_flow 126 = .ok (.invokevirtual 211, 3) := by decide +kernel
theorem dX12_flow_129 : decode cX12_flow 129 = .ok (.invokestatic 423, 3) := by decide +kernel
theorem dX12_flow_132 : decode cX12_flow 132 = .ok (.istore 7, 2) := by decide +kernel
theorem dX12_flow_134 : decode cX12_flow 134 = .ok (.iload 7, 2) := by decide +kernel
theorem dX12_flow_136 : decode cX12_flow 136 = .ok (.aload_n 0, 1) := by decide +kernel
theorem dX12_flow_137 : decode cX12_flow 137 = .ok (.iload 6, 2) := by decide +kernel
theorem dX12_flow_139 : decode cX12_flow 139 = .ok (.bipush 9, 2) := by decide +kernel
theorem dX12_flow_141 : decode cX12_flow 141 = .ok (.invokevirtual 211, 3) := by decide +kernel
theorem dX12_flow_144 : decode cX12_flow 144 = .ok (.aload_n 0, 1) := by decide +kernel
theorem dX12_flow_145 : decode cX12_flow 145 = .ok (.iload 6, 2) := by decide +kernel
theorem dX12_flow_147 : decode cX12_flow 147 = .ok (.bipush 10, 2) := by decide +kernel
theorem dX12_flow_149 : decode cX12_flow 149 = .ok (.invokevirtual 211, 3) := by decide +kernel
theorem dX12_flow_152 : decode cX12_flow 152 = .ok (.isub, 1) := by decide +kernel
theorem dX12_flow_153 : decode cX12_flow 153 = .ok (.invokestatic 423, 3) := by decide +kernel
theorem dX12_flow_156 : decode cX12_flow 156 = .ok (.istore 7, 2) := by decide +kernel
theorem dX12_flow_158 : decode cX12_flow 158 = .ok (.iload 7, 2) := by decide +kernel
theorem dX12_flow_160 : decode cX12_flow 160 = .ok (.aload_n 0, 1) := by decide +kernel
theorem dX12_flow_161 : decode cX12_flow 161 = .ok (.iload 5, 2) := by decide +kernel
theorem dX12_flow_163 : decode cX12_flow 163 = .ok (.bipush 10, 2) := by decide +kernel
theorem dX12_flow_165 : decode cX12_flow 165 = .ok (.invokevirtual 211, 3) := by decide +kernel
theorem dX12_flow_168 : decode cX12_flow 168 = .ok (.aload_n 0, 1) := by decide +kernel
theorem dX12_flow_169 : decode cX12_flow 169 = .ok (.iload 6, 2) := by decide +kernel
theorem dX12_flow_171 : decode cX12_flow 171 = .ok (.bipush 10, 2) := by decide +kernel
theorem dX12_flow_173 : decode cX12_flow 173 = .ok (.invokevirtual 211, 3) := by decide +kernel
theorem dX12_flow_176 : decode cX12_flow 176 = .ok (.isub, 1) := by decide +kernel
theorem dX12_flow_177 : decode cX12_flow 177 = .ok (.iconst 2, 1) := by decide +kernel
theorem dX12_flow_178 : decode cX12_flow 178 = .ok (.idiv, 1) := by decide +kernel
theorem dX12_flow_179 : decode cX12_flow 179 = .ok (.invokestatic 423, 3) := by decide +kernel
theorem dX12_flow_182 : decode cX12_flow 182 = .ok (.istore 7, 2) := by decide +kernel
theorem dX12_flow_184 : decode cX12_flow 184 = .ok (.aload_n 0, 1) := by decide +kernel
theorem dX12_flow_185 : decode cX12_flow 185 = .ok (.iload 5, 2) := by decide +kernel
theorem dX12_flow_187 : decode cX12_flow 187 = .ok (.bipush 10, 2) := by decide +kernel
theorem dX12_flow_189 : decode cX12_flow 189 = .ok (.iload 7, 2) := by decide +kernel
theorem dX12_flow_191 : decode cX12_flow 191 = .ok (.ineg, 1) := by decide +kernel
theorem dX12_flow_192 : decode cX12_flow 192 = .ok (.invokevirtual 259, 3) := by decide +kernel
theorem dX12_flow_195 : decode cX12_flow 195 = .ok (.aload_n 0, 1) := by decide +kernel
theorem dX12_flow_196 : decode cX12_flow 196 = .ok (.iload 6, 2) := by decide +kernel
theorem dX12_flow_198 : decode cX12_flow 198 = .ok (.bipush 10, 2) := by decide +kernel
theorem dX12_flow_200 : decode cX12_flow 200 = .ok (.iload 7, 2) := by decide +kernel
theorem dX12_flow_202 : decode cX12_flow 202 = .ok (.invokevirtual 259, 3) := by decide +kernel
theorem dX12_flow_205 : decode cX12_flow 205 = .ok (.iinc 1 1, 3) := by decide +kernel
theorem dX12_flow_208 : decode cX12_flow 208 = .ok (.goto (-206), 3) := by decide +kernel
theorem dX12_flow_211 : decode cX12_flow 211 = .ok (.return_, 1) := by decide +kernel
def LF_X12_flow_2 (N : Nat) : Nat → Nat → Int32 → MI → ML → MR → Option (MI)
  | 0, _, _, _, _, _ => none
  | k + 1, y0, y1, I, L, R =>
    if (I y0 21) ≤ y1 then
      some (I)
    else
      bn1 (F_X12_isA N y0 y1 (28 : Int32) I L R) fun b2 =>
      bn1 (
        if (b2i b2) = 0 then
          some (I)
        else
          bn1 (F_X12_isWhole y0 y1 I L R) fun b8 =>
          bn1 (
            if (b2i b8) = 0 then
              some (I)
            else
              bn1 (F_X12_get y0 y1 (59 : Int32) I L R) fun v14 =>
              bn1 (F_X12_get y0 y1 (60 : Int32) I L R) fun v16 =>
              bn1 (F_X12_isWhole y0 v14 I L R) fun b18 =>
              bn1 (
                if (b2i b18) = 0 then
                  some (I)
                else
                  bn1 (F_X12_isWhole y0 v16 I L R) fun b24 =>
                  bn1 (
                    if (b2i b24) = 0 then
                      some (I)
                    else
                      bn1 (F_X12_get y0 v16 (10 : Int32) I L R) fun v30 =>
                      bn1 (F_X12_get y0 v14 (10 : Int32) I L R) fun v32 =>
                      bn1 (
                        if v30 ≤ v32 then
                          some ((0 : Int32))
                        else
                          some ((1 : Int32))
                      ) fun (s34 : Int32) =>
                      bn1 (
                        if s34 = 0 then
                          some (v14)
                        else
                          some (v16)
                      ) fun (s38 : Int32) =>
                      bn1 (
                        if s34 = 0 then
                          some (v16)
                        else
                          some (v14)
                      ) fun (s42 : Int32) =>
                      bn1 (F_X12_get y0 y1 (61 : Int32) I L R) fun v46 =>
                      bn1 (F_X12_get y0 s38 (10 : Int32) I L R) fun v48 =>
                      bn1 (F_X12_least v46 v48 I L R) fun v50 =>
                      bn1 (F_X12_get y0 s42 (9 : Int32) I L R) fun v52 =>
                      bn1 (F_X12_get y0 s42 (10 : Int32) I L R) fun v54 =>
                      bn1 (F_X12_least v50 (v52 - v54) I L R) fun v56 =>
                      bn1 (F_X12_get y0 s38 (10 : Int32) I L R) fun v58 =>
                      bn1 (F_X12_get y0 s42 (10 : Int32) I L R) fun v60 =>
                      bn1 (F_X12_least v56 ((v58 - v60) / (2 : Int32)) I L R) fun v62 =>
                      bn1 (F_X12_grow y0 s38 (10 : Int32) (-v62) I L R) fun I64 =>
                      bn1 (F_X12_grow y0 s42 (10 : Int32) v62 I64 L R) fun I66 =>
                      some (I66)
                  ) fun (I26 : MI) =>
                  some (I26)
              ) fun (I20 : MI) =>
              some (I20)
          ) fun (I10 : MI) =>
          some (I10)
      ) fun (I4 : MI) =>
      wr (y1 + (1 : Int32)) fun (u68 : Int32) =>
      LF_X12_flow_2 N k y0 u68 I4 L R
def F_X12_flow (N : Nat) (x0 : Nat) (I : MI) (L : ML) (R : MR) : Option (MI) :=
  if kd x0 = 11 ∧ x0 < NN then
  bn1 (LF_X12_flow_2 N N x0 (0 : Int32) I L R) fun z69 =>
  some (z69)
  else none
set_option maxRecDepth 100000 in
set_option maxHeartbeats 4000000 in
theorem lp_X12_flow_2 {G : Gm} (C0 : Cx G (yX12_flow.cls) cX12_flow none) (eNL : G.nL = 8) (erm : G.rm = ({ frames := 2, cells := 0, slots := 0, locals := 45 } : Room)) (N : Nat) : ∀ (k : Nat) (y0 : Nat) (y1 : Int32) (I : MI) (L : ML) (R : MR) (z : MI) (hk0 : kd y0 = 11) (ho0 : y0 < NN), LF_X12_flow_2 N k y0 y1 I L R = some z → ∀ f : State → Prop, V G f 211 [] [] z L R → V G f 2 [(0, .ref (G.ad y0)), (1, .int y1)] [] I L R := by
  intro k
  induction k with
  | zero =>
    intro y0 y1 I L R q hk0 ho0 h
    exact absurd h (by simp [LF_X12_flow_2])
  | succ k ih =>
    intro y0 y1 I L R q hk0 ho0 h f kx
    rw [LF_X12_flow_2] at h
    refine V_iload_n C0 1 rfl rfl dX12_flow_2 ?_
    refine V_aload_n C0 0 rfl rfl dX12_flow_3 ?_
    refine V_getI C0 11 21 fl_X12_297 ho0 hk0 rfl dX12_flow_4 ?_
    refine V_icmp_ge C0 (tgt := 211) (by decide) dX12_flow_7 (fun c1 => ?_) (fun c1 => ?_)
    · have h := (if_pos c1).symm.trans h
      cases h
      exact V_sub [] rfl kx
    · have h := (if_neg c1).symm.trans h
      refine V_aload_n C0 0 rfl rfl dX12_flow_10 ?_
      refine V_iload_n C0 1 rfl rfl dX12_flow_11 ?_
      refine V_bipush C0 (v := (28 : Int32)) (by decide) dX12_flow_12 ?_
      obtain ⟨b2, q3, h⟩ := bn1_some h
      refine V_callV C0 (st := []) (As := [.int y1, .int (28 : Int32)]) 11 (c_X12_isA G.l G.D G.cA G.ad G.bs G.X C0.2.2.2.2.2.2.2.2.2.1 C0.2.2.2.2.2.2.2.2.2.2.2.2 N y0 y1 (28 : Int32) I L R b2 q3) lc_X12_isA lk_X12_217 ho0 hk0 ⟨_, rfl, rfl⟩ rfl (by rw [erm]; decide) (Nat.le_of_ble_eq_true rfl) dX12_flow_14 ?_
      show V G _ 17 [(0, .ref (G.ad y0)), (1, .int y1)] [.int (b2i b2)] I L R
      obtain ⟨I4, q5, h⟩ := bn1_some h
      have k6 : V G f 205 [(0, .ref (G.ad y0)), (1, .int y1)] [] I4 L R := by
        obtain ⟨u68, eu68, h⟩ := wr_some h
        refine V_iinc C0 1 [(1, .int u68), (0, .ref (G.ad y0))] rfl (n := 1) (by rw [eu68]; rfl) (by rw [eNL]; decide) rfl dX12_flow_205 ?_
        refine V_goto C0 (tgt := 2) (by decide) dX12_flow_208 ?_
        exact V_sub [1, 0] rfl (ih y0 u68 I4 L R _ hk0 ho0 h f kx)
      refine V_if_eq C0 (tgt := 205) (by decide) dX12_flow_17 (fun c7 => ?_) (fun c7 => ?_)
      · have q5 := (if_pos c7).symm.trans q5
        cases q5
        exact V_sub [0, 1] rfl k6
      · have q5 := (if_neg c7).symm.trans q5
        refine V_aload_n C0 0 rfl rfl dX12_flow_20 ?_
        refine V_iload_n C0 1 rfl rfl dX12_flow_21 ?_
        obtain ⟨b8, q9, q5⟩ := bn1_some q5
        refine V_callV C0 (st := []) (As := [.int y1]) 11 (c_X12_isWhole G.l G.D G.cA G.ad G.bs G.X C0.2.2.2.2.2.2.2.2.2.1 C0.2.2.2.2.2.2.2.2.2.2.2.2 y0 y1 I L R b8 q9) lc_X12_isWhole lk_X12_366 ho0 hk0 ⟨_, rfl, rfl⟩ rfl (by rw [erm]; decide) (Nat.le_of_ble_eq_true rfl) dX12_flow_22 ?_
        show V G _ 25 [(0, .ref (G.ad y0)), (1, .int y1)] [.int (b2i b8)] I L R
        obtain ⟨I10, q11, q5⟩ := bn1_some q5
        have k12 : V G f 205 [(0, .ref (G.ad y0)), (1, .int y1)] [] I10 L R := by
          cases q5
          exact V_sub [0, 1] rfl k6
        refine V_if_ne C0 (tgt := 31) (by decide) dX12_flow_25 (fun c13 => ?_) (fun c13 => ?_)
        · have q11 := (if_neg c13).symm.trans q11
          refine V_aload_n C0 0 rfl rfl dX12_flow_31 ?_
          refine V_iload_n C0 1 rfl rfl dX12_flow_32 ?_
          refine V_bipush C0 (v := (59 : Int32)) (by decide) dX12_flow_33 ?_
          obtain ⟨v14, q15, q11⟩ := bn1_some q11
          refine V_callV C0 (st := []) (As := [.int y1, .int (59 : Int32)]) 11 (c_X12_get G.l G.D G.cA G.ad G.bs G.X C0.2.2.2.2.2.2.2.2.2.1 C0.2.2.2.2.2.2.2.2.2.2.2.2 y0 y1 (59 : Int32) I L R v14 q15) lc_X12_get lk_X12_211 ho0 hk0 ⟨_, rfl, rfl⟩ rfl (by rw [erm]; decide) (Nat.le_of_ble_eq_true rfl) dX12_flow_35 ?_
          show V G _ 38 [(0, .ref (G.ad y0)), (1, .int y1)] [.int v14] I L R
          refine V_istore_n C0 [(2, .int v14), (0, .ref (G.ad y0)), (1, .int y1)] rfl (by rw [eNL]; decide) rfl dX12_flow_38 ?_
          refine V_aload_n C0 1 rfl rfl dX12_flow_39 ?_
          refine V_iload_n C0 2 rfl rfl dX12_flow_40 ?_
          refine V_bipush C0 (v := (60 : Int32)) (by decide) dX12_flow_41 ?_
          obtain ⟨v16, q17, q11⟩ := bn1_some q11
          refine V_callV C0 (st := []) (As := [.int y1, .int (60 : Int32)]) 11 (c_X12_get G.l G.D G.cA G.ad G.bs G.X C0.2.2.2.2.2.2.2.2.2.1 C0.2.2.2.2.2.2.2.2.2.2.2.2 y0 y1 (60 : Int32) I L R v16 q17) lc_X12_get lk_X12_211 ho0 hk0 ⟨_, rfl, rfl⟩ rfl (by rw [erm]; decide) (Nat.le_of_ble_eq_true rfl) dX12_flow_43 ?_
          show V G _ 46 [(2, .int v14), (0, .ref (G.ad y0)), (1, .int y1)] [.int v16] I L R
          refine V_istore_n C0 [(3, .int v16), (2, .int v14), (0, .ref (G.ad y0)), (1, .int y1)] rfl (by rw [eNL]; decide) rfl dX12_flow_46 ?_
          refine V_aload_n C0 2 rfl rfl dX12_flow_47 ?_
          refine V_iload_n C0 1 rfl rfl dX12_flow_48 ?_
          obtain ⟨b18, q19, q11⟩ := bn1_some q11
          refine V_callV C0 (st := []) (As := [.int v14]) 11 (c_X12_isWhole G.l G.D G.cA G.ad G.bs G.X C0.2.2.2.2.2.2.2.2.2.1 C0.2.2.2.2.2.2.2.2.2.2.2.2 y0 v14 I L R b18 q19) lc_X12_isWhole lk_X12_366 ho0 hk0 ⟨_, rfl, rfl⟩ rfl (by rw [erm]; decide) (Nat.le_of_ble_eq_true rfl) dX12_flow_49 ?_
          show V G _ 52 [(3, .int v16), (2, .int v14), (0, .ref (G.ad y0)), (1, .int y1)] [.int (b2i b18)] I L R
          obtain ⟨I20, q21, q11⟩ := bn1_some q11
          have k22 : V G f 205 [(0, .ref (G.ad y0)), (1, .int y1)] [] I20 L R := by
            cases q11
            exact V_sub [0, 1] rfl k12
          refine V_if_eq C0 (tgt := 205) (by decide) dX12_flow_52 (fun c23 => ?_) (fun c23 => ?_)
          · have q21 := (if_pos c23).symm.trans q21
            cases q21
            exact V_sub [2, 3] rfl k22
          · have q21 := (if_neg c23).symm.trans q21
            refine V_aload_n C0 2 rfl rfl dX12_flow_55 ?_
            refine V_iload_n C0 0 rfl rfl dX12_flow_56 ?_
            obtain ⟨b24, q25, q21⟩ := bn1_some q21
            refine V_callV C0 (st := []) (As := [.int v16]) 11 (c_X12_isWhole G.l G.D G.cA G.ad G.bs G.X C0.2.2.2.2.2.2.2.2.2.1 C0.2.2.2.2.2.2.2.2.2.2.2.2 y0 v16 I L R b24 q25) lc_X12_isWhole lk_X12_366 ho0 hk0 ⟨_, rfl, rfl⟩ rfl (by rw [erm]; decide) (Nat.le_of_ble_eq_true rfl) dX12_flow_57 ?_
            show V G _ 60 [(3, .int v16), (2, .int v14), (0, .ref (G.ad y0)), (1, .int y1)] [.int (b2i b24)] I L R
            obtain ⟨I26, q27, q21⟩ := bn1_some q21
            have k28 : V G f 205 [(0, .ref (G.ad y0)), (1, .int y1)] [] I26 L R := by
              cases q21
              exact V_sub [0, 1] rfl k22
            refine V_if_ne C0 (tgt := 66) (by decide) dX12_flow_60 (fun c29 => ?_) (fun c29 => ?_)
            · have q27 := (if_neg c29).symm.trans q27
              refine V_aload_n C0 2 rfl rfl dX12_flow_66 ?_
              refine V_iload_n C0 0 rfl rfl dX12_flow_67 ?_
              refine V_bipush C0 (v := (10 : Int32)) (by decide) dX12_flow_68 ?_
              obtain ⟨v30, q31, q27⟩ := bn1_some q27
              refine V_callV C0 (st := []) (As := [.int v16, .int (10 : Int32)]) 11 (c_X12_get G.l G.D G.cA G.ad G.bs G.X C0.2.2.2.2.2.2.2.2.2.1 C0.2.2.2.2.2.2.2.2.2.2.2.2 y0 v16 (10 : Int32) I L R v30 q31) lc_X12_get lk_X12_211 ho0 hk0 ⟨_, rfl, rfl⟩ rfl (by rw [erm]; decide) (Nat.le_of_ble_eq_true rfl) dX12_flow_70 ?_
              show V G _ 73 [(3, .int v16), (2, .int v14), (0, .ref (G.ad y0)), (1, .int y1)] [.int v30] I L R
              refine V_aload_n C0 2 rfl rfl dX12_flow_73 ?_
              refine V_iload_n C0 1 rfl rfl dX12_flow_74 ?_
              refine V_bipush C0 (v := (10 : Int32)) (by decide) dX12_flow_75 ?_
              obtain ⟨v32, q33, q27⟩ := bn1_some q27
              refine V_callV C0 (st := [.int v30]) (As := [.int v14, .int (10 : Int32)]) 11 (c_X12_get G.l G.D G.cA G.ad G.bs G.X C0.2.2.2.2.2.2.2.2.2.1 C0.2.2.2.2.2.2.2.2.2.2.2.2 y0 v14 (10 : Int32) I L R v32 q33) lc_X12_get lk_X12_211 ho0 hk0 ⟨_, rfl, rfl⟩ rfl (by rw [erm]; decide) (Nat.le_of_ble_eq_true rfl) dX12_flow_77 ?_
              show V G _ 80 [(3, .int v16), (2, .int v14), (0, .ref (G.ad y0)), (1, .int y1)] [.int v32, .int v30] I L R
              obtain ⟨s34, q35, q27⟩ := bn1_some q27
              have k36 : V G f 88 [(0, .ref (G.ad y0)), (1, .int y1), (2, .int v14), (3, .int v16)] [.int s34] I L R := by
                refine V_istore C0 [(4, .int s34), (0, .ref (G.ad y0)), (1, .int y1), (2, .int v14), (3, .int v16)] (by rw [eNL]; decide) rfl dX12_flow_88 ?_
                refine V_iload C0 0 rfl dX12_flow_90 ?_
                obtain ⟨s38, q39, q27⟩ := bn1_some q27
                have k40 : V G f 100 [(0, .ref (G.ad y0)), (1, .int y1), (2, .int v14), (3, .int v16), (4, .int s34)] [.int s38] I L R := by
                  refine V_istore C0 [(5, .int s38), (0, .ref (G.ad y0)), (1, .int y1), (2, .int v14), (3, .int v16), (4, .int s34)] (by rw [eNL]; decide) rfl dX12_flow_100 ?_
                  refine V_iload C0 5 rfl dX12_flow_102 ?_
                  obtain ⟨s42, q43, q27⟩ := bn1_some q27
                  have k44 : V G f 112 [(0, .ref (G.ad y0)), (1, .int y1), (5, .int s38)] [.int s42] I L R := by
                    refine V_istore C0 [(6, .int s42), (0, .ref (G.ad y0)), (1, .int y1), (5, .int s38)] (by rw [eNL]; decide) rfl dX12_flow_112 ?_
                    refine V_aload_n C0 1 rfl rfl dX12_flow_114 ?_
                    refine V_iload_n C0 2 rfl rfl dX12_flow_115 ?_
                    refine V_bipush C0 (v := (61 : Int32)) (by decide) dX12_flow_116 ?_
                    obtain ⟨v46, q47, q27⟩ := bn1_some q27
                    refine V_callV C0 (st := []) (As := [.int y1, .int (61 : Int32)]) 11 (c_X12_get G.l G.D G.cA G.ad G.bs G.X C0.2.2.2.2.2.2.2.2.2.1 C0.2.2.2.2.2.2.2.2.2.2.2.2 y0 y1 (61 : Int32) I L R v46 q47) lc_X12_get lk_X12_211 ho0 hk0 ⟨_, rfl, rfl⟩ rfl (by rw [erm]; decide) (Nat.le_of_ble_eq_true rfl) dX12_flow_118 ?_
                    show V G _ 121 [(6, .int s42), (0, .ref (G.ad y0)), (1, .int y1), (5, .int s38)] [.int v46] I L R
                    refine V_aload_n C0 1 rfl rfl dX12_flow_121 ?_
                    refine V_iload C0 3 rfl dX12_flow_122 ?_
                    refine V_bipush C0 (v := (10 : Int32)) (by decide) dX12_flow_124 ?_
                    obtain ⟨v48, q49, q27⟩ := bn1_some q27
                    refine V_callV C0 (st := [.int v46]) (As := [.int s38, .int (10 : Int32)]) 11 (c_X12_get G.l G.D G.cA G.ad G.bs G.X C0.2.2.2.2.2.2.2.2.2.1 C0.2.2.2.2.2.2.2.2.2.2.2.2 y0 s38 (10 : Int32) I L R v48 q49) lc_X12_get lk_X12_211 ho0 hk0 ⟨_, rfl, rfl⟩ rfl (by rw [erm]; decide) (Nat.le_of_ble_eq_true rfl) dX12_flow_126 ?_
                    show V G _ 129 [(6, .int s42), (0, .ref (G.ad y0)), (1, .int y1), (5, .int s38)] [.int v48, .int v46] I L R
                    obtain ⟨v50, q51, q27⟩ := bn1_some q27
                    refine V_callS C0 (st := []) (As := [.int v46, .int v48]) (c_X12_least G.l G.D G.cA G.ad G.bs G.X C0.2.2.2.2.2.2.2.2.2.1 C0.2.2.2.2.2.2.2.2.2.2.2.2 v46 v48 I L R v50 q51) lc_X12_least lk_X12_423 rfl (by rw [erm]; decide) (Nat.le_of_ble_eq_true rfl) dX12_flow_129 ?_
                    show V G _ 132 [(6, .int s42), (0, .ref (G.ad y0)), (1, .int y1), (5, .int s38)] [.int v50] I L R
                    refine V_istore C0 [(7, .int v50), (6, .int s42), (0, .ref (G.ad y0)), (1, .int y1), (5, .int s38)] (by rw [eNL]; decide) rfl dX12_flow_132 ?_
                    refine V_iload C0 0 rfl dX12_flow_134 ?_
                    refine V_aload_n C0 2 rfl rfl dX12_flow_136 ?_
                    refine V_iload C0 1 rfl dX12_flow_137 ?_
                    refine V_bipush C0 (v := (9 : Int32)) (by decide) dX12_flow_139 ?_
                    obtain ⟨v52, q53, q27⟩ := bn1_some q27
                    refine V_callV C0 (st := [.int v50]) (As := [.int s42, .int (9 : Int32)]) 11 (c_X12_get G.l G.D G.cA G.ad G.bs G.X C0.2.2.2.2.2.2.2.2.2.1 C0.2.2.2.2.2.2.2.2.2.2.2.2 y0 s42 (9 : Int32) I L R v52 q53) lc_X12_get lk_X12_211 ho0 hk0 ⟨_, rfl, rfl⟩ rfl (by rw [erm]; decide) (Nat.le_of_ble_eq_true rfl) dX12_flow_141 ?_
                    show V G _ 144 [(7, .int v50), (6, .int s42), (0, .ref (G.ad y0)), (1, .int y1), (5, .int s38)] [.int v52, .int v50] I L R
                    refine V_aload_n C0 2 rfl rfl dX12_flow_144 ?_
                    refine V_iload C0 1 rfl dX12_flow_145 ?_
                    refine V_bipush C0 (v := (10 : Int32)) (by decide) dX12_flow_147 ?_
                    obtain ⟨v54, q55, q27⟩ := bn1_some q27
                    refine V_callV C0 (st := [.int v52, .int v50]) (As := [.int s42, .int (10 : Int32)]) 11 (c_X12_get G.l G.D G.cA G.ad G.bs G.X C0.2.2.2.2.2.2.2.2.2.1 C0.2.2.2.2.2.2.2.2.2.2.2.2 y0 s42 (10 : Int32) I L R v54 q55) lc_X12_get lk_X12_211 ho0 hk0 ⟨_, rfl, rfl⟩ rfl (by rw [erm]; decide) (Nat.le_of_ble_eq_true rfl) dX12_flow_149 ?_
                    show V G _ 152 [(7, .int v50), (6, .int s42), (0, .ref (G.ad y0)), (1, .int y1), (5, .int s38)] [.int v54, .int v52, .int v50] I L R
                    refine V_isub C0 dX12_flow_152 ?_
                    obtain ⟨v56, q57, q27⟩ := bn1_some q27
                    refine V_callS C0 (st := []) (As := [.int v50, .int (v52 - v54)]) (c_X12_least G.l G.D G.cA G.ad G.bs G.X C0.2.2.2.2.2.2.2.2.2.1 C0.2.2.2.2.2.2.2.2.2.2.2.2 v50 (v52 - v54) I L R v56 q57) lc_X12_least lk_X12_423 rfl (by rw [erm]; decide) (Nat.le_of_ble_eq_true rfl) dX12_flow_153 ?_
                    show V G _ 156 [(7, .int v50), (6, .int s42), (0, .ref (G.ad y0)), (1, .int y1), (5, .int s38)] [.int v56] I L R
                    refine V_istore C0 [(7, .int v56), (6, .int s42), (0, .ref (G.ad y0)), (1, .int y1), (5, .int s38)] (by rw [eNL]; decide) rfl dX12_flow_156 ?_
                    refine V_iload C0 0 rfl dX12_flow_158 ?_
                    refine V_aload_n C0 2 rfl rfl dX12_flow_160 ?_
                    refine V_iload C0 4 rfl dX12_flow_161 ?_
                    refine V_bipush C0 (v := (10 : Int32)) (by decide) dX12_flow_163 ?_
                    obtain ⟨v58, q59, q27⟩ := bn1_some q27
                    refine V_callV C0 (st := [.int v56]) (As := [.int s38, .int (10 : Int32)]) 11 (c_X12_get G.l G.D G.cA G.ad G.bs G.X C0.2.2.2.2.2.2.2.2.2.1 C0.2.2.2.2.2.2.2.2.2.2.2.2 y0 s38 (10 : Int32) I L R v58 q59) lc_X12_get lk_X12_211 ho0 hk0 ⟨_, rfl, rfl⟩ rfl (by rw [erm]; decide) (Nat.le_of_ble_eq_true rfl) dX12_flow_165 ?_
                    show V G _ 168 [(7, .int v56), (6, .int s42), (0, .ref (G.ad y0)), (1, .int y1), (5, .int s38)] [.int v58, .int v56] I L R
                    refine V_aload_n C0 2 rfl rfl dX12_flow_168 ?_
                    refine V_iload C0 1 rfl dX12_flow_169 ?_
                    refine V_bipush C0 (v := (10 : Int32)) (by decide) dX12_flow_171 ?_
                    obtain ⟨v60, q61, q27⟩ := bn1_some q27
                    refine V_callV C0 (st := [.int v58, .int v56]) (As := [.int s42, .int (10 : Int32)]) 11 (c_X12_get G.l G.D G.cA G.ad G.bs G.X C0.2.2.2.2.2.2.2.2.2.1 C0.2.2.2.2.2.2.2.2.2.2.2.2 y0 s42 (10 : Int32) I L R v60 q61) lc_X12_get lk_X12_211 ho0 hk0 ⟨_, rfl, rfl⟩ rfl (by rw [erm]; decide) (Nat.le_of_ble_eq_true rfl) dX12_flow_173 ?_
                    show V G _ 176 [(7, .int v56), (6, .int s42), (0, .ref (G.ad y0)), (1, .int y1), (5, .int s38)] [.int v60, .int v58, .int v56] I L R
                    refine V_isub C0 dX12_flow_176 ?_
                    refine V_iconst C0 (v := (2 : Int32)) (by decide) dX12_flow_177 ?_
                    refine V_idiv C0 (by decide) dX12_flow_178 ?_
                    obtain ⟨v62, q63, q27⟩ := bn1_some q27
                    refine V_callS C0 (st := []) (As := [.int v56, .int ((v58 - v60) / (2 : Int32))]) (c_X12_least G.l G.D G.cA G.ad G.bs G.X C0.2.2.2.2.2.2.2.2.2.1 C0.2.2.2.2.2.2.2.2.2.2.2.2 v56 ((v58 - v60) / (2 : Int32)) I L R v62 q63) lc_X12_least lk_X12_423 rfl (by rw [erm]; decide) (Nat.le_of_ble_eq_true rfl) dX12_flow_179 ?_
                    show V G _ 182 [(7, .int v56), (6, .int s42), (0, .ref (G.ad y0)), (1, .int y1), (5, .int s38)] [.int v62] I L R
                    refine V_istore C0 [(7, .int v62), (6, .int s42), (0, .ref (G.ad y0)), (1, .int y1), (5, .int s38)] (by rw [eNL]; decide) rfl dX12_flow_182 ?_
                    refine V_aload_n C0 2 rfl rfl dX12_flow_184 ?_
                    refine V_iload C0 4 rfl dX12_flow_185 ?_
                    refine V_bipush C0 (v := (10 : Int32)) (by decide) dX12_flow_187 ?_
                    refine V_iload C0 0 rfl dX12_flow_189 ?_
                    refine V_ineg C0 dX12_flow_191 ?_
                    obtain ⟨I64, q65, q27⟩ := bn1_some q27
                    refine V_callV C0 (st := []) (As := [.int s38, .int (10 : Int32), .int (-v62)]) 11 (c_X12_grow G.l G.D G.cA G.ad G.bs G.X C0.2.2.2.2.2.2.2.2.2.1 C0.2.2.2.2.2.2.2.2.2.2.2.2 y0 s38 (10 : Int32) (-v62) I L R I64 q65) lc_X12_grow lk_X12_259 ho0 hk0 ⟨_, rfl, rfl⟩ rfl (by rw [erm]; decide) (Nat.le_of_ble_eq_true rfl) dX12_flow_192 ?_
                    show V G _ 195 [(7, .int v62), (6, .int s42), (0, .ref (G.ad y0)), (1, .int y1), (5, .int s38)] [] I64 L R
                    refine V_aload_n C0 2 rfl rfl dX12_flow_195 ?_
                    refine V_iload C0 1 rfl dX12_flow_196 ?_
                    refine V_bipush C0 (v := (10 : Int32)) (by decide) dX12_flow_198 ?_
                    refine V_iload C0 0 rfl dX12_flow_200 ?_
                    obtain ⟨I66, q67, q27⟩ := bn1_some q27
                    refine V_callV C0 (st := []) (As := [.int s42, .int (10 : Int32), .int v62]) 11 (c_X12_grow G.l G.D G.cA G.ad G.bs G.X C0.2.2.2.2.2.2.2.2.2.1 C0.2.2.2.2.2.2.2.2.2.2.2.2 y0 s42 (10 : Int32) v62 I64 L R I66 q67) lc_X12_grow lk_X12_259 ho0 hk0 ⟨_, rfl, rfl⟩ rfl (by rw [erm]; decide) (Nat.le_of_ble_eq_true rfl) dX12_flow_202 ?_
                    show V G _ 205 [(7, .int v62), (6, .int s42), (0, .ref (G.ad y0)), (1, .int y1), (5, .int s38)] [] I66 L R
                    cases q27
                    exact V_sub [2, 3] rfl k28
                  refine V_if_eq C0 (tgt := 111) (by decide) dX12_flow_104 (fun c45 => ?_) (fun c45 => ?_)
                  · have q43 := (if_pos c45).symm.trans q43
                    refine V_iload_n C0 4 rfl rfl dX12_flow_111 ?_
                    cases q43
                    exact V_sub [1, 2, 0] rfl k44
                  · have q43 := (if_neg c45).symm.trans q43
                    refine V_iload_n C0 3 rfl rfl dX12_flow_107 ?_
                    refine V_goto C0 (tgt := 112) (by decide) dX12_flow_108 ?_
                    cases q43
                    exact V_sub [1, 2, 0] rfl k44
                refine V_if_eq C0 (tgt := 99) (by decide) dX12_flow_92 (fun c41 => ?_) (fun c41 => ?_)
                · have q39 := (if_pos c41).symm.trans q39
                  refine V_iload_n C0 3 rfl rfl dX12_flow_99 ?_
                  cases q39
                  exact V_sub [1, 2, 3, 4, 0] rfl k40
                · have q39 := (if_neg c41).symm.trans q39
                  refine V_iload_n C0 4 rfl rfl dX12_flow_95 ?_
                  refine V_goto C0 (tgt := 100) (by decide) dX12_flow_96 ?_
                  cases q39
                  exact V_sub [1, 2, 3, 4, 0] rfl k40
              refine V_icmp_le C0 (tgt := 87) (by decide) dX12_flow_80 (fun c37 => ?_) (fun c37 => ?_)
              · have q35 := (if_pos c37).symm.trans q35
                refine V_iconst C0 (v := (0 : Int32)) (by decide) dX12_flow_87 ?_
                cases q35
                exact V_sub [2, 3, 1, 0] rfl k36
              · have q35 := (if_neg c37).symm.trans q35
                refine V_iconst C0 (v := (1 : Int32)) (by decide) dX12_flow_83 ?_
                refine V_goto C0 (tgt := 88) (by decide) dX12_flow_84 ?_
                cases q35
                exact V_sub [2, 3, 1, 0] rfl k36
            · have q27 := (if_pos c29).symm.trans q27
              refine V_goto C0 (tgt := 205) (by decide) dX12_flow_63 ?_
              cases q27
              exact V_sub [2, 3] rfl k28
        · have q11 := (if_pos c13).symm.trans q11
          refine V_goto C0 (tgt := 205) (by decide) dX12_flow_28 ?_
          cases q11
          exact V_sub [0, 1] rfl k12
set_option maxRecDepth 100000 in
set_option maxHeartbeats 4000000 in
theorem c_X12_flow (l : Launch) (D : va_G) (cA : Nat → ClassId) (ad : Nat → Nat) (bs : Nat) (X : State → Prop) (hAd : Ax ad bs) (hX : Stb bs X) (N : Nat) (x0 : Nat) (I : MI) (L : ML) (R : MR) (I' : MI) (h : F_X12_flow N x0 I L R = some (I')) : Cn l D cA ad bs X yX12_flow cX12_flow 8 none 2 45 [.ref (ad x0)] I L R (none, I', L, R) := by
  refine Cn.ofV hAd hX [(0, .ref (ad x0))] rfl (Nat.le_of_ble_eq_true rfl) (by decide) ?_
  intro G el eD ecA ead ebs eX erm eNL C0
  subst el eD ecA ead ebs eX
  unfold F_X12_flow at h
  obtain ⟨c_x0, h⟩ := ite_some h
  refine V_iconst C0 (v := (0 : Int32)) (by decide) dX12_flow_0 ?_
  refine V_istore_n C0 [(1, .int (0 : Int32)), (0, .ref (G.ad x0))] rfl (by rw [eNL]; decide) rfl dX12_flow_1 ?_
  obtain ⟨z69, q70, h⟩ := bn1_some h
  refine V_sub [1, 0] rfl (lp_X12_flow_2 C0 eNL erm N N x0 (0 : Int32) I L R _ c_x0.1 c_x0.2 q70 _ ?_)
  show V G _ 211 [] [] z69 L R
  cases h
  exact V_vret C0 dX12_flow_211
theorem dX12_heated_0 : decode cX12_heated 0 = .ok (.aload_n 0, 1) := by decide +kernel
theorem dX12_heated_1 : decode cX12_heated 1 = .ok (.iload_n 1, 1) := by decide +kernel
theorem dX12_heated_2 : decode cX12_heated 2 = .ok (.bipush 62, 2) := by decide +kernel
theorem dX12_heated_4 : decode cX12_heated 4 = .ok (.invokevirtual 211, 3) := by decide +kernel
theorem dX12_heated_7 : decode cX12_heated 7 = .ok (.istore_n 2, 1) := by decide +kernel
theorem dX12_heated_8 : decode cX12_heated 8 = .ok (.aload_n 0, 1) := by decide +kernel
theorem dX12_heated_9 : decode cX12_heated 9 = .ok (.iload_n 1, 1) := by decide +kernel
theorem dX12_heated_10 : decode cX12_heated 10 = .ok (.invokevirtual 393, 3) := by decide +kernel
theorem dX12_heated_13 : decode cX12_heated 13 = .ok (.ifCond .eq 28, 3) := by decide +kernel
theorem dX12_heated_16 : decode cX12_heated 16 = .ok (.aload_n 0, 1) := by decide +kernel
theorem dX12_heated_17 : decode cX12_heated 17 = .ok (.iload_n 1, 1) := by decide +kernel
theorem dX12_heated_18 : decode cX12_heated 18 = .ok (.iconst 2, 1) := by decide +kernel
theorem dX12_heated_19 : decode cX12_heated 19 = .ok (.invokevirtual 250, 3) := by decide +kernel
theorem dX12_heated_22 : decode cX12_heated 22 = .ok (.aload_n 0, 1) := by decide +kernel
theorem dX12_heated_23 : decode cX12_heated 23 = .ok (.iload_n 1, 1) := by decide +kernel
theorem dX12_heated_24 : decode cX12_heated 24 = .ok (.bipush 7, 2) := by decide +kernel
theorem dX12_heated_26 : decode cX12_heated 26 = .ok (.invokevirtual 217, 3) := by decide +kernel
theorem dX12_heated_29 : decode cX12_heated 29 = .ok (.ifCond .eq 7, 3) := by decide +kernel
theorem dX12_heated_32 : decode cX12_heated 32 = .ok (.iconst 4, 1) := by decide +kernel
theorem dX12_heated_33 : decode cX12_heated 33 = .ok (.goto 4, 3) := by decide +kernel
theorem dX12_heated_36 : decode cX12_heated 36 = .ok (.iconst 1, 1) := by decide +kernel
theorem dX12_heated_37 : decode cX12_heated 37 = .ok (.imul, 1) := by decide +kernel
theorem dX12_heated_38 : decode cX12_heated 38 = .ok (.goto 4, 3) := by decide +kernel
theorem dX12_heated_41 : decode cX12_heated 41 = .ok (.iconst 0, 1) := by decide +kernel
theorem dX12_heated_42 : decode cX12_heated 42 = .ok (.istore_n 3, 1) := by decide +kernel
theorem dX12_heated_43 : decode cX12_heated 43 = .ok (.iload_n 2, 1) := by decide +kernel
theorem dX12_heated_44 : decode cX12_heated 44 = .ok (.iload_n 3, 1) := by decide +kernel
theorem dX12_heated_45 : decode cX12_heated 45 = .ok (.bipush 10, 2) := by decide +kernel
theorem dX12_heated_47 : decode cX12_heated 47 = .ok (.imul, 1) := by decide +kernel
theorem dX12_heated_48 : decode cX12_heated 48 = .ok (.aload_n 0, 1) := by decide +kernel
theorem dX12_heated_49 : decode cX12_heated 49 = .ok (.iload_n 1, 1) := by decide +kernel
theorem dX12_heated_50 : decode cX12_heated 50 = .ok (.iconst 0, 1) := by decide +kernel
theorem dX12_heated_51 : decode cX12_heated 51 = .ok (.invokevirtual 250, 3) := by decide +kernel
theorem dX12_heated_54 : decode cX12_heated 54 = .ok (.idiv, 1) := by decide +kernel
theorem dX12_heated_55 : decode cX12_heated 55 = .ok (.iadd, 1) := by decide +kernel
theorem dX12_heated_56 : decode cX12_heated 56 = .ok (.istore 4, 2) := by decide +kernel
theorem dX12_heated_58 : decode cX12_heated 58 = .ok (.iload_n 1, 1) := by decide +kernel
theorem dX12_heated_59 : decode cX12_heated 59 = .ok (.ifCond .le 22, 3) := by decide +kernel
theorem dX12_heated_62 : decode cX12_heated 62 = .ok (.iload 4, 2) := by decide +kernel
theorem dX12_heated_64 : decode cX12_heated 64 = .ok (.aload_n 0, 1) := by decide +kernel
theorem dX12_heated_65 : decode cX12_heated 65 = .ok (.iload_n 1, 1) := by decide +kernel
theorem dX12_heated_66 : decode cX12_heated 66 = .ok (.iconst 1, 1) := by decide +kernel
theorem dX12_heated_67 : decode cX12_heated 67 = .ok (.isub, 1) := by decide +kernel
theorem dX12_heated_68 : decode cX12_heated 68 = .ok (.bipush 62, 2) := by decide +kernel
theorem dX12_heated_70 : decode cX12_heated 70 = .ok (.invokevirtual 211, 3) := by decide +kernel
theorem dX12_heated_73 : decode cX12_heated 73 = .ok (.iload_n 2, 1) := by decide +kernel
theorem dX12_heated_74 : decode cX12_heated 74 = .ok (.isub, 1) := by decide +kernel
theorem dX12_heated_75 : decode cX12_heated 75 = .ok (.bipush 16, 2) := by decide +kernel
theorem dX12_heated_77 : decode cX12_heated 77 = .ok (.idiv, 1) := by decide +kernel
theorem dX12_heated_78 : decode cX12_heated 78 = .ok (.iadd, 1) := by decide +kernel
theorem dX12_heated_79 : decode cX12_heated 79 = .ok (.istore 4, 2) := by decide +kernel
theorem dX12_heated_81 : decode cX12_heated 81 = .ok (.iload_n 1, 1) := by decide +kernel
theorem dX12_heated_82 : decode cX12_heated 82 = .ok (.iconst 1, 1) := by decide +kernel
theorem dX12_heated_83 : decode cX12_heated 83 = .ok (.iadd, 1) := by decide +kernel
theorem dX12_heated_84 : decode cX12_heated 84 = .ok (.aload_n 0, 1) := by decide +kernel
theorem dX12_heated_85 : decode cX12_heated 85 = .ok (.getfield 297, 3) := by decide +kernel
theorem dX12_heated_88 : decode cX12_heated 88 = .ok (.if_icmp .ge 22, 3) := by decide +kernel
theorem dX12_heated_91 : decode cX12_heated 91 = .ok (.iload 4, 2) := by decide +kernel
theorem dX12_heated_93 : decode cX12_heated 93 = .ok (.aload_n 0, 1) := by decide +kernel
theorem dX12_heated_94 : decode cX12_heated 94 = .ok (.iload_n 1, 1) := by decide +kernel
theorem dX12_heated_95 : decode cX12_heated 95 = .ok (.iconst 1, 1) := by decide +kernel
theorem dX12_heated_96 : decode cX12_heated 96 = .ok (.iadd, 1) := by decide +kernel
theorem dX12_heated_97 : decode cX12_heated 97 = .ok (.bipush 62, 2) := by decide +kernel
theorem dX12_heated_99 : decode cX12_heated 99 = .ok (.invokevirtual 211, 3) := by decide +kernel
theorem dX12_heated_102 : decode cX12_heated 102 = .ok (.iload_n 2, 1) := by decide +kernel
theorem dX12_heated_103 : decode cX12_heated 103 = .ok (.isub, 1) := by decide +kernel
theorem dX12_heated_104 : decode cX12_heated 104 = .ok (.bipush 16, 2) := by decide +kernel
theorem dX12_heated_106 : decode cX12_heated 106 = .ok (.idiv, 1) := by decide +kernel
theorem dX12_heated_107 : decode cX12_heated 107 = .ok (.iadd, 1) := by decide +kernel
theorem dX12_heated_108 : decode cX12_heated 108 = .ok (.istore 4, 2) := by decide +kernel
theorem dX12_heated_110 : decode cX12_heated 110 = .ok (.iconst 0, 1) := by decide +kernel
theorem dX12_heated_111 : decode cX12_heated 111 = .ok (.istore 5, 2) := by decide +kernel
theorem dX12_heated_113 : decode cX12_heated 113 = .ok (.iload 5, 2) := by decide +kernel
theorem dX12_heated_115 : decode cX12_heated 115 = .ok (.aload_n 0, 1) := by decide +kernel
theorem dX12_heated_116 : decode cX12_heated 116 = .ok (.getfield 297, 3) := by decide +kernel
theorem dX12_heated_119 : decode cX12_heated 119 = .ok (.if_icmp .ge 137, 3) := by decide +kernel
theorem dX12_heated_122 : decode cX12_heated 122 = .ok (.aload_n 0, 1) := by decide +kernel
theorem dX12_heated_123 : decode cX12_heated 123 = .ok (.iload 5, 2) := by decide +kernel
theorem dX12_heated_125 : decode cX12_heated 125 = .ok (.bipush 27, 2) := by decide +kernel
theorem dX12_heated_127 : decode cX12_heated 127 = .ok (.invokevirtual 217, 3) := by decide +kernel
theorem dX12_heated_130 : decode cX12_heated 130 = .ok (.ifCond .eq 120, 3) := by decide +kernel
theorem dX12_heated_133 : decode cX12_heated 133 = .ok (.aload_n 0, 1) := by decide +kernel
theorem dX12_heated_134 : decode cX12_heated 134 = .ok (.iload 5, 2) := by decide +kernel
theorem dX12_heated_136 : decode cX12_heated 136 = .ok (.invokevirtual 366, 3) := by decide +kernel
theorem dX12_heated_139 : decode cX12_heated 139 = .ok (.ifCond .eq 111, 3) := by decide +kernel
theorem dX12_heated_142 : decode cX12_heated 142 = .ok (.aload_n 0, 1) := by decide +kernel
theorem dX12_heated_143 : decode cX12_heated 143 = .ok (.iload 5, 2) := by decide +kernel
theorem dX12_heated_145 : decode cX12_heated 145 = .ok (.bipush 59, 2) := by decide +kernel
theorem dX12_heated_147 : decode cX12_heated 147 = .ok (.invokevirtual 211, 3) := by decide +kernel
theorem dX12_heated_150 : decode cX12_heated 150 = .ok (.aload_n 0, 1) := by decide +kernel
theorem dX12_heated_151 : decode cX12_heated 151 = .ok (.iload 5, 2) := by decide +kernel
theorem dX12_heated_153 : decode cX12_heated 153 = .ok (.bipush 60, 2) := by decide +kernel
theorem dX12_heated_155 : decode cX12_heated 155 = .ok (.invokevirtual 211, 3) := by decide +kernel
theorem dX12_heated_158 : decode cX12_heated 158 = .ok (.if_icmp .ne 6, 3) := by decide +kernel
theorem dX12_heated_161 : decode cX12_heated 161 = .ok (.goto 89, 3) := by decide +kernel
theorem dX12_heated_164 : decode cX12_heated 164 = .ok (.aload_n 0, 1) := by decide +kernel
theorem dX12_heated_165 : decode cX12_heated 165 = .ok (.iload 5, 2) := by decide +kernel
theorem dX12_heated_167 : decode cX12_heated 167 = .ok (.bipush 59, 2) := by decide +kernel
theorem dX12_heated_169 : decode cX12_heated 169 = .ok (.invokevirtual 211, 3) := by decide +kernel
theorem dX12_heated_172 : decode cX12_heated 172 = .ok (.iload_n 1, 1) := by decide +kernel
theorem dX12_heated_173 : decode cX12_heated 173 = .ok (.if_icmp .ne 14, 3) := by decide +kernel
theorem dX12_heated_176 : decode cX12_heated 176 = .ok (.aload_n 0, 1) := by decide +kernel
theorem dX12_heated_177 : decode cX12_heated 177 = .ok (.iload 5, 2) := by decide +kernel
theorem dX12_heated_179 : decode cX12_heated 179 = .ok (.bipush 60, 2) := by decide +kernel
theorem dX12_heated_181 : decode cX12_heated 181 = .ok (.invokevirtual 211, 3) := by decide +kernel
theorem dX12_heated_184 : decode cX12_heated 184 = .ok (.goto 27, 3) := by decide +kernel
theorem dX12_heated_187 : decode cX12_heated 187 = .ok (.aload_n 0, 1) := by decide +kernel
theorem dX12_heated_188 : decode cX12_heated 188 = .ok (.iload 5, 2) := by decide +kernel
theorem dX12_heated_190 : decode cX12_heated 190 = .ok (.bipush 60, 2) := by decide +kernel
theorem dX12_heated_192 : decode cX12_heated 192 = .ok (.invokevirtual 211, 3) := by decide +kernel
theorem dX12_heated_195 : decode cX12_heated 195 = .ok (.iload_n 1, 1) := by decide +kernel
theorem dX12_heated_196 : decode cX12_heated 196 = .ok (.if_icmp .ne 14, 3) := by decide +kernel
theorem dX12_heated_199 : decode cX12_heated 199 = .ok (.aload_n 0, 1) := by decide +kernel
theorem dX12_heated_200 : decode cX12_heated 200 = .ok (.iload 5, 2) := by decide +kernel
theorem dX12_heated_202 : decode cX12_heated 202 = .ok (.bipush 59, 2) := by decide +kernel
theorem dX12_heated_204 : decode cX12_heated 204 = .ok (.invokevirtual 211, 3) := by decide +kernel
theorem dX12_heated_207 : decode cX12_heated 207 = .ok (.goto 4, 3) := by decide +kernel
theorem dX12_heated_210 : decode cX12_heated 210 = .ok (.iconst (-1), 1) := by decide +kernel
theorem dX12_heated_211 : decode cX12_heated 211 = .ok (.istore 6, 2) := by decide +kernel
theorem dX12_heated_213 : decode cX12_heated 213 = .ok (.iload 4, 2) := by decide +kernel
theorem dX12_heated_215 : decode cX12_heated 215 = .ok (.iload 6, 2) := by decide +kernel
theorem dX12_heated_217 : decode cX12_heated 217 = .ok (.iconst (-1), 1) := by decide +kernel
theorem dX12_heated_218 : decode cX12_heated 218 = .ok (.if_icmp .ne 7, 3) := by decide +kernel
theorem dX12_heated_221 : decode cX12_heated 221 = .ok (.iconst 0, 1) := by decide +kernel
theorem dX12_heated_222 : decode cX12_heated 222 = .ok (.goto 25, 3) := by decide +kernel
theorem dX12_heated_225 : decode cX12_heated 225 = .ok (.aload_n 0, 1) := by decide +kernel
theorem dX12_heated_226 : decode cX12_heated 226 = .ok (.iload 6, 2) := by decide +kernel
theorem dX12_heated_228 : decode cX12_heated 228 = .ok (.bipush 62, 2) := by decide +kernel
theorem dX12_heated_230 : decode cX12_heated 230 = .ok (.invokevirtual 211, 3) := by decide +kernel
theorem dX12_heated_233 : decode cX12_heated 233 = .ok (.iload_n 2, 1) := by decide +kernel
theorem dX12_heated_234 : decode cX12_heated 234 = .ok (.isub, 1) := by decide +kernel
theorem dX12_heated_235 : decode cX12_heated 235 = .ok (.aload_n 0, 1) := by decide +kernel
theorem dX12_heated_236 : decode cX12_heated 236 = .ok (.iload 5, 2) := by decide +kernel
theorem dX12_heated_238 : decode cX12_heated 238 = .ok (.bipush 61, 2) := by decide +kernel
theorem dX12_heated_240 : decode cX12_heated 240 = .ok (.invokevirtual 211, 3) := by decide +kernel
theorem dX12_heated_243 : decode cX12_heated 243 = .ok (.imul, 1) := by decide +kernel
theorem dX12_heated_244 : decode cX12_heated 244 = .ok (.bipush 64, 2) := by decide +kernel
theorem dX12_heated_246 : decode cX12_heated 246 = .ok (.idiv, 1) := by decide +kernel
theorem dX12_heated_247 : decode cX12_heated 247 = .ok (.iadd, 1) := by decide +kernel
theorem dX12_heated_248 : decode cX12_heated 248 = .ok (.istore 4, 2) := by decide +kernel
theorem dX12_heated_250 : decode cX12_heated 250 = .ok (.iinc 5 1, 3) := by decide +kernel
theorem dX12_heated_253 : decode cX12_heated 253 = .ok (.goto (-140), 3) := by decide +kernel
theorem dX12_heated_256 : decode cX12_heated 256 = .ok (.iload 4, 2) := by decide +kernel
theorem dX12_heated_258 : decode cX12_heated 258 = .ok (.iload_n 2, 1) := by decide +kernel
theorem dX12_heated_259 : decode cX12_heated 259 = .ok (.iconst 4, 1) := by decide +kernel
theorem dX12_heated_260 : decode cX12_heated 260 = .ok (.aload_n 0, 1) := by decide +kernel
theorem dX12_heated_261 : decode cX12_heated 261 = .ok (.getfield 336, 3) := by decide +kernel
theorem dX12_heated_264 : decode cX12_heated 264 = .ok (.imul, 1) := by decide +kernel
theorem dX12_heated_265 : decode cX12_heated 265 = .ok (.sipush 250, 3) := by decide +kernel
theorem dX12_heated_268 : decode cX12_heated 268 = .ok (.isub, 1) := by decide +kernel
theorem dX12_heated_269 : decode cX12_heated 269 = .ok (.isub, 1) := by decide +kernel
theorem dX12_heated_270 : decode cX12_heated 270 = .ok (.bipush 24, 2) := by decide +kernel
theorem dX12_heated_272 : decode cX12_heated 272 = .ok (.aload_n 0, 1) := by decide +kernel
theorem dX12_heated_273 : decode cX12_heated 273 = .ok (.iload_n 1, 1) := by decide +kernel
theorem dX12_heated_274 : decode cX12_heated 274 = .ok (.iconst 0, 1) := by decide +kernel
theorem dX12_heated_275 : decode cX12_heated 275 = .ok (.invokevirtual 250, 3) := by decide +kernel
theorem dX12_heated_278 : decode cX12_heated 278 = .ok (.iadd, 1) := by decide +kernel
theorem dX12_heated_279 : decode cX12_heated 279 = .ok (.idiv, 1) := by decide +kernel
theorem dX12_heated_280 : decode cX12_heated 280 = .ok (.isub, 1) := by decide +kernel
theorem dX12_heated_281 : decode cX12_heated 281 = .ok (.sipush (-500), 3) := by decide +kernel
theorem dX12_heated_284 : decode cX12_heated 284 = .ok (.sipush 1500, 3) := by decide +kernel
theorem dX12_heated_287 : decode cX12_heated 287 = .ok (.invokestatic 402, 3) := by decide +kernel
theorem dX12_heated_290 : decode cX12_heated 290 = .ok (.ireturn, 1) := by decide +kernel
def LF_X12_heated_113 (N : Nat) : Nat → Nat → Int32 → Int32 → Int32 → Int32 → MI → ML → MR → Option (Int32)
  | 0, _, _, _, _, _, _, _, _ => none
  | k + 1, y0, y1, y2, y4, y5, I, L, R =>
    if (I y0 21) ≤ y5 then
      some (y4)
    else
      bn1 (F_X12_isA N y0 y5 (27 : Int32) I L R) fun b39 =>
      bn1 (
        if (b2i b39) = 0 then
          some (y4)
        else
          bn1 (F_X12_isWhole y0 y5 I L R) fun b45 =>
          bn1 (
            if (b2i b45) = 0 then
              some (y4)
            else
              bn1 (F_X12_get y0 y5 (59 : Int32) I L R) fun v51 =>
              bn1 (F_X12_get y0 y5 (60 : Int32) I L R) fun v53 =>
              bn1 (
                if v51 = v53 then
                  some (y4)
                else
                  bn1 (F_X12_get y0 y5 (59 : Int32) I L R) fun v59 =>
                  bn1 (
                    if v59 = y1 then
                      bn1 (F_X12_get y0 y5 (60 : Int32) I L R) fun v73 =>
                      some (v73)
                    else
                      bn1 (F_X12_get y0 y5 (60 : Int32) I L R) fun v65 =>
                      bn1 (
                        if v65 = y1 then
                          bn1 (F_X12_get y0 y5 (59 : Int32) I L R) fun v71 =>
                          some (v71)
                        else
                          some ((-1 : Int32))
                      ) fun (s67 : Int32) =>
                      some (s67)
                  ) fun (s61 : Int32) =>
                  bn1 (
                    if s61 = (-1 : Int32) then
                      some ((0 : Int32))
                    else
                      bn1 (F_X12_get y0 s61 (62 : Int32) I L R) fun v79 =>
                      bn1 (F_X12_get y0 y5 (61 : Int32) I L R) fun v81 =>
                      some ((((v79 - y2) * v81) / (64 : Int32)))
                  ) fun (s75 : Int32) =>
                  wr (y4 + s75) fun (u83 : Int32) =>
                  some (u83)
              ) fun (u55 : Int32) =>
              some (u55)
          ) fun (u47 : Int32) =>
          some (u47)
      ) fun (u41 : Int32) =>
      wr (y5 + (1 : Int32)) fun (u84 : Int32) =>
      LF_X12_heated_113 N k y0 y1 y2 u41 u84 I L R
def F_X12_heated (N : Nat) (x0 : Nat) (x1 : Int32) (I : MI) (L : ML) (R : MR) : Option (Int32 × MI) :=
  if kd x0 = 11 ∧ x0 < NN then
  bn1 (F_X12_get x0 x1 (62 : Int32) I L R) fun v1 =>
  bn1 (F_X12_isOn N x0 x1 I L R) fun b3 =>
  bn2 (
    if (b2i b3) = 0 then
      some ((0 : Int32), I)
    else
      bn2 (F_X12_answer N x0 x1 (2 : Int32) I L R) fun v10 I11 =>
      bn1 (F_X12_isA N x0 x1 (7 : Int32) I11 L R) fun b13 =>
      bn1 (
        if (b2i b13) = 0 then
          some ((1 : Int32))
        else
          some ((4 : Int32))
      ) fun (s15 : Int32) =>
      some ((v10 * s15), I11)
  ) fun (s5 : Int32) (I6 : MI) =>
  bn2 (F_X12_answer N x0 x1 (0 : Int32) I6 L R) fun v19 I20 =>
  if v19 = 0 then none else
  wr (v1 + ((s5 * (10 : Int32)) / v19)) fun (u23 : Int32) =>
  bn1 (
    if x1 ≤ 0 then
      some (u23)
    else
      bn1 (F_X12_get x0 (x1 - (1 : Int32)) (62 : Int32) I20 L R) fun v28 =>
      wr (u23 + ((v28 - v1) / (16 : Int32))) fun (u30 : Int32) =>
      some (u30)
  ) fun (u24 : Int32) =>
  bn1 (
    if (I20 x0 21) ≤ (x1 + (1 : Int32)) then
      some (u24)
    else
      bn1 (F_X12_get x0 (x1 + (1 : Int32)) (62 : Int32) I20 L R) fun v35 =>
      wr (u24 + ((v35 - v1) / (16 : Int32))) fun (u37 : Int32) =>
      some (u37)
  ) fun (u31 : Int32) =>
  bn1 (LF_X12_heated_113 N N x0 x1 v1 u31 (0 : Int32) I20 L R) fun z85 =>
  bn2 (F_X12_answer N x0 x1 (0 : Int32) I20 L R) fun v87 I88 =>
  if ((24 : Int32) + v87) = 0 then none else
  bn1 (F_X12_limit (z85 - ((v1 - (((4 : Int32) * (I20 x0 47)) - (250 : Int32))) / ((24 : Int32) + v87))) (-500 : Int32) (1500 : Int32) I88 L R) fun v91 =>
  some (v91, I88)
  else none
set_option maxRecDepth 100000 in
set_option maxHeartbeats 4000000 in
theorem lp_X12_heated_113 {G : Gm} (C0 : Cx G (yX12_heated.cls) cX12_heated (some .int)) (eNL : G.nL = 7) (erm : G.rm = ({ frames := 3, cells := 0, slots := 0, locals := 71 } : Room)) (N : Nat) : ∀ (k : Nat) (y0 : Nat) (y1 : Int32) (y2 : Int32) (y4 : Int32) (y5 : Int32) (I : MI) (L : ML) (R : MR) (z : Int32) (hk0 : kd y0 = 11) (ho0 : y0 < NN), LF_X12_heated_113 N k y0 y1 y2 y4 y5 I L R = some z → ∀ f : State → Prop, V G f 256 [(0, .ref (G.ad y0)), (1, .int y1), (2, .int y2), (4, .int z)] [] I L R → V G f 113 [(0, .ref (G.ad y0)), (1, .int y1), (2, .int y2), (4, .int y4), (5, .int y5)] [] I L R := by
  intro k
  induction k with
  | zero =>
    intro y0 y1 y2 y4 y5 I L R q hk0 ho0 h
    exact absurd h (by simp [LF_X12_heated_113])
  | succ k ih =>
    intro y0 y1 y2 y4 y5 I L R q hk0 ho0 h f kx
    rw [LF_X12_heated_113] at h
    refine V_iload C0 4 rfl dX12_heated_113 ?_
    refine V_aload_n C0 0 rfl rfl dX12_heated_115 ?_
    refine V_getI C0 11 21 fl_X12_297 ho0 hk0 rfl dX12_heated_116 ?_
    refine V_icmp_ge C0 (tgt := 256) (by decide) dX12_heated_119 (fun c38 => ?_) (fun c38 => ?_)
    · have h := (if_pos c38).symm.trans h
      cases h
      exact V_sub [0, 1, 2, 3] rfl kx
    · have h := (if_neg c38).symm.trans h
      refine V_aload_n C0 0 rfl rfl dX12_heated_122 ?_
      refine V_iload C0 4 rfl dX12_heated_123 ?_
      refine V_bipush C0 (v := (27 : Int32)) (by decide) dX12_heated_125 ?_
      obtain ⟨b39, q40, h⟩ := bn1_some h
      refine V_callV C0 (st := []) (As := [.int y5, .int (27 : Int32)]) 11 (c_X12_isA G.l G.D G.cA G.ad G.bs G.X C0.2.2.2.2.2.2.2.2.2.1 C0.2.2.2.2.2.2.2.2.2.2.2.2 N y0 y5 (27 : Int32) I L R b39 q40) lc_X12_isA lk_X12_217 ho0 hk0 ⟨_, rfl, rfl⟩ rfl (by rw [erm]; decide) (Nat.le_of_ble_eq_true rfl) dX12_heated_127 ?_
      show V G _ 130 [(0, .ref (G.ad y0)), (1, .int y1), (2, .int y2), (4, .int y4), (5, .int y5)] [.int (b2i b39)] I L R
      obtain ⟨u41, q42, h⟩ := bn1_some h
      have k43 : V G f 250 [(0, .ref (G.ad y0)), (1, .int y1), (2, .int y2), (4, .int u41), (5, .int y5)] [] I L R := by
        obtain ⟨u84, eu84, h⟩ := wr_some h
        refine V_iinc C0 4 [(5, .int u84), (0, .ref (G.ad y0)), (1, .int y1), (2, .int y2), (4, .int u41)] rfl (n := 1) (by rw [eu84]; rfl) (by rw [eNL]; decide) rfl dX12_heated_250 ?_
        refine V_goto C0 (tgt := 113) (by decide) dX12_heated_253 ?_
        exact V_sub [1, 2, 3, 4, 0] rfl (ih y0 y1 y2 u41 u84 I L R _ hk0 ho0 h f kx)
      refine V_if_eq C0 (tgt := 250) (by decide) dX12_heated_130 (fun c44 => ?_) (fun c44 => ?_)
      · have q42 := (if_pos c44).symm.trans q42
        cases q42
        exact V_sub [0, 1, 2, 3, 4] rfl k43
      · have q42 := (if_neg c44).symm.trans q42
        refine V_aload_n C0 0 rfl rfl dX12_heated_133 ?_
        refine V_iload C0 4 rfl dX12_heated_134 ?_
        obtain ⟨b45, q46, q42⟩ := bn1_some q42
        refine V_callV C0 (st := []) (As := [.int y5]) 11 (c_X12_isWhole G.l G.D G.cA G.ad G.bs G.X C0.2.2.2.2.2.2.2.2.2.1 C0.2.2.2.2.2.2.2.2.2.2.2.2 y0 y5 I L R b45 q46) lc_X12_isWhole lk_X12_366 ho0 hk0 ⟨_, rfl, rfl⟩ rfl (by rw [erm]; decide) (Nat.le_of_ble_eq_true rfl) dX12_heated_136 ?_
        show V G _ 139 [(0, .ref (G.ad y0)), (1, .int y1), (2, .int y2), (4, .int y4), (5, .int y5)] [.int (b2i b45)] I L R
        obtain ⟨u47, q48, q42⟩ := bn1_some q42
        have k49 : V G f 250 [(0, .ref (G.ad y0)), (1, .int y1), (2, .int y2), (4, .int u47), (5, .int y5)] [] I L R := by
          cases q42
          exact V_sub [0, 1, 2, 3, 4] rfl k43
        refine V_if_eq C0 (tgt := 250) (by decide) dX12_heated_139 (fun c50 => ?_) (fun c50 => ?_)
        · have q48 := (if_pos c50).symm.trans q48
          cases q48
          exact V_sub [0, 1, 2, 3, 4] rfl k49
        · have q48 := (if_neg c50).symm.trans q48
          refine V_aload_n C0 0 rfl rfl dX12_heated_142 ?_
          refine V_iload C0 4 rfl dX12_heated_143 ?_
          refine V_bipush C0 (v := (59 : Int32)) (by decide) dX12_heated_145 ?_
          obtain ⟨v51, q52, q48⟩ := bn1_some q48
          refine V_callV C0 (st := []) (As := [.int y5, .int (59 : Int32)]) 11 (c_X12_get G.l G.D G.cA G.ad G.bs G.X C0.2.2.2.2.2.2.2.2.2.1 C0.2.2.2.2.2.2.2.2.2.2.2.2 y0 y5 (59 : Int32) I L R v51 q52) lc_X12_get lk_X12_211 ho0 hk0 ⟨_, rfl, rfl⟩ rfl (by rw [erm]; decide) (Nat.le_of_ble_eq_true rfl) dX12_heated_147 ?_
          show V G _ 150 [(0, .ref (G.ad y0)), (1, .int y1), (2, .int y2), (4, .int y4), (5, .int y5)] [.int v51] I L R
          refine V_aload_n C0 0 rfl rfl dX12_heated_150 ?_
          refine V_iload C0 4 rfl dX12_heated_151 ?_
          refine V_bipush C0 (v := (60 : Int32)) (by decide) dX12_heated_153 ?_
          obtain ⟨v53, q54, q48⟩ := bn1_some q48
          refine V_callV C0 (st := [.int v51]) (As := [.int y5, .int (60 : Int32)]) 11 (c_X12_get G.l G.D G.cA G.ad G.bs G.X C0.2.2.2.2.2.2.2.2.2.1 C0.2.2.2.2.2.2.2.2.2.2.2.2 y0 y5 (60 : Int32) I L R v53 q54) lc_X12_get lk_X12_211 ho0 hk0 ⟨_, rfl, rfl⟩ rfl (by rw [erm]; decide) (Nat.le_of_ble_eq_true rfl) dX12_heated_155 ?_
          show V G _ 158 [(0, .ref (G.ad y0)), (1, .int y1), (2, .int y2), (4, .int y4), (5, .int y5)] [.int v53, .int v51] I L R
          obtain ⟨u55, q56, q48⟩ := bn1_some q48
          have k57 : V G f 250 [(0, .ref (G.ad y0)), (1, .int y1), (2, .int y2), (4, .int u55), (5, .int y5)] [] I L R := by
            cases q48
            exact V_sub [0, 1, 2, 3, 4] rfl k49
          refine V_icmp_ne C0 (tgt := 164) (by decide) dX12_heated_158 (fun c58 => ?_) (fun c58 => ?_)
          · have q56 := (if_neg c58).symm.trans q56
            refine V_aload_n C0 0 rfl rfl dX12_heated_164 ?_
            refine V_iload C0 4 rfl dX12_heated_165 ?_
            refine V_bipush C0 (v := (59 : Int32)) (by decide) dX12_heated_167 ?_
            obtain ⟨v59, q60, q56⟩ := bn1_some q56
            refine V_callV C0 (st := []) (As := [.int y5, .int (59 : Int32)]) 11 (c_X12_get G.l G.D G.cA G.ad G.bs G.X C0.2.2.2.2.2.2.2.2.2.1 C0.2.2.2.2.2.2.2.2.2.2.2.2 y0 y5 (59 : Int32) I L R v59 q60) lc_X12_get lk_X12_211 ho0 hk0 ⟨_, rfl, rfl⟩ rfl (by rw [erm]; decide) (Nat.le_of_ble_eq_true rfl) dX12_heated_169 ?_
            show V G _ 172 [(0, .ref (G.ad y0)), (1, .int y1), (2, .int y2), (4, .int y4), (5, .int y5)] [.int v59] I L R
            refine V_iload_n C0 1 rfl rfl dX12_heated_172 ?_
            obtain ⟨s61, q62, q56⟩ := bn1_some q56
            have k63 : V G f 211 [(0, .ref (G.ad y0)), (1, .int y1), (2, .int y2), (4, .int y4), (5, .int y5)] [.int s61] I L R := by
              refine V_istore C0 [(6, .int s61), (0, .ref (G.ad y0)), (1, .int y1), (2, .int y2), (4, .int y4), (5, .int y5)] (by rw [eNL]; decide) rfl dX12_heated_211 ?_
              refine V_iload C0 4 rfl dX12_heated_213 ?_
              refine V_iload C0 0 rfl dX12_heated_215 ?_
              refine V_iconst C0 (v := (-1 : Int32)) (by decide) dX12_heated_217 ?_
              obtain ⟨s75, q76, q56⟩ := bn1_some q56
              have k77 : V G f 247 [(0, .ref (G.ad y0)), (1, .int y1), (2, .int y2), (5, .int y5)] [.int s75, .int y4] I L R := by
                refine V_iadd C0 dX12_heated_247 ?_
                obtain ⟨u83, eu83, q56⟩ := wr_some q56
                rw [← eu83]
                refine V_istore C0 [(4, .int u83), (0, .ref (G.ad y0)), (1, .int y1), (2, .int y2), (5, .int y5)] (by rw [eNL]; decide) rfl dX12_heated_248 ?_
                cases q56
                exact V_sub [1, 2, 3, 0, 4] rfl k57
              refine V_icmp_ne C0 (tgt := 225) (by decide) dX12_heated_218 (fun c78 => ?_) (fun c78 => ?_)
              · have q76 := (if_neg c78).symm.trans q76
                refine V_aload_n C0 1 rfl rfl dX12_heated_225 ?_
                refine V_iload C0 0 rfl dX12_heated_226 ?_
                refine V_bipush C0 (v := (62 : Int32)) (by decide) dX12_heated_228 ?_
                obtain ⟨v79, q80, q76⟩ := bn1_some q76
                refine V_callV C0 (st := [.int y4]) (As := [.int s61, .int (62 : Int32)]) 11 (c_X12_get G.l G.D G.cA G.ad G.bs G.X C0.2.2.2.2.2.2.2.2.2.1 C0.2.2.2.2.2.2.2.2.2.2.2.2 y0 s61 (62 : Int32) I L R v79 q80) lc_X12_get lk_X12_211 ho0 hk0 ⟨_, rfl, rfl⟩ rfl (by rw [erm]; decide) (Nat.le_of_ble_eq_true rfl) dX12_heated_230 ?_
                show V G _ 233 [(6, .int s61), (0, .ref (G.ad y0)), (1, .int y1), (2, .int y2), (4, .int y4), (5, .int y5)] [.int v79, .int y4] I L R
                refine V_iload_n C0 3 rfl rfl dX12_heated_233 ?_
                refine V_isub C0 dX12_heated_234 ?_
                refine V_aload_n C0 1 rfl rfl dX12_heated_235 ?_
                refine V_iload C0 5 rfl dX12_heated_236 ?_
                refine V_bipush C0 (v := (61 : Int32)) (by decide) dX12_heated_238 ?_
                obtain ⟨v81, q82, q76⟩ := bn1_some q76
                refine V_callV C0 (st := [.int (v79 - y2), .int y4]) (As := [.int y5, .int (61 : Int32)]) 11 (c_X12_get G.l G.D G.cA G.ad G.bs G.X C0.2.2.2.2.2.2.2.2.2.1 C0.2.2.2.2.2.2.2.2.2.2.2.2 y0 y5 (61 : Int32) I L R v81 q82) lc_X12_get lk_X12_211 ho0 hk0 ⟨_, rfl, rfl⟩ rfl (by rw [erm]; decide) (Nat.le_of_ble_eq_true rfl) dX12_heated_240 ?_
                show V G _ 243 [(6, .int s61), (0, .ref (G.ad y0)), (1, .int y1), (2, .int y2), (4, .int y4), (5, .int y5)] [.int v81, .int (v79 - y2), .int y4] I L R
                refine V_imul C0 dX12_heated_243 ?_
                refine V_bipush C0 (v := (64 : Int32)) (by decide) dX12_heated_244 ?_
                refine V_idiv C0 (by decide) dX12_heated_246 ?_
                cases q76
                exact V_sub [1, 2, 3, 5] rfl k77
              · have q76 := (if_pos c78).symm.trans q76
                refine V_iconst C0 (v := (0 : Int32)) (by decide) dX12_heated_221 ?_
                refine V_goto C0 (tgt := 247) (by decide) dX12_heated_222 ?_
                cases q76
                exact V_sub [1, 2, 3, 5] rfl k77
            refine V_icmp_ne C0 (tgt := 187) (by decide) dX12_heated_173 (fun c64 => ?_) (fun c64 => ?_)
            · have q62 := (if_neg c64).symm.trans q62
              refine V_aload_n C0 0 rfl rfl dX12_heated_187 ?_
              refine V_iload C0 4 rfl dX12_heated_188 ?_
              refine V_bipush C0 (v := (60 : Int32)) (by decide) dX12_heated_190 ?_
              obtain ⟨v65, q66, q62⟩ := bn1_some q62
              refine V_callV C0 (st := []) (As := [.int y5, .int (60 : Int32)]) 11 (c_X12_get G.l G.D G.cA G.ad G.bs G.X C0.2.2.2.2.2.2.2.2.2.1 C0.2.2.2.2.2.2.2.2.2.2.2.2 y0 y5 (60 : Int32) I L R v65 q66) lc_X12_get lk_X12_211 ho0 hk0 ⟨_, rfl, rfl⟩ rfl (by rw [erm]; decide) (Nat.le_of_ble_eq_true rfl) dX12_heated_192 ?_
              show V G _ 195 [(0, .ref (G.ad y0)), (1, .int y1), (2, .int y2), (4, .int y4), (5, .int y5)] [.int v65] I L R
              refine V_iload_n C0 1 rfl rfl dX12_heated_195 ?_
              obtain ⟨s67, q68, q62⟩ := bn1_some q62
              have k69 : V G f 211 [(0, .ref (G.ad y0)), (1, .int y1), (2, .int y2), (4, .int y4), (5, .int y5)] [.int s67] I L R := by
                cases q62
                exact V_sub [0, 1, 2, 3, 4] rfl k63
              refine V_icmp_ne C0 (tgt := 210) (by decide) dX12_heated_196 (fun c70 => ?_) (fun c70 => ?_)
              · have q68 := (if_neg c70).symm.trans q68
                refine V_iconst C0 (v := (-1 : Int32)) (by decide) dX12_heated_210 ?_
                cases q68
                exact V_sub [0, 1, 2, 3, 4] rfl k69
              · have q68 := (if_pos c70).symm.trans q68
                refine V_aload_n C0 0 rfl rfl dX12_heated_199 ?_
                refine V_iload C0 4 rfl dX12_heated_200 ?_
                refine V_bipush C0 (v := (59 : Int32)) (by decide) dX12_heated_202 ?_
                obtain ⟨v71, q72, q68⟩ := bn1_some q68
                refine V_callV C0 (st := []) (As := [.int y5, .int (59 : Int32)]) 11 (c_X12_get G.l G.D G.cA G.ad G.bs G.X C0.2.2.2.2.2.2.2.2.2.1 C0.2.2.2.2.2.2.2.2.2.2.2.2 y0 y5 (59 : Int32) I L R v71 q72) lc_X12_get lk_X12_211 ho0 hk0 ⟨_, rfl, rfl⟩ rfl (by rw [erm]; decide) (Nat.le_of_ble_eq_true rfl) dX12_heated_204 ?_
                show V G _ 207 [(0, .ref (G.ad y0)), (1, .int y1), (2, .int y2), (4, .int y4), (5, .int y5)] [.int v71] I L R
                refine V_goto C0 (tgt := 211) (by decide) dX12_heated_207 ?_
                cases q68
                exact V_sub [0, 1, 2, 3, 4] rfl k69
            · have q62 := (if_pos c64).symm.trans q62
              refine V_aload_n C0 0 rfl rfl dX12_heated_176 ?_
              refine V_iload C0 4 rfl dX12_heated_177 ?_
              refine V_bipush C0 (v := (60 : Int32)) (by decide) dX12_heated_179 ?_
              obtain ⟨v73, q74, q62⟩ := bn1_some q62
              refine V_callV C0 (st := []) (As := [.int y5, .int (60 : Int32)]) 11 (c_X12_get G.l G.D G.cA G.ad G.bs G.X C0.2.2.2.2.2.2.2.2.2.1 C0.2.2.2.2.2.2.2.2.2.2.2.2 y0 y5 (60 : Int32) I L R v73 q74) lc_X12_get lk_X12_211 ho0 hk0 ⟨_, rfl, rfl⟩ rfl (by rw [erm]; decide) (Nat.le_of_ble_eq_true rfl) dX12_heated_181 ?_
              show V G _ 184 [(0, .ref (G.ad y0)), (1, .int y1), (2, .int y2), (4, .int y4), (5, .int y5)] [.int v73] I L R
              refine V_goto C0 (tgt := 211) (by decide) dX12_heated_184 ?_
              cases q62
              exact V_sub [0, 1, 2, 3, 4] rfl k63
          · have q56 := (if_pos c58).symm.trans q56
            refine V_goto C0 (tgt := 250) (by decide) dX12_heated_161 ?_
            cases q56
            exact V_sub [0, 1, 2, 3, 4] rfl k57
set_option maxRecDepth 100000 in
set_option maxHeartbeats 4000000 in
theorem c_X12_heated (l : Launch) (D : va_G) (cA : Nat → ClassId) (ad : Nat → Nat) (bs : Nat) (X : State → Prop) (hAd : Ax ad bs) (hX : Stb bs X) (N : Nat) (x0 : Nat) (x1 : Int32) (I : MI) (L : ML) (R : MR) (r : Int32) (I' : MI) (h : F_X12_heated N x0 x1 I L R = some (r, I')) : Cn l D cA ad bs X yX12_heated cX12_heated 7 (some .int) 3 71 [.ref (ad x0), .int x1] I L R (some (.int r), I', L, R) := by
  refine Cn.ofV hAd hX [(0, .ref (ad x0)), (1, .int x1)] rfl (Nat.le_of_ble_eq_true rfl) (by decide) ?_
  intro G el eD ecA ead ebs eX erm eNL C0
  subst el eD ecA ead ebs eX
  unfold F_X12_heated at h
  obtain ⟨c_x0, h⟩ := ite_some h
  refine V_aload_n C0 0 rfl rfl dX12_heated_0 ?_
  refine V_iload_n C0 1 rfl rfl dX12_heated_1 ?_
  refine V_bipush C0 (v := (62 : Int32)) (by decide) dX12_heated_2 ?_
  obtain ⟨v1, q2, h⟩ := bn1_some h
  refine V_callV C0 (st := []) (As := [.int x1, .int (62 : Int32)]) 11 (c_X12_get G.l G.D G.cA G.ad G.bs G.X C0.2.2.2.2.2.2.2.2.2.1 C0.2.2.2.2.2.2.2.2.2.2.2.2 x0 x1 (62 : Int32) I L R v1 q2) lc_X12_get lk_X12_211 c_x0.2 c_x0.1 ⟨_, rfl, rfl⟩ rfl (by rw [erm]; decide) (Nat.le_of_ble_eq_true rfl) dX12_heated_4 ?_
  show V G _ 7 [(0, .ref (G.ad x0)), (1, .int x1)] [.int v1] I L R
  refine V_istore_n C0 [(2, .int v1), (0, .ref (G.ad x0)), (1, .int x1)] rfl (by rw [eNL]; decide) rfl dX12_heated_7 ?_
  refine V_aload_n C0 1 rfl rfl dX12_heated_8 ?_
  refine V_iload_n C0 2 rfl rfl dX12_heated_9 ?_
  obtain ⟨b3, q4, h⟩ := bn1_some h
  refine V_callV C0 (st := []) (As := [.int x1]) 11 (c_X12_isOn G.l G.D G.cA G.ad G.bs G.X C0.2.2.2.2.2.2.2.2.2.1 C0.2.2.2.2.2.2.2.2.2.2.2.2 N x0 x1 I L R b3 q4) lc_X12_isOn lk_X12_393 c_x0.2 c_x0.1 ⟨_, rfl, rfl⟩ rfl (by rw [erm]; decide) (Nat.le_of_ble_eq_true rfl) dX12_heated_10 ?_
  show V G _ 13 [(2, .int v1), (0, .ref (G.ad x0)), (1, .int x1)] [.int (b2i b3)] I L R
  obtain ⟨s5, I6, q7, h⟩ := bn2_some h
  have k8 : V G (qf G (some (.int r), I', L, R)) 42 [(0, .ref (G.ad x0)), (1, .int x1), (2, .int v1)] [.int s5] I6 L R := by
    refine V_istore_n C0 [(3, .int s5), (0, .ref (G.ad x0)), (1, .int x1), (2, .int v1)] rfl (by rw [eNL]; decide) rfl dX12_heated_42 ?_
    refine V_iload_n C0 3 rfl rfl dX12_heated_43 ?_
    refine V_iload_n C0 0 rfl rfl dX12_heated_44 ?_
    refine V_bipush C0 (v := (10 : Int32)) (by decide) dX12_heated_45 ?_
    refine V_imul C0 dX12_heated_47 ?_
    refine V_aload_n C0 1 rfl rfl dX12_heated_48 ?_
    refine V_iload_n C0 2 rfl rfl dX12_heated_49 ?_
    refine V_iconst C0 (v := (0 : Int32)) (by decide) dX12_heated_50 ?_
    obtain ⟨v19, I20, q21, h⟩ := bn2_some h
    refine V_callV C0 (st := [.int (s5 * (10 : Int32)), .int v1]) (As := [.int x1, .int (0 : Int32)]) 11 (c_X12_answer G.l G.D G.cA G.ad G.bs G.X C0.2.2.2.2.2.2.2.2.2.1 C0.2.2.2.2.2.2.2.2.2.2.2.2 N x0 x1 (0 : Int32) I6 L R v19 I20 q21) lc_X12_answer lk_X12_250 c_x0.2 c_x0.1 ⟨_, rfl, rfl⟩ rfl (by rw [erm]; decide) (Nat.le_of_ble_eq_true rfl) dX12_heated_51 ?_
    show V G _ 54 [(3, .int s5), (0, .ref (G.ad x0)), (1, .int x1), (2, .int v1)] [.int v19, .int (s5 * (10 : Int32)), .int v1] I20 L R
    obtain ⟨c22, h⟩ := ite_none h
    refine V_idiv C0 c22 dX12_heated_54 ?_
    refine V_iadd C0 dX12_heated_55 ?_
    obtain ⟨u23, eu23, h⟩ := wr_some h
    rw [← eu23]
    refine V_istore C0 [(4, .int u23), (3, .int s5), (0, .ref (G.ad x0)), (1, .int x1), (2, .int v1)] (by rw [eNL]; decide) rfl dX12_heated_56 ?_
    refine V_iload_n C0 3 rfl rfl dX12_heated_58 ?_
    obtain ⟨u24, q25, h⟩ := bn1_some h
    have k26 : V G (qf G (some (.int r), I', L, R)) 81 [(0, .ref (G.ad x0)), (1, .int x1), (2, .int v1), (4, .int u24)] [] I20 L R := by
      refine V_iload_n C0 1 rfl rfl dX12_heated_81 ?_
      refine V_iconst C0 (v := (1 : Int32)) (by decide) dX12_heated_82 ?_
      refine V_iadd C0 dX12_heated_83 ?_
      refine V_aload_n C0 0 rfl rfl dX12_heated_84 ?_
      refine V_getI C0 11 21 fl_X12_297 c_x0.2 c_x0.1 rfl dX12_heated_85 ?_
      obtain ⟨u31, q32, h⟩ := bn1_some h
      have k33 : V G (qf G (some (.int r), I', L, R)) 110 [(0, .ref (G.ad x0)), (1, .int x1), (2, .int v1), (4, .int u31)] [] I20 L R := by
        refine V_iconst C0 (v := (0 : Int32)) (by decide) dX12_heated_110 ?_
        refine V_istore C0 [(5, .int (0 : Int32)), (0, .ref (G.ad x0)), (1, .int x1), (2, .int v1), (4, .int u31)] (by rw [eNL]; decide) rfl dX12_heated_111 ?_
        obtain ⟨z85, q86, h⟩ := bn1_some h
        refine V_sub [1, 2, 3, 4, 0] rfl (lp_X12_heated_113 C0 eNL erm N N x0 x1 v1 u31 (0 : Int32) I20 L R _ c_x0.1 c_x0.2 q86 _ ?_)
        show V G _ 256 [(0, .ref (G.ad x0)), (1, .int x1), (2, .int v1), (4, .int z85)] [] I20 L R
        refine V_iload C0 3 rfl dX12_heated_256 ?_
        refine V_iload_n C0 2 rfl rfl dX12_heated_258 ?_
        refine V_iconst C0 (v := (4 : Int32)) (by decide) dX12_heated_259 ?_
        refine V_aload_n C0 0 rfl rfl dX12_heated_260 ?_
        refine V_getI C0 11 47 fl_X12_336 c_x0.2 c_x0.1 rfl dX12_heated_261 ?_
        refine V_imul C0 dX12_heated_264 ?_
        refine V_sipush C0 (v := (250 : Int32)) (by decide) dX12_heated_265 ?_
        refine V_isub C0 dX12_heated_268 ?_
        refine V_isub C0 dX12_heated_269 ?_
        refine V_bipush C0 (v := (24 : Int32)) (by decide) dX12_heated_270 ?_
        refine V_aload_n C0 0 rfl rfl dX12_heated_272 ?_
        refine V_iload_n C0 1 rfl rfl dX12_heated_273 ?_
        refine V_iconst C0 (v := (0 : Int32)) (by decide) dX12_heated_274 ?_
        obtain ⟨v87, I88, q89, h⟩ := bn2_some h
        refine V_callV C0 (st := [.int (24 : Int32), .int (v1 - (((4 : Int32) * (I20 x0 47)) - (250 : Int32))), .int z85]) (As := [.int x1, .int (0 : Int32)]) 11 (c_X12_answer G.l G.D G.cA G.ad G.bs G.X C0.2.2.2.2.2.2.2.2.2.1 C0.2.2.2.2.2.2.2.2.2.2.2.2 N x0 x1 (0 : Int32) I20 L R v87 I88 q89) lc_X12_answer lk_X12_250 c_x0.2 c_x0.1 ⟨_, rfl, rfl⟩ rfl (by rw [erm]; decide) (Nat.le_of_ble_eq_true rfl) dX12_heated_275 ?_
        show V G _ 278 [(0, .ref (G.ad x0)), (1, .int x1), (2, .int v1), (4, .int z85)] [.int v87, .int (24 : Int32), .int (v1 - (((4 : Int32) * (I20 x0 47)) - (250 : Int32))), .int z85] I88 L R
        refine V_iadd C0 dX12_heated_278 ?_
        obtain ⟨c90, h⟩ := ite_none h
        refine V_idiv C0 c90 dX12_heated_279 ?_
        refine V_isub C0 dX12_heated_280 ?_
        refine V_sipush C0 (v := (-500 : Int32)) (by decide) dX12_heated_281 ?_
        refine V_sipush C0 (v := (1500 : Int32)) (by decide) dX12_heated_284 ?_
        obtain ⟨v91, q92, h⟩ := bn1_some h
        refine V_callS C0 (st := []) (As := [.int (z85 - ((v1 - (((4 : Int32) * (I20 x0 47)) - (250 : Int32))) / ((24 : Int32) + v87))), .int (-500 : Int32), .int (1500 : Int32)]) (c_X12_limit G.l G.D G.cA G.ad G.bs G.X C0.2.2.2.2.2.2.2.2.2.1 C0.2.2.2.2.2.2.2.2.2.2.2.2 (z85 - ((v1 - (((4 : Int32) * (I20 x0 47)) - (250 : Int32))) / ((24 : Int32) + v87))) (-500 : Int32) (1500 : Int32) I88 L R v91 q92) lc_X12_limit lk_X12_402 rfl (by rw [erm]; decide) (Nat.le_of_ble_eq_true rfl) dX12_heated_287 ?_
        show V G _ 290 [(0, .ref (G.ad x0)), (1, .int x1), (2, .int v1), (4, .int z85)] [.int v91] I88 L R
        cases h
        exact V_iret C0 dX12_heated_290
      refine V_icmp_ge C0 (tgt := 110) (by decide) dX12_heated_88 (fun c34 => ?_) (fun c34 => ?_)
      · have q32 := (if_pos c34).symm.trans q32
        cases q32
        exact V_sub [0, 1, 2, 3] rfl k33
      · have q32 := (if_neg c34).symm.trans q32
        refine V_iload C0 3 rfl dX12_heated_91 ?_
        refine V_aload_n C0 0 rfl rfl dX12_heated_93 ?_
        refine V_iload_n C0 1 rfl rfl dX12_heated_94 ?_
        refine V_iconst C0 (v := (1 : Int32)) (by decide) dX12_heated_95 ?_
        refine V_iadd C0 dX12_heated_96 ?_
        refine V_bipush C0 (v := (62 : Int32)) (by decide) dX12_heated_97 ?_
        obtain ⟨v35, q36, q32⟩ := bn1_some q32
        refine V_callV C0 (st := [.int u24]) (As := [.int (x1 + (1 : Int32)), .int (62 : Int32)]) 11 (c_X12_get G.l G.D G.cA G.ad G.bs G.X C0.2.2.2.2.2.2.2.2.2.1 C0.2.2.2.2.2.2.2.2.2.2.2.2 x0 (x1 + (1 : Int32)) (62 : Int32) I20 L R v35 q36) lc_X12_get lk_X12_211 c_x0.2 c_x0.1 ⟨_, rfl, rfl⟩ rfl (by rw [erm]; decide) (Nat.le_of_ble_eq_true rfl) dX12_heated_99 ?_
        show V G _ 102 [(0, .ref (G.ad x0)), (1, .int x1), (2, .int v1), (4, .int u24)] [.int v35, .int u24] I20 L R
        refine V_iload_n C0 2 rfl rfl dX12_heated_102 ?_
        refine V_isub C0 dX12_heated_103 ?_
        refine V_bipush C0 (v := (16 : Int32)) (by decide) dX12_heated_104 ?_
        refine V_idiv C0 (by decide) dX12_heated_106 ?_
        refine V_iadd C0 dX12_heated_107 ?_
        obtain ⟨u37, eu37, q32⟩ := wr_some q32
        rw [← eu37]
        refine V_istore C0 [(4, .int u37), (0, .ref (G.ad x0)), (1, .int x1), (2, .int v1)] (by rw [eNL]; decide) rfl dX12_heated_108 ?_
        cases q32
        exact V_sub [1, 2, 3, 0] rfl k33
    refine V_if_le C0 (tgt := 81) (by decide) dX12_heated_59 (fun c27 => ?_) (fun c27 => ?_)
    · have q25 := (if_pos c27).symm.trans q25
      cases q25
      exact V_sub [2, 3, 4, 0] rfl k26
    · have q25 := (if_neg c27).symm.trans q25
      refine V_iload C0 0 rfl dX12_heated_62 ?_
      refine V_aload_n C0 2 rfl rfl dX12_heated_64 ?_
      refine V_iload_n C0 3 rfl rfl dX12_heated_65 ?_
      refine V_iconst C0 (v := (1 : Int32)) (by decide) dX12_heated_66 ?_
      refine V_isub C0 dX12_heated_67 ?_
      refine V_bipush C0 (v := (62 : Int32)) (by decide) dX12_heated_68 ?_
      obtain ⟨v28, q29, q25⟩ := bn1_some q25
      refine V_callV C0 (st := [.int u23]) (As := [.int (x1 - (1 : Int32)), .int (62 : Int32)]) 11 (c_X12_get G.l G.D G.cA G.ad G.bs G.X C0.2.2.2.2.2.2.2.2.2.1 C0.2.2.2.2.2.2.2.2.2.2.2.2 x0 (x1 - (1 : Int32)) (62 : Int32) I20 L R v28 q29) lc_X12_get lk_X12_211 c_x0.2 c_x0.1 ⟨_, rfl, rfl⟩ rfl (by rw [erm]; decide) (Nat.le_of_ble_eq_true rfl) dX12_heated_70 ?_
      show V G _ 73 [(4, .int u23), (3, .int s5), (0, .ref (G.ad x0)), (1, .int x1), (2, .int v1)] [.int v28, .int u23] I20 L R
      refine V_iload_n C0 4 rfl rfl dX12_heated_73 ?_
      refine V_isub C0 dX12_heated_74 ?_
      refine V_bipush C0 (v := (16 : Int32)) (by decide) dX12_heated_75 ?_
      refine V_idiv C0 (by decide) dX12_heated_77 ?_
      refine V_iadd C0 dX12_heated_78 ?_
      obtain ⟨u30, eu30, q25⟩ := wr_some q25
      rw [← eu30]
      refine V_istore C0 [(4, .int u30), (3, .int s5), (0, .ref (G.ad x0)), (1, .int x1), (2, .int v1)] (by rw [eNL]; decide) rfl dX12_heated_79 ?_
      cases q25
      exact V_sub [2, 3, 4, 0] rfl k26
  refine V_if_eq C0 (tgt := 41) (by decide) dX12_heated_13 (fun c9 => ?_) (fun c9 => ?_)
  · have q7 := (if_pos c9).symm.trans q7
    refine V_iconst C0 (v := (0 : Int32)) (by decide) dX12_heated_41 ?_
    cases q7
    exact V_sub [1, 2, 0] rfl k8
  · have q7 := (if_neg c9).symm.trans q7
    refine V_aload_n C0 1 rfl rfl dX12_heated_16 ?_
    refine V_iload_n C0 2 rfl rfl dX12_heated_17 ?_
    refine V_iconst C0 (v := (2 : Int32)) (by decide) dX12_heated_18 ?_
    obtain ⟨v10, I11, q12, q7⟩ := bn2_some q7
    refine V_callV C0 (st := []) (As := [.int x1, .int (2 : Int32)]) 11 (c_X12_answer G.l G.D G.cA G.ad G.bs G.X C0.2.2.2.2.2.2.2.2.2.1 C0.2.2.2.2.2.2.2.2.2.2.2.2 N x0 x1 (2 : Int32) I L R v10 I11 q12) lc_X12_answer lk_X12_250 c_x0.2 c_x0.1 ⟨_, rfl, rfl⟩ rfl (by rw [erm]; decide) (Nat.le_of_ble_eq_true rfl) dX12_heated_19 ?_
    show V G _ 22 [(2, .int v1), (0, .ref (G.ad x0)), (1, .int x1)] [.int v10] I11 L R
    refine V_aload_n C0 1 rfl rfl dX12_heated_22 ?_
    refine V_iload_n C0 2 rfl rfl dX12_heated_23 ?_
    refine V_bipush C0 (v := (7 : Int32)) (by decide) dX12_heated_24 ?_
    obtain ⟨b13, q14, q7⟩ := bn1_some q7
    refine V_callV C0 (st := [.int v10]) (As := [.int x1, .int (7 : Int32)]) 11 (c_X12_isA G.l G.D G.cA G.ad G.bs G.X C0.2.2.2.2.2.2.2.2.2.1 C0.2.2.2.2.2.2.2.2.2.2.2.2 N x0 x1 (7 : Int32) I11 L R b13 q14) lc_X12_isA lk_X12_217 c_x0.2 c_x0.1 ⟨_, rfl, rfl⟩ rfl (by rw [erm]; decide) (Nat.le_of_ble_eq_true rfl) dX12_heated_26 ?_
    show V G _ 29 [(2, .int v1), (0, .ref (G.ad x0)), (1, .int x1)] [.int (b2i b13), .int v10] I11 L R
    obtain ⟨s15, q16, q7⟩ := bn1_some q7
    have k17 : V G (qf G (some (.int r), I', L, R)) 37 [(0, .ref (G.ad x0)), (1, .int x1), (2, .int v1)] [.int s15, .int v10] I11 L R := by
      refine V_imul C0 dX12_heated_37 ?_
      refine V_goto C0 (tgt := 42) (by decide) dX12_heated_38 ?_
      cases q7
      exact V_sub [0, 1, 2] rfl k8
    refine V_if_eq C0 (tgt := 36) (by decide) dX12_heated_29 (fun c18 => ?_) (fun c18 => ?_)
    · have q16 := (if_pos c18).symm.trans q16
      refine V_iconst C0 (v := (1 : Int32)) (by decide) dX12_heated_36 ?_
      cases q16
      exact V_sub [1, 2, 0] rfl k17
    · have q16 := (if_neg c18).symm.trans q16
      refine V_iconst C0 (v := (4 : Int32)) (by decide) dX12_heated_32 ?_
      refine V_goto C0 (tgt := 37) (by decide) dX12_heated_33 ?_
      cases q16
      exact V_sub [1, 2, 0] rfl k17
theorem dX12_heat_0 : decode cX12_heat 0 = .ok (.iconst 0, 1) := by decide +kernel
theorem dX12_heat_1 : decode cX12_heat 1 = .ok (.istore_n 1, 1) := by decide +kernel
theorem dX12_heat_2 : decode cX12_heat 2 = .ok (.iload_n 1, 1) := by decide +kernel
theorem dX12_heat_3 : decode cX12_heat 3 = .ok (.aload_n 0, 1) := by decide +kernel
theorem dX12_heat_4 : decode cX12_heat 4 = .ok (.getfield 297, 3) := by decide +kernel
theorem dX12_heat_7 : decode cX12_heat 7 = .ok (.if_icmp .ge 20, 3) := by decide +kernel
theorem dX12_heat_10 : decode cX12_heat 10 = .ok (.aload_n 0, 1) := by decide +kernel
theorem dX12_heat_11 : decode cX12_heat 11 = .ok (.getfield 106, 3) := by decide +kernel
theorem dX12_heat_14 : decode cX12_heat 14 = .ok (.iload_n 1, 1) := by decide +kernel
theorem dX12_heat_15 : decode cX12_heat 15 = .ok (.aload_n 0, 1) := by decide +kernel
theorem dX12_heat_16 : decode cX12_heat 16 = .ok (.iload_n 1, 1) := by decide +kernel
theorem dX12_heat_17 : decode cX12_heat 17 = .ok (.invokevirtual 433, 3) := by decide +kernel
theorem dX12_heat_20 : decode cX12_heat 20 = .ok (.iastore, 1) := by decide +kernel
theorem dX12_heat_21 : decode cX12_heat 21 = .ok (.iinc 1 1, 3) := by decide +kernel
theorem dX12_heat_24 : decode cX12_heat 24 = .ok (.goto (-22), 3) := by decide +kernel
theorem dX12_heat_27 : decode cX12_heat 27 = .ok (.iconst 0, 1) := by decide +kernel
theorem dX12_heat_28 : decode cX12_heat 28 = .ok (.istore_n 1, 1) := by decide +kernel
theorem dX12_heat_29 : decode cX12_heat 29 = .ok (.iload_n 1, 1) := by decide +kernel
theorem dX12_heat_30 : decode cX12_heat 30 = .ok (.aload_n 0, 1) := by decide +kernel
theorem dX12_heat_31 : decode cX12_heat 31 = .ok (.getfield 297, 3) := by decide +kernel
theorem dX12_heat_34 : decode cX12_heat 34 = .ok (.if_icmp .ge 22, 3) := by decide +kernel
theorem dX12_heat_37 : decode cX12_heat 37 = .ok (.aload_n 0, 1) := by decide +kernel
theorem dX12_heat_38 : decode cX12_heat 38 = .ok (.iload_n 1, 1) := by decide +kernel
theorem dX12_heat_39 : decode cX12_heat 39 = .ok (.bipush 62, 2) := by decide +kernel
theorem dX12_heat_41 : decode cX12_heat 41 = .ok (.aload_n 0, 1) := by decide +kernel
theorem dX12_heat_42 : decode cX12_heat 42 = .ok (.getfield 106, 3) := by decide +kernel
theorem dX12_heat_45 : decode cX12_heat 45 = .ok (.iload_n 1, 1) := by decide +kernel
theorem dX12_heat_46 : decode cX12_heat 46 = .ok (.iaload, 1) := by decide +kernel
theorem dX12_heat_47 : decode cX12_heat 47 = .ok (.invokevirtual 246, 3) := by decide +kernel
theorem dX12_heat_50 : decode cX12_heat 50 = .ok (.iinc 1 1, 3) := by decide +kernel
theorem dX12_heat_53 : decode cX12_heat 53 = .ok (.goto (-24), 3) := by decide +kernel
theorem dX12_heat_56 : decode cX12_heat 56 = .ok (.iconst 0, 1) := by decide +kernel
theorem dX12_heat_57 : decode cX12_heat 57 = .ok (.istore_n 1, 1) := by decide +kernel
theorem dX12_heat_58 : decode cX12_heat 58 = .ok (.iload_n 1, 1) := by decide +kernel
theorem dX12_heat_59 : decode cX12_heat 59 = .ok (.aload_n 0, 1) := by decide +kernel
theorem dX12_heat_60 : decode cX12_heat 60 = .ok (.getfield 297, 3) := by decide +kernel
theorem dX12_heat_63 : decode cX12_heat 63 = .ok (.if_icmp .ge 79, 3) := by decide +kernel
theorem dX12_heat_66 : decode cX12_heat 66 = .ok (.aload_n 0, 1) := by decide +kernel
theorem dX12_heat_67 : decode cX12_heat 67 = .ok (.iload_n 1, 1) := by decide +kernel
theorem dX12_heat_68 : decode cX12_heat 68 = .ok (.invokevirtual 366, 3) := by decide +kernel
theorem dX12_heat_71 : decode cX12_heat 71 = .ok (.ifCond .eq 65, 3) := by decide +kernel
theorem dX12_heat_74 : decode cX12_heat 74 = .ok (.aload_n 0, 1) := by decide +kernel
theorem dX12_heat_75 : decode cX12_heat 75 = .ok (.getfield 106, 3) := by decide +kernel
theorem dX12_heat_78 : decode cX12_heat 78 = .ok (.iload_n 1, 1) := by decide +kernel
theorem dX12_heat_79 : decode cX12_heat 79 = .ok (.iaload, 1) := by decide +kernel
theorem dX12_heat_80 : decode cX12_heat 80 = .ok (.sipush (-200), 3) := by decide +kernel
theorem dX12_heat_83 : decode cX12_heat 83 = .ok (.sipush 900, 3) := by decide +kernel
theorem dX12_heat_86 : decode cX12_heat 86 = .ok (.invokestatic 171, 3) := by decide +kernel
theorem dX12_heat_89 : decode cX12_heat 89 = .ok (.ifCond .eq 6, 3) := by decide +kernel
theorem dX12_heat_92 : decode cX12_heat 92 = .ok (.goto 44, 3) := by decide +kernel
theorem dX12_heat_95 : decode cX12_heat 95 = .ok (.aload_n 0, 1) := by decide +kernel
theorem dX12_heat_96 : decode cX12_heat 96 = .ok (.iload_n 1, 1) := by decide +kernel
theorem dX12_heat_97 : decode cX12_heat 97 = .ok (.bipush 63, 2) := by decide +kernel
theorem dX12_heat_99 : decode cX12_heat 99 = .ok (.iconst 1, 1) := by decide +kernel
theorem dX12_heat_100 : decode cX12_heat 100 = .ok (.invokevirtual 246, 3) := by decide +kernel
theorem dX12_heat_103 : decode cX12_heat 103 = .ok (.aload_n 0, 1) := by decide +kernel
theorem dX12_heat_104 : decode cX12_heat 104 = .ok (.iload_n 1, 1) := by decide +kernel
theorem dX12_heat_105 : decode cX12_heat 105 = .ok (.bipush 6, 2) := by decide +kernel
theorem dX12_heat_107 : decode cX12_heat 107 = .ok (.invokevirtual 217, 3) := by decide +kernel
theorem dX12_heat_110 : decode cX12_heat 110 = .ok (.ifCond .eq 11, 3) := by decide +kernel
theorem dX12_heat_113 : decode cX12_heat 113 = .ok (.aload_n 0, 1) := by decide +kernel
theorem dX12_heat_114 : decode cX12_heat 114 = .ok (.iload_n 1, 1) := by decide +kernel
theorem dX12_heat_115 : decode cX12_heat 115 = .ok (.bipush 22, 2) := by decide +kernel
theorem dX12_heat_117 : decode cX12_heat 117 = .ok (.iconst 0, 1) := by decide +kernel
theorem dX12_heat_118 : decode cX12_heat 118 = .ok (.invokevirtual 246, 3) := by decide +kernel
theorem dX12_heat_121 : decode cX12_heat 121 = .ok (.aload_n 0, 1) := by decide +kernel
theorem dX12_heat_122 : decode cX12_heat 122 = .ok (.dup, 1) := by decide +kernel
theorem dX12_heat_123 : decode cX12_heat 123 = .ok (.getfield 315, 3) := by decide +kernel
theorem dX12_heat_126 : decode cX12_heat 126 = .ok (.iconst 1, 1) := by decide +kernel
theorem dX12_heat_127 : decode cX12_heat 127 = .ok (.iadd, 1) := by decide +kernel
theorem dX12_heat_128 : decode cX12_heat 128 = .ok (.putfield 315, 3) := by decide +kernel
theorem dX12_heat_131 : decode cX12_heat 131 = .ok (.aload_n 0, 1) := by decide +kernel
theorem dX12_heat_132 : decode cX12_heat 132 = .ok (.iconst 1, 1) := by decide +kernel
theorem dX12_heat_133 : decode cX12_heat 133 = .ok (.putfield 429, 3) := by decide +kernel
theorem dX12_heat_136 : decode cX12_heat 136 = .ok (.iinc 1 1, 3) := by decide +kernel
theorem dX12_heat_139 : decode cX12_heat 139 = .ok (.goto (-81), 3) := by decide +kernel
theorem dX12_heat_142 : decode cX12_heat 142 = .ok (.iconst 0, 1) := by decide +kernel
theorem dX12_heat_143 : decode cX12_heat 143 = .ok (.istore_n 1, 1) := by decide +kernel
theorem dX12_heat_144 : decode cX12_heat 144 = .ok (.iload_n 1, 1) := by decide +kernel
theorem dX12_heat_145 : decode cX12_heat 145 = .ok (.aload_n 0, 1) := by decide +kernel
theorem dX12_heat_146 : decode cX12_heat 146 = .ok (.getfield 297, 3) := by decide +kernel
theorem dX12_heat_149 : decode cX12_heat 149 = .ok (.if_icmp .ge 101, 3) := by decide +kernel
theorem dX12_heat_152 : decode cX12_heat 152 = .ok (.aload_n 0, 1) := by decide +kernel
theorem dX12_heat_153 : decode cX12_heat 153 = .ok (.iload_n 1, 1) := by decide +kernel
theorem dX12_heat_154 : decode cX12_heat 154 = .ok (.bipush 8, 2) := by decide +kernel
theorem dX12_heat_156 : decode cX12_heat 156 = .ok (.invokevirtual 217, 3) := by decide +kernel
theorem dX12_heat_159 : decode cX12_heat 159 = .ok (.ifCond .eq 85, 3) := by decide +kernel
theorem dX12_heat_162 : decode cX12_heat 162 = .ok (.aload_n 0, 1) := by decide +kernel
theorem dX12_heat_163 : decode cX12_heat 163 = .ok (.iload_n 1, 1) := by decide +kernel
theorem dX12_heat_164 : decode cX12_heat 164 = .ok (.invokevirtual 366, 3) := by decide +kernel
theorem dX12_heat_167 : decode cX12_heat 167 = .ok (.ifCond .ne 6, 3) := by decide +kernel
theorem dX12_heat_170 : decode cX12_heat 170 = .ok (.goto 74, 3) := by decide +kernel
theorem dX12_heat_173 : decode cX12_heat 173 = .ok (.aload_n 0, 1) := by decide +kernel
theorem dX12_heat_174 : decode cX12_heat 174 = .ok (.aload_n 0, 1) := by decide +kernel
theorem dX12_heat_175 : decode cX12_heat 175 = .ok (.iload_n 1, 1) := by decide +kernel
theorem dX12_heat_176 : decode cX12_heat 176 = .ok (.bipush 27, 2) := by decide +kernel
theorem dX12_heat_178 : decode cX12_heat 178 = .ok (.invokevirtual 211, 3) := by decide +kernel
theorem dX12_heat_181 : decode cX12_heat 181 = .ok (.bipush 62, 2) := by decide +kernel
theorem dX12_heat_183 : decode cX12_heat 183 = .ok (.invokevirtual 211, 3) := by decide +kernel
theorem dX12_heat_186 : decode cX12_heat 186 = .ok (.istore_n 2, 1) := by decide +kernel
theorem dX12_heat_187 : decode cX12_heat 187 = .ok (.iload_n 2, 1) := by decide +kernel
theorem dX12_heat_188 : decode cX12_heat 188 = .ok (.aload_n 0, 1) := by decide +kernel
theorem dX12_heat_189 : decode cX12_heat 189 = .ok (.iload_n 1, 1) := by decide +kernel
theorem dX12_heat_190 : decode cX12_heat 190 = .ok (.bipush 28, 2) := by decide +kernel
theorem dX12_heat_192 : decode cX12_heat 192 = .ok (.invokevirtual 211, 3) := by decide +kernel
theorem dX12_heat_195 : decode cX12_heat 195 = .ok (.aload_n 0, 1) := by decide +kernel
theorem dX12_heat_196 : decode cX12_heat 196 = .ok (.iload_n 1, 1) := by decide +kernel
theorem dX12_heat_197 : decode cX12_heat 197 = .ok (.bipush 26, 2) := by decide +kernel
theorem dX12_heat_199 : decode cX12_heat 199 = .ok (.invokevirtual 211, 3) := by decide +kernel
theorem dX12_heat_202 : decode cX12_heat 202 = .ok (.isub, 1) := by decide +kernel
theorem dX12_heat_203 : decode cX12_heat 203 = .ok (.if_icmp .ge 14, 3) := by decide +kernel
theorem dX12_heat_206 : decode cX12_heat 206 = .ok (.aload_n 0, 1) := by decide +kernel
theorem dX12_heat_207 : decode cX12_heat 207 = .ok (.iload_n 1, 1) := by decide +kernel
theorem dX12_heat_208 : decode cX12_heat 208 = .ok (.bipush 22, 2) := by decide +kernel
theorem dX12_heat_210 : decode cX12_heat 210 = .ok (.iconst 1, 1) := by decide +kernel
theorem dX12_heat_211 : decode cX12_heat 211 = .ok (.invokevirtual 246, 3) := by decide +kernel
theorem dX12_heat_214 : decode cX12_heat 214 = .ok (.goto 30, 3) := by decide +kernel
theorem dX12_heat_217 : decode cX12_heat 217 = .ok (.iload_n 2, 1) := by decide +kernel
theorem dX12_heat_218 : decode cX12_heat 218 = .ok (.aload_n 0, 1) := by decide +kernel
theorem dX12_heat_219 : decode cX12_heat 219 = .ok (.iload_n 1, 1) := by decide +kernel
theorem dX12_heat_220 : decode cX12_heat 220 = .ok (.bipush 28, 2) := by decide +kernel
theorem dX12_heat_222 : decode cX12_heat 222 = .ok (.invokevirtual 211, 3) := by decide +kernel
theorem dX12_heat_225 : decode cX12_heat 225 = .ok (.aload_n 0, 1) := by decide +kernel
theorem dX12_heat_226 : decode cX12_heat 226 = .ok (.iload_n 1, 1) := by decide +kernel
theorem dX12_heat_227 : decode cX12_heat 227 = .ok (.bipush 26, 2) := by decide +kernel
theorem dX12_heat_229 : decode cX12_heat 229 = .ok (.invokevirtual 211, 3) := by decide +kernel
theorem dX12_heat_232 : decode cX12_heat 232 = .ok (.iadd, 1) := by decide +kernel
theorem dX12_heat_233 : decode cX12_heat 233 = .ok (.if_icmp .le 11, 3) := by decide +kernel
theorem dX12_heat_236 : decode cX12_heat 236 = .ok (.aload_n 0, 1) := by decide +kernel
theorem dX12_heat_237 : decode cX12_heat 237 = .ok (.iload_n 1, 1) := by decide +kernel
theorem dX12_heat_238 : decode cX12_heat 238 = .ok (.bipush 22, 2) := by decide +kernel
theorem dX12_heat_240 : decode cX12_heat 240 = .ok (.iconst 0, 1) := by decide +kernel
theorem dX12_heat_241 : decode cX12_heat 241 = .ok (.invokevirtual 246, 3) := by decide +kernel
theorem dX12_heat_244 : decode cX12_heat 244 = .ok (.iinc 1 1, 3) := by decide +kernel
theorem dX12_heat_247 : decode cX12_heat 247 = .ok (.goto (-103), 3) := by decide +kernel
theorem dX12_heat_250 : decode cX12_heat 250 = .ok (.return_, 1) := by decide +kernel
def LF_X12_heat_2 (N : Nat) : Nat → Nat → Int32 → MI → ML → MR → Option (MI)
  | 0, _, _, _, _, _ => none
  | k + 1, y0, y1, I, L, R =>
    if (I y0 21) ≤ y1 then
      some (I)
    else
      (rf R y0 62 20).bind fun a2 =>
      bn2 (F_X12_heated N y0 y1 I L R) fun v3 I4 =>
      (wi I4 a2 y1 v3).bind fun I6 =>
      wr (y1 + (1 : Int32)) fun (u7 : Int32) =>
      LF_X12_heat_2 N k y0 u7 I6 L R
def LF_X12_heat_29 (N : Nat) : Nat → Nat → Int32 → MI → ML → MR → Option (MI)
  | 0, _, _, _, _, _ => none
  | k + 1, y0, y1, I, L, R =>
    if (I y0 21) ≤ y1 then
      some (I)
    else
      (rf R y0 62 20).bind fun a11 =>
      (ri I a11 y1).bind fun v12 =>
      bn1 (F_X12_set y0 y1 (62 : Int32) v12 I L R) fun I13 =>
      wr (y1 + (1 : Int32)) fun (u15 : Int32) =>
      LF_X12_heat_29 N k y0 u15 I13 L R
def LF_X12_heat_58 (N : Nat) : Nat → Nat → Int32 → MI → ML → MR → Option (MI)
  | 0, _, _, _, _, _ => none
  | k + 1, y0, y1, I, L, R =>
    if (I y0 21) ≤ y1 then
      some (I)
    else
      bn1 (F_X12_isWhole y0 y1 I L R) fun b19 =>
      bn1 (
        if (b2i b19) = 0 then
          some (I)
        else
          (rf R y0 62 20).bind fun a25 =>
          (ri I a25 y1).bind fun v26 =>
          bn1 (F_X12_in v26 (-200 : Int32) (900 : Int32) I L R) fun b27 =>
          bn1 (
            if (b2i b27) = 0 then
              bn1 (F_X12_set y0 y1 (63 : Int32) (1 : Int32) I L R) fun I33 =>
              bn1 (F_X12_isA N y0 y1 (6 : Int32) I33 L R) fun b35 =>
              bn1 (
                if (b2i b35) = 0 then
                  some (I33)
                else
                  bn1 (F_X12_set y0 y1 (22 : Int32) (0 : Int32) I33 L R) fun I41 =>
                  some (I41)
              ) fun (I37 : MI) =>
              wr (uI I37 y0 40 ((I37 y0 40) + (1 : Int32))) fun (I43 : MI) =>
              wr (uI I43 y0 50 (1 : Int32)) fun (I44 : MI) =>
              some (I44)
            else
              some (I)
          ) fun (I29 : MI) =>
          some (I29)
      ) fun (I21 : MI) =>
      wr (y1 + (1 : Int32)) fun (u45 : Int32) =>
      LF_X12_heat_58 N k y0 u45 I21 L R
def LF_X12_heat_144 (N : Nat) : Nat → Nat → Int32 → MI → ML → MR → Option (MI)
  | 0, _, _, _, _, _ => none
  | k + 1, y0, y1, I, L, R =>
    if (I y0 21) ≤ y1 then
      some (I)
    else
      bn1 (F_X12_isA N y0 y1 (8 : Int32) I L R) fun b49 =>
      bn1 (
        if (b2i b49) = 0 then
          some (I)
        else
          bn1 (F_X12_isWhole y0 y1 I L R) fun b55 =>
          bn1 (
            if (b2i b55) = 0 then
              some (I)
            else
              bn1 (F_X12_get y0 y1 (27 : Int32) I L R) fun v61 =>
              bn1 (F_X12_get y0 v61 (62 : Int32) I L R) fun v63 =>
              bn1 (F_X12_get y0 y1 (28 : Int32) I L R) fun v65 =>
              bn1 (F_X12_get y0 y1 (26 : Int32) I L R) fun v67 =>
              bn1 (
                if (v65 - v67) ≤ v63 then
                  bn1 (F_X12_get y0 y1 (28 : Int32) I L R) fun v73 =>
                  bn1 (F_X12_get y0 y1 (26 : Int32) I L R) fun v75 =>
                  bn1 (
                    if v63 ≤ (v73 + v75) then
                      some (I)
                    else
                      bn1 (F_X12_set y0 y1 (22 : Int32) (0 : Int32) I L R) fun I81 =>
                      some (I81)
                  ) fun (I77 : MI) =>
                  some (I77)
                else
                  bn1 (F_X12_set y0 y1 (22 : Int32) (1 : Int32) I L R) fun I83 =>
                  some (I83)
              ) fun (I69 : MI) =>
              some (I69)
          ) fun (I57 : MI) =>
          some (I57)
      ) fun (I51 : MI) =>
      wr (y1 + (1 : Int32)) fun (u85 : Int32) =>
      LF_X12_heat_144 N k y0 u85 I51 L R
def F_X12_heat (N : Nat) (x0 : Nat) (I : MI) (L : ML) (R : MR) : Option (MI) :=
  if kd x0 = 11 ∧ x0 < NN then
  bn1 (LF_X12_heat_2 N N x0 (0 : Int32) I L R) fun z8 =>
  bn1 (LF_X12_heat_29 N N x0 (0 : Int32) z8 L R) fun z16 =>
  bn1 (LF_X12_heat_58 N N x0 (0 : Int32) z16 L R) fun z46 =>
  bn1 (LF_X12_heat_144 N N x0 (0 : Int32) z46 L R) fun z86 =>
  some (z86)
  else none
set_option maxRecDepth 100000 in
set_option maxHeartbeats 4000000 in
theorem lp_X12_heat_2 {G : Gm} (C0 : Cx G (yX12_heat.cls) cX12_heat none) (eNL : G.nL = 3) (erm : G.rm = ({ frames := 4, cells := 0, slots := 0, locals := 97 } : Room)) (N : Nat) : ∀ (k : Nat) (y0 : Nat) (y1 : Int32) (I : MI) (L : ML) (R : MR) (z : MI) (hk0 : kd y0 = 11) (ho0 : y0 < NN), LF_X12_heat_2 N k y0 y1 I L R = some z → ∀ f : State → Prop, V G f 27 [(0, .ref (G.ad y0))] [] z L R → V G f 2 [(0, .ref (G.ad y0)), (1, .int y1)] [] I L R := by
  intro k
  induction k with
  | zero =>
    intro y0 y1 I L R q hk0 ho0 h
    exact absurd h (by simp [LF_X12_heat_2])
  | succ k ih =>
    intro y0 y1 I L R q hk0 ho0 h f kx
    rw [LF_X12_heat_2] at h
    refine V_iload_n C0 1 rfl rfl dX12_heat_2 ?_
    refine V_aload_n C0 0 rfl rfl dX12_heat_3 ?_
    refine V_getI C0 11 21 fl_X12_297 ho0 hk0 rfl dX12_heat_4 ?_
    refine V_icmp_ge C0 (tgt := 27) (by decide) dX12_heat_7 (fun c1 => ?_) (fun c1 => ?_)
    · have h := (if_pos c1).symm.trans h
      cases h
      exact V_sub [0] rfl kx
    · have h := (if_neg c1).symm.trans h
      refine V_aload_n C0 0 rfl rfl dX12_heat_10 ?_
      obtain ⟨a2, qa2, h⟩ := bnd_some h
      refine V_getR C0 11 62 fl_X12_106 ho0 hk0 rfl (rf_at qa2) dX12_heat_11 ?_
      refine V_iload_n C0 1 rfl rfl dX12_heat_14 ?_
      refine V_aload_n C0 0 rfl rfl dX12_heat_15 ?_
      refine V_iload_n C0 1 rfl rfl dX12_heat_16 ?_
      obtain ⟨v3, I4, q5, h⟩ := bn2_some h
      refine V_callV C0 (st := [.int y1, .ref (G.ad a2)]) (As := [.int y1]) 11 (c_X12_heated G.l G.D G.cA G.ad G.bs G.X C0.2.2.2.2.2.2.2.2.2.1 C0.2.2.2.2.2.2.2.2.2.2.2.2 N y0 y1 I L R v3 I4 q5) lc_X12_heated lk_X12_433 ho0 hk0 ⟨_, rfl, rfl⟩ rfl (by rw [erm]; decide) (Nat.le_of_ble_eq_true rfl) dX12_heat_17 ?_
      show V G _ 20 [(0, .ref (G.ad y0)), (1, .int y1)] [.int v3, .int y1, .ref (G.ad a2)] I4 L R
      obtain ⟨I6, qI6, h⟩ := bnd_some h
      refine V_wi C0 (rf_lt qa2) (rf_kd qa2) qI6 dX12_heat_20 ?_
      obtain ⟨u7, eu7, h⟩ := wr_some h
      refine V_iinc C0 1 [(1, .int u7), (0, .ref (G.ad y0))] rfl (n := 1) (by rw [eu7]; rfl) (by rw [eNL]; decide) rfl dX12_heat_21 ?_
      refine V_goto C0 (tgt := 2) (by decide) dX12_heat_24 ?_
      exact V_sub [1, 0] rfl (ih y0 u7 I6 L R _ hk0 ho0 h f kx)
set_option maxRecDepth 100000 in
set_option maxHeartbeats 4000000 in
theorem lp_X12_heat_29 {G : Gm} (C0 : Cx G (yX12_heat.cls) cX12_heat none) (eNL : G.nL = 3) (erm : G.rm = ({ frames := 4, cells := 0, slots := 0, locals := 97 } : Room)) (N : Nat) : ∀ (k : Nat) (y0 : Nat) (y1 : Int32) (I : MI) (L : ML) (R : MR) (z : MI) (hk0 : kd y0 = 11) (ho0 : y0 < NN), LF_X12_heat_29 N k y0 y1 I L R = some z → ∀ f : State → Prop, V G f 56 [(0, .ref (G.ad y0))] [] z L R → V G f 29 [(0, .ref (G.ad y0)), (1, .int y1)] [] I L R := by
  intro k
  induction k with
  | zero =>
    intro y0 y1 I L R q hk0 ho0 h
    exact absurd h (by simp [LF_X12_heat_29])
  | succ k ih =>
    intro y0 y1 I L R q hk0 ho0 h f kx
    rw [LF_X12_heat_29] at h
    refine V_iload_n C0 1 rfl rfl dX12_heat_29 ?_
    refine V_aload_n C0 0 rfl rfl dX12_heat_30 ?_
    refine V_getI C0 11 21 fl_X12_297 ho0 hk0 rfl dX12_heat_31 ?_
    refine V_icmp_ge C0 (tgt := 56) (by decide) dX12_heat_34 (fun c10 => ?_) (fun c10 => ?_)
    · have h := (if_pos c10).symm.trans h
      cases h
      exact V_sub [0] rfl kx
    · have h := (if_neg c10).symm.trans h
      refine V_aload_n C0 0 rfl rfl dX12_heat_37 ?_
      refine V_iload_n C0 1 rfl rfl dX12_heat_38 ?_
      refine V_bipush C0 (v := (62 : Int32)) (by decide) dX12_heat_39 ?_
      refine V_aload_n C0 0 rfl rfl dX12_heat_41 ?_
      obtain ⟨a11, qa11, h⟩ := bnd_some h
      refine V_getR C0 11 62 fl_X12_106 ho0 hk0 rfl (rf_at qa11) dX12_heat_42 ?_
      refine V_iload_n C0 1 rfl rfl dX12_heat_45 ?_
      obtain ⟨v12, qv12, h⟩ := bnd_some h
      refine V_ri C0 (rf_lt qa11) (rf_kd qa11) qv12 dX12_heat_46 ?_
      obtain ⟨I13, q14, h⟩ := bn1_some h
      refine V_callV C0 (st := []) (As := [.int y1, .int (62 : Int32), .int v12]) 11 (c_X12_set G.l G.D G.cA G.ad G.bs G.X C0.2.2.2.2.2.2.2.2.2.1 C0.2.2.2.2.2.2.2.2.2.2.2.2 y0 y1 (62 : Int32) v12 I L R I13 q14) lc_X12_set lk_X12_246 ho0 hk0 ⟨_, rfl, rfl⟩ rfl (by rw [erm]; decide) (Nat.le_of_ble_eq_true rfl) dX12_heat_47 ?_
      show V G _ 50 [(0, .ref (G.ad y0)), (1, .int y1)] [] I13 L R
      obtain ⟨u15, eu15, h⟩ := wr_some h
      refine V_iinc C0 1 [(1, .int u15), (0, .ref (G.ad y0))] rfl (n := 1) (by rw [eu15]; rfl) (by rw [eNL]; decide) rfl dX12_heat_50 ?_
      refine V_goto C0 (tgt := 29) (by decide) dX12_heat_53 ?_
      exact V_sub [1, 0] rfl (ih y0 u15 I13 L R _ hk0 ho0 h f kx)
set_option maxRecDepth 100000 in
set_option maxHeartbeats 4000000 in
theorem lp_X12_heat_58 {G : Gm} (C0 : Cx G (yX12_heat.cls) cX12_heat none) (eNL : G.nL = 3) (erm : G.rm = ({ frames := 4, cells := 0, slots := 0, locals := 97 } : Room)) (N : Nat) : ∀ (k : Nat) (y0 : Nat) (y1 : Int32) (I : MI) (L : ML) (R : MR) (z : MI) (hk0 : kd y0 = 11) (ho0 : y0 < NN), LF_X12_heat_58 N k y0 y1 I L R = some z → ∀ f : State → Prop, V G f 142 [(0, .ref (G.ad y0))] [] z L R → V G f 58 [(0, .ref (G.ad y0)), (1, .int y1)] [] I L R := by
  intro k
  induction k with
  | zero =>
    intro y0 y1 I L R q hk0 ho0 h
    exact absurd h (by simp [LF_X12_heat_58])
  | succ k ih =>
    intro y0 y1 I L R q hk0 ho0 h f kx
    rw [LF_X12_heat_58] at h
    refine V_iload_n C0 1 rfl rfl dX12_heat_58 ?_
    refine V_aload_n C0 0 rfl rfl dX12_heat_59 ?_
    refine V_getI C0 11 21 fl_X12_297 ho0 hk0 rfl dX12_heat_60 ?_
    refine V_icmp_ge C0 (tgt := 142) (by decide) dX12_heat_63 (fun c18 => ?_) (fun c18 => ?_)
    · have h := (if_pos c18).symm.trans h
      cases h
      exact V_sub [0] rfl kx
    · have h := (if_neg c18).symm.trans h
      refine V_aload_n C0 0 rfl rfl dX12_heat_66 ?_
      refine V_iload_n C0 1 rfl rfl dX12_heat_67 ?_
      obtain ⟨b19, q20, h⟩ := bn1_some h
      refine V_callV C0 (st := []) (As := [.int y1]) 11 (c_X12_isWhole G.l G.D G.cA G.ad G.bs G.X C0.2.2.2.2.2.2.2.2.2.1 C0.2.2.2.2.2.2.2.2.2.2.2.2 y0 y1 I L R b19 q20) lc_X12_isWhole lk_X12_366 ho0 hk0 ⟨_, rfl, rfl⟩ rfl (by rw [erm]; decide) (Nat.le_of_ble_eq_true rfl) dX12_heat_68 ?_
      show V G _ 71 [(0, .ref (G.ad y0)), (1, .int y1)] [.int (b2i b19)] I L R
      obtain ⟨I21, q22, h⟩ := bn1_some h
      have k23 : V G f 136 [(0, .ref (G.ad y0)), (1, .int y1)] [] I21 L R := by
        obtain ⟨u45, eu45, h⟩ := wr_some h
        refine V_iinc C0 1 [(1, .int u45), (0, .ref (G.ad y0))] rfl (n := 1) (by rw [eu45]; rfl) (by rw [eNL]; decide) rfl dX12_heat_136 ?_
        refine V_goto C0 (tgt := 58) (by decide) dX12_heat_139 ?_
        exact V_sub [1, 0] rfl (ih y0 u45 I21 L R _ hk0 ho0 h f kx)
      refine V_if_eq C0 (tgt := 136) (by decide) dX12_heat_71 (fun c24 => ?_) (fun c24 => ?_)
      · have q22 := (if_pos c24).symm.trans q22
        cases q22
        exact V_sub [0, 1] rfl k23
      · have q22 := (if_neg c24).symm.trans q22
        refine V_aload_n C0 0 rfl rfl dX12_heat_74 ?_
        obtain ⟨a25, qa25, q22⟩ := bnd_some q22
        refine V_getR C0 11 62 fl_X12_106 ho0 hk0 rfl (rf_at qa25) dX12_heat_75 ?_
        refine V_iload_n C0 1 rfl rfl dX12_heat_78 ?_
        obtain ⟨v26, qv26, q22⟩ := bnd_some q22
        refine V_ri C0 (rf_lt qa25) (rf_kd qa25) qv26 dX12_heat_79 ?_
        refine V_sipush C0 (v := (-200 : Int32)) (by decide) dX12_heat_80 ?_
        refine V_sipush C0 (v := (900 : Int32)) (by decide) dX12_heat_83 ?_
        obtain ⟨b27, q28, q22⟩ := bn1_some q22
        refine V_callS C0 (st := []) (As := [.int v26, .int (-200 : Int32), .int (900 : Int32)]) (c_X12_in G.l G.D G.cA G.ad G.bs G.X C0.2.2.2.2.2.2.2.2.2.1 C0.2.2.2.2.2.2.2.2.2.2.2.2 v26 (-200 : Int32) (900 : Int32) I L R b27 q28) lc_X12_in lk_X12_171 rfl (by rw [erm]; decide) (Nat.le_of_ble_eq_true rfl) dX12_heat_86 ?_
        show V G _ 89 [(0, .ref (G.ad y0)), (1, .int y1)] [.int (b2i b27)] I L R
        obtain ⟨I29, q30, q22⟩ := bn1_some q22
        have k31 : V G f 136 [(0, .ref (G.ad y0)), (1, .int y1)] [] I29 L R := by
          cases q22
          exact V_sub [0, 1] rfl k23
        refine V_if_eq C0 (tgt := 95) (by decide) dX12_heat_89 (fun c32 => ?_) (fun c32 => ?_)
        · have q30 := (if_pos c32).symm.trans q30
          refine V_aload_n C0 0 rfl rfl dX12_heat_95 ?_
          refine V_iload_n C0 1 rfl rfl dX12_heat_96 ?_
          refine V_bipush C0 (v := (63 : Int32)) (by decide) dX12_heat_97 ?_
          refine V_iconst C0 (v := (1 : Int32)) (by decide) dX12_heat_99 ?_
          obtain ⟨I33, q34, q30⟩ := bn1_some q30
          refine V_callV C0 (st := []) (As := [.int y1, .int (63 : Int32), .int (1 : Int32)]) 11 (c_X12_set G.l G.D G.cA G.ad G.bs G.X C0.2.2.2.2.2.2.2.2.2.1 C0.2.2.2.2.2.2.2.2.2.2.2.2 y0 y1 (63 : Int32) (1 : Int32) I L R I33 q34) lc_X12_set lk_X12_246 ho0 hk0 ⟨_, rfl, rfl⟩ rfl (by rw [erm]; decide) (Nat.le_of_ble_eq_true rfl) dX12_heat_100 ?_
          show V G _ 103 [(0, .ref (G.ad y0)), (1, .int y1)] [] I33 L R
          refine V_aload_n C0 0 rfl rfl dX12_heat_103 ?_
          refine V_iload_n C0 1 rfl rfl dX12_heat_104 ?_
          refine V_bipush C0 (v := (6 : Int32)) (by decide) dX12_heat_105 ?_
          obtain ⟨b35, q36, q30⟩ := bn1_some q30
          refine V_callV C0 (st := []) (As := [.int y1, .int (6 : Int32)]) 11 (c_X12_isA G.l G.D G.cA G.ad G.bs G.X C0.2.2.2.2.2.2.2.2.2.1 C0.2.2.2.2.2.2.2.2.2.2.2.2 N y0 y1 (6 : Int32) I33 L R b35 q36) lc_X12_isA lk_X12_217 ho0 hk0 ⟨_, rfl, rfl⟩ rfl (by rw [erm]; decide) (Nat.le_of_ble_eq_true rfl) dX12_heat_107 ?_
          show V G _ 110 [(0, .ref (G.ad y0)), (1, .int y1)] [.int (b2i b35)] I33 L R
          obtain ⟨I37, q38, q30⟩ := bn1_some q30
          have k39 : V G f 121 [(0, .ref (G.ad y0)), (1, .int y1)] [] I37 L R := by
            refine V_aload_n C0 0 rfl rfl dX12_heat_121 ?_
            refine V_dup C0 rfl dX12_heat_122 ?_
            refine V_getI C0 11 40 fl_X12_315 ho0 hk0 rfl dX12_heat_123 ?_
            refine V_iconst C0 (v := (1 : Int32)) (by decide) dX12_heat_126 ?_
            refine V_iadd C0 dX12_heat_127 ?_
            obtain ⟨I43, eI43, q30⟩ := wr_some q30
            refine V_putI C0 11 40 fp_X12_315 ho0 hk0 rfl dX12_heat_128 ?_
            rw [← eI43]
            refine V_aload_n C0 0 rfl rfl dX12_heat_131 ?_
            refine V_iconst C0 (v := (1 : Int32)) (by decide) dX12_heat_132 ?_
            obtain ⟨I44, eI44, q30⟩ := wr_some q30
            refine V_putZ C0 11 50 fp_X12_429 ho0 hk0 rfl (by decide) dX12_heat_133 ?_
            rw [← eI44]
            cases q30
            exact V_sub [0, 1] rfl k31
          refine V_if_eq C0 (tgt := 121) (by decide) dX12_heat_110 (fun c40 => ?_) (fun c40 => ?_)
          · have q38 := (if_pos c40).symm.trans q38
            cases q38
            exact V_sub [0, 1] rfl k39
          · have q38 := (if_neg c40).symm.trans q38
            refine V_aload_n C0 0 rfl rfl dX12_heat_113 ?_
            refine V_iload_n C0 1 rfl rfl dX12_heat_114 ?_
            refine V_bipush C0 (v := (22 : Int32)) (by decide) dX12_heat_115 ?_
            refine V_iconst C0 (v := (0 : Int32)) (by decide) dX12_heat_117 ?_
            obtain ⟨I41, q42, q38⟩ := bn1_some q38
            refine V_callV C0 (st := []) (As := [.int y1, .int (22 : Int32), .int (0 : Int32)]) 11 (c_X12_set G.l G.D G.cA G.ad G.bs G.X C0.2.2.2.2.2.2.2.2.2.1 C0.2.2.2.2.2.2.2.2.2.2.2.2 y0 y1 (22 : Int32) (0 : Int32) I33 L R I41 q42) lc_X12_set lk_X12_246 ho0 hk0 ⟨_, rfl, rfl⟩ rfl (by rw [erm]; decide) (Nat.le_of_ble_eq_true rfl) dX12_heat_118 ?_
            show V G _ 121 [(0, .ref (G.ad y0)), (1, .int y1)] [] I41 L R
            cases q38
            exact V_sub [0, 1] rfl k39
        · have q30 := (if_neg c32).symm.trans q30
          refine V_goto C0 (tgt := 136) (by decide) dX12_heat_92 ?_
          cases q30
          exact V_sub [0, 1] rfl k31
set_option maxRecDepth 100000 in
set_option maxHeartbeats 4000000 in
theorem lp_X12_heat_144 {G : Gm} (C0 : Cx G (yX12_heat.cls) cX12_heat none) (eNL : G.nL = 3) (erm : G.rm = ({ frames := 4, cells := 0, slots := 0, locals := 97 } : Room)) (N : Nat) : ∀ (k : Nat) (y0 : Nat) (y1 : Int32) (I : MI) (L : ML) (R : MR) (z : MI) (hk0 : kd y0 = 11) (ho0 : y0 < NN), LF_X12_heat_144 N k y0 y1 I L R = some z → ∀ f : State → Prop, V G f 250 [] [] z L R → V G f 144 [(0, .ref (G.ad y0)), (1, .int y1)] [] I L R := by
  intro k
  induction k with
  | zero =>
    intro y0 y1 I L R q hk0 ho0 h
    exact absurd h (by simp [LF_X12_heat_144])
  | succ k ih =>
    intro y0 y1 I L R q hk0 ho0 h f kx
    rw [LF_X12_heat_144] at h
    refine V_iload_n C0 1 rfl rfl dX12_heat_144 ?_
    refine V_aload_n C0 0 rfl rfl dX12_heat_145 ?_
    refine V_getI C0 11 21 fl_X12_297 ho0 hk0 rfl dX12_heat_146 ?_
    refine V_icmp_ge C0 (tgt := 250) (by decide) dX12_heat_149 (fun c48 => ?_) (fun c48 => ?_)
    · have h := (if_pos c48).symm.trans h
      cases h
      exact V_sub [] rfl kx
    · have h := (if_neg c48).symm.trans h
      refine V_aload_n C0 0 rfl rfl dX12_heat_152 ?_
      refine V_iload_n C0 1 rfl rfl dX12_heat_153 ?_
      refine V_bipush C0 (v := (8 : Int32)) (by decide) dX12_heat_154 ?_
      obtain ⟨b49, q50, h⟩ := bn1_some h
      refine V_callV C0 (st := []) (As := [.int y1, .int (8 : Int32)]) 11 (c_X12_isA G.l G.D G.cA G.ad G.bs G.X C0.2.2.2.2.2.2.2.2.2.1 C0.2.2.2.2.2.2.2.2.2.2.2.2 N y0 y1 (8 : Int32) I L R b49 q50) lc_X12_isA lk_X12_217 ho0 hk0 ⟨_, rfl, rfl⟩ rfl (by rw [erm]; decide) (Nat.le_of_ble_eq_true rfl) dX12_heat_156 ?_
      show V G _ 159 [(0, .ref (G.ad y0)), (1, .int y1)] [.int (b2i b49)] I L R
      obtain ⟨I51, q52, h⟩ := bn1_some h
      have k53 : V G f 244 [(0, .ref (G.ad y0)), (1, .int y1)] [] I51 L R := by
        obtain ⟨u85, eu85, h⟩ := wr_some h
        refine V_iinc C0 1 [(1, .int u85), (0, .ref (G.ad y0))] rfl (n := 1) (by rw [eu85]; rfl) (by rw [eNL]; decide) rfl dX12_heat_244 ?_
        refine V_goto C0 (tgt := 144) (by decide) dX12_heat_247 ?_
        exact V_sub [1, 0] rfl (ih y0 u85 I51 L R _ hk0 ho0 h f kx)
      refine V_if_eq C0 (tgt := 244) (by decide) dX12_heat_159 (fun c54 => ?_) (fun c54 => ?_)
      · have q52 := (if_pos c54).symm.trans q52
        cases q52
        exact V_sub [0, 1] rfl k53
      · have q52 := (if_neg c54).symm.trans q52
        refine V_aload_n C0 0 rfl rfl dX12_heat_162 ?_
        refine V_iload_n C0 1 rfl rfl dX12_heat_163 ?_
        obtain ⟨b55, q56, q52⟩ := bn1_some q52
        refine V_callV C0 (st := []) (As := [.int y1]) 11 (c_X12_isWhole G.l G.D G.cA G.ad G.bs G.X C0.2.2.2.2.2.2.2.2.2.1 C0.2.2.2.2.2.2.2.2.2.2.2.2 y0 y1 I L R b55 q56) lc_X12_isWhole lk_X12_366 ho0 hk0 ⟨_, rfl, rfl⟩ rfl (by rw [erm]; decide) (Nat.le_of_ble_eq_true rfl) dX12_heat_164 ?_
        show V G _ 167 [(0, .ref (G.ad y0)), (1, .int y1)] [.int (b2i b55)] I L R
        obtain ⟨I57, q58, q52⟩ := bn1_some q52
        have k59 : V G f 244 [(0, .ref (G.ad y0)), (1, .int y1)] [] I57 L R := by
          cases q52
          exact V_sub [0, 1] rfl k53
        refine V_if_ne C0 (tgt := 173) (by decide) dX12_heat_167 (fun c60 => ?_) (fun c60 => ?_)
        · have q58 := (if_neg c60).symm.trans q58
          refine V_aload_n C0 0 rfl rfl dX12_heat_173 ?_
          refine V_aload_n C0 0 rfl rfl dX12_heat_174 ?_
          refine V_iload_n C0 1 rfl rfl dX12_heat_175 ?_
          refine V_bipush C0 (v := (27 : Int32)) (by decide) dX12_heat_176 ?_
          obtain ⟨v61, q62, q58⟩ := bn1_some q58
          refine V_callV C0 (st := [.ref (G.ad y0)]) (As := [.int y1, .int (27 : Int32)]) 11 (c_X12_get G.l G.D G.cA G.ad G.bs G.X C0.2.2.2.2.2.2.2.2.2.1 C0.2.2.2.2.2.2.2.2.2.2.2.2 y0 y1 (27 : Int32) I L R v61 q62) lc_X12_get lk_X12_211 ho0 hk0 ⟨_, rfl, rfl⟩ rfl (by rw [erm]; decide) (Nat.le_of_ble_eq_true rfl) dX12_heat_178 ?_
          show V G _ 181 [(0, .ref (G.ad y0)), (1, .int y1)] [.int v61, .ref (G.ad y0)] I L R
          refine V_bipush C0 (v := (62 : Int32)) (by decide) dX12_heat_181 ?_
          obtain ⟨v63, q64, q58⟩ := bn1_some q58
          refine V_callV C0 (st := []) (As := [.int v61, .int (62 : Int32)]) 11 (c_X12_get G.l G.D G.cA G.ad G.bs G.X C0.2.2.2.2.2.2.2.2.2.1 C0.2.2.2.2.2.2.2.2.2.2.2.2 y0 v61 (62 : Int32) I L R v63 q64) lc_X12_get lk_X12_211 ho0 hk0 ⟨_, rfl, rfl⟩ rfl (by rw [erm]; decide) (Nat.le_of_ble_eq_true rfl) dX12_heat_183 ?_
          show V G _ 186 [(0, .ref (G.ad y0)), (1, .int y1)] [.int v63] I L R
          refine V_istore_n C0 [(2, .int v63), (0, .ref (G.ad y0)), (1, .int y1)] rfl (by rw [eNL]; decide) rfl dX12_heat_186 ?_
          refine V_iload_n C0 0 rfl rfl dX12_heat_187 ?_
          refine V_aload_n C0 1 rfl rfl dX12_heat_188 ?_
          refine V_iload_n C0 2 rfl rfl dX12_heat_189 ?_
          refine V_bipush C0 (v := (28 : Int32)) (by decide) dX12_heat_190 ?_
          obtain ⟨v65, q66, q58⟩ := bn1_some q58
          refine V_callV C0 (st := [.int v63]) (As := [.int y1, .int (28 : Int32)]) 11 (c_X12_get G.l G.D G.cA G.ad G.bs G.X C0.2.2.2.2.2.2.2.2.2.1 C0.2.2.2.2.2.2.2.2.2.2.2.2 y0 y1 (28 : Int32) I L R v65 q66) lc_X12_get lk_X12_211 ho0 hk0 ⟨_, rfl, rfl⟩ rfl (by rw [erm]; decide) (Nat.le_of_ble_eq_true rfl) dX12_heat_192 ?_
          show V G _ 195 [(2, .int v63), (0, .ref (G.ad y0)), (1, .int y1)] [.int v65, .int v63] I L R
          refine V_aload_n C0 1 rfl rfl dX12_heat_195 ?_
          refine V_iload_n C0 2 rfl rfl dX12_heat_196 ?_
          refine V_bipush C0 (v := (26 : Int32)) (by decide) dX12_heat_197 ?_
          obtain ⟨v67, q68, q58⟩ := bn1_some q58
          refine V_callV C0 (st := [.int v65, .int v63]) (As := [.int y1, .int (26 : Int32)]) 11 (c_X12_get G.l G.D G.cA G.ad G.bs G.X C0.2.2.2.2.2.2.2.2.2.1 C0.2.2.2.2.2.2.2.2.2.2.2.2 y0 y1 (26 : Int32) I L R v67 q68) lc_X12_get lk_X12_211 ho0 hk0 ⟨_, rfl, rfl⟩ rfl (by rw [erm]; decide) (Nat.le_of_ble_eq_true rfl) dX12_heat_199 ?_
          show V G _ 202 [(2, .int v63), (0, .ref (G.ad y0)), (1, .int y1)] [.int v67, .int v65, .int v63] I L R
          refine V_isub C0 dX12_heat_202 ?_
          obtain ⟨I69, q70, q58⟩ := bn1_some q58
          have k71 : V G f 244 [(0, .ref (G.ad y0)), (1, .int y1)] [] I69 L R := by
            cases q58
            exact V_sub [0, 1] rfl k59
          refine V_icmp_ge C0 (tgt := 217) (by decide) dX12_heat_203 (fun c72 => ?_) (fun c72 => ?_)
          · have q70 := (if_pos c72).symm.trans q70
            refine V_iload_n C0 0 rfl rfl dX12_heat_217 ?_
            refine V_aload_n C0 1 rfl rfl dX12_heat_218 ?_
            refine V_iload_n C0 2 rfl rfl dX12_heat_219 ?_
            refine V_bipush C0 (v := (28 : Int32)) (by decide) dX12_heat_220 ?_
            obtain ⟨v73, q74, q70⟩ := bn1_some q70
            refine V_callV C0 (st := [.int v63]) (As := [.int y1, .int (28 : Int32)]) 11 (c_X12_get G.l G.D G.cA G.ad G.bs G.X C0.2.2.2.2.2.2.2.2.2.1 C0.2.2.2.2.2.2.2.2.2.2.2.2 y0 y1 (28 : Int32) I L R v73 q74) lc_X12_get lk_X12_211 ho0 hk0 ⟨_, rfl, rfl⟩ rfl (by rw [erm]; decide) (Nat.le_of_ble_eq_true rfl) dX12_heat_222 ?_
            show V G _ 225 [(2, .int v63), (0, .ref (G.ad y0)), (1, .int y1)] [.int v73, .int v63] I L R
            refine V_aload_n C0 1 rfl rfl dX12_heat_225 ?_
            refine V_iload_n C0 2 rfl rfl dX12_heat_226 ?_
            refine V_bipush C0 (v := (26 : Int32)) (by decide) dX12_heat_227 ?_
            obtain ⟨v75, q76, q70⟩ := bn1_some q70
            refine V_callV C0 (st := [.int v73, .int v63]) (As := [.int y1, .int (26 : Int32)]) 11 (c_X12_get G.l G.D G.cA G.ad G.bs G.X C0.2.2.2.2.2.2.2.2.2.1 C0.2.2.2.2.2.2.2.2.2.2.2.2 y0 y1 (26 : Int32) I L R v75 q76) lc_X12_get lk_X12_211 ho0 hk0 ⟨_, rfl, rfl⟩ rfl (by rw [erm]; decide) (Nat.le_of_ble_eq_true rfl) dX12_heat_229 ?_
            show V G _ 232 [(2, .int v63), (0, .ref (G.ad y0)), (1, .int y1)] [.int v75, .int v73, .int v63] I L R
            refine V_iadd C0 dX12_heat_232 ?_
            obtain ⟨I77, q78, q70⟩ := bn1_some q70
            have k79 : V G f 244 [(0, .ref (G.ad y0)), (1, .int y1)] [] I77 L R := by
              cases q70
              exact V_sub [0, 1] rfl k71
            refine V_icmp_le C0 (tgt := 244) (by decide) dX12_heat_233 (fun c80 => ?_) (fun c80 => ?_)
            · have q78 := (if_pos c80).symm.trans q78
              cases q78
              exact V_sub [1, 2] rfl k79
            · have q78 := (if_neg c80).symm.trans q78
              refine V_aload_n C0 1 rfl rfl dX12_heat_236 ?_
              refine V_iload_n C0 2 rfl rfl dX12_heat_237 ?_
              refine V_bipush C0 (v := (22 : Int32)) (by decide) dX12_heat_238 ?_
              refine V_iconst C0 (v := (0 : Int32)) (by decide) dX12_heat_240 ?_
              obtain ⟨I81, q82, q78⟩ := bn1_some q78
              refine V_callV C0 (st := []) (As := [.int y1, .int (22 : Int32), .int (0 : Int32)]) 11 (c_X12_set G.l G.D G.cA G.ad G.bs G.X C0.2.2.2.2.2.2.2.2.2.1 C0.2.2.2.2.2.2.2.2.2.2.2.2 y0 y1 (22 : Int32) (0 : Int32) I L R I81 q82) lc_X12_set lk_X12_246 ho0 hk0 ⟨_, rfl, rfl⟩ rfl (by rw [erm]; decide) (Nat.le_of_ble_eq_true rfl) dX12_heat_241 ?_
              show V G _ 244 [(2, .int v63), (0, .ref (G.ad y0)), (1, .int y1)] [] I81 L R
              cases q78
              exact V_sub [1, 2] rfl k79
          · have q70 := (if_neg c72).symm.trans q70
            refine V_aload_n C0 1 rfl rfl dX12_heat_206 ?_
            refine V_iload_n C0 2 rfl rfl dX12_heat_207 ?_
            refine V_bipush C0 (v := (22 : Int32)) (by decide) dX12_heat_208 ?_
            refine V_iconst C0 (v := (1 : Int32)) (by decide) dX12_heat_210 ?_
            obtain ⟨I83, q84, q70⟩ := bn1_some q70
            refine V_callV C0 (st := []) (As := [.int y1, .int (22 : Int32), .int (1 : Int32)]) 11 (c_X12_set G.l G.D G.cA G.ad G.bs G.X C0.2.2.2.2.2.2.2.2.2.1 C0.2.2.2.2.2.2.2.2.2.2.2.2 y0 y1 (22 : Int32) (1 : Int32) I L R I83 q84) lc_X12_set lk_X12_246 ho0 hk0 ⟨_, rfl, rfl⟩ rfl (by rw [erm]; decide) (Nat.le_of_ble_eq_true rfl) dX12_heat_211 ?_
            show V G _ 214 [(2, .int v63), (0, .ref (G.ad y0)), (1, .int y1)] [] I83 L R
            refine V_goto C0 (tgt := 244) (by decide) dX12_heat_214 ?_
            cases q70
            exact V_sub [1, 2] rfl k71
        · have q58 := (if_pos c60).symm.trans q58
          refine V_goto C0 (tgt := 244) (by decide) dX12_heat_170 ?_
          cases q58
          exact V_sub [0, 1] rfl k59
set_option maxRecDepth 100000 in
set_option maxHeartbeats 4000000 in
theorem c_X12_heat (l : Launch) (D : va_G) (cA : Nat → ClassId) (ad : Nat → Nat) (bs : Nat) (X : State → Prop) (hAd : Ax ad bs) (hX : Stb bs X) (N : Nat) (x0 : Nat) (I : MI) (L : ML) (R : MR) (I' : MI) (h : F_X12_heat N x0 I L R = some (I')) : Cn l D cA ad bs X yX12_heat cX12_heat 3 none 4 97 [.ref (ad x0)] I L R (none, I', L, R) := by
  refine Cn.ofV hAd hX [(0, .ref (ad x0))] rfl (Nat.le_of_ble_eq_true rfl) (by decide) ?_
  intro G el eD ecA ead ebs eX erm eNL C0
  subst el eD ecA ead ebs eX
  unfold F_X12_heat at h
  obtain ⟨c_x0, h⟩ := ite_some h
  refine V_iconst C0 (v := (0 : Int32)) (by decide) dX12_heat_0 ?_
  refine V_istore_n C0 [(1, .int (0 : Int32)), (0, .ref (G.ad x0))] rfl (by rw [eNL]; decide) rfl dX12_heat_1 ?_
  obtain ⟨z8, q9, h⟩ := bn1_some h
  refine V_sub [1, 0] rfl (lp_X12_heat_2 C0 eNL erm N N x0 (0 : Int32) I L R _ c_x0.1 c_x0.2 q9 _ ?_)
  show V G _ 27 [(0, .ref (G.ad x0))] [] z8 L R
  refine V_iconst C0 (v := (0 : Int32)) (by decide) dX12_heat_27 ?_
  refine V_istore_n C0 [(1, .int (0 : Int32)), (0, .ref (G.ad x0))] rfl (by rw [eNL]; decide) rfl dX12_heat_28 ?_
  obtain ⟨z16, q17, h⟩ := bn1_some h
  refine V_sub [1, 0] rfl (lp_X12_heat_29 C0 eNL erm N N x0 (0 : Int32) z8 L R _ c_x0.1 c_x0.2 q17 _ ?_)
  show V G _ 56 [(0, .ref (G.ad x0))] [] z16 L R
  refine V_iconst C0 (v := (0 : Int32)) (by decide) dX12_heat_56 ?_
  refine V_istore_n C0 [(1, .int (0 : Int32)), (0, .ref (G.ad x0))] rfl (by rw [eNL]; decide) rfl dX12_heat_57 ?_
  obtain ⟨z46, q47, h⟩ := bn1_some h
  refine V_sub [1, 0] rfl (lp_X12_heat_58 C0 eNL erm N N x0 (0 : Int32) z16 L R _ c_x0.1 c_x0.2 q47 _ ?_)
  show V G _ 142 [(0, .ref (G.ad x0))] [] z46 L R
  refine V_iconst C0 (v := (0 : Int32)) (by decide) dX12_heat_142 ?_
  refine V_istore_n C0 [(1, .int (0 : Int32)), (0, .ref (G.ad x0))] rfl (by rw [eNL]; decide) rfl dX12_heat_143 ?_
  obtain ⟨z86, q87, h⟩ := bn1_some h
  refine V_sub [1, 0] rfl (lp_X12_heat_144 C0 eNL erm N N x0 (0 : Int32) z46 L R _ c_x0.1 c_x0.2 q87 _ ?_)
  show V G _ 250 [] [] z86 L R
  cases h
  exact V_vret C0 dX12_heat_250
theorem dX12_charge_0 : decode cX12_charge 0 = .ok (.iconst 0, 1) := by decide +kernel
theorem dX12_charge_1 : decode cX12_charge 1 = .ok (.istore_n 1, 1) := by decide +kernel
theorem dX12_charge_2 : decode cX12_charge 2 = .ok (.iconst 0, 1) := by decide +kernel
theorem dX12_charge_3 : decode cX12_charge 3 = .ok (.istore_n 2, 1) := by decide +kernel
theorem dX12_charge_4 : decode cX12_charge 4 = .ok (.iconst 0, 1) := by decide +kernel
theorem dX12_charge_5 : decode cX12_charge 5 = .ok (.istore_n 3, 1) := by decide +kernel
theorem dX12_charge_6 : decode cX12_charge 6 = .ok (.iload_n 3, 1) := by decide +kernel
theorem dX12_charge_7 : decode cX12_charge 7 = .ok (.aload_n 0, 1) := by decide +kernel
theorem dX12_charge_8 : decode cX12_charge 8 = .ok (.getfield 297, 3) := by decide +kernel
theorem dX12_charge_11 : decode cX12_charge 11 = .ok (.if_icmp .ge 38, 3) := by decide +kernel
theorem dX12_charge_14 : decode cX12_charge 14 = .ok (.aload_n 0, 1) := by decide +kernel
theorem dX12_charge_15 : decode cX12_charge 15 = .ok (.iload_n 3, 1) := by decide +kernel
theorem dX12_charge_16 : decode cX12_charge 16 = .ok (.iconst 2, 1) := by decide +kernel
theorem dX12_charge_17 : decode cX12_charge 17 = .ok (.invokevirtual 217, 3) := by decide +kernel
theorem dX12_charge_20 : decode cX12_charge 20 = .ok (.ifCond .eq 23, 3) := by decide +kernel
theorem dX12_charge_23 : decode cX12_charge 23 = .ok (.iload_n 1, 1) := by decide +kernel
theorem dX12_charge_24 : decode cX12_charge 24 = .ok (.aload_n 0, 1) := by decide +kernel
theorem dX12_charge_25 : decode cX12_charge 25 = .ok (.iload_n 3, 1) := by decide +kernel
theorem dX12_charge_26 : decode cX12_charge 26 = .ok (.bipush 10, 2) := by decide +kernel
theorem dX12_charge_28 : decode cX12_charge 28 = .ok (.invokevirtual 211, 3) := by decide +kernel
theorem dX12_charge_31 : decode cX12_charge 31 = .ok (.iadd, 1) := by decide +kernel
theorem dX12_charge_32 : decode cX12_charge 32 = .ok (.istore_n 1, 1) := by decide +kernel
theorem dX12_charge_33 : decode cX12_charge 33 = .ok (.iload_n 2, 1) := by decide +kernel
theorem dX12_charge_34 : decode cX12_charge 34 = .ok (.aload_n 0, 1) := by decide +kernel
theorem dX12_charge_35 : decode cX12_charge 35 = .ok (.iload_n 3, 1) := by decide +kernel
theorem dX12_charge_36 : decode cX12_charge 36 = .ok (.bipush 9, 2) := by decide +kernel
theorem dX12_charge_38 : decode cX12_charge 38 = .ok (.invokevirtual 211, 3) := by decide +kernel
theorem dX12_charge_41 : decode cX12_charge 41 = .ok (.iadd, 1) := by decide +kernel
theorem dX12_charge_42 : decode cX12_charge 42 = .ok (.istore_n 2, 1) := by decide +kernel
theorem dX12_charge_43 : decode cX12_charge 43 = .ok (.iinc 3 1, 3) := by decide +kernel
theorem dX12_charge_46 : decode cX12_charge 46 = .ok (.goto (-40), 3) := by decide +kernel
theorem dX12_charge_49 : decode cX12_charge 49 = .ok (.iload_n 2, 1) := by decide +kernel
theorem dX12_charge_50 : decode cX12_charge 50 = .ok (.ifCond .ne 7, 3) := by decide +kernel
theorem dX12_charge_53 : decode cX12_charge 53 = .ok (.iconst 0, 1) := by decide +kernel
theorem dX12_charge_54 : decode cX12_charge 54 = .ok (.goto 9, 3) := by decide +kernel
theorem dX12_charge_57 : decode cX12_charge 57 = .ok (.bipush 100, 2) := by decide +kernel
theorem dX12_charge_59 : decode cX12_charge 59 = .ok (.iload_n 1, 1) := by decide +kernel
theorem dX12_charge_60 : decode cX12_charge 60 = .ok (.imul, 1) := by decide +kernel
theorem dX12_charge_61 : decode cX12_charge 61 = .ok (.iload_n 2, 1) := by decide +kernel
theorem dX12_charge_62 : decode cX12_charge 62 = .ok (.idiv, 1) := by decide +kernel
theorem dX12_charge_63 : decode cX12_charge 63 = .ok (.ireturn, 1) := by decide +kernel
def LF_X12_charge_6 (N : Nat) : Nat → Nat → Int32 → Int32 → Int32 → MI → ML → MR → Option (Int32 × Int32)
  | 0, _, _, _, _, _, _, _ => none
  | k + 1, y0, y1, y2, y3, I, L, R =>
    if (I y0 21) ≤ y3 then
      some (y1, y2)
    else
      bn1 (F_X12_isA N y0 y3 (2 : Int32) I L R) fun b2 =>
      bn2 (
        if (b2i b2) = 0 then
          some (y1, y2)
        else
          bn1 (F_X12_get y0 y3 (10 : Int32) I L R) fun v9 =>
          wr (y1 + v9) fun (u11 : Int32) =>
          bn1 (F_X12_get y0 y3 (9 : Int32) I L R) fun v12 =>
          wr (y2 + v12) fun (u14 : Int32) =>
          some (u11, u14)
      ) fun (u4 : Int32) (u5 : Int32) =>
      wr (y3 + (1 : Int32)) fun (u15 : Int32) =>
      LF_X12_charge_6 N k y0 u4 u5 u15 I L R
def F_X12_charge (N : Nat) (x0 : Nat) (I : MI) (L : ML) (R : MR) : Option (Int32) :=
  if kd x0 = 11 ∧ x0 < NN then
  bn1 (LF_X12_charge_6 N N x0 (0 : Int32) (0 : Int32) (0 : Int32) I L R) fun z16 =>
  if z16.2 = 0 then
    some ((0 : Int32))
  else
    if z16.2 = 0 then none else
    some ((((100 : Int32) * z16.1) / z16.2))
  else none
set_option maxRecDepth 100000 in
set_option maxHeartbeats 4000000 in
theorem lp_X12_charge_6 {G : Gm} (C0 : Cx G (yX12_charge.cls) cX12_charge (some .int)) (eNL : G.nL = 4) (erm : G.rm = ({ frames := 2, cells := 0, slots := 0, locals := 45 } : Room)) (N : Nat) : ∀ (k : Nat) (y0 : Nat) (y1 : Int32) (y2 : Int32) (y3 : Int32) (I : MI) (L : ML) (R : MR) (z : Int32 × Int32) (hk0 : kd y0 = 11) (ho0 : y0 < NN), LF_X12_charge_6 N k y0 y1 y2 y3 I L R = some z → ∀ f : State → Prop, V G f 49 [(1, .int z.1), (2, .int z.2)] [] I L R → V G f 6 [(0, .ref (G.ad y0)), (1, .int y1), (2, .int y2), (3, .int y3)] [] I L R := by
  intro k
  induction k with
  | zero =>
    intro y0 y1 y2 y3 I L R q hk0 ho0 h
    exact absurd h (by simp [LF_X12_charge_6])
  | succ k ih =>
    intro y0 y1 y2 y3 I L R q hk0 ho0 h f kx
    rw [LF_X12_charge_6] at h
    refine V_iload_n C0 3 rfl rfl dX12_charge_6 ?_
    refine V_aload_n C0 0 rfl rfl dX12_charge_7 ?_
    refine V_getI C0 11 21 fl_X12_297 ho0 hk0 rfl dX12_charge_8 ?_
    refine V_icmp_ge C0 (tgt := 49) (by decide) dX12_charge_11 (fun c1 => ?_) (fun c1 => ?_)
    · have h := (if_pos c1).symm.trans h
      cases h
      exact V_sub [1, 2] rfl kx
    · have h := (if_neg c1).symm.trans h
      refine V_aload_n C0 0 rfl rfl dX12_charge_14 ?_
      refine V_iload_n C0 3 rfl rfl dX12_charge_15 ?_
      refine V_iconst C0 (v := (2 : Int32)) (by decide) dX12_charge_16 ?_
      obtain ⟨b2, q3, h⟩ := bn1_some h
      refine V_callV C0 (st := []) (As := [.int y3, .int (2 : Int32)]) 11 (c_X12_isA G.l G.D G.cA G.ad G.bs G.X C0.2.2.2.2.2.2.2.2.2.1 C0.2.2.2.2.2.2.2.2.2.2.2.2 N y0 y3 (2 : Int32) I L R b2 q3) lc_X12_isA lk_X12_217 ho0 hk0 ⟨_, rfl, rfl⟩ rfl (by rw [erm]; decide) (Nat.le_of_ble_eq_true rfl) dX12_charge_17 ?_
      show V G _ 20 [(0, .ref (G.ad y0)), (1, .int y1), (2, .int y2), (3, .int y3)] [.int (b2i b2)] I L R
      obtain ⟨u4, u5, q6, h⟩ := bn2_some h
      have k7 : V G f 43 [(0, .ref (G.ad y0)), (1, .int u4), (2, .int u5), (3, .int y3)] [] I L R := by
        obtain ⟨u15, eu15, h⟩ := wr_some h
        refine V_iinc C0 3 [(3, .int u15), (0, .ref (G.ad y0)), (1, .int u4), (2, .int u5)] rfl (n := 1) (by rw [eu15]; rfl) (by rw [eNL]; decide) rfl dX12_charge_43 ?_
        refine V_goto C0 (tgt := 6) (by decide) dX12_charge_46 ?_
        exact V_sub [1, 2, 3, 0] rfl (ih y0 u4 u5 u15 I L R _ hk0 ho0 h f kx)
      refine V_if_eq C0 (tgt := 43) (by decide) dX12_charge_20 (fun c8 => ?_) (fun c8 => ?_)
      · have q6 := (if_pos c8).symm.trans q6
        cases q6
        exact V_sub [0, 1, 2, 3] rfl k7
      · have q6 := (if_neg c8).symm.trans q6
        refine V_iload_n C0 1 rfl rfl dX12_charge_23 ?_
        refine V_aload_n C0 0 rfl rfl dX12_charge_24 ?_
        refine V_iload_n C0 3 rfl rfl dX12_charge_25 ?_
        refine V_bipush C0 (v := (10 : Int32)) (by decide) dX12_charge_26 ?_
        obtain ⟨v9, q10, q6⟩ := bn1_some q6
        refine V_callV C0 (st := [.int y1]) (As := [.int y3, .int (10 : Int32)]) 11 (c_X12_get G.l G.D G.cA G.ad G.bs G.X C0.2.2.2.2.2.2.2.2.2.1 C0.2.2.2.2.2.2.2.2.2.2.2.2 y0 y3 (10 : Int32) I L R v9 q10) lc_X12_get lk_X12_211 ho0 hk0 ⟨_, rfl, rfl⟩ rfl (by rw [erm]; decide) (Nat.le_of_ble_eq_true rfl) dX12_charge_28 ?_
        show V G _ 31 [(0, .ref (G.ad y0)), (1, .int y1), (2, .int y2), (3, .int y3)] [.int v9, .int y1] I L R
        refine V_iadd C0 dX12_charge_31 ?_
        obtain ⟨u11, eu11, q6⟩ := wr_some q6
        rw [← eu11]
        refine V_istore_n C0 [(1, .int u11), (0, .ref (G.ad y0)), (2, .int y2), (3, .int y3)] rfl (by rw [eNL]; decide) rfl dX12_charge_32 ?_
        refine V_iload_n C0 2 rfl rfl dX12_charge_33 ?_
        refine V_aload_n C0 1 rfl rfl dX12_charge_34 ?_
        refine V_iload_n C0 3 rfl rfl dX12_charge_35 ?_
        refine V_bipush C0 (v := (9 : Int32)) (by decide) dX12_charge_36 ?_
        obtain ⟨v12, q13, q6⟩ := bn1_some q6
        refine V_callV C0 (st := [.int y2]) (As := [.int y3, .int (9 : Int32)]) 11 (c_X12_get G.l G.D G.cA G.ad G.bs G.X C0.2.2.2.2.2.2.2.2.2.1 C0.2.2.2.2.2.2.2.2.2.2.2.2 y0 y3 (9 : Int32) I L R v12 q13) lc_X12_get lk_X12_211 ho0 hk0 ⟨_, rfl, rfl⟩ rfl (by rw [erm]; decide) (Nat.le_of_ble_eq_true rfl) dX12_charge_38 ?_
        show V G _ 41 [(1, .int u11), (0, .ref (G.ad y0)), (2, .int y2), (3, .int y3)] [.int v12, .int y2] I L R
        refine V_iadd C0 dX12_charge_41 ?_
        obtain ⟨u14, eu14, q6⟩ := wr_some q6
        rw [← eu14]
        refine V_istore_n C0 [(2, .int u14), (1, .int u11), (0, .ref (G.ad y0)), (3, .int y3)] rfl (by rw [eNL]; decide) rfl dX12_charge_42 ?_
        cases q6
        exact V_sub [2, 1, 0, 3] rfl k7
set_option maxRecDepth 100000 in
set_option maxHeartbeats 4000000 in
theorem c_X12_charge (l : Launch) (D : va_G) (cA : Nat → ClassId) (ad : Nat → Nat) (bs : Nat) (X : State → Prop) (hAd : Ax ad bs) (hX : Stb bs X) (N : Nat) (x0 : Nat) (I : MI) (L : ML) (R : MR) (r : Int32) (h : F_X12_charge N x0 I L R = some (r)) : Cn l D cA ad bs X yX12_charge cX12_charge 4 (some .int) 2 45 [.ref (ad x0)] I L R (some (.int r), I, L, R) := by
  refine Cn.ofV hAd hX [(0, .ref (ad x0))] rfl (Nat.le_of_ble_eq_true rfl) (by decide) ?_
  intro G el eD ecA ead ebs eX erm eNL C0
  subst el eD ecA ead ebs eX
  unfold F_X12_charge at h
  obtain ⟨c_x0, h⟩ := ite_some h
  refine V_iconst C0 (v := (0 : Int32)) (by decide) dX12_charge_0 ?_
  refine V_istore_n C0 [(1, .int (0 : Int32)), (0, .ref (G.ad x0))] rfl (by rw [eNL]; decide) rfl dX12_charge_1 ?_
  refine V_iconst C0 (v := (0 : Int32)) (by decide) dX12_charge_2 ?_
  refine V_istore_n C0 [(2, .int (0 : Int32)), (1, .int (0 : Int32)), (0, .ref (G.ad x0))] rfl (by rw [eNL]; decide) rfl dX12_charge_3 ?_
  refine V_iconst C0 (v := (0 : Int32)) (by decide) dX12_charge_4 ?_
  refine V_istore_n C0 [(3, .int (0 : Int32)), (2, .int (0 : Int32)), (1, .int (0 : Int32)), (0, .ref (G.ad x0))] rfl (by rw [eNL]; decide) rfl dX12_charge_5 ?_
  obtain ⟨z16, q17, h⟩ := bn1_some h
  refine V_sub [3, 2, 1, 0] rfl (lp_X12_charge_6 C0 eNL erm N N x0 (0 : Int32) (0 : Int32) (0 : Int32) I L R _ c_x0.1 c_x0.2 q17 _ ?_)
  show V G _ 49 [(1, .int z16.1), (2, .int z16.2)] [] I L R
  refine V_iload_n C0 1 rfl rfl dX12_charge_49 ?_
  refine V_if_ne C0 (tgt := 57) (by decide) dX12_charge_50 (fun c18 => ?_) (fun c18 => ?_)
  · have h := (if_neg c18).symm.trans h
    refine V_bipush C0 (v := (100 : Int32)) (by decide) dX12_charge_57 ?_
    refine V_iload_n C0 0 rfl rfl dX12_charge_59 ?_
    refine V_imul C0 dX12_charge_60 ?_
    refine V_iload_n C0 1 rfl rfl dX12_charge_61 ?_
    obtain ⟨c19, h⟩ := ite_none h
    refine V_idiv C0 c19 dX12_charge_62 ?_
    cases h
    exact V_iret C0 dX12_charge_63
  · have h := (if_pos c18).symm.trans h
    refine V_iconst C0 (v := (0 : Int32)) (by decide) dX12_charge_53 ?_
    refine V_goto C0 (tgt := 63) (by decide) dX12_charge_54 ?_
    cases h
    exact V_iret C0 dX12_charge_63
theorem dX12_howMany_0 : decode cX12_howMany 0 = .ok (.iconst 0, 1) := by decide +kernel
theorem dX12_howMany_1 : decode cX12_howMany 1 = .ok (.istore_n 2, 1) := by decide +kernel
theorem dX12_howMany_2 : decode cX12_howMany 2 = .ok (.iconst 0, 1) := by decide +kernel
theorem dX12_howMany_3 : decode cX12_howMany 3 = .ok (.istore_n 3, 1) := by decide +kernel
theorem dX12_howMany_4 : decode cX12_howMany 4 = .ok (.iload_n 3, 1) := by decide +kernel
theorem dX12_howMany_5 : decode cX12_howMany 5 = .ok (.aload_n 0, 1) := by decide +kernel
theorem dX12_howMany_6 : decode cX12_howMany 6 = .ok (.getfield 297, 3) := by decide +kernel
theorem dX12_howMany_9 : decode cX12_howMany 9 = .ok (.if_icmp .ge 40, 3) := by decide +kernel
theorem dX12_howMany_12 : decode cX12_howMany 12 = .ok (.iload_n 2, 1) := by decide +kernel
theorem dX12_howMany_13 : decode cX12_howMany 13 = .ok (.iload_n 1, 1) := by decide +kernel
theorem dX12_howMany_14 : decode cX12_howMany 14 = .ok (.ifCond .eq 14, 3) := by decide +kernel
theorem dX12_howMany_17 : decode cX12_howMany 17 = .ok (.aload_n 0, 1) := by decide +kernel
theorem dX12_howMany_18 : decode cX12_howMany 18 = .ok (.iload_n 3, 1) := by decide +kernel
theorem dX12_howMany_19 : decode cX12_howMany 19 = .ok (.invokevirtual 366, 3) := by decide +kernel
theorem dX12_howMany_22 : decode cX12_howMany 22 = .ok (.ifCond .ne 18, 3) := by decide +kernel
theorem dX12_howMany_25 : decode cX12_howMany 25 = .ok (.goto 11, 3) := by decide +kernel
theorem dX12_howMany_28 : decode cX12_howMany 28 = .ok (.aload_n 0, 1) := by decide +kernel
theorem dX12_howMany_29 : decode cX12_howMany 29 = .ok (.iload_n 3, 1) := by decide +kernel
theorem dX12_howMany_30 : decode cX12_howMany 30 = .ok (.invokevirtual 393, 3) := by decide +kernel
theorem dX12_howMany_33 : decode cX12_howMany 33 = .ok (.ifCond .eq 7, 3) := by decide +kernel
theorem dX12_howMany_36 : decode cX12_howMany 36 = .ok (.iconst 1, 1) := by decide +kernel
theorem dX12_howMany_37 : decode cX12_howMany 37 = .ok (.goto 4, 3) := by decide +kernel
theorem dX12_howMany_40 : decode cX12_howMany 40 = .ok (.iconst 0, 1) := by decide +kernel
theorem dX12_howMany_41 : decode cX12_howMany 41 = .ok (.iadd, 1) := by decide +kernel
theorem dX12_howMany_42 : decode cX12_howMany 42 = .ok (.istore_n 2, 1) := by decide +kernel
theorem dX12_howMany_43 : decode cX12_howMany 43 = .ok (.iinc 3 1, 3) := by decide +kernel
theorem dX12_howMany_46 : decode cX12_howMany 46 = .ok (.goto (-42), 3) := by decide +kernel
theorem dX12_howMany_49 : decode cX12_howMany 49 = .ok (.iload_n 2, 1) := by decide +kernel
theorem dX12_howMany_50 : decode cX12_howMany 50 = .ok (.ireturn, 1) := by decide +kernel
def LF_X12_howMany_4 (N : Nat) : Nat → Nat → Int32 → Int32 → Int32 → MI → ML → MR → Option (Int32)
  | 0, _, _, _, _, _, _, _ => none
  | k + 1, y0, y1, y2, y3, I, L, R =>
    if (I y0 21) ≤ y3 then
      some (y2)
    else
      bn1 (
        if y1 = 0 then
          bn1 (F_X12_isOn N y0 y3 I L R) fun b6 =>
          bn1 (
            if (b2i b6) = 0 then
              some ((0 : Int32))
            else
              some ((1 : Int32))
          ) fun (s8 : Int32) =>
          some (s8)
        else
          bn1 (F_X12_isWhole y0 y3 I L R) fun b12 =>
          bn1 (
            if (b2i b12) = 0 then
              some ((1 : Int32))
            else
              some ((0 : Int32))
          ) fun (s14 : Int32) =>
          some (s14)
      ) fun (s2 : Int32) =>
      wr (y2 + s2) fun (u18 : Int32) =>
      wr (y3 + (1 : Int32)) fun (u19 : Int32) =>
      LF_X12_howMany_4 N k y0 y1 u18 u19 I L R
def F_X12_howMany (N : Nat) (x0 : Nat) (x1 : Int32) (I : MI) (L : ML) (R : MR) : Option (Int32) :=
  if kd x0 = 11 ∧ x0 < NN then
  bn1 (LF_X12_howMany_4 N N x0 x1 (0 : Int32) (0 : Int32) I L R) fun z20 =>
  some (z20)
  else none
set_option maxRecDepth 100000 in
set_option maxHeartbeats 4000000 in
theorem lp_X12_howMany_4 {G : Gm} (C0 : Cx G (yX12_howMany.cls) cX12_howMany (some .int)) (eNL : G.nL = 4) (erm : G.rm = ({ frames := 3, cells := 0, slots := 0, locals := 66 } : Room)) (N : Nat) : ∀ (k : Nat) (y0 : Nat) (y1 : Int32) (y2 : Int32) (y3 : Int32) (I : MI) (L : ML) (R : MR) (z : Int32) (hk0 : kd y0 = 11) (ho0 : y0 < NN), LF_X12_howMany_4 N k y0 y1 y2 y3 I L R = some z → ∀ f : State → Prop, V G f 49 [(2, .int z)] [] I L R → V G f 4 [(0, .ref (G.ad y0)), (1, .int y1), (2, .int y2), (3, .int y3)] [] I L R := by
  intro k
  induction k with
  | zero =>
    intro y0 y1 y2 y3 I L R q hk0 ho0 h
    exact absurd h (by simp [LF_X12_howMany_4])
  | succ k ih =>
    intro y0 y1 y2 y3 I L R q hk0 ho0 h f kx
    rw [LF_X12_howMany_4] at h
    refine V_iload_n C0 3 rfl rfl dX12_howMany_4 ?_
    refine V_aload_n C0 0 rfl rfl dX12_howMany_5 ?_
    refine V_getI C0 11 21 fl_X12_297 ho0 hk0 rfl dX12_howMany_6 ?_
    refine V_icmp_ge C0 (tgt := 49) (by decide) dX12_howMany_9 (fun c1 => ?_) (fun c1 => ?_)
    · have h := (if_pos c1).symm.trans h
      cases h
      exact V_sub [2] rfl kx
    · have h := (if_neg c1).symm.trans h
      refine V_iload_n C0 2 rfl rfl dX12_howMany_12 ?_
      refine V_iload_n C0 1 rfl rfl dX12_howMany_13 ?_
      obtain ⟨s2, q3, h⟩ := bn1_some h
      have k4 : V G f 41 [(0, .ref (G.ad y0)), (1, .int y1), (3, .int y3)] [.int s2, .int y2] I L R := by
        refine V_iadd C0 dX12_howMany_41 ?_
        obtain ⟨u18, eu18, h⟩ := wr_some h
        rw [← eu18]
        refine V_istore_n C0 [(2, .int u18), (0, .ref (G.ad y0)), (1, .int y1), (3, .int y3)] rfl (by rw [eNL]; decide) rfl dX12_howMany_42 ?_
        obtain ⟨u19, eu19, h⟩ := wr_some h
        refine V_iinc C0 3 [(3, .int u19), (2, .int u18), (0, .ref (G.ad y0)), (1, .int y1)] rfl (n := 1) (by rw [eu19]; rfl) (by rw [eNL]; decide) rfl dX12_howMany_43 ?_
        refine V_goto C0 (tgt := 4) (by decide) dX12_howMany_46 ?_
        exact V_sub [2, 3, 1, 0] rfl (ih y0 y1 u18 u19 I L R _ hk0 ho0 h f kx)
      refine V_if_eq C0 (tgt := 28) (by decide) dX12_howMany_14 (fun c5 => ?_) (fun c5 => ?_)
      · have q3 := (if_pos c5).symm.trans q3
        refine V_aload_n C0 0 rfl rfl dX12_howMany_28 ?_
        refine V_iload_n C0 3 rfl rfl dX12_howMany_29 ?_
        obtain ⟨b6, q7, q3⟩ := bn1_some q3
        refine V_callV C0 (st := [.int y2]) (As := [.int y3]) 11 (c_X12_isOn G.l G.D G.cA G.ad G.bs G.X C0.2.2.2.2.2.2.2.2.2.1 C0.2.2.2.2.2.2.2.2.2.2.2.2 N y0 y3 I L R b6 q7) lc_X12_isOn lk_X12_393 ho0 hk0 ⟨_, rfl, rfl⟩ rfl (by rw [erm]; decide) (Nat.le_of_ble_eq_true rfl) dX12_howMany_30 ?_
        show V G _ 33 [(0, .ref (G.ad y0)), (1, .int y1), (2, .int y2), (3, .int y3)] [.int (b2i b6), .int y2] I L R
        obtain ⟨s8, q9, q3⟩ := bn1_some q3
        have k10 : V G f 41 [(0, .ref (G.ad y0)), (1, .int y1), (3, .int y3)] [.int s8, .int y2] I L R := by
          cases q3
          exact V_sub [0, 1, 2] rfl k4
        refine V_if_eq C0 (tgt := 40) (by decide) dX12_howMany_33 (fun c11 => ?_) (fun c11 => ?_)
        · have q9 := (if_pos c11).symm.trans q9
          refine V_iconst C0 (v := (0 : Int32)) (by decide) dX12_howMany_40 ?_
          cases q9
          exact V_sub [0, 1, 3] rfl k10
        · have q9 := (if_neg c11).symm.trans q9
          refine V_iconst C0 (v := (1 : Int32)) (by decide) dX12_howMany_36 ?_
          refine V_goto C0 (tgt := 41) (by decide) dX12_howMany_37 ?_
          cases q9
          exact V_sub [0, 1, 3] rfl k10
      · have q3 := (if_neg c5).symm.trans q3
        refine V_aload_n C0 0 rfl rfl dX12_howMany_17 ?_
        refine V_iload_n C0 3 rfl rfl dX12_howMany_18 ?_
        obtain ⟨b12, q13, q3⟩ := bn1_some q3
        refine V_callV C0 (st := [.int y2]) (As := [.int y3]) 11 (c_X12_isWhole G.l G.D G.cA G.ad G.bs G.X C0.2.2.2.2.2.2.2.2.2.1 C0.2.2.2.2.2.2.2.2.2.2.2.2 y0 y3 I L R b12 q13) lc_X12_isWhole lk_X12_366 ho0 hk0 ⟨_, rfl, rfl⟩ rfl (by rw [erm]; decide) (Nat.le_of_ble_eq_true rfl) dX12_howMany_19 ?_
        show V G _ 22 [(0, .ref (G.ad y0)), (1, .int y1), (2, .int y2), (3, .int y3)] [.int (b2i b12), .int y2] I L R
        obtain ⟨s14, q15, q3⟩ := bn1_some q3
        have k16 : V G f 41 [(0, .ref (G.ad y0)), (1, .int y1), (3, .int y3)] [.int s14, .int y2] I L R := by
          cases q3
          exact V_sub [0, 1, 2] rfl k4
        refine V_if_ne C0 (tgt := 40) (by decide) dX12_howMany_22 (fun c17 => ?_) (fun c17 => ?_)
        · have q15 := (if_neg c17).symm.trans q15
          refine V_iconst C0 (v := (0 : Int32)) (by decide) dX12_howMany_40 ?_
          cases q15
          exact V_sub [0, 1, 3] rfl k16
        · have q15 := (if_pos c17).symm.trans q15
          refine V_goto C0 (tgt := 36) (by decide) dX12_howMany_25 ?_
          refine V_iconst C0 (v := (1 : Int32)) (by decide) dX12_howMany_36 ?_
          refine V_goto C0 (tgt := 41) (by decide) dX12_howMany_37 ?_
          cases q15
          exact V_sub [0, 1, 3] rfl k16
set_option maxRecDepth 100000 in
set_option maxHeartbeats 4000000 in
theorem c_X12_howMany (l : Launch) (D : va_G) (cA : Nat → ClassId) (ad : Nat → Nat) (bs : Nat) (X : State → Prop) (hAd : Ax ad bs) (hX : Stb bs X) (N : Nat) (x0 : Nat) (x1 : Int32) (I : MI) (L : ML) (R : MR) (r : Int32) (h : F_X12_howMany N x0 x1 I L R = some (r)) : Cn l D cA ad bs X yX12_howMany cX12_howMany 4 (some .int) 3 66 [.ref (ad x0), .int x1] I L R (some (.int r), I, L, R) := by
  refine Cn.ofV hAd hX [(0, .ref (ad x0)), (1, .int x1)] rfl (Nat.le_of_ble_eq_true rfl) (by decide) ?_
  intro G el eD ecA ead ebs eX erm eNL C0
  subst el eD ecA ead ebs eX
  unfold F_X12_howMany at h
  obtain ⟨c_x0, h⟩ := ite_some h
  refine V_iconst C0 (v := (0 : Int32)) (by decide) dX12_howMany_0 ?_
  refine V_istore_n C0 [(2, .int (0 : Int32)), (0, .ref (G.ad x0)), (1, .int x1)] rfl (by rw [eNL]; decide) rfl dX12_howMany_1 ?_
  refine V_iconst C0 (v := (0 : Int32)) (by decide) dX12_howMany_2 ?_
  refine V_istore_n C0 [(3, .int (0 : Int32)), (2, .int (0 : Int32)), (0, .ref (G.ad x0)), (1, .int x1)] rfl (by rw [eNL]; decide) rfl dX12_howMany_3 ?_
  obtain ⟨z20, q21, h⟩ := bn1_some h
  refine V_sub [2, 3, 1, 0] rfl (lp_X12_howMany_4 C0 eNL erm N N x0 x1 (0 : Int32) (0 : Int32) I L R _ c_x0.1 c_x0.2 q21 _ ?_)
  show V G _ 49 [(2, .int z20)] [] I L R
  refine V_iload_n C0 0 rfl rfl dX12_howMany_49 ?_
  cases h
  exact V_iret C0 dX12_howMany_50
theorem dX12_check_0 : decode cX12_check 0 = .ok (.iconst 0, 1) := by decide +kernel
theorem dX12_check_1 : decode cX12_check 1 = .ok (.istore_n 1, 1) := by decide +kernel
theorem dX12_check_2 : decode cX12_check 2 = .ok (.iconst 0, 1) := by decide +kernel
theorem dX12_check_3 : decode cX12_check 3 = .ok (.istore_n 2, 1) := by decide +kernel
theorem dX12_check_4 : decode cX12_check 4 = .ok (.iload_n 2, 1) := by decide +kernel
theorem dX12_check_5 : decode cX12_check 5 = .ok (.bipush 11, 2) := by decide +kernel
theorem dX12_check_7 : decode cX12_check 7 = .ok (.if_icmp .ge 56, 3) := by decide +kernel
theorem dX12_check_10 : decode cX12_check 10 = .ok (.iload_n 1, 1) := by decide +kernel
theorem dX12_check_11 : decode cX12_check 11 = .ok (.aload_n 0, 1) := by decide +kernel
theorem dX12_check_12 : decode cX12_check 12 = .ok (.getfield 109, 3) := by decide +kernel
theorem dX12_check_15 : decode cX12_check 15 = .ok (.iload_n 2, 1) := by decide +kernel
theorem dX12_check_16 : decode cX12_check 16 = .ok (.iaload, 1) := by decide +kernel
theorem dX12_check_17 : decode cX12_check 17 = .ok (.ixor, 1) := by decide +kernel
theorem dX12_check_18 : decode cX12_check 18 = .ok (.istore_n 1, 1) := by decide +kernel
theorem dX12_check_19 : decode cX12_check 19 = .ok (.iconst 0, 1) := by decide +kernel
theorem dX12_check_20 : decode cX12_check 20 = .ok (.istore_n 3, 1) := by decide +kernel
theorem dX12_check_21 : decode cX12_check 21 = .ok (.iload_n 3, 1) := by decide +kernel
theorem dX12_check_22 : decode cX12_check 22 = .ok (.bipush 8, 2) := by decide +kernel
theorem dX12_check_24 : decode cX12_check 24 = .ok (.if_icmp .ge 33, 3) := by decide +kernel
theorem dX12_check_27 : decode cX12_check 27 = .ok (.iload_n 1, 1) := by decide +kernel
theorem dX12_check_28 : decode cX12_check 28 = .ok (.sipush 128, 3) := by decide +kernel
theorem dX12_check_31 : decode cX12_check 31 = .ok (.if_icmp .lt 16, 3) := by decide +kernel
theorem dX12_check_34 : decode cX12_check 34 = .ok (.iconst 2, 1) := by decide +kernel
theorem dX12_check_35 : decode cX12_check 35 = .ok (.iload_n 1, 1) := by decide +kernel
theorem dX12_check_36 : decode cX12_check 36 = .ok (.imul, 1) := by decide +kernel
theorem dX12_check_37 : decode cX12_check 37 = .ok (.sipush 256, 3) := by decide +kernel
theorem dX12_check_40 : decode cX12_check 40 = .ok (.irem, 1) := by decide +kernel
theorem dX12_check_41 : decode cX12_check 41 = .ok (.bipush 7, 2) := by decide +kernel
theorem dX12_check_43 : decode cX12_check 43 = .ok (.ixor, 1) := by decide +kernel
theorem dX12_check_44 : decode cX12_check 44 = .ok (.goto 6, 3) := by decide +kernel
theorem dX12_check_47 : decode cX12_check 47 = .ok (.iconst 2, 1) := by decide +kernel
theorem dX12_check_48 : decode cX12_check 48 = .ok (.iload_n 1, 1) := by decide +kernel
theorem dX12_check_49 : decode cX12_check 49 = .ok (.imul, 1) := by decide +kernel
theorem dX12_check_50 : decode cX12_check 50 = .ok (.istore_n 1, 1) := by decide +kernel
theorem dX12_check_51 : decode cX12_check 51 = .ok (.iinc 3 1, 3) := by decide +kernel
theorem dX12_check_54 : decode cX12_check 54 = .ok (.goto (-33), 3) := by decide +kernel
theorem dX12_check_57 : decode cX12_check 57 = .ok (.iinc 2 1, 3) := by decide +kernel
theorem dX12_check_60 : decode cX12_check 60 = .ok (.goto (-56), 3) := by decide +kernel
theorem dX12_check_63 : decode cX12_check 63 = .ok (.iload_n 1, 1) := by decide +kernel
theorem dX12_check_64 : decode cX12_check 64 = .ok (.ireturn, 1) := by decide +kernel
def LF_X12_check_21 (N : Nat) : Nat → Nat → Int32 → Int32 → Int32 → MI → ML → MR → Option (Int32)
  | 0, _, _, _, _, _, _, _ => none
  | k + 1, y0, y1, y2, y3, I, L, R =>
    if (8 : Int32) ≤ y3 then
      some (y1)
    else
      bn1 (
        if y1 < (128 : Int32) then
          some (((2 : Int32) * y1))
        else
          some (((iR ((2 : Int32) * y1) (256 : Int32)) ^^^ (7 : Int32)))
      ) fun (s6 : Int32) =>
      wr (y3 + (1 : Int32)) fun (u10 : Int32) =>
      LF_X12_check_21 N k y0 s6 y2 u10 I L R
def LF_X12_check_4 (N : Nat) : Nat → Nat → Int32 → Int32 → MI → ML → MR → Option (Int32)
  | 0, _, _, _, _, _, _ => none
  | k + 1, y0, y1, y2, I, L, R =>
    if (11 : Int32) ≤ y2 then
      some (y1)
    else
      (rf R y0 63 20).bind fun a2 =>
      (ri I a2 y2).bind fun v3 =>
      wr (y1 ^^^ v3) fun (u4 : Int32) =>
      bn1 (LF_X12_check_21 N N y0 u4 y2 (0 : Int32) I L R) fun z11 =>
      wr (y2 + (1 : Int32)) fun (u13 : Int32) =>
      LF_X12_check_4 N k y0 z11 u13 I L R
def F_X12_check (N : Nat) (x0 : Nat) (I : MI) (L : ML) (R : MR) : Option (Int32) :=
  if kd x0 = 11 ∧ x0 < NN then
  bn1 (LF_X12_check_4 N N x0 (0 : Int32) (0 : Int32) I L R) fun z14 =>
  some (z14)
  else none
set_option maxRecDepth 100000 in
set_option maxHeartbeats 4000000 in
theorem lp_X12_check_21 {G : Gm} (C0 : Cx G (yX12_check.cls) cX12_check (some .int)) (eNL : G.nL = 4) (erm : G.rm = ({ frames := 0, cells := 0, slots := 0, locals := 0 } : Room)) (N : Nat) : ∀ (k : Nat) (y0 : Nat) (y1 : Int32) (y2 : Int32) (y3 : Int32) (I : MI) (L : ML) (R : MR) (z : Int32) (hk0 : kd y0 = 11) (ho0 : y0 < NN), LF_X12_check_21 N k y0 y1 y2 y3 I L R = some z → ∀ f : State → Prop, V G f 57 [(0, .ref (G.ad y0)), (1, .int z), (2, .int y2)] [] I L R → V G f 21 [(0, .ref (G.ad y0)), (1, .int y1), (2, .int y2), (3, .int y3)] [] I L R := by
  intro k
  induction k with
  | zero =>
    intro y0 y1 y2 y3 I L R q hk0 ho0 h
    exact absurd h (by simp [LF_X12_check_21])
  | succ k ih =>
    intro y0 y1 y2 y3 I L R q hk0 ho0 h f kx
    rw [LF_X12_check_21] at h
    refine V_iload_n C0 3 rfl rfl dX12_check_21 ?_
    refine V_bipush C0 (v := (8 : Int32)) (by decide) dX12_check_22 ?_
    refine V_icmp_ge C0 (tgt := 57) (by decide) dX12_check_24 (fun c5 => ?_) (fun c5 => ?_)
    · have h := (if_pos c5).symm.trans h
      cases h
      exact V_sub [0, 1, 2] rfl kx
    · have h := (if_neg c5).symm.trans h
      refine V_iload_n C0 1 rfl rfl dX12_check_27 ?_
      refine V_sipush C0 (v := (128 : Int32)) (by decide) dX12_check_28 ?_
      obtain ⟨s6, q7, h⟩ := bn1_some h
      have k8 : V G f 50 [(0, .ref (G.ad y0)), (2, .int y2), (3, .int y3)] [.int s6] I L R := by
        refine V_istore_n C0 [(1, .int s6), (0, .ref (G.ad y0)), (2, .int y2), (3, .int y3)] rfl (by rw [eNL]; decide) rfl dX12_check_50 ?_
        obtain ⟨u10, eu10, h⟩ := wr_some h
        refine V_iinc C0 3 [(3, .int u10), (1, .int s6), (0, .ref (G.ad y0)), (2, .int y2)] rfl (n := 1) (by rw [eu10]; rfl) (by rw [eNL]; decide) rfl dX12_check_51 ?_
        refine V_goto C0 (tgt := 21) (by decide) dX12_check_54 ?_
        exact V_sub [2, 1, 3, 0] rfl (ih y0 s6 y2 u10 I L R _ hk0 ho0 h f kx)
      refine V_icmp_lt C0 (tgt := 47) (by decide) dX12_check_31 (fun c9 => ?_) (fun c9 => ?_)
      · have q7 := (if_pos c9).symm.trans q7
        refine V_iconst C0 (v := (2 : Int32)) (by decide) dX12_check_47 ?_
        refine V_iload_n C0 1 rfl rfl dX12_check_48 ?_
        refine V_imul C0 dX12_check_49 ?_
        cases q7
        exact V_sub [0, 2, 3] rfl k8
      · have q7 := (if_neg c9).symm.trans q7
        refine V_iconst C0 (v := (2 : Int32)) (by decide) dX12_check_34 ?_
        refine V_iload_n C0 1 rfl rfl dX12_check_35 ?_
        refine V_imul C0 dX12_check_36 ?_
        refine V_sipush C0 (v := (256 : Int32)) (by decide) dX12_check_37 ?_
        refine V_irem C0 (by decide) dX12_check_40 ?_
        refine V_bipush C0 (v := (7 : Int32)) (by decide) dX12_check_41 ?_
        refine V_ixor C0 dX12_check_43 ?_
        refine V_goto C0 (tgt := 50) (by decide) dX12_check_44 ?_
        cases q7
        exact V_sub [0, 2, 3] rfl k8
set_option maxRecDepth 100000 in
set_option maxHeartbeats 4000000 in
theorem lp_X12_check_4 {G : Gm} (C0 : Cx G (yX12_check.cls) cX12_check (some .int)) (eNL : G.nL = 4) (erm : G.rm = ({ frames := 0, cells := 0, slots := 0, locals := 0 } : Room)) (N : Nat) : ∀ (k : Nat) (y0 : Nat) (y1 : Int32) (y2 : Int32) (I : MI) (L : ML) (R : MR) (z : Int32) (hk0 : kd y0 = 11) (ho0 : y0 < NN), LF_X12_check_4 N k y0 y1 y2 I L R = some z → ∀ f : State → Prop, V G f 63 [(1, .int z)] [] I L R → V G f 4 [(0, .ref (G.ad y0)), (1, .int y1), (2, .int y2)] [] I L R := by
  intro k
  induction k with
  | zero =>
    intro y0 y1 y2 I L R q hk0 ho0 h
    exact absurd h (by simp [LF_X12_check_4])
  | succ k ih =>
    intro y0 y1 y2 I L R q hk0 ho0 h f kx
    rw [LF_X12_check_4] at h
    refine V_iload_n C0 2 rfl rfl dX12_check_4 ?_
    refine V_bipush C0 (v := (11 : Int32)) (by decide) dX12_check_5 ?_
    refine V_icmp_ge C0 (tgt := 63) (by decide) dX12_check_7 (fun c1 => ?_) (fun c1 => ?_)
    · have h := (if_pos c1).symm.trans h
      cases h
      exact V_sub [1] rfl kx
    · have h := (if_neg c1).symm.trans h
      refine V_iload_n C0 1 rfl rfl dX12_check_10 ?_
      refine V_aload_n C0 0 rfl rfl dX12_check_11 ?_
      obtain ⟨a2, qa2, h⟩ := bnd_some h
      refine V_getR C0 11 63 fl_X12_109 ho0 hk0 rfl (rf_at qa2) dX12_check_12 ?_
      refine V_iload_n C0 2 rfl rfl dX12_check_15 ?_
      obtain ⟨v3, qv3, h⟩ := bnd_some h
      refine V_ri C0 (rf_lt qa2) (rf_kd qa2) qv3 dX12_check_16 ?_
      refine V_ixor C0 dX12_check_17 ?_
      obtain ⟨u4, eu4, h⟩ := wr_some h
      rw [← eu4]
      refine V_istore_n C0 [(1, .int u4), (0, .ref (G.ad y0)), (2, .int y2)] rfl (by rw [eNL]; decide) rfl dX12_check_18 ?_
      refine V_iconst C0 (v := (0 : Int32)) (by decide) dX12_check_19 ?_
      refine V_istore_n C0 [(3, .int (0 : Int32)), (1, .int u4), (0, .ref (G.ad y0)), (2, .int y2)] rfl (by rw [eNL]; decide) rfl dX12_check_20 ?_
      obtain ⟨z11, q12, h⟩ := bn1_some h
      refine V_sub [2, 1, 3, 0] rfl (lp_X12_check_21 C0 eNL erm N N y0 u4 y2 (0 : Int32) I L R _ hk0 ho0 q12 _ ?_)
      show V G _ 57 [(0, .ref (G.ad y0)), (1, .int z11), (2, .int y2)] [] I L R
      obtain ⟨u13, eu13, h⟩ := wr_some h
      refine V_iinc C0 2 [(2, .int u13), (0, .ref (G.ad y0)), (1, .int z11)] rfl (n := 1) (by rw [eu13]; rfl) (by rw [eNL]; decide) rfl dX12_check_57 ?_
      refine V_goto C0 (tgt := 4) (by decide) dX12_check_60 ?_
      exact V_sub [1, 2, 0] rfl (ih y0 z11 u13 I L R _ hk0 ho0 h f kx)
set_option maxRecDepth 100000 in
set_option maxHeartbeats 4000000 in
theorem c_X12_check (l : Launch) (D : va_G) (cA : Nat → ClassId) (ad : Nat → Nat) (bs : Nat) (X : State → Prop) (hAd : Ax ad bs) (hX : Stb bs X) (N : Nat) (x0 : Nat) (I : MI) (L : ML) (R : MR) (r : Int32) (h : F_X12_check N x0 I L R = some (r)) : Cn l D cA ad bs X yX12_check cX12_check 4 (some .int) 0 0 [.ref (ad x0)] I L R (some (.int r), I, L, R) := by
  refine Cn.ofV hAd hX [(0, .ref (ad x0))] rfl (Nat.le_of_ble_eq_true rfl) (by decide) ?_
  intro G el eD ecA ead ebs eX erm eNL C0
  subst el eD ecA ead ebs eX
  unfold F_X12_check at h
  obtain ⟨c_x0, h⟩ := ite_some h
  refine V_iconst C0 (v := (0 : Int32)) (by decide) dX12_check_0 ?_
  refine V_istore_n C0 [(1, .int (0 : Int32)), (0, .ref (G.ad x0))] rfl (by rw [eNL]; decide) rfl dX12_check_1 ?_
  refine V_iconst C0 (v := (0 : Int32)) (by decide) dX12_check_2 ?_
  refine V_istore_n C0 [(2, .int (0 : Int32)), (1, .int (0 : Int32)), (0, .ref (G.ad x0))] rfl (by rw [eNL]; decide) rfl dX12_check_3 ?_
  obtain ⟨z14, q15, h⟩ := bn1_some h
  refine V_sub [2, 1, 0] rfl (lp_X12_check_4 C0 eNL erm N N x0 (0 : Int32) (0 : Int32) I L R _ c_x0.1 c_x0.2 q15 _ ?_)
  show V G _ 63 [(1, .int z14)] [] I L R
  refine V_iload_n C0 0 rfl rfl dX12_check_63 ?_
  cases h
  exact V_iret C0 dX12_check_64
theorem dX12_frames_0 : decode cX12_frames 0 = .ok (.aload_n 0, 1) := by decide +kernel
theorem dX12_frames_1 : decode cX12_frames 1 = .ok (.getfield 306, 3) := by decide +kernel
theorem dX12_frames_4 : decode cX12_frames 4 = .ok (.bipush 25, 2) := by decide +kernel
theorem dX12_frames_6 : decode cX12_frames 6 = .ok (.irem, 1) := by decide +kernel
theorem dX12_frames_7 : decode cX12_frames 7 = .ok (.bipush 24, 2) := by decide +kernel
theorem dX12_frames_9 : decode cX12_frames 9 = .ok (.if_icmp .eq 4, 3) := by decide +kernel
theorem dX12_frames_12 : decode cX12_frames 12 = .ok (.return_, 1) := by decide +kernel
theorem dX12_frames_13 : decode cX12_frames 13 = .ok (.aload_n 0, 1) := by decide +kernel
theorem dX12_frames_14 : decode cX12_frames 14 = .ok (.getfield 109, 3) := by decide +kernel
theorem dX12_frames_17 : decode cX12_frames 17 = .ok (.iconst 0, 1) := by decide +kernel
theorem dX12_frames_18 : decode cX12_frames 18 = .ok (.sipush 165, 3) := by decide +kernel
theorem dX12_frames_21 : decode cX12_frames 21 = .ok (.iastore, 1) := by decide +kernel
theorem dX12_frames_22 : decode cX12_frames 22 = .ok (.aload_n 0, 1) := by decide +kernel
theorem dX12_frames_23 : decode cX12_frames 23 = .ok (.getfield 109, 3) := by decide +kernel
theorem dX12_frames_26 : decode cX12_frames 26 = .ok (.iconst 1, 1) := by decide +kernel
theorem dX12_frames_27 : decode cX12_frames 27 = .ok (.aload_n 0, 1) := by decide +kernel
theorem dX12_frames_28 : decode cX12_frames 28 = .ok (.getfield 306, 3) := by decide +kernel
theorem dX12_frames_31 : decode cX12_frames 31 = .ok (.sipush 256, 3) := by decide +kernel
theorem dX12_frames_34 : decode cX12_frames 34 = .ok (.idiv, 1) := by decide +kernel
theorem dX12_frames_35 : decode cX12_frames 35 = .ok (.sipush 256, 3) := by decide +kernel
theorem dX12_frames_38 : decode cX12_frames 38 = .ok (.irem, 1) := by decide +kernel
theorem dX12_frames_39 : decode cX12_frames 39 = .ok (.iastore, 1) := by decide +kernel
theorem dX12_frames_40 : decode cX12_frames 40 = .ok (.aload_n 0, 1) := by decide +kernel
theorem dX12_frames_41 : decode cX12_frames 41 = .ok (.getfield 109, 3) := by decide +kernel
theorem dX12_frames_44 : decode cX12_frames 44 = .ok (.iconst 2, 1) := by decide +kernel
theorem dX12_frames_45 : decode cX12_frames 45 = .ok (.aload_n 0, 1) := by decide +kernel
theorem dX12_frames_46 : decode cX12_frames 46 = .ok (.getfield 306, 3) := by decide +kernel
theorem dX12_frames_49 : decode cX12_frames 49 = .ok (.sipush 256, 3) := by decide +kernel
theorem dX12_frames_52 : decode cX12_frames 52 = .ok (.irem, 1) := by decide +kernel
theorem dX12_frames_53 : decode cX12_frames 53 = .ok (.iastore, 1) := by decide +kernel
theorem dX12_frames_54 : decode cX12_frames 54 = .ok (.aload_n 0, 1) := by decide +kernel
theorem dX12_frames_55 : decode cX12_frames 55 = .ok (.getfield 109, 3) := by decide +kernel
theorem dX12_frames_58 : decode cX12_frames 58 = .ok (.iconst 3, 1) := by decide +kernel
theorem dX12_frames_59 : decode cX12_frames 59 = .ok (.aload_n 0, 1) := by decide +kernel
theorem dX12_frames_60 : decode cX12_frames 60 = .ok (.getfield 309, 3) := by decide +kernel
theorem dX12_frames_63 : decode cX12_frames 63 = .ok (.iastore, 1) := by decide +kernel
theorem dX12_frames_64 : decode cX12_frames 64 = .ok (.aload_n 0, 1) := by decide +kernel
theorem dX12_frames_65 : decode cX12_frames 65 = .ok (.getfield 109, 3) := by decide +kernel
theorem dX12_frames_68 : decode cX12_frames 68 = .ok (.iconst 4, 1) := by decide +kernel
theorem dX12_frames_69 : decode cX12_frames 69 = .ok (.aload_n 0, 1) := by decide +kernel
theorem dX12_frames_70 : decode cX12_frames 70 = .ok (.invokevirtual 436, 3) := by decide +kernel
theorem dX12_frames_73 : decode cX12_frames 73 = .ok (.iastore, 1) := by decide +kernel
theorem dX12_frames_74 : decode cX12_frames 74 = .ok (.aload_n 0, 1) := by decide +kernel
theorem dX12_frames_75 : decode cX12_frames 75 = .ok (.getfield 109, 3) := by decide +kernel
theorem dX12_frames_78 : decode cX12_frames 78 = .ok (.iconst 5, 1) := by decide +kernel
theorem dX12_frames_79 : decode cX12_frames 79 = .ok (.aload_n 0, 1) := by decide +kernel
theorem dX12_frames_80 : decode cX12_frames 80 = .ok (.getfield 336, 3) := by decide +kernel
theorem dX12_frames_83 : decode cX12_frames 83 = .ok (.iastore, 1) := by decide +kernel
theorem dX12_frames_84 : decode cX12_frames 84 = .ok (.iconst 0, 1) := by decide +kernel
theorem dX12_frames_85 : decode cX12_frames 85 = .ok (.istore_n 1, 1) := by decide +kernel
theorem dX12_frames_86 : decode cX12_frames 86 = .ok (.iload_n 1, 1) := by decide +kernel
theorem dX12_frames_87 : decode cX12_frames 87 = .ok (.iconst 3, 1) := by decide +kernel
theorem dX12_frames_88 : decode cX12_frames 88 = .ok (.if_icmp .ge 27, 3) := by decide +kernel
theorem dX12_frames_91 : decode cX12_frames 91 = .ok (.aload_n 0, 1) := by decide +kernel
theorem dX12_frames_92 : decode cX12_frames 92 = .ok (.getfield 109, 3) := by decide +kernel
theorem dX12_frames_95 : decode cX12_frames 95 = .ok (.bipush 6, 2) := by decide +kernel
theorem dX12_frames_97 : decode cX12_frames 97 = .ok (.iload_n 1, 1) := by decide +kernel
theorem dX12_frames_98 : decode cX12_frames 98 = .ok (.iadd, 1) := by decide +kernel
theorem dX12_frames_99 : decode cX12_frames 99 = .ok (.aload_n 0, 1) := by decide +kernel
theorem dX12_frames_100 : decode cX12_frames 100 = .ok (.getfield 68, 3) := by decide +kernel
theorem dX12_frames_103 : decode cX12_frames 103 = .ok (.iload_n 1, 1) := by decide +kernel
theorem dX12_frames_104 : decode cX12_frames 104 = .ok (.iaload, 1) := by decide +kernel
theorem dX12_frames_105 : decode cX12_frames 105 = .ok (.bipush 16, 2) := by decide +kernel
theorem dX12_frames_107 : decode cX12_frames 107 = .ok (.idiv, 1) := by decide +kernel
theorem dX12_frames_108 : decode cX12_frames 108 = .ok (.iastore, 1) := by decide +kernel
theorem dX12_frames_109 : decode cX12_frames 109 = .ok (.iinc 1 1, 3) := by decide +kernel
theorem dX12_frames_112 : decode cX12_frames 112 = .ok (.goto (-26), 3) := by decide +kernel
theorem dX12_frames_115 : decode cX12_frames 115 = .ok (.aload_n 0, 1) := by decide +kernel
theorem dX12_frames_116 : decode cX12_frames 116 = .ok (.getfield 109, 3) := by decide +kernel
theorem dX12_frames_119 : decode cX12_frames 119 = .ok (.bipush 9, 2) := by decide +kernel
theorem dX12_frames_121 : decode cX12_frames 121 = .ok (.aload_n 0, 1) := by decide +kernel
theorem dX12_frames_122 : decode cX12_frames 122 = .ok (.iconst 1, 1) := by decide +kernel
theorem dX12_frames_123 : decode cX12_frames 123 = .ok (.invokevirtual 439, 3) := by decide +kernel
theorem dX12_frames_126 : decode cX12_frames 126 = .ok (.iastore, 1) := by decide +kernel
theorem dX12_frames_127 : decode cX12_frames 127 = .ok (.aload_n 0, 1) := by decide +kernel
theorem dX12_frames_128 : decode cX12_frames 128 = .ok (.getfield 109, 3) := by decide +kernel
theorem dX12_frames_131 : decode cX12_frames 131 = .ok (.bipush 10, 2) := by decide +kernel
theorem dX12_frames_133 : decode cX12_frames 133 = .ok (.aload_n 0, 1) := by decide +kernel
theorem dX12_frames_134 : decode cX12_frames 134 = .ok (.iconst 0, 1) := by decide +kernel
theorem dX12_frames_135 : decode cX12_frames 135 = .ok (.invokevirtual 439, 3) := by decide +kernel
theorem dX12_frames_138 : decode cX12_frames 138 = .ok (.iastore, 1) := by decide +kernel
theorem dX12_frames_139 : decode cX12_frames 139 = .ok (.aload_n 0, 1) := by decide +kernel
theorem dX12_frames_140 : decode cX12_frames 140 = .ok (.getfield 109, 3) := by decide +kernel
theorem dX12_frames_143 : decode cX12_frames 143 = .ok (.bipush 11, 2) := by decide +kernel
theorem dX12_frames_145 : decode cX12_frames 145 = .ok (.aload_n 0, 1) := by decide +kernel
theorem dX12_frames_146 : decode cX12_frames 146 = .ok (.invokevirtual 443, 3) := by decide +kernel
theorem dX12_frames_149 : decode cX12_frames 149 = .ok (.iastore, 1) := by decide +kernel
theorem dX12_frames_150 : decode cX12_frames 150 = .ok (.iconst (-1), 1) := by decide +kernel
theorem dX12_frames_151 : decode cX12_frames 151 = .ok (.istore_n 1, 1) := by decide +kernel
theorem dX12_frames_152 : decode cX12_frames 152 = .ok (.aload_n 0, 1) := by decide +kernel
theorem dX12_frames_153 : decode cX12_frames 153 = .ok (.getfield 297, 3) := by decide +kernel
theorem dX12_frames_156 : decode cX12_frames 156 = .ok (.iconst 1, 1) := by decide +kernel
theorem dX12_frames_157 : decode cX12_frames 157 = .ok (.isub, 1) := by decide +kernel
theorem dX12_frames_158 : decode cX12_frames 158 = .ok (.istore_n 2, 1) := by decide +kernel
theorem dX12_frames_159 : decode cX12_frames 159 = .ok (.iload_n 2, 1) := by decide +kernel
theorem dX12_frames_160 : decode cX12_frames 160 = .ok (.ifCond .lt 34, 3) := by decide +kernel
theorem dX12_frames_163 : decode cX12_frames 163 = .ok (.aload_n 0, 1) := by decide +kernel
theorem dX12_frames_164 : decode cX12_frames 164 = .ok (.iload_n 2, 1) := by decide +kernel
theorem dX12_frames_165 : decode cX12_frames 165 = .ok (.iconst 5, 1) := by decide +kernel
theorem dX12_frames_166 : decode cX12_frames 166 = .ok (.invokevirtual 217, 3) := by decide +kernel
theorem dX12_frames_169 : decode cX12_frames 169 = .ok (.ifCond .eq 17, 3) := by decide +kernel
theorem dX12_frames_172 : decode cX12_frames 172 = .ok (.aload_n 0, 1) := by decide +kernel
theorem dX12_frames_173 : decode cX12_frames 173 = .ok (.iload_n 2, 1) := by decide +kernel
theorem dX12_frames_174 : decode cX12_frames 174 = .ok (.bipush 12, 2) := by decide +kernel
theorem dX12_frames_176 : decode cX12_frames 176 = .ok (.invokevirtual 387, 3) := by decide +kernel
theorem dX12_frames_179 : decode cX12_frames 179 = .ok (.ifCond .eq 7, 3) := by decide +kernel
theorem dX12_frames_182 : decode cX12_frames 182 = .ok (.iload_n 2, 1) := by decide +kernel
theorem dX12_frames_183 : decode cX12_frames 183 = .ok (.goto 4, 3) := by decide +kernel
theorem dX12_frames_186 : decode cX12_frames 186 = .ok (.iload_n 1, 1) := by decide +kernel
theorem dX12_frames_187 : decode cX12_frames 187 = .ok (.istore_n 1, 1) := by decide +kernel
theorem dX12_frames_188 : decode cX12_frames 188 = .ok (.iinc 2 (-1), 3) := by decide +kernel
theorem dX12_frames_191 : decode cX12_frames 191 = .ok (.goto (-32), 3) := by decide +kernel
theorem dX12_frames_194 : decode cX12_frames 194 = .ok (.iload_n 1, 1) := by decide +kernel
theorem dX12_frames_195 : decode cX12_frames 195 = .ok (.iconst (-1), 1) := by decide +kernel
theorem dX12_frames_196 : decode cX12_frames 196 = .ok (.if_icmp .ne 14, 3) := by decide +kernel
theorem dX12_frames_199 : decode cX12_frames 199 = .ok (.aload_n 0, 1) := by decide +kernel
theorem dX12_frames_200 : decode cX12_frames 200 = .ok (.dup, 1) := by decide +kernel
theorem dX12_frames_201 : decode cX12_frames 201 = .ok (.getfield 321, 3) := by decide +kernel
theorem dX12_frames_204 : decode cX12_frames 204 = .ok (.iconst 1, 1) := by decide +kernel
theorem dX12_frames_205 : decode cX12_frames 205 = .ok (.iadd, 1) := by decide +kernel
theorem dX12_frames_206 : decode cX12_frames 206 = .ok (.putfield 321, 3) := by decide +kernel
theorem dX12_frames_209 : decode cX12_frames 209 = .ok (.return_, 1) := by decide +kernel
theorem dX12_frames_210 : decode cX12_frames 210 = .ok (.iconst 0, 1) := by decide +kernel
theorem dX12_frames_211 : decode cX12_frames 211 = .ok (.istore_n 2, 1) := by decide +kernel
theorem dX12_frames_212 : decode cX12_frames 212 = .ok (.iload_n 2, 1) := by decide +kernel
theorem dX12_frames_213 : decode cX12_frames 213 = .ok (.bipush 12, 2) := by decide +kernel
theorem dX12_frames_215 : decode cX12_frames 215 = .ok (.if_icmp .ge 20, 3) := by decide +kernel
theorem dX12_frames_218 : decode cX12_frames 218 = .ok (.aload_n 0, 1) := by decide +kernel
theorem dX12_frames_219 : decode cX12_frames 219 = .ok (.iload_n 1, 1) := by decide +kernel
theorem dX12_frames_220 : decode cX12_frames 220 = .ok (.aload_n 0, 1) := by decide +kernel
theorem dX12_frames_221 : decode cX12_frames 221 = .ok (.getfield 109, 3) := by decide +kernel
theorem dX12_frames_224 : decode cX12_frames 224 = .ok (.iload_n 2, 1) := by decide +kernel
theorem dX12_frames_225 : decode cX12_frames 225 = .ok (.iaload, 1) := by decide +kernel
theorem dX12_frames_226 : decode cX12_frames 226 = .ok (.invokevirtual 390, 3) := by decide +kernel
theorem dX12_frames_229 : decode cX12_frames 229 = .ok (.iinc 2 1, 3) := by decide +kernel
theorem dX12_frames_232 : decode cX12_frames 232 = .ok (.goto (-20), 3) := by decide +kernel
theorem dX12_frames_235 : decode cX12_frames 235 = .ok (.aload_n 0, 1) := by decide +kernel
theorem dX12_frames_236 : decode cX12_frames 236 = .ok (.dup, 1) := by decide +kernel
theorem dX12_frames_237 : decode cX12_frames 237 = .ok (.getfield 318, 3) := by decide +kernel
theorem dX12_frames_240 : decode cX12_frames 240 = .ok (.iconst 1, 1) := by decide +kernel
theorem dX12_frames_241 : decode cX12_frames 241 = .ok (.iadd, 1) := by decide +kernel
theorem dX12_frames_242 : decode cX12_frames 242 = .ok (.putfield 318, 3) := by decide +kernel
theorem dX12_frames_245 : decode cX12_frames 245 = .ok (.return_, 1) := by decide +kernel
def LF_X12_frames_86 (N : Nat) : Nat → Nat → Int32 → MI → ML → MR → Option (MI)
  | 0, _, _, _, _, _ => none
  | k + 1, y0, y1, I, L, R =>
    if (3 : Int32) ≤ y1 then
      some (I)
    else
      (rf R y0 63 20).bind fun a12 =>
      (rf R y0 36 20).bind fun a13 =>
      (ri I a13 y1).bind fun v14 =>
      (wi I a12 ((6 : Int32) + y1) (v14 / (16 : Int32))).bind fun I15 =>
      wr (y1 + (1 : Int32)) fun (u16 : Int32) =>
      LF_X12_frames_86 N k y0 u16 I15 L R
def LF_X12_frames_159 (N : Nat) : Nat → Nat → Int32 → Int32 → MI → ML → MR → Option (Int32)
  | 0, _, _, _, _, _, _ => none
  | k + 1, y0, y1, y2, I, L, R =>
    if y2 < 0 then
      some (y1)
    else
      bn1 (F_X12_isA N y0 y2 (5 : Int32) I L R) fun b30 =>
      bn1 (
        if (b2i b30) = 0 then
          some (y1)
        else
          bn1 (F_X12_hasRoom y0 y2 (12 : Int32) I L R) fun b36 =>
          bn1 (
            if (b2i b36) = 0 then
              some (y1)
            else
              some (y2)
          ) fun (s38 : Int32) =>
          some (s38)
      ) fun (s32 : Int32) =>
      wr (y2 + (-1 : Int32)) fun (u42 : Int32) =>
      LF_X12_frames_159 N k y0 s32 u42 I L R
def LF_X12_frames_212 (N : Nat) : Nat → Nat → Int32 → Int32 → MI → ML → MR → Option (MI)
  | 0, _, _, _, _, _, _ => none
  | k + 1, y0, y1, y2, I, L, R =>
    if (12 : Int32) ≤ y2 then
      some (I)
    else
      (rf R y0 63 20).bind fun a47 =>
      (ri I a47 y2).bind fun v48 =>
      bn1 (F_X12_keep y0 y1 v48 I L R) fun I49 =>
      wr (y2 + (1 : Int32)) fun (u51 : Int32) =>
      LF_X12_frames_212 N k y0 y1 u51 I49 L R
def F_X12_frames (N : Nat) (x0 : Nat) (I : MI) (L : ML) (R : MR) : Option (MI) :=
  if kd x0 = 11 ∧ x0 < NN then
  if (iR (I x0 34) (25 : Int32)) = (24 : Int32) then
    (rf R x0 63 20).bind fun a2 =>
    (wi I a2 (0 : Int32) (165 : Int32)).bind fun I3 =>
    (wi I3 a2 (1 : Int32) (iR ((I3 x0 34) / (256 : Int32)) (256 : Int32))).bind fun I4 =>
    (wi I4 a2 (2 : Int32) (iR (I4 x0 34) (256 : Int32))).bind fun I5 =>
    (wi I5 a2 (3 : Int32) (I5 x0 35)).bind fun I6 =>
    bn1 (F_X12_charge N x0 I6 L R) fun v7 =>
    (wi I6 a2 (4 : Int32) v7).bind fun I9 =>
    (wi I9 a2 (5 : Int32) (I9 x0 47)).bind fun I10 =>
    bn1 (LF_X12_frames_86 N N x0 (0 : Int32) I10 L R) fun z17 =>
    bn1 (F_X12_howMany N x0 (1 : Int32) z17 L R) fun v19 =>
    (wi z17 a2 (9 : Int32) v19).bind fun I21 =>
    bn1 (F_X12_howMany N x0 (0 : Int32) I21 L R) fun v22 =>
    (wi I21 a2 (10 : Int32) v22).bind fun I24 =>
    bn1 (F_X12_check N x0 I24 L R) fun v25 =>
    (wi I24 a2 (11 : Int32) v25).bind fun I27 =>
    wr ((I27 x0 21) - (1 : Int32)) fun (u28 : Int32) =>
    bn1 (LF_X12_frames_159 N N x0 (-1 : Int32) u28 I27 L R) fun z43 =>
    if z43 = (-1 : Int32) then
      wr (uI I27 x0 42 ((I27 x0 42) + (1 : Int32))) fun (I55 : MI) =>
      some (I55)
    else
      bn1 (LF_X12_frames_212 N N x0 z43 (0 : Int32) I27 L R) fun z52 =>
      wr (uI z52 x0 41 ((z52 x0 41) + (1 : Int32))) fun (I54 : MI) =>
      some (I54)
  else
    some (I)
  else none
set_option maxRecDepth 100000 in
set_option maxHeartbeats 4000000 in
theorem lp_X12_frames_86 {G : Gm} (C0 : Cx G (yX12_frames.cls) cX12_frames none) (eNL : G.nL = 3) (erm : G.rm = ({ frames := 4, cells := 0, slots := 0, locals := 89 } : Room)) (N : Nat) : ∀ (k : Nat) (y0 : Nat) (y1 : Int32) (I : MI) (L : ML) (R : MR) (z : MI) (hk0 : kd y0 = 11) (ho0 : y0 < NN), LF_X12_frames_86 N k y0 y1 I L R = some z → ∀ f : State → Prop, V G f 115 [(0, .ref (G.ad y0))] [] z L R → V G f 86 [(0, .ref (G.ad y0)), (1, .int y1)] [] I L R := by
  intro k
  induction k with
  | zero =>
    intro y0 y1 I L R q hk0 ho0 h
    exact absurd h (by simp [LF_X12_frames_86])
  | succ k ih =>
    intro y0 y1 I L R q hk0 ho0 h f kx
    rw [LF_X12_frames_86] at h
    refine V_iload_n C0 1 rfl rfl dX12_frames_86 ?_
    refine V_iconst C0 (v := (3 : Int32)) (by decide) dX12_frames_87 ?_
    refine V_icmp_ge C0 (tgt := 115) (by decide) dX12_frames_88 (fun c11 => ?_) (fun c11 => ?_)
    · have h := (if_pos c11).symm.trans h
      cases h
      exact V_sub [0] rfl kx
    · have h := (if_neg c11).symm.trans h
      refine V_aload_n C0 0 rfl rfl dX12_frames_91 ?_
      obtain ⟨a12, qa12, h⟩ := bnd_some h
      refine V_getR C0 11 63 fl_X12_109 ho0 hk0 rfl (rf_at qa12) dX12_frames_92 ?_
      refine V_bipush C0 (v := (6 : Int32)) (by decide) dX12_frames_95 ?_
      refine V_iload_n C0 1 rfl rfl dX12_frames_97 ?_
      refine V_iadd C0 dX12_frames_98 ?_
      refine V_aload_n C0 0 rfl rfl dX12_frames_99 ?_
      obtain ⟨a13, qa13, h⟩ := bnd_some h
      refine V_getR C0 11 36 fl_X12_68 ho0 hk0 rfl (rf_at qa13) dX12_frames_100 ?_
      refine V_iload_n C0 1 rfl rfl dX12_frames_103 ?_
      obtain ⟨v14, qv14, h⟩ := bnd_some h
      refine V_ri C0 (rf_lt qa13) (rf_kd qa13) qv14 dX12_frames_104 ?_
      refine V_bipush C0 (v := (16 : Int32)) (by decide) dX12_frames_105 ?_
      refine V_idiv C0 (by decide) dX12_frames_107 ?_
      obtain ⟨I15, qI15, h⟩ := bnd_some h
      refine V_wi C0 (rf_lt qa12) (rf_kd qa12) qI15 dX12_frames_108 ?_
      obtain ⟨u16, eu16, h⟩ := wr_some h
      refine V_iinc C0 1 [(1, .int u16), (0, .ref (G.ad y0))] rfl (n := 1) (by rw [eu16]; rfl) (by rw [eNL]; decide) rfl dX12_frames_109 ?_
      refine V_goto C0 (tgt := 86) (by decide) dX12_frames_112 ?_
      exact V_sub [1, 0] rfl (ih y0 u16 I15 L R _ hk0 ho0 h f kx)
set_option maxRecDepth 100000 in
set_option maxHeartbeats 4000000 in
theorem lp_X12_frames_159 {G : Gm} (C0 : Cx G (yX12_frames.cls) cX12_frames none) (eNL : G.nL = 3) (erm : G.rm = ({ frames := 4, cells := 0, slots := 0, locals := 89 } : Room)) (N : Nat) : ∀ (k : Nat) (y0 : Nat) (y1 : Int32) (y2 : Int32) (I : MI) (L : ML) (R : MR) (z : Int32) (hk0 : kd y0 = 11) (ho0 : y0 < NN), LF_X12_frames_159 N k y0 y1 y2 I L R = some z → ∀ f : State → Prop, V G f 194 [(0, .ref (G.ad y0)), (1, .int z)] [] I L R → V G f 159 [(0, .ref (G.ad y0)), (1, .int y1), (2, .int y2)] [] I L R := by
  intro k
  induction k with
  | zero =>
    intro y0 y1 y2 I L R q hk0 ho0 h
    exact absurd h (by simp [LF_X12_frames_159])
  | succ k ih =>
    intro y0 y1 y2 I L R q hk0 ho0 h f kx
    rw [LF_X12_frames_159] at h
    refine V_iload_n C0 2 rfl rfl dX12_frames_159 ?_
    refine V_if_lt C0 (tgt := 194) (by decide) dX12_frames_160 (fun c29 => ?_) (fun c29 => ?_)
    · have h := (if_pos c29).symm.trans h
      cases h
      exact V_sub [0, 1] rfl kx
    · have h := (if_neg c29).symm.trans h
      refine V_aload_n C0 0 rfl rfl dX12_frames_163 ?_
      refine V_iload_n C0 2 rfl rfl dX12_frames_164 ?_
      refine V_iconst C0 (v := (5 : Int32)) (by decide) dX12_frames_165 ?_
      obtain ⟨b30, q31, h⟩ := bn1_some h
      refine V_callV C0 (st := []) (As := [.int y2, .int (5 : Int32)]) 11 (c_X12_isA G.l G.D G.cA G.ad G.bs G.X C0.2.2.2.2.2.2.2.2.2.1 C0.2.2.2.2.2.2.2.2.2.2.2.2 N y0 y2 (5 : Int32) I L R b30 q31) lc_X12_isA lk_X12_217 ho0 hk0 ⟨_, rfl, rfl⟩ rfl (by rw [erm]; decide) (Nat.le_of_ble_eq_true rfl) dX12_frames_166 ?_
      show V G _ 169 [(0, .ref (G.ad y0)), (1, .int y1), (2, .int y2)] [.int (b2i b30)] I L R
      obtain ⟨s32, q33, h⟩ := bn1_some h
      have k34 : V G f 187 [(0, .ref (G.ad y0)), (2, .int y2)] [.int s32] I L R := by
        refine V_istore_n C0 [(1, .int s32), (0, .ref (G.ad y0)), (2, .int y2)] rfl (by rw [eNL]; decide) rfl dX12_frames_187 ?_
        obtain ⟨u42, eu42, h⟩ := wr_some h
        refine V_iinc C0 2 [(2, .int u42), (1, .int s32), (0, .ref (G.ad y0))] rfl (n := -1) (by rw [eu42]; rfl) (by rw [eNL]; decide) rfl dX12_frames_188 ?_
        refine V_goto C0 (tgt := 159) (by decide) dX12_frames_191 ?_
        exact V_sub [2, 1, 0] rfl (ih y0 s32 u42 I L R _ hk0 ho0 h f kx)
      refine V_if_eq C0 (tgt := 186) (by decide) dX12_frames_169 (fun c35 => ?_) (fun c35 => ?_)
      · have q33 := (if_pos c35).symm.trans q33
        refine V_iload_n C0 1 rfl rfl dX12_frames_186 ?_
        cases q33
        exact V_sub [0, 2] rfl k34
      · have q33 := (if_neg c35).symm.trans q33
        refine V_aload_n C0 0 rfl rfl dX12_frames_172 ?_
        refine V_iload_n C0 2 rfl rfl dX12_frames_173 ?_
        refine V_bipush C0 (v := (12 : Int32)) (by decide) dX12_frames_174 ?_
        obtain ⟨b36, q37, q33⟩ := bn1_some q33
        refine V_callV C0 (st := []) (As := [.int y2, .int (12 : Int32)]) 11 (c_X12_hasRoom G.l G.D G.cA G.ad G.bs G.X C0.2.2.2.2.2.2.2.2.2.1 C0.2.2.2.2.2.2.2.2.2.2.2.2 y0 y2 (12 : Int32) I L R b36 q37) lc_X12_hasRoom lk_X12_387 ho0 hk0 ⟨_, rfl, rfl⟩ rfl (by rw [erm]; decide) (Nat.le_of_ble_eq_true rfl) dX12_frames_176 ?_
        show V G _ 179 [(0, .ref (G.ad y0)), (1, .int y1), (2, .int y2)] [.int (b2i b36)] I L R
        obtain ⟨s38, q39, q33⟩ := bn1_some q33
        have k40 : V G f 187 [(0, .ref (G.ad y0)), (2, .int y2)] [.int s38] I L R := by
          cases q33
          exact V_sub [0, 1] rfl k34
        refine V_if_eq C0 (tgt := 186) (by decide) dX12_frames_179 (fun c41 => ?_) (fun c41 => ?_)
        · have q39 := (if_pos c41).symm.trans q39
          refine V_iload_n C0 1 rfl rfl dX12_frames_186 ?_
          cases q39
          exact V_sub [0, 2] rfl k40
        · have q39 := (if_neg c41).symm.trans q39
          refine V_iload_n C0 2 rfl rfl dX12_frames_182 ?_
          refine V_goto C0 (tgt := 187) (by decide) dX12_frames_183 ?_
          cases q39
          exact V_sub [0, 2] rfl k40
set_option maxRecDepth 100000 in
set_option maxHeartbeats 4000000 in
theorem lp_X12_frames_212 {G : Gm} (C0 : Cx G (yX12_frames.cls) cX12_frames none) (eNL : G.nL = 3) (erm : G.rm = ({ frames := 4, cells := 0, slots := 0, locals := 89 } : Room)) (N : Nat) : ∀ (k : Nat) (y0 : Nat) (y1 : Int32) (y2 : Int32) (I : MI) (L : ML) (R : MR) (z : MI) (hk0 : kd y0 = 11) (ho0 : y0 < NN), LF_X12_frames_212 N k y0 y1 y2 I L R = some z → ∀ f : State → Prop, V G f 235 [(0, .ref (G.ad y0))] [] z L R → V G f 212 [(0, .ref (G.ad y0)), (1, .int y1), (2, .int y2)] [] I L R := by
  intro k
  induction k with
  | zero =>
    intro y0 y1 y2 I L R q hk0 ho0 h
    exact absurd h (by simp [LF_X12_frames_212])
  | succ k ih =>
    intro y0 y1 y2 I L R q hk0 ho0 h f kx
    rw [LF_X12_frames_212] at h
    refine V_iload_n C0 2 rfl rfl dX12_frames_212 ?_
    refine V_bipush C0 (v := (12 : Int32)) (by decide) dX12_frames_213 ?_
    refine V_icmp_ge C0 (tgt := 235) (by decide) dX12_frames_215 (fun c46 => ?_) (fun c46 => ?_)
    · have h := (if_pos c46).symm.trans h
      cases h
      exact V_sub [0] rfl kx
    · have h := (if_neg c46).symm.trans h
      refine V_aload_n C0 0 rfl rfl dX12_frames_218 ?_
      refine V_iload_n C0 1 rfl rfl dX12_frames_219 ?_
      refine V_aload_n C0 0 rfl rfl dX12_frames_220 ?_
      obtain ⟨a47, qa47, h⟩ := bnd_some h
      refine V_getR C0 11 63 fl_X12_109 ho0 hk0 rfl (rf_at qa47) dX12_frames_221 ?_
      refine V_iload_n C0 2 rfl rfl dX12_frames_224 ?_
      obtain ⟨v48, qv48, h⟩ := bnd_some h
      refine V_ri C0 (rf_lt qa47) (rf_kd qa47) qv48 dX12_frames_225 ?_
      obtain ⟨I49, q50, h⟩ := bn1_some h
      refine V_callV C0 (st := []) (As := [.int y1, .int v48]) 11 (c_X12_keep G.l G.D G.cA G.ad G.bs G.X C0.2.2.2.2.2.2.2.2.2.1 C0.2.2.2.2.2.2.2.2.2.2.2.2 y0 y1 v48 I L R I49 q50) lc_X12_keep lk_X12_390 ho0 hk0 ⟨_, rfl, rfl⟩ rfl (by rw [erm]; decide) (Nat.le_of_ble_eq_true rfl) dX12_frames_226 ?_
      show V G _ 229 [(0, .ref (G.ad y0)), (1, .int y1), (2, .int y2)] [] I49 L R
      obtain ⟨u51, eu51, h⟩ := wr_some h
      refine V_iinc C0 2 [(2, .int u51), (0, .ref (G.ad y0)), (1, .int y1)] rfl (n := 1) (by rw [eu51]; rfl) (by rw [eNL]; decide) rfl dX12_frames_229 ?_
      refine V_goto C0 (tgt := 212) (by decide) dX12_frames_232 ?_
      exact V_sub [1, 2, 0] rfl (ih y0 y1 u51 I49 L R _ hk0 ho0 h f kx)
set_option maxRecDepth 100000 in
set_option maxHeartbeats 4000000 in
theorem c_X12_frames (l : Launch) (D : va_G) (cA : Nat → ClassId) (ad : Nat → Nat) (bs : Nat) (X : State → Prop) (hAd : Ax ad bs) (hX : Stb bs X) (N : Nat) (x0 : Nat) (I : MI) (L : ML) (R : MR) (I' : MI) (h : F_X12_frames N x0 I L R = some (I')) : Cn l D cA ad bs X yX12_frames cX12_frames 3 none 4 89 [.ref (ad x0)] I L R (none, I', L, R) := by
  refine Cn.ofV hAd hX [(0, .ref (ad x0))] rfl (Nat.le_of_ble_eq_true rfl) (by decide) ?_
  intro G el eD ecA ead ebs eX erm eNL C0
  subst el eD ecA ead ebs eX
  unfold F_X12_frames at h
  obtain ⟨c_x0, h⟩ := ite_some h
  refine V_aload_n C0 0 rfl rfl dX12_frames_0 ?_
  refine V_getI C0 11 34 fl_X12_306 c_x0.2 c_x0.1 rfl dX12_frames_1 ?_
  refine V_bipush C0 (v := (25 : Int32)) (by decide) dX12_frames_4 ?_
  refine V_irem C0 (by decide) dX12_frames_6 ?_
  refine V_bipush C0 (v := (24 : Int32)) (by decide) dX12_frames_7 ?_
  refine V_icmp_eq C0 (tgt := 13) (by decide) dX12_frames_9 (fun c1 => ?_) (fun c1 => ?_)
  · have h := (if_pos c1).symm.trans h
    refine V_aload_n C0 0 rfl rfl dX12_frames_13 ?_
    obtain ⟨a2, qa2, h⟩ := bnd_some h
    refine V_getR C0 11 63 fl_X12_109 c_x0.2 c_x0.1 rfl (rf_at qa2) dX12_frames_14 ?_
    refine V_iconst C0 (v := (0 : Int32)) (by decide) dX12_frames_17 ?_
    refine V_sipush C0 (v := (165 : Int32)) (by decide) dX12_frames_18 ?_
    obtain ⟨I3, qI3, h⟩ := bnd_some h
    refine V_wi C0 (rf_lt qa2) (rf_kd qa2) qI3 dX12_frames_21 ?_
    refine V_aload_n C0 0 rfl rfl dX12_frames_22 ?_
    refine V_getR C0 11 63 fl_X12_109 c_x0.2 c_x0.1 rfl (rf_at qa2) dX12_frames_23 ?_
    refine V_iconst C0 (v := (1 : Int32)) (by decide) dX12_frames_26 ?_
    refine V_aload_n C0 0 rfl rfl dX12_frames_27 ?_
    refine V_getI C0 11 34 fl_X12_306 c_x0.2 c_x0.1 rfl dX12_frames_28 ?_
    refine V_sipush C0 (v := (256 : Int32)) (by decide) dX12_frames_31 ?_
    refine V_idiv C0 (by decide) dX12_frames_34 ?_
    refine V_sipush C0 (v := (256 : Int32)) (by decide) dX12_frames_35 ?_
    refine V_irem C0 (by decide) dX12_frames_38 ?_
    obtain ⟨I4, qI4, h⟩ := bnd_some h
    refine V_wi C0 (rf_lt qa2) (rf_kd qa2) qI4 dX12_frames_39 ?_
    refine V_aload_n C0 0 rfl rfl dX12_frames_40 ?_
    refine V_getR C0 11 63 fl_X12_109 c_x0.2 c_x0.1 rfl (rf_at qa2) dX12_frames_41 ?_
    refine V_iconst C0 (v := (2 : Int32)) (by decide) dX12_frames_44 ?_
    refine V_aload_n C0 0 rfl rfl dX12_frames_45 ?_
    refine V_getI C0 11 34 fl_X12_306 c_x0.2 c_x0.1 rfl dX12_frames_46 ?_
    refine V_sipush C0 (v := (256 : Int32)) (by decide) dX12_frames_49 ?_
    refine V_irem C0 (by decide) dX12_frames_52 ?_
    obtain ⟨I5, qI5, h⟩ := bnd_some h
    refine V_wi C0 (rf_lt qa2) (rf_kd qa2) qI5 dX12_frames_53 ?_
    refine V_aload_n C0 0 rfl rfl dX12_frames_54 ?_
    refine V_getR C0 11 63 fl_X12_109 c_x0.2 c_x0.1 rfl (rf_at qa2) dX12_frames_55 ?_
    refine V_iconst C0 (v := (3 : Int32)) (by decide) dX12_frames_58 ?_
    refine V_aload_n C0 0 rfl rfl dX12_frames_59 ?_
    refine V_getI C0 11 35 fl_X12_309 c_x0.2 c_x0.1 rfl dX12_frames_60 ?_
    obtain ⟨I6, qI6, h⟩ := bnd_some h
    refine V_wi C0 (rf_lt qa2) (rf_kd qa2) qI6 dX12_frames_63 ?_
    refine V_aload_n C0 0 rfl rfl dX12_frames_64 ?_
    refine V_getR C0 11 63 fl_X12_109 c_x0.2 c_x0.1 rfl (rf_at qa2) dX12_frames_65 ?_
    refine V_iconst C0 (v := (4 : Int32)) (by decide) dX12_frames_68 ?_
    refine V_aload_n C0 0 rfl rfl dX12_frames_69 ?_
    obtain ⟨v7, q8, h⟩ := bn1_some h
    refine V_callV C0 (st := [.int (4 : Int32), .ref (G.ad a2)]) (As := []) 11 (c_X12_charge G.l G.D G.cA G.ad G.bs G.X C0.2.2.2.2.2.2.2.2.2.1 C0.2.2.2.2.2.2.2.2.2.2.2.2 N x0 I6 L R v7 q8) lc_X12_charge lk_X12_436 c_x0.2 c_x0.1 ⟨_, rfl, rfl⟩ rfl (by rw [erm]; decide) (Nat.le_of_ble_eq_true rfl) dX12_frames_70 ?_
    show V G _ 73 [(0, .ref (G.ad x0))] [.int v7, .int (4 : Int32), .ref (G.ad a2)] I6 L R
    obtain ⟨I9, qI9, h⟩ := bnd_some h
    refine V_wi C0 (rf_lt qa2) (rf_kd qa2) qI9 dX12_frames_73 ?_
    refine V_aload_n C0 0 rfl rfl dX12_frames_74 ?_
    refine V_getR C0 11 63 fl_X12_109 c_x0.2 c_x0.1 rfl (rf_at qa2) dX12_frames_75 ?_
    refine V_iconst C0 (v := (5 : Int32)) (by decide) dX12_frames_78 ?_
    refine V_aload_n C0 0 rfl rfl dX12_frames_79 ?_
    refine V_getI C0 11 47 fl_X12_336 c_x0.2 c_x0.1 rfl dX12_frames_80 ?_
    obtain ⟨I10, qI10, h⟩ := bnd_some h
    refine V_wi C0 (rf_lt qa2) (rf_kd qa2) qI10 dX12_frames_83 ?_
    refine V_iconst C0 (v := (0 : Int32)) (by decide) dX12_frames_84 ?_
    refine V_istore_n C0 [(1, .int (0 : Int32)), (0, .ref (G.ad x0))] rfl (by rw [eNL]; decide) rfl dX12_frames_85 ?_
    obtain ⟨z17, q18, h⟩ := bn1_some h
    refine V_sub [1, 0] rfl (lp_X12_frames_86 C0 eNL erm N N x0 (0 : Int32) I10 L R _ c_x0.1 c_x0.2 q18 _ ?_)
    show V G _ 115 [(0, .ref (G.ad x0))] [] z17 L R
    refine V_aload_n C0 0 rfl rfl dX12_frames_115 ?_
    refine V_getR C0 11 63 fl_X12_109 c_x0.2 c_x0.1 rfl (rf_at qa2) dX12_frames_116 ?_
    refine V_bipush C0 (v := (9 : Int32)) (by decide) dX12_frames_119 ?_
    refine V_aload_n C0 0 rfl rfl dX12_frames_121 ?_
    refine V_iconst C0 (v := (1 : Int32)) (by decide) dX12_frames_122 ?_
    obtain ⟨v19, q20, h⟩ := bn1_some h
    refine V_callV C0 (st := [.int (9 : Int32), .ref (G.ad a2)]) (As := [.int (1 : Int32)]) 11 (c_X12_howMany G.l G.D G.cA G.ad G.bs G.X C0.2.2.2.2.2.2.2.2.2.1 C0.2.2.2.2.2.2.2.2.2.2.2.2 N x0 (1 : Int32) z17 L R v19 q20) lc_X12_howMany lk_X12_439 c_x0.2 c_x0.1 ⟨_, rfl, rfl⟩ rfl (by rw [erm]; decide) (Nat.le_of_ble_eq_true rfl) dX12_frames_123 ?_
    show V G _ 126 [(0, .ref (G.ad x0))] [.int v19, .int (9 : Int32), .ref (G.ad a2)] z17 L R
    obtain ⟨I21, qI21, h⟩ := bnd_some h
    refine V_wi C0 (rf_lt qa2) (rf_kd qa2) qI21 dX12_frames_126 ?_
    refine V_aload_n C0 0 rfl rfl dX12_frames_127 ?_
    refine V_getR C0 11 63 fl_X12_109 c_x0.2 c_x0.1 rfl (rf_at qa2) dX12_frames_128 ?_
    refine V_bipush C0 (v := (10 : Int32)) (by decide) dX12_frames_131 ?_
    refine V_aload_n C0 0 rfl rfl dX12_frames_133 ?_
    refine V_iconst C0 (v := (0 : Int32)) (by decide) dX12_frames_134 ?_
    obtain ⟨v22, q23, h⟩ := bn1_some h
    refine V_callV C0 (st := [.int (10 : Int32), .ref (G.ad a2)]) (As := [.int (0 : Int32)]) 11 (c_X12_howMany G.l G.D G.cA G.ad G.bs G.X C0.2.2.2.2.2.2.2.2.2.1 C0.2.2.2.2.2.2.2.2.2.2.2.2 N x0 (0 : Int32) I21 L R v22 q23) lc_X12_howMany lk_X12_439 c_x0.2 c_x0.1 ⟨_, rfl, rfl⟩ rfl (by rw [erm]; decide) (Nat.le_of_ble_eq_true rfl) dX12_frames_135 ?_
    show V G _ 138 [(0, .ref (G.ad x0))] [.int v22, .int (10 : Int32), .ref (G.ad a2)] I21 L R
    obtain ⟨I24, qI24, h⟩ := bnd_some h
    refine V_wi C0 (rf_lt qa2) (rf_kd qa2) qI24 dX12_frames_138 ?_
    refine V_aload_n C0 0 rfl rfl dX12_frames_139 ?_
    refine V_getR C0 11 63 fl_X12_109 c_x0.2 c_x0.1 rfl (rf_at qa2) dX12_frames_140 ?_
    refine V_bipush C0 (v := (11 : Int32)) (by decide) dX12_frames_143 ?_
    refine V_aload_n C0 0 rfl rfl dX12_frames_145 ?_
    obtain ⟨v25, q26, h⟩ := bn1_some h
    refine V_callV C0 (st := [.int (11 : Int32), .ref (G.ad a2)]) (As := []) 11 (c_X12_check G.l G.D G.cA G.ad G.bs G.X C0.2.2.2.2.2.2.2.2.2.1 C0.2.2.2.2.2.2.2.2.2.2.2.2 N x0 I24 L R v25 q26) lc_X12_check lk_X12_443 c_x0.2 c_x0.1 ⟨_, rfl, rfl⟩ rfl (by rw [erm]; decide) (Nat.le_of_ble_eq_true rfl) dX12_frames_146 ?_
    show V G _ 149 [(0, .ref (G.ad x0))] [.int v25, .int (11 : Int32), .ref (G.ad a2)] I24 L R
    obtain ⟨I27, qI27, h⟩ := bnd_some h
    refine V_wi C0 (rf_lt qa2) (rf_kd qa2) qI27 dX12_frames_149 ?_
    refine V_iconst C0 (v := (-1 : Int32)) (by decide) dX12_frames_150 ?_
    refine V_istore_n C0 [(1, .int (-1 : Int32)), (0, .ref (G.ad x0))] rfl (by rw [eNL]; decide) rfl dX12_frames_151 ?_
    refine V_aload_n C0 1 rfl rfl dX12_frames_152 ?_
    refine V_getI C0 11 21 fl_X12_297 c_x0.2 c_x0.1 rfl dX12_frames_153 ?_
    refine V_iconst C0 (v := (1 : Int32)) (by decide) dX12_frames_156 ?_
    refine V_isub C0 dX12_frames_157 ?_
    obtain ⟨u28, eu28, h⟩ := wr_some h
    rw [← eu28]
    refine V_istore_n C0 [(2, .int u28), (1, .int (-1 : Int32)), (0, .ref (G.ad x0))] rfl (by rw [eNL]; decide) rfl dX12_frames_158 ?_
    obtain ⟨z43, q44, h⟩ := bn1_some h
    refine V_sub [2, 1, 0] rfl (lp_X12_frames_159 C0 eNL erm N N x0 (-1 : Int32) u28 I27 L R _ c_x0.1 c_x0.2 q44 _ ?_)
    show V G _ 194 [(0, .ref (G.ad x0)), (1, .int z43)] [] I27 L R
    refine V_iload_n C0 1 rfl rfl dX12_frames_194 ?_
    refine V_iconst C0 (v := (-1 : Int32)) (by decide) dX12_frames_195 ?_
    refine V_icmp_ne C0 (tgt := 210) (by decide) dX12_frames_196 (fun c45 => ?_) (fun c45 => ?_)
    · have h := (if_neg c45).symm.trans h
      refine V_iconst C0 (v := (0 : Int32)) (by decide) dX12_frames_210 ?_
      refine V_istore_n C0 [(2, .int (0 : Int32)), (0, .ref (G.ad x0)), (1, .int z43)] rfl (by rw [eNL]; decide) rfl dX12_frames_211 ?_
      obtain ⟨z52, q53, h⟩ := bn1_some h
      refine V_sub [1, 2, 0] rfl (lp_X12_frames_212 C0 eNL erm N N x0 z43 (0 : Int32) I27 L R _ c_x0.1 c_x0.2 q53 _ ?_)
      show V G _ 235 [(0, .ref (G.ad x0))] [] z52 L R
      refine V_aload_n C0 0 rfl rfl dX12_frames_235 ?_
      refine V_dup C0 rfl dX12_frames_236 ?_
      refine V_getI C0 11 41 fl_X12_318 c_x0.2 c_x0.1 rfl dX12_frames_237 ?_
      refine V_iconst C0 (v := (1 : Int32)) (by decide) dX12_frames_240 ?_
      refine V_iadd C0 dX12_frames_241 ?_
      obtain ⟨I54, eI54, h⟩ := wr_some h
      refine V_putI C0 11 41 fp_X12_318 c_x0.2 c_x0.1 rfl dX12_frames_242 ?_
      rw [← eI54]
      cases h
      exact V_vret C0 dX12_frames_245
    · have h := (if_pos c45).symm.trans h
      refine V_aload_n C0 0 rfl rfl dX12_frames_199 ?_
      refine V_dup C0 rfl dX12_frames_200 ?_
      refine V_getI C0 11 42 fl_X12_321 c_x0.2 c_x0.1 rfl dX12_frames_201 ?_
      refine V_iconst C0 (v := (1 : Int32)) (by decide) dX12_frames_204 ?_
      refine V_iadd C0 dX12_frames_205 ?_
      obtain ⟨I55, eI55, h⟩ := wr_some h
      refine V_putI C0 11 42 fp_X12_321 c_x0.2 c_x0.1 rfl dX12_frames_206 ?_
      rw [← eI55]
      cases h
      exact V_vret C0 dX12_frames_209
  · have h := (if_neg c1).symm.trans h
    cases h
    exact V_vret C0 dX12_frames_12
