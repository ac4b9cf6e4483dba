theorem dX12_channelsBy_0 : decode cX12_channelsBy 0 = .ok (.iload_n 2, 1) := by decide +kernel
theorem dX12_channelsBy_1 : decode cX12_channelsBy 1 = .ok (.tableswitch 81 9 14 #[39, 41, 49, 59, 61, 71], 39) := by decide +kernel
theorem dX12_channelsBy_40 : decode cX12_channelsBy 40 = .ok (.iconst 1, 1) := by decide +kernel
theorem dX12_channelsBy_41 : decode cX12_channelsBy 41 = .ok (.ireturn, 1) := by decide +kernel
theorem dX12_channelsBy_42 : decode cX12_channelsBy 42 = .ok (.aload_n 0, 1) := by decide +kernel
theorem dX12_channelsBy_43 : decode cX12_channelsBy 43 = .ok (.iload_n 1, 1) := by decide +kernel
theorem dX12_channelsBy_44 : decode cX12_channelsBy 44 = .ok (.bipush 34, 2) := by decide +kernel
theorem dX12_channelsBy_46 : decode cX12_channelsBy 46 = .ok (.invokevirtual 211, 3) := by decide +kernel
theorem dX12_channelsBy_49 : decode cX12_channelsBy 49 = .ok (.ireturn, 1) := by decide +kernel
theorem dX12_channelsBy_50 : decode cX12_channelsBy 50 = .ok (.iload_n 3, 1) := by decide +kernel
theorem dX12_channelsBy_51 : decode cX12_channelsBy 51 = .ok (.aload_n 0, 1) := by decide +kernel
theorem dX12_channelsBy_52 : decode cX12_channelsBy 52 = .ok (.iload_n 1, 1) := by decide +kernel
theorem dX12_channelsBy_53 : decode cX12_channelsBy 53 = .ok (.bipush 36, 2) := by decide +kernel
theorem dX12_channelsBy_55 : decode cX12_channelsBy 55 = .ok (.invokevirtual 211, 3) := by decide +kernel
theorem dX12_channelsBy_58 : decode cX12_channelsBy 58 = .ok (.iadd, 1) := by decide +kernel
theorem dX12_channelsBy_59 : decode cX12_channelsBy 59 = .ok (.ireturn, 1) := by decide +kernel
theorem dX12_channelsBy_60 : decode cX12_channelsBy 60 = .ok (.iconst 2, 1) := by decide +kernel
theorem dX12_channelsBy_61 : decode cX12_channelsBy 61 = .ok (.ireturn, 1) := by decide +kernel
theorem dX12_channelsBy_62 : decode cX12_channelsBy 62 = .ok (.iload_n 3, 1) := by decide +kernel
theorem dX12_channelsBy_63 : decode cX12_channelsBy 63 = .ok (.aload_n 0, 1) := by decide +kernel
theorem dX12_channelsBy_64 : decode cX12_channelsBy 64 = .ok (.iload_n 1, 1) := by decide +kernel
theorem dX12_channelsBy_65 : decode cX12_channelsBy 65 = .ok (.bipush 38, 2) := by decide +kernel
theorem dX12_channelsBy_67 : decode cX12_channelsBy 67 = .ok (.invokevirtual 211, 3) := by decide +kernel
theorem dX12_channelsBy_70 : decode cX12_channelsBy 70 = .ok (.iadd, 1) := by decide +kernel
theorem dX12_channelsBy_71 : decode cX12_channelsBy 71 = .ok (.ireturn, 1) := by decide +kernel
theorem dX12_channelsBy_72 : decode cX12_channelsBy 72 = .ok (.iconst 3, 1) := by decide +kernel
theorem dX12_channelsBy_73 : decode cX12_channelsBy 73 = .ok (.aload_n 0, 1) := by decide +kernel
theorem dX12_channelsBy_74 : decode cX12_channelsBy 74 = .ok (.iload_n 1, 1) := by decide +kernel
theorem dX12_channelsBy_75 : decode cX12_channelsBy 75 = .ok (.bipush 39, 2) := by decide +kernel
theorem dX12_channelsBy_77 : decode cX12_channelsBy 77 = .ok (.invokevirtual 211, 3) := by decide +kernel
theorem dX12_channelsBy_80 : decode cX12_channelsBy 80 = .ok (.iadd, 1) := by decide +kernel
theorem dX12_channelsBy_81 : decode cX12_channelsBy 81 = .ok (.ireturn, 1) := by decide +kernel
theorem dX12_channelsBy_82 : decode cX12_channelsBy 82 = .ok (.iload_n 3, 1) := by decide +kernel
theorem dX12_channelsBy_83 : decode cX12_channelsBy 83 = .ok (.ireturn, 1) := by decide +kernel
def F_X12_channelsBy (x0 : Nat) (x1 : Int32) (x2 : Int32) (x3 : Int32) (I : MI) (L : ML) (R : MR) : Option (Int32) :=
  if kd x0 = 11 ∧ x0 < NN then
  if x2 = (9 : Int32) then
    some ((1 : Int32))
  else
    if x2 = (10 : Int32) then
      bn1 (F_X12_get x0 x1 (34 : Int32) I L R) fun v4 =>
      some (v4)
    else
      if x2 = (11 : Int32) then
        bn1 (F_X12_get x0 x1 (36 : Int32) I L R) fun v7 =>
        some ((x3 + v7))
      else
        if x2 = (12 : Int32) then
          some ((2 : Int32))
        else
          if x2 = (13 : Int32) then
            bn1 (F_X12_get x0 x1 (38 : Int32) I L R) fun v11 =>
            some ((x3 + v11))
          else
            if x2 = (14 : Int32) then
              bn1 (F_X12_get x0 x1 (39 : Int32) I L R) fun v14 =>
              some (((3 : Int32) + v14))
            else
              some (x3)
  else none
set_option maxRecDepth 100000 in
set_option maxHeartbeats 4000000 in
theorem c_X12_channelsBy (l : Launch) (D : va_G) (cA : Nat → ClassId) (ad : Nat → Nat) (bs : Nat) (X : State → Prop) (hAd : Ax ad bs) (hX : Stb bs X) (x0 : Nat) (x1 : Int32) (x2 : Int32) (x3 : Int32) (I : MI) (L : ML) (R : MR) (r : Int32) (h : F_X12_channelsBy x0 x1 x2 x3 I L R = some (r)) : Cn l D cA ad bs X yX12_channelsBy cX12_channelsBy 4 (some .int) 1 22 [.ref (ad x0), .int x1, .int x2, .int x3] I L R (some (.int r), I, L, R) := by
  refine Cn.ofV hAd hX [(0, .ref (ad x0)), (1, .int x1), (2, .int x2), (3, .int x3)] rfl (Nat.le_of_ble_eq_true rfl) (by decide) ?_
  intro G el eD ecA ead ebs eX erm eNL C0
  subst el eD ecA ead ebs eX
  unfold F_X12_channelsBy at h
  obtain ⟨c_x0, h⟩ := ite_some h
  refine V_iload_n C0 2 rfl rfl dX12_channelsBy_0 ?_
  have nd1 := nd_0 x2
  by_cases c2 : x2 = (9 : Int32)
  · have h := (if_pos c2).symm.trans h
    refine V_tableC C0 (tgt := 40) (v := (9 : Int32)) c2 (by decide) (by decide) dX12_channelsBy_1 ?_
    refine V_iconst C0 (v := (1 : Int32)) (by decide) dX12_channelsBy_40 ?_
    cases h
    exact V_iret C0 dX12_channelsBy_41
  · have h := (if_neg c2).symm.trans h
    have nd1 := nd_add nd1 c2
    by_cases c3 : x2 = (10 : Int32)
    · have h := (if_pos c3).symm.trans h
      refine V_tableC C0 (tgt := 42) (v := (10 : Int32)) c3 (by decide) (by decide) dX12_channelsBy_1 ?_
      refine V_aload_n C0 0 rfl rfl dX12_channelsBy_42 ?_
      refine V_iload_n C0 1 rfl rfl dX12_channelsBy_43 ?_
      refine V_bipush C0 (v := (34 : Int32)) (by decide) dX12_channelsBy_44 ?_
      obtain ⟨v4, q5, h⟩ := bn1_some h
      refine V_callV C0 (st := []) (As := [.int x1, .int (34 : Int32)]) 11 (c_X12_get G.l G.D G.cA G.ad G.bs G.X C0.2.2.2.2.2.2.2.2.2.1 C0.2.2.2.2.2.2.2.2.2.2.2.2 x0 x1 (34 : Int32) I L R v4 q5) lc_X12_get lk_X12_211 c_x0.2 c_x0.1 ⟨_, rfl, rfl⟩ rfl (by rw [erm]; decide) (Nat.le_of_ble_eq_true rfl) dX12_channelsBy_46 ?_
      show V G _ 49 [(0, .ref (G.ad x0)), (1, .int x1), (2, .int x2), (3, .int x3)] [.int v4] I L R
      cases h
      exact V_iret C0 dX12_channelsBy_49
    · have h := (if_neg c3).symm.trans h
      have nd1 := nd_add nd1 c3
      by_cases c6 : x2 = (11 : Int32)
      · have h := (if_pos c6).symm.trans h
        refine V_tableC C0 (tgt := 50) (v := (11 : Int32)) c6 (by decide) (by decide) dX12_channelsBy_1 ?_
        refine V_iload_n C0 3 rfl rfl dX12_channelsBy_50 ?_
        refine V_aload_n C0 0 rfl rfl dX12_channelsBy_51 ?_
        refine V_iload_n C0 1 rfl rfl dX12_channelsBy_52 ?_
        refine V_bipush C0 (v := (36 : Int32)) (by decide) dX12_channelsBy_53 ?_
        obtain ⟨v7, q8, h⟩ := bn1_some h
        refine V_callV C0 (st := [.int x3]) (As := [.int x1, .int (36 : Int32)]) 11 (c_X12_get G.l G.D G.cA G.ad G.bs G.X C0.2.2.2.2.2.2.2.2.2.1 C0.2.2.2.2.2.2.2.2.2.2.2.2 x0 x1 (36 : Int32) I L R v7 q8) lc_X12_get lk_X12_211 c_x0.2 c_x0.1 ⟨_, rfl, rfl⟩ rfl (by rw [erm]; decide) (Nat.le_of_ble_eq_true rfl) dX12_channelsBy_55 ?_
        show V G _ 58 [(0, .ref (G.ad x0)), (1, .int x1), (2, .int x2), (3, .int x3)] [.int v7, .int x3] I L R
        refine V_iadd C0 dX12_channelsBy_58 ?_
        cases h
        exact V_iret C0 dX12_channelsBy_59
      · have h := (if_neg c6).symm.trans h
        have nd1 := nd_add nd1 c6
        by_cases c9 : x2 = (12 : Int32)
        · have h := (if_pos c9).symm.trans h
          refine V_tableC C0 (tgt := 60) (v := (12 : Int32)) c9 (by decide) (by decide) dX12_channelsBy_1 ?_
          refine V_iconst C0 (v := (2 : Int32)) (by decide) dX12_channelsBy_60 ?_
          cases h
          exact V_iret C0 dX12_channelsBy_61
        · have h := (if_neg c9).symm.trans h
          have nd1 := nd_add nd1 c9
          by_cases c10 : x2 = (13 : Int32)
          · have h := (if_pos c10).symm.trans h
            refine V_tableC C0 (tgt := 62) (v := (13 : Int32)) c10 (by decide) (by decide) dX12_channelsBy_1 ?_
            refine V_iload_n C0 3 rfl rfl dX12_channelsBy_62 ?_
            refine V_aload_n C0 0 rfl rfl dX12_channelsBy_63 ?_
            refine V_iload_n C0 1 rfl rfl dX12_channelsBy_64 ?_
            refine V_bipush C0 (v := (38 : Int32)) (by decide) dX12_channelsBy_65 ?_
            obtain ⟨v11, q12, h⟩ := bn1_some h
            refine V_callV C0 (st := [.int x3]) (As := [.int x1, .int (38 : Int32)]) 11 (c_X12_get G.l G.D G.cA G.ad G.bs G.X C0.2.2.2.2.2.2.2.2.2.1 C0.2.2.2.2.2.2.2.2.2.2.2.2 x0 x1 (38 : Int32) I L R v11 q12) lc_X12_get lk_X12_211 c_x0.2 c_x0.1 ⟨_, rfl, rfl⟩ rfl (by rw [erm]; decide) (Nat.le_of_ble_eq_true rfl) dX12_channelsBy_67 ?_
            show V G _ 70 [(0, .ref (G.ad x0)), (1, .int x1), (2, .int x2), (3, .int x3)] [.int v11, .int x3] I L R
            refine V_iadd C0 dX12_channelsBy_70 ?_
            cases h
            exact V_iret C0 dX12_channelsBy_71
          · have h := (if_neg c10).symm.trans h
            have nd1 := nd_add nd1 c10
            by_cases c13 : x2 = (14 : Int32)
            · have h := (if_pos c13).symm.trans h
              refine V_tableC C0 (tgt := 72) (v := (14 : Int32)) c13 (by decide) (by decide) dX12_channelsBy_1 ?_
              refine V_iconst C0 (v := (3 : Int32)) (by decide) dX12_channelsBy_72 ?_
              refine V_aload_n C0 0 rfl rfl dX12_channelsBy_73 ?_
              refine V_iload_n C0 1 rfl rfl dX12_channelsBy_74 ?_
              refine V_bipush C0 (v := (39 : Int32)) (by decide) dX12_channelsBy_75 ?_
              obtain ⟨v14, q15, h⟩ := bn1_some h
              refine V_callV C0 (st := [.int (3 : Int32)]) (As := [.int x1, .int (39 : Int32)]) 11 (c_X12_get G.l G.D G.cA G.ad G.bs G.X C0.2.2.2.2.2.2.2.2.2.1 C0.2.2.2.2.2.2.2.2.2.2.2.2 x0 x1 (39 : Int32) I L R v14 q15) lc_X12_get lk_X12_211 c_x0.2 c_x0.1 ⟨_, rfl, rfl⟩ rfl (by rw [erm]; decide) (Nat.le_of_ble_eq_true rfl) dX12_channelsBy_77 ?_
              show V G _ 80 [(0, .ref (G.ad x0)), (1, .int x1), (2, .int x2), (3, .int x3)] [.int v14, .int (3 : Int32)] I L R
              refine V_iadd C0 dX12_channelsBy_80 ?_
              cases h
              exact V_iret C0 dX12_channelsBy_81
            · have h := (if_neg c13).symm.trans h
              have nd1 := nd_add nd1 c13
              refine V_tableN C0 (tgt := 82) nd1 (by decide) (by decide) dX12_channelsBy_1 ?_
              refine V_iload_n C0 3 rfl rfl dX12_channelsBy_82 ?_
              cases h
              exact V_iret C0 dX12_channelsBy_83
theorem dX12_pushBy_0 : decode cX12_pushBy 0 = .ok (.iload_n 2, 1) := by decide +kernel
theorem dX12_pushBy_1 : decode cX12_pushBy 1 = .ok (.tableswitch 100 15 19 #[35, 45, 58, 76, 88], 35) := by decide +kernel
theorem dX12_pushBy_36 : decode cX12_pushBy 36 = .ok (.iconst 4, 1) := by decide +kernel
theorem dX12_pushBy_37 : decode cX12_pushBy 37 = .ok (.aload_n 0, 1) := by decide +kernel
theorem dX12_pushBy_38 : decode cX12_pushBy 38 = .ok (.iload_n 1, 1) := by decide +kernel
theorem dX12_pushBy_39 : decode cX12_pushBy 39 = .ok (.bipush 35, 2) := by decide +kernel
theorem dX12_pushBy_41 : decode cX12_pushBy 41 = .ok (.invokevirtual 211, 3) := by decide +kernel
theorem dX12_pushBy_44 : decode cX12_pushBy 44 = .ok (.iadd, 1) := by decide +kernel
theorem dX12_pushBy_45 : decode cX12_pushBy 45 = .ok (.ireturn, 1) := by decide +kernel
theorem dX12_pushBy_46 : decode cX12_pushBy 46 = .ok (.iconst 2, 1) := by decide +kernel
theorem dX12_pushBy_47 : decode cX12_pushBy 47 = .ok (.aload_n 0, 1) := by decide +kernel
theorem dX12_pushBy_48 : decode cX12_pushBy 48 = .ok (.iload_n 1, 1) := by decide +kernel
theorem dX12_pushBy_49 : decode cX12_pushBy 49 = .ok (.bipush 43, 2) := by decide +kernel
theorem dX12_pushBy_51 : decode cX12_pushBy 51 = .ok (.invokevirtual 211, 3) := by decide +kernel
theorem dX12_pushBy_54 : decode cX12_pushBy 54 = .ok (.bipush 100, 2) := by decide +kernel
theorem dX12_pushBy_56 : decode cX12_pushBy 56 = .ok (.idiv, 1) := by decide +kernel
theorem dX12_pushBy_57 : decode cX12_pushBy 57 = .ok (.iadd, 1) := by decide +kernel
theorem dX12_pushBy_58 : decode cX12_pushBy 58 = .ok (.ireturn, 1) := by decide +kernel
theorem dX12_pushBy_59 : decode cX12_pushBy 59 = .ok (.aload_n 0, 1) := by decide +kernel
theorem dX12_pushBy_60 : decode cX12_pushBy 60 = .ok (.iload_n 1, 1) := by decide +kernel
theorem dX12_pushBy_61 : decode cX12_pushBy 61 = .ok (.bipush 46, 2) := by decide +kernel
theorem dX12_pushBy_63 : decode cX12_pushBy 63 = .ok (.invokevirtual 211, 3) := by decide +kernel
theorem dX12_pushBy_66 : decode cX12_pushBy 66 = .ok (.aload_n 0, 1) := by decide +kernel
theorem dX12_pushBy_67 : decode cX12_pushBy 67 = .ok (.iload_n 1, 1) := by decide +kernel
theorem dX12_pushBy_68 : decode cX12_pushBy 68 = .ok (.bipush 45, 2) := by decide +kernel
theorem dX12_pushBy_70 : decode cX12_pushBy 70 = .ok (.invokevirtual 211, 3) := by decide +kernel
theorem dX12_pushBy_73 : decode cX12_pushBy 73 = .ok (.iadd, 1) := by decide +kernel
theorem dX12_pushBy_74 : decode cX12_pushBy 74 = .ok (.iload_n 3, 1) := by decide +kernel
theorem dX12_pushBy_75 : decode cX12_pushBy 75 = .ok (.isub, 1) := by decide +kernel
theorem dX12_pushBy_76 : decode cX12_pushBy 76 = .ok (.ireturn, 1) := by decide +kernel
theorem dX12_pushBy_77 : decode cX12_pushBy 77 = .ok (.iload_n 3, 1) := by decide +kernel
theorem dX12_pushBy_78 : decode cX12_pushBy 78 = .ok (.iconst 1, 1) := by decide +kernel
theorem dX12_pushBy_79 : decode cX12_pushBy 79 = .ok (.aload_n 0, 1) := by decide +kernel
theorem dX12_pushBy_80 : decode cX12_pushBy 80 = .ok (.iload_n 1, 1) := by decide +kernel
theorem dX12_pushBy_81 : decode cX12_pushBy 81 = .ok (.bipush 47, 2) := by decide +kernel
theorem dX12_pushBy_83 : decode cX12_pushBy 83 = .ok (.invokevirtual 211, 3) := by decide +kernel
theorem dX12_pushBy_86 : decode cX12_pushBy 86 = .ok (.iadd, 1) := by decide +kernel
theorem dX12_pushBy_87 : decode cX12_pushBy 87 = .ok (.imul, 1) := by decide +kernel
theorem dX12_pushBy_88 : decode cX12_pushBy 88 = .ok (.ireturn, 1) := by decide +kernel
theorem dX12_pushBy_89 : decode cX12_pushBy 89 = .ok (.iload_n 3, 1) := by decide +kernel
theorem dX12_pushBy_90 : decode cX12_pushBy 90 = .ok (.iconst 2, 1) := by decide +kernel
theorem dX12_pushBy_91 : decode cX12_pushBy 91 = .ok (.idiv, 1) := by decide +kernel
theorem dX12_pushBy_92 : decode cX12_pushBy 92 = .ok (.aload_n 0, 1) := by decide +kernel
theorem dX12_pushBy_93 : decode cX12_pushBy 93 = .ok (.iload_n 1, 1) := by decide +kernel
theorem dX12_pushBy_94 : decode cX12_pushBy 94 = .ok (.bipush 48, 2) := by decide +kernel
theorem dX12_pushBy_96 : decode cX12_pushBy 96 = .ok (.invokevirtual 211, 3) := by decide +kernel
theorem dX12_pushBy_99 : decode cX12_pushBy 99 = .ok (.iadd, 1) := by decide +kernel
theorem dX12_pushBy_100 : decode cX12_pushBy 100 = .ok (.ireturn, 1) := by decide +kernel
theorem dX12_pushBy_101 : decode cX12_pushBy 101 = .ok (.iload_n 3, 1) := by decide +kernel
theorem dX12_pushBy_102 : decode cX12_pushBy 102 = .ok (.ireturn, 1) := by decide +kernel
def F_X12_pushBy (x0 : Nat) (x1 : Int32) (x2 : Int32) (x3 : Int32) (I : MI) (L : ML) (R : MR) : Option (Int32) :=
  if kd x0 = 11 ∧ x0 < NN then
  if x2 = (15 : Int32) then
    bn1 (F_X12_get x0 x1 (35 : Int32) I L R) fun v3 =>
    some (((4 : Int32) + v3))
  else
    if x2 = (16 : Int32) then
      bn1 (F_X12_get x0 x1 (43 : Int32) I L R) fun v6 =>
      some (((2 : Int32) + (v6 / (100 : Int32))))
    else
      if x2 = (17 : Int32) then
        bn1 (F_X12_get x0 x1 (46 : Int32) I L R) fun v9 =>
        bn1 (F_X12_get x0 x1 (45 : Int32) I L R) fun v11 =>
        some (((v9 + v11) - x3))
      else
        if x2 = (18 : Int32) then
          bn1 (F_X12_get x0 x1 (47 : Int32) I L R) fun v14 =>
          some ((x3 * ((1 : Int32) + v14)))
        else
          if x2 = (19 : Int32) then
            bn1 (F_X12_get x0 x1 (48 : Int32) I L R) fun v17 =>
            some (((x3 / (2 : Int32)) + v17))
          else
            some (x3)
  else none
set_option maxRecDepth 100000 in
set_option maxHeartbeats 4000000 in
theorem c_X12_pushBy (l : Launch) (D : va_G) (cA : Nat → ClassId) (ad : Nat → Nat) (bs : Nat) (X : State → Prop) (hAd : Ax ad bs) (hX : Stb bs X) (x0 : Nat) (x1 : Int32) (x2 : Int32) (x3 : Int32) (I : MI) (L : ML) (R : MR) (r : Int32) (h : F_X12_pushBy x0 x1 x2 x3 I L R = some (r)) : Cn l D cA ad bs X yX12_pushBy cX12_pushBy 4 (some .int) 1 22 [.ref (ad x0), .int x1, .int x2, .int x3] I L R (some (.int r), I, L, R) := by
  refine Cn.ofV hAd hX [(0, .ref (ad x0)), (1, .int x1), (2, .int x2), (3, .int x3)] rfl (Nat.le_of_ble_eq_true rfl) (by decide) ?_
  intro G el eD ecA ead ebs eX erm eNL C0
  subst el eD ecA ead ebs eX
  unfold F_X12_pushBy at h
  obtain ⟨c_x0, h⟩ := ite_some h
  refine V_iload_n C0 2 rfl rfl dX12_pushBy_0 ?_
  have nd1 := nd_0 x2
  by_cases c2 : x2 = (15 : Int32)
  · have h := (if_pos c2).symm.trans h
    refine V_tableC C0 (tgt := 36) (v := (15 : Int32)) c2 (by decide) (by decide) dX12_pushBy_1 ?_
    refine V_iconst C0 (v := (4 : Int32)) (by decide) dX12_pushBy_36 ?_
    refine V_aload_n C0 0 rfl rfl dX12_pushBy_37 ?_
    refine V_iload_n C0 1 rfl rfl dX12_pushBy_38 ?_
    refine V_bipush C0 (v := (35 : Int32)) (by decide) dX12_pushBy_39 ?_
    obtain ⟨v3, q4, h⟩ := bn1_some h
    refine V_callV C0 (st := [.int (4 : Int32)]) (As := [.int x1, .int (35 : Int32)]) 11 (c_X12_get G.l G.D G.cA G.ad G.bs G.X C0.2.2.2.2.2.2.2.2.2.1 C0.2.2.2.2.2.2.2.2.2.2.2.2 x0 x1 (35 : Int32) I L R v3 q4) lc_X12_get lk_X12_211 c_x0.2 c_x0.1 ⟨_, rfl, rfl⟩ rfl (by rw [erm]; decide) (Nat.le_of_ble_eq_true rfl) dX12_pushBy_41 ?_
    show V G _ 44 [(0, .ref (G.ad x0)), (1, .int x1), (2, .int x2), (3, .int x3)] [.int v3, .int (4 : Int32)] I L R
    refine V_iadd C0 dX12_pushBy_44 ?_
    cases h
    exact V_iret C0 dX12_pushBy_45
  · have h := (if_neg c2).symm.trans h
    have nd1 := nd_add nd1 c2
    by_cases c5 : x2 = (16 : Int32)
    · have h := (if_pos c5).symm.trans h
      refine V_tableC C0 (tgt := 46) (v := (16 : Int32)) c5 (by decide) (by decide) dX12_pushBy_1 ?_
      refine V_iconst C0 (v := (2 : Int32)) (by decide) dX12_pushBy_46 ?_
      refine V_aload_n C0 0 rfl rfl dX12_pushBy_47 ?_
      refine V_iload_n C0 1 rfl rfl dX12_pushBy_48 ?_
      refine V_bipush C0 (v := (43 : Int32)) (by decide) dX12_pushBy_49 ?_
      obtain ⟨v6, q7, h⟩ := bn1_some h
      refine V_callV C0 (st := [.int (2 : Int32)]) (As := [.int x1, .int (43 : Int32)]) 11 (c_X12_get G.l G.D G.cA G.ad G.bs G.X C0.2.2.2.2.2.2.2.2.2.1 C0.2.2.2.2.2.2.2.2.2.2.2.2 x0 x1 (43 : Int32) I L R v6 q7) lc_X12_get lk_X12_211 c_x0.2 c_x0.1 ⟨_, rfl, rfl⟩ rfl (by rw [erm]; decide) (Nat.le_of_ble_eq_true rfl) dX12_pushBy_51 ?_
      show V G _ 54 [(0, .ref (G.ad x0)), (1, .int x1), (2, .int x2), (3, .int x3)] [.int v6, .int (2 : Int32)] I L R
      refine V_bipush C0 (v := (100 : Int32)) (by decide) dX12_pushBy_54 ?_
      refine V_idiv C0 (by decide) dX12_pushBy_56 ?_
      refine V_iadd C0 dX12_pushBy_57 ?_
      cases h
      exact V_iret C0 dX12_pushBy_58
    · have h := (if_neg c5).symm.trans h
      have nd1 := nd_add nd1 c5
      by_cases c8 : x2 = (17 : Int32)
      · have h := (if_pos c8).symm.trans h
        refine V_tableC C0 (tgt := 59) (v := (17 : Int32)) c8 (by decide) (by decide) dX12_pushBy_1 ?_
        refine V_aload_n C0 0 rfl rfl dX12_pushBy_59 ?_
        refine V_iload_n C0 1 rfl rfl dX12_pushBy_60 ?_
        refine V_bipush C0 (v := (46 : Int32)) (by decide) dX12_pushBy_61 ?_
        obtain ⟨v9, q10, h⟩ := bn1_some h
        refine V_callV C0 (st := []) (As := [.int x1, .int (46 : Int32)]) 11 (c_X12_get G.l G.D G.cA G.ad G.bs G.X C0.2.2.2.2.2.2.2.2.2.1 C0.2.2.2.2.2.2.2.2.2.2.2.2 x0 x1 (46 : Int32) I L R v9 q10) lc_X12_get lk_X12_211 c_x0.2 c_x0.1 ⟨_, rfl, rfl⟩ rfl (by rw [erm]; decide) (Nat.le_of_ble_eq_true rfl) dX12_pushBy_63 ?_
        show V G _ 66 [(0, .ref (G.ad x0)), (1, .int x1), (2, .int x2), (3, .int x3)] [.int v9] I L R
        refine V_aload_n C0 0 rfl rfl dX12_pushBy_66 ?_
        refine V_iload_n C0 1 rfl rfl dX12_pushBy_67 ?_
        refine V_bipush C0 (v := (45 : Int32)) (by decide) dX12_pushBy_68 ?_
        obtain ⟨v11, q12, h⟩ := bn1_some h
        refine V_callV C0 (st := [.int v9]) (As := [.int x1, .int (45 : Int32)]) 11 (c_X12_get G.l G.D G.cA G.ad G.bs G.X C0.2.2.2.2.2.2.2.2.2.1 C0.2.2.2.2.2.2.2.2.2.2.2.2 x0 x1 (45 : Int32) I L R v11 q12) lc_X12_get lk_X12_211 c_x0.2 c_x0.1 ⟨_, rfl, rfl⟩ rfl (by rw [erm]; decide) (Nat.le_of_ble_eq_true rfl) dX12_pushBy_70 ?_
        show V G _ 73 [(0, .ref (G.ad x0)), (1, .int x1), (2, .int x2), (3, .int x3)] [.int v11, .int v9] I L R
        refine V_iadd C0 dX12_pushBy_73 ?_
        refine V_iload_n C0 3 rfl rfl dX12_pushBy_74 ?_
        refine V_isub C0 dX12_pushBy_75 ?_
        cases h
        exact V_iret C0 dX12_pushBy_76
      · have h := (if_neg c8).symm.trans h
        have nd1 := nd_add nd1 c8
        by_cases c13 : x2 = (18 : Int32)
        · have h := (if_pos c13).symm.trans h
          refine V_tableC C0 (tgt := 77) (v := (18 : Int32)) c13 (by decide) (by decide) dX12_pushBy_1 ?_
          refine V_iload_n C0 3 rfl rfl dX12_pushBy_77 ?_
          refine V_iconst C0 (v := (1 : Int32)) (by decide) dX12_pushBy_78 ?_
          refine V_aload_n C0 0 rfl rfl dX12_pushBy_79 ?_
          refine V_iload_n C0 1 rfl rfl dX12_pushBy_80 ?_
          refine V_bipush C0 (v := (47 : Int32)) (by decide) dX12_pushBy_81 ?_
          obtain ⟨v14, q15, h⟩ := bn1_some h
          refine V_callV C0 (st := [.int (1 : Int32), .int x3]) (As := [.int x1, .int (47 : Int32)]) 11 (c_X12_get G.l G.D G.cA G.ad G.bs G.X C0.2.2.2.2.2.2.2.2.2.1 C0.2.2.2.2.2.2.2.2.2.2.2.2 x0 x1 (47 : Int32) I L R v14 q15) lc_X12_get lk_X12_211 c_x0.2 c_x0.1 ⟨_, rfl, rfl⟩ rfl (by rw [erm]; decide) (Nat.le_of_ble_eq_true rfl) dX12_pushBy_83 ?_
          show V G _ 86 [(0, .ref (G.ad x0)), (1, .int x1), (2, .int x2), (3, .int x3)] [.int v14, .int (1 : Int32), .int x3] I L R
          refine V_iadd C0 dX12_pushBy_86 ?_
          refine V_imul C0 dX12_pushBy_87 ?_
          cases h
          exact V_iret C0 dX12_pushBy_88
        · have h := (if_neg c13).symm.trans h
          have nd1 := nd_add nd1 c13
          by_cases c16 : x2 = (19 : Int32)
          · have h := (if_pos c16).symm.trans h
            refine V_tableC C0 (tgt := 89) (v := (19 : Int32)) c16 (by decide) (by decide) dX12_pushBy_1 ?_
            refine V_iload_n C0 3 rfl rfl dX12_pushBy_89 ?_
            refine V_iconst C0 (v := (2 : Int32)) (by decide) dX12_pushBy_90 ?_
            refine V_idiv C0 (by decide) dX12_pushBy_91 ?_
            refine V_aload_n C0 0 rfl rfl dX12_pushBy_92 ?_
            refine V_iload_n C0 1 rfl rfl dX12_pushBy_93 ?_
            refine V_bipush C0 (v := (48 : Int32)) (by decide) dX12_pushBy_94 ?_
            obtain ⟨v17, q18, h⟩ := bn1_some h
            refine V_callV C0 (st := [.int (x3 / (2 : Int32))]) (As := [.int x1, .int (48 : Int32)]) 11 (c_X12_get G.l G.D G.cA G.ad G.bs G.X C0.2.2.2.2.2.2.2.2.2.1 C0.2.2.2.2.2.2.2.2.2.2.2.2 x0 x1 (48 : Int32) I L R v17 q18) lc_X12_get lk_X12_211 c_x0.2 c_x0.1 ⟨_, rfl, rfl⟩ rfl (by rw [erm]; decide) (Nat.le_of_ble_eq_true rfl) dX12_pushBy_96 ?_
            show V G _ 99 [(0, .ref (G.ad x0)), (1, .int x1), (2, .int x2), (3, .int x3)] [.int v17, .int (x3 / (2 : Int32))] I L R
            refine V_iadd C0 dX12_pushBy_99 ?_
            cases h
            exact V_iret C0 dX12_pushBy_100
          · have h := (if_neg c16).symm.trans h
            have nd1 := nd_add nd1 c16
            refine V_tableN C0 (tgt := 101) nd1 (by decide) (by decide) dX12_pushBy_1 ?_
            refine V_iload_n C0 3 rfl rfl dX12_pushBy_101 ?_
            cases h
            exact V_iret C0 dX12_pushBy_102
theorem dX12_answer_0 : decode cX12_answer 0 = .ok (.aload_n 0, 1) := by decide +kernel
theorem dX12_answer_1 : decode cX12_answer 1 = .ok (.aload_n 0, 1) := by decide +kernel
theorem dX12_answer_2 : decode cX12_answer 2 = .ok (.iload_n 1, 1) := by decide +kernel
theorem dX12_answer_3 : decode cX12_answer 3 = .ok (.iconst 0, 1) := by decide +kernel
theorem dX12_answer_4 : decode cX12_answer 4 = .ok (.invokevirtual 211, 3) := by decide +kernel
theorem dX12_answer_7 : decode cX12_answer 7 = .ok (.invokevirtual 220, 3) := by decide +kernel
theorem dX12_answer_10 : decode cX12_answer 10 = .ok (.istore_n 3, 1) := by decide +kernel
theorem dX12_answer_11 : decode cX12_answer 11 = .ok (.iconst 0, 1) := by decide +kernel
theorem dX12_answer_12 : decode cX12_answer 12 = .ok (.istore 4, 2) := by decide +kernel
theorem dX12_answer_14 : decode cX12_answer 14 = .ok (.iconst 0, 1) := by decide +kernel
theorem dX12_answer_15 : decode cX12_answer 15 = .ok (.istore 5, 2) := by decide +kernel
theorem dX12_answer_17 : decode cX12_answer 17 = .ok (.iload 5, 2) := by decide +kernel
theorem dX12_answer_19 : decode cX12_answer 19 = .ok (.iload_n 3, 1) := by decide +kernel
theorem dX12_answer_20 : decode cX12_answer 20 = .ok (.if_icmp .ge 135, 3) := by decide +kernel
theorem dX12_answer_23 : decode cX12_answer 23 = .ok (.aload_n 0, 1) := by decide +kernel
theorem dX12_answer_24 : decode cX12_answer 24 = .ok (.getfield 62, 3) := by decide +kernel
theorem dX12_answer_27 : decode cX12_answer 27 = .ok (.iload 5, 2) := by decide +kernel
theorem dX12_answer_29 : decode cX12_answer 29 = .ok (.iaload, 1) := by decide +kernel
theorem dX12_answer_30 : decode cX12_answer 30 = .ok (.istore 6, 2) := by decide +kernel
theorem dX12_answer_32 : decode cX12_answer 32 = .ok (.iload_n 2, 1) := by decide +kernel
theorem dX12_answer_33 : decode cX12_answer 33 = .ok (.tableswitch 105 0 4 #[35, 49, 63, 77, 91], 35) := by decide +kernel
theorem dX12_answer_68 : decode cX12_answer 68 = .ok (.aload_n 0, 1) := by decide +kernel
theorem dX12_answer_69 : decode cX12_answer 69 = .ok (.iload_n 1, 1) := by decide +kernel
theorem dX12_answer_70 : decode cX12_answer 70 = .ok (.iload 6, 2) := by decide +kernel
theorem dX12_answer_72 : decode cX12_answer 72 = .ok (.iload 4, 2) := by decide +kernel
theorem dX12_answer_74 : decode cX12_answer 74 = .ok (.invokevirtual 223, 3) := by decide +kernel
theorem dX12_answer_77 : decode cX12_answer 77 = .ok (.istore 4, 2) := by decide +kernel
theorem dX12_answer_79 : decode cX12_answer 79 = .ok (.goto 70, 3) := by decide +kernel
theorem dX12_answer_82 : decode cX12_answer 82 = .ok (.aload_n 0, 1) := by decide +kernel
theorem dX12_answer_83 : decode cX12_answer 83 = .ok (.iload_n 1, 1) := by decide +kernel
theorem dX12_answer_84 : decode cX12_answer 84 = .ok (.iload 6, 2) := by decide +kernel
theorem dX12_answer_86 : decode cX12_answer 86 = .ok (.iload 4, 2) := by decide +kernel
theorem dX12_answer_88 : decode cX12_answer 88 = .ok (.invokevirtual 227, 3) := by decide +kernel
theorem dX12_answer_91 : decode cX12_answer 91 = .ok (.istore 4, 2) := by decide +kernel
theorem dX12_answer_93 : decode cX12_answer 93 = .ok (.goto 56, 3) := by decide +kernel
theorem dX12_answer_96 : decode cX12_answer 96 = .ok (.aload_n 0, 1) := by decide +kernel
theorem dX12_answer_97 : decode cX12_answer 97 = .ok (.iload_n 1, 1) := by decide +kernel
theorem dX12_answer_98 : decode cX12_answer 98 = .ok (.iload 6, 2) := by decide +kernel
theorem dX12_answer_100 : decode cX12_answer 100 = .ok (.iload 4, 2) := by decide +kernel
theorem dX12_answer_102 : decode cX12_answer 102 = .ok (.invokevirtual 230, 3) := by decide +kernel
theorem dX12_answer_105 : decode cX12_answer 105 = .ok (.istore 4, 2) := by decide +kernel
theorem dX12_answer_107 : decode cX12_answer 107 = .ok (.goto 42, 3) := by decide +kernel
theorem dX12_answer_110 : decode cX12_answer 110 = .ok (.aload_n 0, 1) := by decide +kernel
theorem dX12_answer_111 : decode cX12_answer 111 = .ok (.iload_n 1, 1) := by decide +kernel
theorem dX12_answer_112 : decode cX12_answer 112 = .ok (.iload 6, 2) := by decide +kernel
theorem dX12_answer_114 : decode cX12_answer 114 = .ok (.iload 4, 2) := by decide +kernel
theorem dX12_answer_116 : decode cX12_answer 116 = .ok (.invokevirtual 233, 3) := by decide +kernel
theorem dX12_answer_119 : decode cX12_answer 119 = .ok (.istore 4, 2) := by decide +kernel
theorem dX12_answer_121 : decode cX12_answer 121 = .ok (.goto 28, 3) := by decide +kernel
theorem dX12_answer_124 : decode cX12_answer 124 = .ok (.aload_n 0, 1) := by decide +kernel
theorem dX12_answer_125 : decode cX12_answer 125 = .ok (.iload_n 1, 1) := by decide +kernel
theorem dX12_answer_126 : decode cX12_answer 126 = .ok (.iload 6, 2) := by decide +kernel
theorem dX12_answer_128 : decode cX12_answer 128 = .ok (.iload 4, 2) := by decide +kernel
theorem dX12_answer_130 : decode cX12_answer 130 = .ok (.invokevirtual 236, 3) := by decide +kernel
theorem dX12_answer_133 : decode cX12_answer 133 = .ok (.istore 4, 2) := by decide +kernel
theorem dX12_answer_135 : decode cX12_answer 135 = .ok (.goto 14, 3) := by decide +kernel
theorem dX12_answer_138 : decode cX12_answer 138 = .ok (.aload_n 0, 1) := by decide +kernel
theorem dX12_answer_139 : decode cX12_answer 139 = .ok (.iload_n 1, 1) := by decide +kernel
theorem dX12_answer_140 : decode cX12_answer 140 = .ok (.iload 6, 2) := by decide +kernel
theorem dX12_answer_142 : decode cX12_answer 142 = .ok (.iload 4, 2) := by decide +kernel
theorem dX12_answer_144 : decode cX12_answer 144 = .ok (.invokevirtual 239, 3) := by decide +kernel
theorem dX12_answer_147 : decode cX12_answer 147 = .ok (.istore 4, 2) := by decide +kernel
theorem dX12_answer_149 : decode cX12_answer 149 = .ok (.iinc 5 1, 3) := by decide +kernel
theorem dX12_answer_152 : decode cX12_answer 152 = .ok (.goto (-135), 3) := by decide +kernel
theorem dX12_answer_155 : decode cX12_answer 155 = .ok (.iload 4, 2) := by decide +kernel
theorem dX12_answer_157 : decode cX12_answer 157 = .ok (.ireturn, 1) := by decide +kernel
def LF_X12_answer_17 (N : Nat) : Nat → Nat → Int32 → Int32 → Int32 → Int32 → Int32 → MI → ML → MR → Option (Int32)
  | 0, _, _, _, _, _, _, _, _, _ => none
  | k + 1, y0, y1, y2, y3, y4, y5, I, L, R =>
    if y3 ≤ y5 then
      some (y4)
    else
      (rf R y0 32 20).bind fun a7 =>
      (ri I a7 y5).bind fun v8 =>
      bn1 (
        if y2 = (0 : Int32) then
          bn1 (F_X12_massBy y0 y1 v8 y4 I L R) fun v14 =>
          some (v14)
        else
          if y2 = (1 : Int32) then
            bn1 (F_X12_spanBy y0 y1 v8 y4 I L R) fun v17 =>
            some (v17)
          else
            if y2 = (2 : Int32) then
              bn1 (F_X12_needBy y0 y1 v8 y4 I L R) fun v20 =>
              some (v20)
            else
              if y2 = (3 : Int32) then
                bn1 (F_X12_testBy y0 y1 v8 y4 I L R) fun v23 =>
                some (v23)
              else
                if y2 = (4 : Int32) then
                  bn1 (F_X12_channelsBy y0 y1 v8 y4 I L R) fun v26 =>
                  some (v26)
                else
                  bn1 (F_X12_pushBy y0 y1 v8 y4 I L R) fun v28 =>
                  some (v28)
      ) fun (u9 : Int32) =>
      wr (y5 + (1 : Int32)) fun (u30 : Int32) =>
      LF_X12_answer_17 N k y0 y1 y2 y3 u9 u30 I L R
def F_X12_answer (N : Nat) (x0 : Nat) (x1 : Int32) (x2 : Int32) (I : MI) (L : ML) (R : MR) : Option (Int32 × MI) :=
  if kd x0 = 11 ∧ x0 < NN then
  bn1 (F_X12_get x0 x1 (0 : Int32) I L R) fun v1 =>
  bn2 (F_X12_findLayers N x0 v1 I L R) fun v3 I4 =>
  bn1 (LF_X12_answer_17 N N x0 x1 x2 v3 (0 : Int32) (0 : Int32) I4 L R) fun z31 =>
  some (z31, I4)
  else none
set_option maxRecDepth 100000 in
set_option maxHeartbeats 4000000 in
theorem lp_X12_answer_17 {G : Gm} (C0 : Cx G (yX12_answer.cls) cX12_answer (some .int)) (eNL : G.nL = 7) (erm : G.rm = ({ frames := 2, cells := 0, slots := 0, locals := 45 } : Room)) (N : Nat) : ∀ (k : Nat) (y0 : Nat) (y1 : Int32) (y2 : Int32) (y3 : Int32) (y4 : Int32) (y5 : Int32) (I : MI) (L : ML) (R : MR) (z : Int32) (hk0 : kd y0 = 11) (ho0 : y0 < NN), LF_X12_answer_17 N k y0 y1 y2 y3 y4 y5 I L R = some z → ∀ f : State → Prop, V G f 155 [(4, .int z)] [] I L R → V G f 17 [(0, .ref (G.ad y0)), (1, .int y1), (2, .int y2), (3, .int y3), (4, .int y4), (5, .int y5)] [] I L R := by
  intro k
  induction k with
  | zero =>
    intro y0 y1 y2 y3 y4 y5 I L R q hk0 ho0 h
    exact absurd h (by simp [LF_X12_answer_17])
  | succ k ih =>
    intro y0 y1 y2 y3 y4 y5 I L R q hk0 ho0 h f kx
    rw [LF_X12_answer_17] at h
    refine V_iload C0 5 rfl dX12_answer_17 ?_
    refine V_iload_n C0 3 rfl rfl dX12_answer_19 ?_
    refine V_icmp_ge C0 (tgt := 155) (by decide) dX12_answer_20 (fun c6 => ?_) (fun c6 => ?_)
    · have h := (if_pos c6).symm.trans h
      cases h
      exact V_sub [4] rfl kx
    · have h := (if_neg c6).symm.trans h
      refine V_aload_n C0 0 rfl rfl dX12_answer_23 ?_
      obtain ⟨a7, qa7, h⟩ := bnd_some h
      refine V_getR C0 11 32 fl_X12_62 ho0 hk0 rfl (rf_at qa7) dX12_answer_24 ?_
      refine V_iload C0 5 rfl dX12_answer_27 ?_
      obtain ⟨v8, qv8, h⟩ := bnd_some h
      refine V_ri C0 (rf_lt qa7) (rf_kd qa7) qv8 dX12_answer_29 ?_
      refine V_istore C0 [(6, .int v8), (0, .ref (G.ad y0)), (1, .int y1), (2, .int y2), (3, .int y3), (4, .int y4), (5, .int y5)] (by rw [eNL]; decide) rfl dX12_answer_30 ?_
      refine V_iload_n C0 3 rfl rfl dX12_answer_32 ?_
      obtain ⟨u9, q10, h⟩ := bn1_some h
      have k11 : V G f 149 [(0, .ref (G.ad y0)), (1, .int y1), (2, .int y2), (3, .int y3), (4, .int u9), (5, .int y5)] [] I L R := by
        obtain ⟨u30, eu30, h⟩ := wr_some h
        refine V_iinc C0 5 [(5, .int u30), (0, .ref (G.ad y0)), (1, .int y1), (2, .int y2), (3, .int y3), (4, .int u9)] rfl (n := 1) (by rw [eu30]; rfl) (by rw [eNL]; decide) rfl dX12_answer_149 ?_
        refine V_goto C0 (tgt := 17) (by decide) dX12_answer_152 ?_
        exact V_sub [1, 2, 3, 4, 5, 0] rfl (ih y0 y1 y2 y3 u9 u30 I L R _ hk0 ho0 h f kx)
      have nd12 := nd_0 y2
      by_cases c13 : y2 = (0 : Int32)
      · have q10 := (if_pos c13).symm.trans q10
        refine V_tableC C0 (tgt := 68) (v := (0 : Int32)) c13 (by decide) (by decide) dX12_answer_33 ?_
        refine V_aload_n C0 1 rfl rfl dX12_answer_68 ?_
        refine V_iload_n C0 2 rfl rfl dX12_answer_69 ?_
        refine V_iload C0 0 rfl dX12_answer_70 ?_
        refine V_iload C0 5 rfl dX12_answer_72 ?_
        obtain ⟨v14, q15, q10⟩ := bn1_some q10
        refine V_callV C0 (st := []) (As := [.int y1, .int v8, .int y4]) 11 (c_X12_massBy G.l G.D G.cA G.ad G.bs G.X C0.2.2.2.2.2.2.2.2.2.1 C0.2.2.2.2.2.2.2.2.2.2.2.2 y0 y1 v8 y4 I L R v14 q15) lc_X12_massBy lk_X12_223 ho0 hk0 ⟨_, rfl, rfl⟩ rfl (by rw [erm]; decide) (Nat.le_of_ble_eq_true rfl) dX12_answer_74 ?_
        show V G _ 77 [(6, .int v8), (0, .ref (G.ad y0)), (1, .int y1), (2, .int y2), (3, .int y3), (4, .int y4), (5, .int y5)] [.int v14] I L R
        refine V_istore C0 [(4, .int v14), (6, .int v8), (0, .ref (G.ad y0)), (1, .int y1), (2, .int y2), (3, .int y3), (5, .int y5)] (by rw [eNL]; decide) rfl dX12_answer_77 ?_
        refine V_goto C0 (tgt := 149) (by decide) dX12_answer_79 ?_
        cases q10
        exact V_sub [2, 3, 4, 5, 0, 6] rfl k11
      · have q10 := (if_neg c13).symm.trans q10
        have nd12 := nd_add nd12 c13
        by_cases c16 : y2 = (1 : Int32)
        · have q10 := (if_pos c16).symm.trans q10
          refine V_tableC C0 (tgt := 82) (v := (1 : Int32)) c16 (by decide) (by decide) dX12_answer_33 ?_
          refine V_aload_n C0 1 rfl rfl dX12_answer_82 ?_
          refine V_iload_n C0 2 rfl rfl dX12_answer_83 ?_
          refine V_iload C0 0 rfl dX12_answer_84 ?_
          refine V_iload C0 5 rfl dX12_answer_86 ?_
          obtain ⟨v17, q18, q10⟩ := bn1_some q10
          refine V_callV C0 (st := []) (As := [.int y1, .int v8, .int y4]) 11 (c_X12_spanBy G.l G.D G.cA G.ad G.bs G.X C0.2.2.2.2.2.2.2.2.2.1 C0.2.2.2.2.2.2.2.2.2.2.2.2 y0 y1 v8 y4 I L R v17 q18) lc_X12_spanBy lk_X12_227 ho0 hk0 ⟨_, rfl, rfl⟩ rfl (by rw [erm]; decide) (Nat.le_of_ble_eq_true rfl) dX12_answer_88 ?_
          show V G _ 91 [(6, .int v8), (0, .ref (G.ad y0)), (1, .int y1), (2, .int y2), (3, .int y3), (4, .int y4), (5, .int y5)] [.int v17] I L R
          refine V_istore C0 [(4, .int v17), (6, .int v8), (0, .ref (G.ad y0)), (1, .int y1), (2, .int y2), (3, .int y3), (5, .int y5)] (by rw [eNL]; decide) rfl dX12_answer_91 ?_
          refine V_goto C0 (tgt := 149) (by decide) dX12_answer_93 ?_
          cases q10
          exact V_sub [2, 3, 4, 5, 0, 6] rfl k11
        · have q10 := (if_neg c16).symm.trans q10
          have nd12 := nd_add nd12 c16
          by_cases c19 : y2 = (2 : Int32)
          · have q10 := (if_pos c19).symm.trans q10
            refine V_tableC C0 (tgt := 96) (v := (2 : Int32)) c19 (by decide) (by decide) dX12_answer_33 ?_
            refine V_aload_n C0 1 rfl rfl dX12_answer_96 ?_
            refine V_iload_n C0 2 rfl rfl dX12_answer_97 ?_
            refine V_iload C0 0 rfl dX12_answer_98 ?_
            refine V_iload C0 5 rfl dX12_answer_100 ?_
            obtain ⟨v20, q21, q10⟩ := bn1_some q10
            refine V_callV C0 (st := []) (As := [.int y1, .int v8, .int y4]) 11 (c_X12_needBy G.l G.D G.cA G.ad G.bs G.X C0.2.2.2.2.2.2.2.2.2.1 C0.2.2.2.2.2.2.2.2.2.2.2.2 y0 y1 v8 y4 I L R v20 q21) lc_X12_needBy lk_X12_230 ho0 hk0 ⟨_, rfl, rfl⟩ rfl (by rw [erm]; decide) (Nat.le_of_ble_eq_true rfl) dX12_answer_102 ?_
            show V G _ 105 [(6, .int v8), (0, .ref (G.ad y0)), (1, .int y1), (2, .int y2), (3, .int y3), (4, .int y4), (5, .int y5)] [.int v20] I L R
            refine V_istore C0 [(4, .int v20), (6, .int v8), (0, .ref (G.ad y0)), (1, .int y1), (2, .int y2), (3, .int y3), (5, .int y5)] (by rw [eNL]; decide) rfl dX12_answer_105 ?_
            refine V_goto C0 (tgt := 149) (by decide) dX12_answer_107 ?_
            cases q10
            exact V_sub [2, 3, 4, 5, 0, 6] rfl k11
          · have q10 := (if_neg c19).symm.trans q10
            have nd12 := nd_add nd12 c19
            by_cases c22 : y2 = (3 : Int32)
            · have q10 := (if_pos c22).symm.trans q10
              refine V_tableC C0 (tgt := 110) (v := (3 : Int32)) c22 (by decide) (by decide) dX12_answer_33 ?_
              refine V_aload_n C0 1 rfl rfl dX12_answer_110 ?_
              refine V_iload_n C0 2 rfl rfl dX12_answer_111 ?_
              refine V_iload C0 0 rfl dX12_answer_112 ?_
              refine V_iload C0 5 rfl dX12_answer_114 ?_
              obtain ⟨v23, q24, q10⟩ := bn1_some q10
              refine V_callV C0 (st := []) (As := [.int y1, .int v8, .int y4]) 11 (c_X12_testBy G.l G.D G.cA G.ad G.bs G.X C0.2.2.2.2.2.2.2.2.2.1 C0.2.2.2.2.2.2.2.2.2.2.2.2 y0 y1 v8 y4 I L R v23 q24) lc_X12_testBy lk_X12_233 ho0 hk0 ⟨_, rfl, rfl⟩ rfl (by rw [erm]; decide) (Nat.le_of_ble_eq_true rfl) dX12_answer_116 ?_
              show V G _ 119 [(6, .int v8), (0, .ref (G.ad y0)), (1, .int y1), (2, .int y2), (3, .int y3), (4, .int y4), (5, .int y5)] [.int v23] I L R
              refine V_istore C0 [(4, .int v23), (6, .int v8), (0, .ref (G.ad y0)), (1, .int y1), (2, .int y2), (3, .int y3), (5, .int y5)] (by rw [eNL]; decide) rfl dX12_answer_119 ?_
              refine V_goto C0 (tgt := 149) (by decide) dX12_answer_121 ?_
              cases q10
              exact V_sub [2, 3, 4, 5, 0, 6] rfl k11
            · have q10 := (if_neg c22).symm.trans q10
              have nd12 := nd_add nd12 c22
              by_cases c25 : y2 = (4 : Int32)
              · have q10 := (if_pos c25).symm.trans q10
                refine V_tableC C0 (tgt := 124) (v := (4 : Int32)) c25 (by decide) (by decide) dX12_answer_33 ?_
                refine V_aload_n C0 1 rfl rfl dX12_answer_124 ?_
                refine V_iload_n C0 2 rfl rfl dX12_answer_125 ?_
                refine V_iload C0 0 rfl dX12_answer_126 ?_
                refine V_iload C0 5 rfl dX12_answer_128 ?_
                obtain ⟨v26, q27, q10⟩ := bn1_some q10
                refine V_callV C0 (st := []) (As := [.int y1, .int v8, .int y4]) 11 (c_X12_channelsBy G.l G.D G.cA G.ad G.bs G.X C0.2.2.2.2.2.2.2.2.2.1 C0.2.2.2.2.2.2.2.2.2.2.2.2 y0 y1 v8 y4 I L R v26 q27) lc_X12_channelsBy lk_X12_236 ho0 hk0 ⟨_, rfl, rfl⟩ rfl (by rw [erm]; decide) (Nat.le_of_ble_eq_true rfl) dX12_answer_130 ?_
                show V G _ 133 [(6, .int v8), (0, .ref (G.ad y0)), (1, .int y1), (2, .int y2), (3, .int y3), (4, .int y4), (5, .int y5)] [.int v26] I L R
                refine V_istore C0 [(4, .int v26), (6, .int v8), (0, .ref (G.ad y0)), (1, .int y1), (2, .int y2), (3, .int y3), (5, .int y5)] (by rw [eNL]; decide) rfl dX12_answer_133 ?_
                refine V_goto C0 (tgt := 149) (by decide) dX12_answer_135 ?_
                cases q10
                exact V_sub [2, 3, 4, 5, 0, 6] rfl k11
              · have q10 := (if_neg c25).symm.trans q10
                have nd12 := nd_add nd12 c25
                refine V_tableN C0 (tgt := 138) nd12 (by decide) (by decide) dX12_answer_33 ?_
                refine V_aload_n C0 1 rfl rfl dX12_answer_138 ?_
                refine V_iload_n C0 2 rfl rfl dX12_answer_139 ?_
                refine V_iload C0 0 rfl dX12_answer_140 ?_
                refine V_iload C0 5 rfl dX12_answer_142 ?_
                obtain ⟨v28, q29, q10⟩ := bn1_some q10
                refine V_callV C0 (st := []) (As := [.int y1, .int v8, .int y4]) 11 (c_X12_pushBy G.l G.D G.cA G.ad G.bs G.X C0.2.2.2.2.2.2.2.2.2.1 C0.2.2.2.2.2.2.2.2.2.2.2.2 y0 y1 v8 y4 I L R v28 q29) lc_X12_pushBy lk_X12_239 ho0 hk0 ⟨_, rfl, rfl⟩ rfl (by rw [erm]; decide) (Nat.le_of_ble_eq_true rfl) dX12_answer_144 ?_
                show V G _ 147 [(6, .int v8), (0, .ref (G.ad y0)), (1, .int y1), (2, .int y2), (3, .int y3), (4, .int y4), (5, .int y5)] [.int v28] I L R
                refine V_istore C0 [(4, .int v28), (6, .int v8), (0, .ref (G.ad y0)), (1, .int y1), (2, .int y2), (3, .int y3), (5, .int y5)] (by rw [eNL]; decide) rfl dX12_answer_147 ?_
                cases q10
                exact V_sub [2, 3, 4, 5, 0, 6] rfl k11
set_option maxRecDepth 100000 in
set_option maxHeartbeats 4000000 in
theorem c_X12_answer (l : Launch) (D : va_G) (cA : Nat → ClassId) (ad : Nat → Nat) (bs : Nat) (X : State → Prop) (hAd : Ax ad bs) (hX : Stb bs X) (N : Nat) (x0 : Nat) (x1 : Int32) (x2 : Int32) (I : MI) (L : ML) (R : MR) (r : Int32) (I' : MI) (h : F_X12_answer N x0 x1 x2 I L R = some (r, I')) : Cn l D cA ad bs X yX12_answer cX12_answer 7 (some .int) 2 45 [.ref (ad x0), .int x1, .int x2] I L R (some (.int r), I', L, R) := by
  refine Cn.ofV hAd hX [(0, .ref (ad x0)), (1, .int x1), (2, .int x2)] rfl (Nat.le_of_ble_eq_true rfl) (by decide) ?_
  intro G el eD ecA ead ebs eX erm eNL C0
  subst el eD ecA ead ebs eX
  unfold F_X12_answer at h
  obtain ⟨c_x0, h⟩ := ite_some h
  refine V_aload_n C0 0 rfl rfl dX12_answer_0 ?_
  refine V_aload_n C0 0 rfl rfl dX12_answer_1 ?_
  refine V_iload_n C0 1 rfl rfl dX12_answer_2 ?_
  refine V_iconst C0 (v := (0 : Int32)) (by decide) dX12_answer_3 ?_
  obtain ⟨v1, q2, h⟩ := bn1_some h
  refine V_callV C0 (st := [.ref (G.ad x0)]) (As := [.int x1, .int (0 : Int32)]) 11 (c_X12_get G.l G.D G.cA G.ad G.bs G.X C0.2.2.2.2.2.2.2.2.2.1 C0.2.2.2.2.2.2.2.2.2.2.2.2 x0 x1 (0 : Int32) I L R v1 q2) lc_X12_get lk_X12_211 c_x0.2 c_x0.1 ⟨_, rfl, rfl⟩ rfl (by rw [erm]; decide) (Nat.le_of_ble_eq_true rfl) dX12_answer_4 ?_
  show V G _ 7 [(0, .ref (G.ad x0)), (1, .int x1), (2, .int x2)] [.int v1, .ref (G.ad x0)] I L R
  obtain ⟨v3, I4, q5, h⟩ := bn2_some h
  refine V_callV C0 (st := []) (As := [.int v1]) 11 (c_X12_findLayers G.l G.D G.cA G.ad G.bs G.X C0.2.2.2.2.2.2.2.2.2.1 C0.2.2.2.2.2.2.2.2.2.2.2.2 N x0 v1 I L R v3 I4 q5) lc_X12_findLayers lk_X12_220 c_x0.2 c_x0.1 ⟨_, rfl, rfl⟩ rfl (by rw [erm]; decide) (Nat.le_of_ble_eq_true rfl) dX12_answer_7 ?_
  show V G _ 10 [(0, .ref (G.ad x0)), (1, .int x1), (2, .int x2)] [.int v3] I4 L R
  refine V_istore_n C0 [(3, .int v3), (0, .ref (G.ad x0)), (1, .int x1), (2, .int x2)] rfl (by rw [eNL]; decide) rfl dX12_answer_10 ?_
  refine V_iconst C0 (v := (0 : Int32)) (by decide) dX12_answer_11 ?_
  refine V_istore C0 [(4, .int (0 : Int32)), (3, .int v3), (0, .ref (G.ad x0)), (1, .int x1), (2, .int x2)] (by rw [eNL]; decide) rfl dX12_answer_12 ?_
  refine V_iconst C0 (v := (0 : Int32)) (by decide) dX12_answer_14 ?_
  refine V_istore C0 [(5, .int (0 : Int32)), (4, .int (0 : Int32)), (3, .int v3), (0, .ref (G.ad x0)), (1, .int x1), (2, .int x2)] (by rw [eNL]; decide) rfl dX12_answer_15 ?_
  obtain ⟨z31, q32, h⟩ := bn1_some h
  refine V_sub [3, 4, 5, 2, 1, 0] rfl (lp_X12_answer_17 C0 eNL erm N N x0 x1 x2 v3 (0 : Int32) (0 : Int32) I4 L R _ c_x0.1 c_x0.2 q32 _ ?_)
  show V G _ 155 [(4, .int z31)] [] I4 L R
  refine V_iload C0 0 rfl dX12_answer_155 ?_
  cases h
  exact V_iret C0 dX12_answer_157
theorem dX12_makeStore_0 : decode cX12_makeStore 0 = .ok (.iload_n 2, 1) := by decide +kernel
theorem dX12_makeStore_1 : decode cX12_makeStore 1 = .ok (.tableswitch 303 1 4 #[31, 96, 158, 256], 31) := by decide +kernel
theorem dX12_makeStore_32 : decode cX12_makeStore 32 = .ok (.aload_n 0, 1) := by decide +kernel
theorem dX12_makeStore_33 : decode cX12_makeStore 33 = .ok (.iload_n 1, 1) := by decide +kernel
theorem dX12_makeStore_34 : decode cX12_makeStore 34 = .ok (.bipush 7, 2) := by decide +kernel
theorem dX12_makeStore_36 : decode cX12_makeStore 36 = .ok (.aload_n 0, 1) := by decide +kernel
theorem dX12_makeStore_37 : decode cX12_makeStore 37 = .ok (.invokevirtual 242, 3) := by decide +kernel
theorem dX12_makeStore_40 : decode cX12_makeStore 40 = .ok (.aload_n 0, 1) := by decide +kernel
theorem dX12_makeStore_41 : decode cX12_makeStore 41 = .ok (.iload_n 1, 1) := by decide +kernel
theorem dX12_makeStore_42 : decode cX12_makeStore 42 = .ok (.iconst 3, 1) := by decide +kernel
theorem dX12_makeStore_43 : decode cX12_makeStore 43 = .ok (.invokevirtual 211, 3) := by decide +kernel
theorem dX12_makeStore_46 : decode cX12_makeStore 46 = .ok (.iadd, 1) := by decide +kernel
theorem dX12_makeStore_47 : decode cX12_makeStore 47 = .ok (.invokevirtual 246, 3) := by decide +kernel
theorem dX12_makeStore_50 : decode cX12_makeStore 50 = .ok (.aload_n 0, 1) := by decide +kernel
theorem dX12_makeStore_51 : decode cX12_makeStore 51 = .ok (.iload_n 1, 1) := by decide +kernel
theorem dX12_makeStore_52 : decode cX12_makeStore 52 = .ok (.bipush 8, 2) := by decide +kernel
theorem dX12_makeStore_54 : decode cX12_makeStore 54 = .ok (.aload_n 0, 1) := by decide +kernel
theorem dX12_makeStore_55 : decode cX12_makeStore 55 = .ok (.iload_n 1, 1) := by decide +kernel
theorem dX12_makeStore_56 : decode cX12_makeStore 56 = .ok (.iconst 1, 1) := by decide +kernel
theorem dX12_makeStore_57 : decode cX12_makeStore 57 = .ok (.invokevirtual 250, 3) := by decide +kernel
theorem dX12_makeStore_60 : decode cX12_makeStore 60 = .ok (.invokevirtual 246, 3) := by decide +kernel
theorem dX12_makeStore_63 : decode cX12_makeStore 63 = .ok (.aload_n 0, 1) := by decide +kernel
theorem dX12_makeStore_64 : decode cX12_makeStore 64 = .ok (.iload_n 1, 1) := by decide +kernel
theorem dX12_makeStore_65 : decode cX12_makeStore 65 = .ok (.bipush 9, 2) := by decide +kernel
theorem dX12_makeStore_67 : decode cX12_makeStore 67 = .ok (.iload_n 3, 1) := by decide +kernel
theorem dX12_makeStore_68 : decode cX12_makeStore 68 = .ok (.invokevirtual 246, 3) := by decide +kernel
theorem dX12_makeStore_71 : decode cX12_makeStore 71 = .ok (.aload_n 0, 1) := by decide +kernel
theorem dX12_makeStore_72 : decode cX12_makeStore 72 = .ok (.iload_n 1, 1) := by decide +kernel
theorem dX12_makeStore_73 : decode cX12_makeStore 73 = .ok (.bipush 10, 2) := by decide +kernel
theorem dX12_makeStore_75 : decode cX12_makeStore 75 = .ok (.iload_n 3, 1) := by decide +kernel
theorem dX12_makeStore_76 : decode cX12_makeStore 76 = .ok (.iconst 2, 1) := by decide +kernel
theorem dX12_makeStore_77 : decode cX12_makeStore 77 = .ok (.idiv, 1) := by decide +kernel
theorem dX12_makeStore_78 : decode cX12_makeStore 78 = .ok (.invokevirtual 246, 3) := by decide +kernel
theorem dX12_makeStore_81 : decode cX12_makeStore 81 = .ok (.aload_n 0, 1) := by decide +kernel
theorem dX12_makeStore_82 : decode cX12_makeStore 82 = .ok (.iload_n 1, 1) := by decide +kernel
theorem dX12_makeStore_83 : decode cX12_makeStore 83 = .ok (.iload_n 2, 1) := by decide +kernel
theorem dX12_makeStore_84 : decode cX12_makeStore 84 = .ok (.aload_n 0, 1) := by decide +kernel
theorem dX12_makeStore_85 : decode cX12_makeStore 85 = .ok (.iload_n 1, 1) := by decide +kernel
theorem dX12_makeStore_86 : decode cX12_makeStore 86 = .ok (.bipush 8, 2) := by decide +kernel
theorem dX12_makeStore_88 : decode cX12_makeStore 88 = .ok (.invokevirtual 211, 3) := by decide +kernel
theorem dX12_makeStore_91 : decode cX12_makeStore 91 = .ok (.invokevirtual 253, 3) := by decide +kernel
theorem dX12_makeStore_94 : decode cX12_makeStore 94 = .ok (.goto 283, 3) := by decide +kernel
theorem dX12_makeStore_97 : decode cX12_makeStore 97 = .ok (.aload_n 0, 1) := by decide +kernel
theorem dX12_makeStore_98 : decode cX12_makeStore 98 = .ok (.iload_n 1, 1) := by decide +kernel
theorem dX12_makeStore_99 : decode cX12_makeStore 99 = .ok (.bipush 11, 2) := by decide +kernel
theorem dX12_makeStore_101 : decode cX12_makeStore 101 = .ok (.aload_n 0, 1) := by decide +kernel
theorem dX12_makeStore_102 : decode cX12_makeStore 102 = .ok (.invokevirtual 242, 3) := by decide +kernel
theorem dX12_makeStore_105 : decode cX12_makeStore 105 = .ok (.iconst 5, 1) := by decide +kernel
theorem dX12_makeStore_106 : decode cX12_makeStore 106 = .ok (.invokestatic 115, 3) := by decide +kernel
theorem dX12_makeStore_109 : decode cX12_makeStore 109 = .ok (.invokevirtual 246, 3) := by decide +kernel
theorem dX12_makeStore_112 : decode cX12_makeStore 112 = .ok (.aload_n 0, 1) := by decide +kernel
theorem dX12_makeStore_113 : decode cX12_makeStore 113 = .ok (.iload_n 1, 1) := by decide +kernel
theorem dX12_makeStore_114 : decode cX12_makeStore 114 = .ok (.bipush 10, 2) := by decide +kernel
theorem dX12_makeStore_116 : decode cX12_makeStore 116 = .ok (.aload_n 0, 1) := by decide +kernel
theorem dX12_makeStore_117 : decode cX12_makeStore 117 = .ok (.iload_n 1, 1) := by decide +kernel
theorem dX12_makeStore_118 : decode cX12_makeStore 118 = .ok (.bipush 9, 2) := by decide +kernel
theorem dX12_makeStore_120 : decode cX12_makeStore 120 = .ok (.invokevirtual 211, 3) := by decide +kernel
theorem dX12_makeStore_123 : decode cX12_makeStore 123 = .ok (.iconst 3, 1) := by decide +kernel
theorem dX12_makeStore_124 : decode cX12_makeStore 124 = .ok (.imul, 1) := by decide +kernel
theorem dX12_makeStore_125 : decode cX12_makeStore 125 = .ok (.iconst 4, 1) := by decide +kernel
theorem dX12_makeStore_126 : decode cX12_makeStore 126 = .ok (.idiv, 1) := by decide +kernel
theorem dX12_makeStore_127 : decode cX12_makeStore 127 = .ok (.invokevirtual 246, 3) := by decide +kernel
theorem dX12_makeStore_130 : decode cX12_makeStore 130 = .ok (.aload_n 0, 1) := by decide +kernel
theorem dX12_makeStore_131 : decode cX12_makeStore 131 = .ok (.iload_n 1, 1) := by decide +kernel
theorem dX12_makeStore_132 : decode cX12_makeStore 132 = .ok (.bipush 13, 2) := by decide +kernel
theorem dX12_makeStore_134 : decode cX12_makeStore 134 = .ok (.aload_n 0, 1) := by decide +kernel
theorem dX12_makeStore_135 : decode cX12_makeStore 135 = .ok (.iload_n 1, 1) := by decide +kernel
theorem dX12_makeStore_136 : decode cX12_makeStore 136 = .ok (.iconst 2, 1) := by decide +kernel
theorem dX12_makeStore_137 : decode cX12_makeStore 137 = .ok (.invokevirtual 250, 3) := by decide +kernel
theorem dX12_makeStore_140 : decode cX12_makeStore 140 = .ok (.invokevirtual 246, 3) := by decide +kernel
theorem dX12_makeStore_143 : decode cX12_makeStore 143 = .ok (.aload_n 0, 1) := by decide +kernel
theorem dX12_makeStore_144 : decode cX12_makeStore 144 = .ok (.iload_n 1, 1) := by decide +kernel
theorem dX12_makeStore_145 : decode cX12_makeStore 145 = .ok (.iload_n 2, 1) := by decide +kernel
theorem dX12_makeStore_146 : decode cX12_makeStore 146 = .ok (.aload_n 0, 1) := by decide +kernel
theorem dX12_makeStore_147 : decode cX12_makeStore 147 = .ok (.iload_n 1, 1) := by decide +kernel
theorem dX12_makeStore_148 : decode cX12_makeStore 148 = .ok (.bipush 13, 2) := by decide +kernel
theorem dX12_makeStore_150 : decode cX12_makeStore 150 = .ok (.invokevirtual 211, 3) := by decide +kernel
theorem dX12_makeStore_153 : decode cX12_makeStore 153 = .ok (.invokevirtual 253, 3) := by decide +kernel
theorem dX12_makeStore_156 : decode cX12_makeStore 156 = .ok (.goto 221, 3) := by decide +kernel
theorem dX12_makeStore_159 : decode cX12_makeStore 159 = .ok (.aload_n 0, 1) := by decide +kernel
theorem dX12_makeStore_160 : decode cX12_makeStore 160 = .ok (.iload_n 1, 1) := by decide +kernel
theorem dX12_makeStore_161 : decode cX12_makeStore 161 = .ok (.bipush 14, 2) := by decide +kernel
theorem dX12_makeStore_163 : decode cX12_makeStore 163 = .ok (.iconst 2, 1) := by decide +kernel
theorem dX12_makeStore_164 : decode cX12_makeStore 164 = .ok (.invokevirtual 246, 3) := by decide +kernel
theorem dX12_makeStore_167 : decode cX12_makeStore 167 = .ok (.aload_n 0, 1) := by decide +kernel
theorem dX12_makeStore_168 : decode cX12_makeStore 168 = .ok (.iload_n 1, 1) := by decide +kernel
theorem dX12_makeStore_169 : decode cX12_makeStore 169 = .ok (.bipush 15, 2) := by decide +kernel
theorem dX12_makeStore_171 : decode cX12_makeStore 171 = .ok (.aload_n 0, 1) := by decide +kernel
theorem dX12_makeStore_172 : decode cX12_makeStore 172 = .ok (.iload_n 1, 1) := by decide +kernel
theorem dX12_makeStore_173 : decode cX12_makeStore 173 = .ok (.bipush 13, 2) := by decide +kernel
theorem dX12_makeStore_175 : decode cX12_makeStore 175 = .ok (.invokevirtual 211, 3) := by decide +kernel
theorem dX12_makeStore_178 : decode cX12_makeStore 178 = .ok (.iconst 2, 1) := by decide +kernel
theorem dX12_makeStore_179 : decode cX12_makeStore 179 = .ok (.imul, 1) := by decide +kernel
theorem dX12_makeStore_180 : decode cX12_makeStore 180 = .ok (.aload_n 0, 1) := by decide +kernel
theorem dX12_makeStore_181 : decode cX12_makeStore 181 = .ok (.iload_n 1, 1) := by decide +kernel
theorem dX12_makeStore_182 : decode cX12_makeStore 182 = .ok (.bipush 11, 2) := by decide +kernel
theorem dX12_makeStore_184 : decode cX12_makeStore 184 = .ok (.invokevirtual 211, 3) := by decide +kernel
theorem dX12_makeStore_187 : decode cX12_makeStore 187 = .ok (.iadd, 1) := by decide +kernel
theorem dX12_makeStore_188 : decode cX12_makeStore 188 = .ok (.invokevirtual 246, 3) := by decide +kernel
theorem dX12_makeStore_191 : decode cX12_makeStore 191 = .ok (.aload_n 0, 1) := by decide +kernel
theorem dX12_makeStore_192 : decode cX12_makeStore 192 = .ok (.iload_n 1, 1) := by decide +kernel
theorem dX12_makeStore_193 : decode cX12_makeStore 193 = .ok (.bipush 16, 2) := by decide +kernel
theorem dX12_makeStore_195 : decode cX12_makeStore 195 = .ok (.iload 4, 2) := by decide +kernel
theorem dX12_makeStore_197 : decode cX12_makeStore 197 = .ok (.invokevirtual 246, 3) := by decide +kernel
theorem dX12_makeStore_200 : decode cX12_makeStore 200 = .ok (.aload_n 0, 1) := by decide +kernel
theorem dX12_makeStore_201 : decode cX12_makeStore 201 = .ok (.iload_n 1, 1) := by decide +kernel
theorem dX12_makeStore_202 : decode cX12_makeStore 202 = .ok (.bipush 10, 2) := by decide +kernel
theorem dX12_makeStore_204 : decode cX12_makeStore 204 = .ok (.aload_n 0, 1) := by decide +kernel
theorem dX12_makeStore_205 : decode cX12_makeStore 205 = .ok (.iload_n 1, 1) := by decide +kernel
theorem dX12_makeStore_206 : decode cX12_makeStore 206 = .ok (.bipush 10, 2) := by decide +kernel
theorem dX12_makeStore_208 : decode cX12_makeStore 208 = .ok (.invokevirtual 211, 3) := by decide +kernel
theorem dX12_makeStore_211 : decode cX12_makeStore 211 = .ok (.iload 4, 2) := by decide +kernel
theorem dX12_makeStore_213 : decode cX12_makeStore 213 = .ok (.imul, 1) := by decide +kernel
theorem dX12_makeStore_214 : decode cX12_makeStore 214 = .ok (.bipush 8, 2) := by decide +kernel
theorem dX12_makeStore_216 : decode cX12_makeStore 216 = .ok (.idiv, 1) := by decide +kernel
theorem dX12_makeStore_217 : decode cX12_makeStore 217 = .ok (.invokevirtual 246, 3) := by decide +kernel
theorem dX12_makeStore_220 : decode cX12_makeStore 220 = .ok (.aload_n 0, 1) := by decide +kernel
theorem dX12_makeStore_221 : decode cX12_makeStore 221 = .ok (.iload_n 1, 1) := by decide +kernel
theorem dX12_makeStore_222 : decode cX12_makeStore 222 = .ok (.bipush 13, 2) := by decide +kernel
theorem dX12_makeStore_224 : decode cX12_makeStore 224 = .ok (.aload_n 0, 1) := by decide +kernel
theorem dX12_makeStore_225 : decode cX12_makeStore 225 = .ok (.iload_n 1, 1) := by decide +kernel
theorem dX12_makeStore_226 : decode cX12_makeStore 226 = .ok (.iconst 2, 1) := by decide +kernel
theorem dX12_makeStore_227 : decode cX12_makeStore 227 = .ok (.invokevirtual 250, 3) := by decide +kernel
theorem dX12_makeStore_230 : decode cX12_makeStore 230 = .ok (.invokevirtual 246, 3) := by decide +kernel
theorem dX12_makeStore_233 : decode cX12_makeStore 233 = .ok (.aload_n 0, 1) := by decide +kernel
theorem dX12_makeStore_234 : decode cX12_makeStore 234 = .ok (.iload_n 1, 1) := by decide +kernel
theorem dX12_makeStore_235 : decode cX12_makeStore 235 = .ok (.iload_n 2, 1) := by decide +kernel
theorem dX12_makeStore_236 : decode cX12_makeStore 236 = .ok (.aload_n 0, 1) := by decide +kernel
theorem dX12_makeStore_237 : decode cX12_makeStore 237 = .ok (.iload_n 1, 1) := by decide +kernel
theorem dX12_makeStore_238 : decode cX12_makeStore 238 = .ok (.bipush 10, 2) := by decide +kernel
theorem dX12_makeStore_240 : decode cX12_makeStore 240 = .ok (.invokevirtual 211, 3) := by decide +kernel
theorem dX12_makeStore_243 : decode cX12_makeStore 243 = .ok (.aload_n 0, 1) := by decide +kernel
theorem dX12_makeStore_244 : decode cX12_makeStore 244 = .ok (.iload_n 1, 1) := by decide +kernel
theorem dX12_makeStore_245 : decode cX12_makeStore 245 = .ok (.bipush 15, 2) := by decide +kernel
theorem dX12_makeStore_247 : decode cX12_makeStore 247 = .ok (.invokevirtual 211, 3) := by decide +kernel
theorem dX12_makeStore_250 : decode cX12_makeStore 250 = .ok (.iadd, 1) := by decide +kernel
theorem dX12_makeStore_251 : decode cX12_makeStore 251 = .ok (.invokevirtual 253, 3) := by decide +kernel
theorem dX12_makeStore_254 : decode cX12_makeStore 254 = .ok (.goto 123, 3) := by decide +kernel
theorem dX12_makeStore_257 : decode cX12_makeStore 257 = .ok (.aload_n 0, 1) := by decide +kernel
theorem dX12_makeStore_258 : decode cX12_makeStore 258 = .ok (.iload_n 1, 1) := by decide +kernel
theorem dX12_makeStore_259 : decode cX12_makeStore 259 = .ok (.bipush 17, 2) := by decide +kernel
theorem dX12_makeStore_261 : decode cX12_makeStore 261 = .ok (.aload_n 0, 1) := by decide +kernel
theorem dX12_makeStore_262 : decode cX12_makeStore 262 = .ok (.iload_n 1, 1) := by decide +kernel
theorem dX12_makeStore_263 : decode cX12_makeStore 263 = .ok (.iconst 4, 1) := by decide +kernel
theorem dX12_makeStore_264 : decode cX12_makeStore 264 = .ok (.invokevirtual 211, 3) := by decide +kernel
theorem dX12_makeStore_267 : decode cX12_makeStore 267 = .ok (.iconst 4, 1) := by decide +kernel
theorem dX12_makeStore_268 : decode cX12_makeStore 268 = .ok (.invokestatic 115, 3) := by decide +kernel
theorem dX12_makeStore_271 : decode cX12_makeStore 271 = .ok (.invokevirtual 246, 3) := by decide +kernel
theorem dX12_makeStore_274 : decode cX12_makeStore 274 = .ok (.aload_n 0, 1) := by decide +kernel
theorem dX12_makeStore_275 : decode cX12_makeStore 275 = .ok (.iload_n 1, 1) := by decide +kernel
theorem dX12_makeStore_276 : decode cX12_makeStore 276 = .ok (.bipush 10, 2) := by decide +kernel
theorem dX12_makeStore_278 : decode cX12_makeStore 278 = .ok (.aload_n 0, 1) := by decide +kernel
theorem dX12_makeStore_279 : decode cX12_makeStore 279 = .ok (.iload_n 1, 1) := by decide +kernel
theorem dX12_makeStore_280 : decode cX12_makeStore 280 = .ok (.bipush 9, 2) := by decide +kernel
theorem dX12_makeStore_282 : decode cX12_makeStore 282 = .ok (.invokevirtual 211, 3) := by decide +kernel
theorem dX12_makeStore_285 : decode cX12_makeStore 285 = .ok (.invokevirtual 246, 3) := by decide +kernel
theorem dX12_makeStore_288 : decode cX12_makeStore 288 = .ok (.aload_n 0, 1) := by decide +kernel
theorem dX12_makeStore_289 : decode cX12_makeStore 289 = .ok (.iload_n 1, 1) := by decide +kernel
theorem dX12_makeStore_290 : decode cX12_makeStore 290 = .ok (.iload_n 2, 1) := by decide +kernel
theorem dX12_makeStore_291 : decode cX12_makeStore 291 = .ok (.aload_n 0, 1) := by decide +kernel
theorem dX12_makeStore_292 : decode cX12_makeStore 292 = .ok (.iload_n 1, 1) := by decide +kernel
theorem dX12_makeStore_293 : decode cX12_makeStore 293 = .ok (.bipush 17, 2) := by decide +kernel
theorem dX12_makeStore_295 : decode cX12_makeStore 295 = .ok (.invokevirtual 211, 3) := by decide +kernel
theorem dX12_makeStore_298 : decode cX12_makeStore 298 = .ok (.invokevirtual 253, 3) := by decide +kernel
theorem dX12_makeStore_301 : decode cX12_makeStore 301 = .ok (.goto 76, 3) := by decide +kernel
theorem dX12_makeStore_304 : decode cX12_makeStore 304 = .ok (.aload_n 0, 1) := by decide +kernel
theorem dX12_makeStore_305 : decode cX12_makeStore 305 = .ok (.iload_n 1, 1) := by decide +kernel
theorem dX12_makeStore_306 : decode cX12_makeStore 306 = .ok (.bipush 18, 2) := by decide +kernel
theorem dX12_makeStore_308 : decode cX12_makeStore 308 = .ok (.aload_n 0, 1) := by decide +kernel
theorem dX12_makeStore_309 : decode cX12_makeStore 309 = .ok (.iload_n 1, 1) := by decide +kernel
theorem dX12_makeStore_310 : decode cX12_makeStore 310 = .ok (.bipush 9, 2) := by decide +kernel
theorem dX12_makeStore_312 : decode cX12_makeStore 312 = .ok (.invokevirtual 211, 3) := by decide +kernel
theorem dX12_makeStore_315 : decode cX12_makeStore 315 = .ok (.bipush 10, 2) := by decide +kernel
theorem dX12_makeStore_317 : decode cX12_makeStore 317 = .ok (.idiv, 1) := by decide +kernel
theorem dX12_makeStore_318 : decode cX12_makeStore 318 = .ok (.invokevirtual 246, 3) := by decide +kernel
theorem dX12_makeStore_321 : decode cX12_makeStore 321 = .ok (.aload_n 0, 1) := by decide +kernel
theorem dX12_makeStore_322 : decode cX12_makeStore 322 = .ok (.iload_n 1, 1) := by decide +kernel
theorem dX12_makeStore_323 : decode cX12_makeStore 323 = .ok (.bipush 19, 2) := by decide +kernel
theorem dX12_makeStore_325 : decode cX12_makeStore 325 = .ok (.aload_n 0, 1) := by decide +kernel
theorem dX12_makeStore_326 : decode cX12_makeStore 326 = .ok (.iload_n 1, 1) := by decide +kernel
theorem dX12_makeStore_327 : decode cX12_makeStore 327 = .ok (.bipush 10, 2) := by decide +kernel
theorem dX12_makeStore_329 : decode cX12_makeStore 329 = .ok (.invokevirtual 211, 3) := by decide +kernel
theorem dX12_makeStore_332 : decode cX12_makeStore 332 = .ok (.invokevirtual 246, 3) := by decide +kernel
theorem dX12_makeStore_335 : decode cX12_makeStore 335 = .ok (.aload_n 0, 1) := by decide +kernel
theorem dX12_makeStore_336 : decode cX12_makeStore 336 = .ok (.iload_n 1, 1) := by decide +kernel
theorem dX12_makeStore_337 : decode cX12_makeStore 337 = .ok (.bipush 10, 2) := by decide +kernel
theorem dX12_makeStore_339 : decode cX12_makeStore 339 = .ok (.iconst 0, 1) := by decide +kernel
theorem dX12_makeStore_340 : decode cX12_makeStore 340 = .ok (.invokevirtual 246, 3) := by decide +kernel
theorem dX12_makeStore_343 : decode cX12_makeStore 343 = .ok (.aload_n 0, 1) := by decide +kernel
theorem dX12_makeStore_344 : decode cX12_makeStore 344 = .ok (.iload_n 1, 1) := by decide +kernel
theorem dX12_makeStore_345 : decode cX12_makeStore 345 = .ok (.bipush 20, 2) := by decide +kernel
theorem dX12_makeStore_347 : decode cX12_makeStore 347 = .ok (.aload_n 0, 1) := by decide +kernel
theorem dX12_makeStore_348 : decode cX12_makeStore 348 = .ok (.iload_n 1, 1) := by decide +kernel
theorem dX12_makeStore_349 : decode cX12_makeStore 349 = .ok (.iconst 1, 1) := by decide +kernel
theorem dX12_makeStore_350 : decode cX12_makeStore 350 = .ok (.invokevirtual 250, 3) := by decide +kernel
theorem dX12_makeStore_353 : decode cX12_makeStore 353 = .ok (.invokevirtual 246, 3) := by decide +kernel
theorem dX12_makeStore_356 : decode cX12_makeStore 356 = .ok (.aload_n 0, 1) := by decide +kernel
theorem dX12_makeStore_357 : decode cX12_makeStore 357 = .ok (.iload_n 1, 1) := by decide +kernel
theorem dX12_makeStore_358 : decode cX12_makeStore 358 = .ok (.iload_n 2, 1) := by decide +kernel
theorem dX12_makeStore_359 : decode cX12_makeStore 359 = .ok (.aload_n 0, 1) := by decide +kernel
theorem dX12_makeStore_360 : decode cX12_makeStore 360 = .ok (.iload_n 1, 1) := by decide +kernel
theorem dX12_makeStore_361 : decode cX12_makeStore 361 = .ok (.bipush 20, 2) := by decide +kernel
theorem dX12_makeStore_363 : decode cX12_makeStore 363 = .ok (.invokevirtual 211, 3) := by decide +kernel
theorem dX12_makeStore_366 : decode cX12_makeStore 366 = .ok (.aload_n 0, 1) := by decide +kernel
theorem dX12_makeStore_367 : decode cX12_makeStore 367 = .ok (.iload_n 1, 1) := by decide +kernel
theorem dX12_makeStore_368 : decode cX12_makeStore 368 = .ok (.bipush 19, 2) := by decide +kernel
theorem dX12_makeStore_370 : decode cX12_makeStore 370 = .ok (.invokevirtual 211, 3) := by decide +kernel
theorem dX12_makeStore_373 : decode cX12_makeStore 373 = .ok (.iadd, 1) := by decide +kernel
theorem dX12_makeStore_374 : decode cX12_makeStore 374 = .ok (.invokevirtual 253, 3) := by decide +kernel
theorem dX12_makeStore_377 : decode cX12_makeStore 377 = .ok (.return_, 1) := by decide +kernel
def F_X12_makeStore (N : Nat) (x0 : Nat) (x1 : Int32) (x2 : Int32) (x3 : Int32) (x4 : Int32) (I : MI) (L : ML) (R : MR) : Option (MI) :=
  if kd x0 = 11 ∧ x0 < NN then
  if x2 = (1 : Int32) then
    bn2 (F_X12_draw x0 I L R) fun v3 I4 =>
    bn1 (F_X12_get x0 x1 (3 : Int32) I4 L R) fun v6 =>
    bn1 (F_X12_set x0 x1 (7 : Int32) (v3 + v6) I4 L R) fun I8 =>
    bn2 (F_X12_answer N x0 x1 (1 : Int32) I8 L R) fun v10 I11 =>
    bn1 (F_X12_set x0 x1 (8 : Int32) v10 I11 L R) fun I13 =>
    bn1 (F_X12_set x0 x1 (9 : Int32) x3 I13 L R) fun I15 =>
    bn1 (F_X12_set x0 x1 (10 : Int32) (x3 / (2 : Int32)) I15 L R) fun I17 =>
    bn1 (F_X12_get x0 x1 (8 : Int32) I17 L R) fun v19 =>
    bn1 (F_X12_noted x0 x1 x2 v19 I17 L R) fun I21 =>
    some (I21)
  else
    if x2 = (2 : Int32) then
      bn2 (F_X12_draw x0 I L R) fun v24 I25 =>
      bn1 (F_X12_mod v24 (5 : Int32) I25 L R) fun v27 =>
      bn1 (F_X12_set x0 x1 (11 : Int32) v27 I25 L R) fun I29 =>
      bn1 (F_X12_get x0 x1 (9 : Int32) I29 L R) fun v31 =>
      bn1 (F_X12_set x0 x1 (10 : Int32) ((v31 * (3 : Int32)) / (4 : Int32)) I29 L R) fun I33 =>
      bn2 (F_X12_answer N x0 x1 (2 : Int32) I33 L R) fun v35 I36 =>
      bn1 (F_X12_set x0 x1 (13 : Int32) v35 I36 L R) fun I38 =>
      bn1 (F_X12_get x0 x1 (13 : Int32) I38 L R) fun v40 =>
      bn1 (F_X12_noted x0 x1 x2 v40 I38 L R) fun I42 =>
      some (I42)
    else
      if x2 = (3 : Int32) then
        bn1 (F_X12_set x0 x1 (14 : Int32) (2 : Int32) I L R) fun I45 =>
        bn1 (F_X12_get x0 x1 (13 : Int32) I45 L R) fun v47 =>
        bn1 (F_X12_get x0 x1 (11 : Int32) I45 L R) fun v49 =>
        bn1 (F_X12_set x0 x1 (15 : Int32) ((v47 * (2 : Int32)) + v49) I45 L R) fun I51 =>
        bn1 (F_X12_set x0 x1 (16 : Int32) x4 I51 L R) fun I53 =>
        bn1 (F_X12_get x0 x1 (10 : Int32) I53 L R) fun v55 =>
        bn1 (F_X12_set x0 x1 (10 : Int32) ((v55 * x4) / (8 : Int32)) I53 L R) fun I57 =>
        bn2 (F_X12_answer N x0 x1 (2 : Int32) I57 L R) fun v59 I60 =>
        bn1 (F_X12_set x0 x1 (13 : Int32) v59 I60 L R) fun I62 =>
        bn1 (F_X12_get x0 x1 (10 : Int32) I62 L R) fun v64 =>
        bn1 (F_X12_get x0 x1 (15 : Int32) I62 L R) fun v66 =>
        bn1 (F_X12_noted x0 x1 x2 (v64 + v66) I62 L R) fun I68 =>
        some (I68)
      else
        if x2 = (4 : Int32) then
          bn1 (F_X12_get x0 x1 (4 : Int32) I L R) fun v71 =>
          bn1 (F_X12_mod v71 (4 : Int32) I L R) fun v73 =>
          bn1 (F_X12_set x0 x1 (17 : Int32) v73 I L R) fun I75 =>
          bn1 (F_X12_get x0 x1 (9 : Int32) I75 L R) fun v77 =>
          bn1 (F_X12_set x0 x1 (10 : Int32) v77 I75 L R) fun I79 =>
          bn1 (F_X12_get x0 x1 (17 : Int32) I79 L R) fun v81 =>
          bn1 (F_X12_noted x0 x1 x2 v81 I79 L R) fun I83 =>
          some (I83)
        else
          bn1 (F_X12_get x0 x1 (9 : Int32) I L R) fun v85 =>
          bn1 (F_X12_set x0 x1 (18 : Int32) (v85 / (10 : Int32)) I L R) fun I87 =>
          bn1 (F_X12_get x0 x1 (10 : Int32) I87 L R) fun v89 =>
          bn1 (F_X12_set x0 x1 (19 : Int32) v89 I87 L R) fun I91 =>
          bn1 (F_X12_set x0 x1 (10 : Int32) (0 : Int32) I91 L R) fun I93 =>
          bn2 (F_X12_answer N x0 x1 (1 : Int32) I93 L R) fun v95 I96 =>
          bn1 (F_X12_set x0 x1 (20 : Int32) v95 I96 L R) fun I98 =>
          bn1 (F_X12_get x0 x1 (20 : Int32) I98 L R) fun v100 =>
          bn1 (F_X12_get x0 x1 (19 : Int32) I98 L R) fun v102 =>
          bn1 (F_X12_noted x0 x1 x2 (v100 + v102) I98 L R) fun I104 =>
          some (I104)
  else none
set_option maxRecDepth 100000 in
set_option maxHeartbeats 4000000 in
theorem c_X12_makeStore (l : Launch) (D : va_G) (cA : Nat → ClassId) (ad : Nat → Nat) (bs : Nat) (X : State → Prop) (hAd : Ax ad bs) (hX : Stb bs X) (N : Nat) (x0 : Nat) (x1 : Int32) (x2 : Int32) (x3 : Int32) (x4 : Int32) (I : MI) (L : ML) (R : MR) (I' : MI) (h : F_X12_makeStore N x0 x1 x2 x3 x4 I L R = some (I')) : Cn l D cA ad bs X yX12_makeStore cX12_makeStore 5 none 3 71 [.ref (ad x0), .int x1, .int x2, .int x3, .int x4] I L R (none, I', L, R) := by
  refine Cn.ofV hAd hX [(0, .ref (ad x0)), (1, .int x1), (2, .int x2), (3, .int x3), (4, .int x4)] rfl (Nat.le_of_ble_eq_true rfl) (by decide) ?_
  intro G el eD ecA ead ebs eX erm eNL C0
  subst el eD ecA ead ebs eX
  unfold F_X12_makeStore at h
  obtain ⟨c_x0, h⟩ := ite_some h
  refine V_iload_n C0 2 rfl rfl dX12_makeStore_0 ?_
  have nd1 := nd_0 x2
  by_cases c2 : x2 = (1 : Int32)
  · have h := (if_pos c2).symm.trans h
    refine V_tableC C0 (tgt := 32) (v := (1 : Int32)) c2 (by decide) (by decide) dX12_makeStore_1 ?_
    refine V_aload_n C0 0 rfl rfl dX12_makeStore_32 ?_
    refine V_iload_n C0 1 rfl rfl dX12_makeStore_33 ?_
    refine V_bipush C0 (v := (7 : Int32)) (by decide) dX12_makeStore_34 ?_
    refine V_aload_n C0 0 rfl rfl dX12_makeStore_36 ?_
    obtain ⟨v3, I4, q5, h⟩ := bn2_some h
    refine V_callV C0 (st := [.int (7 : Int32), .int x1, .ref (G.ad x0)]) (As := []) 11 (c_X12_draw G.l G.D G.cA G.ad G.bs G.X C0.2.2.2.2.2.2.2.2.2.1 C0.2.2.2.2.2.2.2.2.2.2.2.2 x0 I L R v3 I4 q5) lc_X12_draw lk_X12_242 c_x0.2 c_x0.1 ⟨_, rfl, rfl⟩ rfl (by rw [erm]; decide) (Nat.le_of_ble_eq_true rfl) dX12_makeStore_37 ?_
    show V G _ 40 [(0, .ref (G.ad x0)), (1, .int x1), (2, .int x2), (3, .int x3), (4, .int x4)] [.int v3, .int (7 : Int32), .int x1, .ref (G.ad x0)] I4 L R
    refine V_aload_n C0 0 rfl rfl dX12_makeStore_40 ?_
    refine V_iload_n C0 1 rfl rfl dX12_makeStore_41 ?_
    refine V_iconst C0 (v := (3 : Int32)) (by decide) dX12_makeStore_42 ?_
    obtain ⟨v6, q7, h⟩ := bn1_some h
    refine V_callV C0 (st := [.int v3, .int (7 : Int32), .int x1, .ref (G.ad x0)]) (As := [.int x1, .int (3 : Int32)]) 11 (c_X12_get G.l G.D G.cA G.ad G.bs G.X C0.2.2.2.2.2.2.2.2.2.1 C0.2.2.2.2.2.2.2.2.2.2.2.2 x0 x1 (3 : Int32) I4 L R v6 q7) lc_X12_get lk_X12_211 c_x0.2 c_x0.1 ⟨_, rfl, rfl⟩ rfl (by rw [erm]; decide) (Nat.le_of_ble_eq_true rfl) dX12_makeStore_43 ?_
    show V G _ 46 [(0, .ref (G.ad x0)), (1, .int x1), (2, .int x2), (3, .int x3), (4, .int x4)] [.int v6, .int v3, .int (7 : Int32), .int x1, .ref (G.ad x0)] I4 L R
    refine V_iadd C0 dX12_makeStore_46 ?_
    obtain ⟨I8, q9, h⟩ := bn1_some h
    refine V_callV C0 (st := []) (As := [.int x1, .int (7 : Int32), .int (v3 + v6)]) 11 (c_X12_set G.l G.D G.cA G.ad G.bs G.X C0.2.2.2.2.2.2.2.2.2.1 C0.2.2.2.2.2.2.2.2.2.2.2.2 x0 x1 (7 : Int32) (v3 + v6) I4 L R I8 q9) lc_X12_set lk_X12_246 c_x0.2 c_x0.1 ⟨_, rfl, rfl⟩ rfl (by rw [erm]; decide) (Nat.le_of_ble_eq_true rfl) dX12_makeStore_47 ?_
    show V G _ 50 [(0, .ref (G.ad x0)), (1, .int x1), (2, .int x2), (3, .int x3), (4, .int x4)] [] I8 L R
    refine V_aload_n C0 0 rfl rfl dX12_makeStore_50 ?_
    refine V_iload_n C0 1 rfl rfl dX12_makeStore_51 ?_
    refine V_bipush C0 (v := (8 : Int32)) (by decide) dX12_makeStore_52 ?_
    refine V_aload_n C0 0 rfl rfl dX12_makeStore_54 ?_
    refine V_iload_n C0 1 rfl rfl dX12_makeStore_55 ?_
    refine V_iconst C0 (v := (1 : Int32)) (by decide) dX12_makeStore_56 ?_
    obtain ⟨v10, I11, q12, h⟩ := bn2_some h
    refine V_callV C0 (st := [.int (8 : Int32), .int x1, .ref (G.ad x0)]) (As := [.int x1, .int (1 : Int32)]) 11 (c_X12_answer G.l G.D G.cA G.ad G.bs G.X C0.2.2.2.2.2.2.2.2.2.1 C0.2.2.2.2.2.2.2.2.2.2.2.2 N x0 x1 (1 : Int32) I8 L R v10 I11 q12) lc_X12_answer lk_X12_250 c_x0.2 c_x0.1 ⟨_, rfl, rfl⟩ rfl (by rw [erm]; decide) (Nat.le_of_ble_eq_true rfl) dX12_makeStore_57 ?_
    show V G _ 60 [(0, .ref (G.ad x0)), (1, .int x1), (2, .int x2), (3, .int x3), (4, .int x4)] [.int v10, .int (8 : Int32), .int x1, .ref (G.ad x0)] I11 L R
    obtain ⟨I13, q14, h⟩ := bn1_some h
    refine V_callV C0 (st := []) (As := [.int x1, .int (8 : Int32), .int v10]) 11 (c_X12_set G.l G.D G.cA G.ad G.bs G.X C0.2.2.2.2.2.2.2.2.2.1 C0.2.2.2.2.2.2.2.2.2.2.2.2 x0 x1 (8 : Int32) v10 I11 L R I13 q14) lc_X12_set lk_X12_246 c_x0.2 c_x0.1 ⟨_, rfl, rfl⟩ rfl (by rw [erm]; decide) (Nat.le_of_ble_eq_true rfl) dX12_makeStore_60 ?_
    show V G _ 63 [(0, .ref (G.ad x0)), (1, .int x1), (2, .int x2), (3, .int x3), (4, .int x4)] [] I13 L R
    refine V_aload_n C0 0 rfl rfl dX12_makeStore_63 ?_
    refine V_iload_n C0 1 rfl rfl dX12_makeStore_64 ?_
    refine V_bipush C0 (v := (9 : Int32)) (by decide) dX12_makeStore_65 ?_
    refine V_iload_n C0 3 rfl rfl dX12_makeStore_67 ?_
    obtain ⟨I15, q16, h⟩ := bn1_some h
    refine V_callV C0 (st := []) (As := [.int x1, .int (9 : Int32), .int x3]) 11 (c_X12_set G.l G.D G.cA G.ad G.bs G.X C0.2.2.2.2.2.2.2.2.2.1 C0.2.2.2.2.2.2.2.2.2.2.2.2 x0 x1 (9 : Int32) x3 I13 L R I15 q16) lc_X12_set lk_X12_246 c_x0.2 c_x0.1 ⟨_, rfl, rfl⟩ rfl (by rw [erm]; decide) (Nat.le_of_ble_eq_true rfl) dX12_makeStore_68 ?_
    show V G _ 71 [(0, .ref (G.ad x0)), (1, .int x1), (2, .int x2), (3, .int x3), (4, .int x4)] [] I15 L R
    refine V_aload_n C0 0 rfl rfl dX12_makeStore_71 ?_
    refine V_iload_n C0 1 rfl rfl dX12_makeStore_72 ?_
    refine V_bipush C0 (v := (10 : Int32)) (by decide) dX12_makeStore_73 ?_
    refine V_iload_n C0 3 rfl rfl dX12_makeStore_75 ?_
    refine V_iconst C0 (v := (2 : Int32)) (by decide) dX12_makeStore_76 ?_
    refine V_idiv C0 (by decide) dX12_makeStore_77 ?_
    obtain ⟨I17, q18, h⟩ := bn1_some h
    refine V_callV C0 (st := []) (As := [.int x1, .int (10 : Int32), .int (x3 / (2 : Int32))]) 11 (c_X12_set G.l G.D G.cA G.ad G.bs G.X C0.2.2.2.2.2.2.2.2.2.1 C0.2.2.2.2.2.2.2.2.2.2.2.2 x0 x1 (10 : Int32) (x3 / (2 : Int32)) I15 L R I17 q18) lc_X12_set lk_X12_246 c_x0.2 c_x0.1 ⟨_, rfl, rfl⟩ rfl (by rw [erm]; decide) (Nat.le_of_ble_eq_true rfl) dX12_makeStore_78 ?_
    show V G _ 81 [(0, .ref (G.ad x0)), (1, .int x1), (2, .int x2), (3, .int x3), (4, .int x4)] [] I17 L R
    refine V_aload_n C0 0 rfl rfl dX12_makeStore_81 ?_
    refine V_iload_n C0 1 rfl rfl dX12_makeStore_82 ?_
    refine V_iload_n C0 2 rfl rfl dX12_makeStore_83 ?_
    refine V_aload_n C0 0 rfl rfl dX12_makeStore_84 ?_
    refine V_iload_n C0 1 rfl rfl dX12_makeStore_85 ?_
    refine V_bipush C0 (v := (8 : Int32)) (by decide) dX12_makeStore_86 ?_
    obtain ⟨v19, q20, h⟩ := bn1_some h
    refine V_callV C0 (st := [.int x2, .int x1, .ref (G.ad x0)]) (As := [.int x1, .int (8 : Int32)]) 11 (c_X12_get G.l G.D G.cA G.ad G.bs G.X C0.2.2.2.2.2.2.2.2.2.1 C0.2.2.2.2.2.2.2.2.2.2.2.2 x0 x1 (8 : Int32) I17 L R v19 q20) lc_X12_get lk_X12_211 c_x0.2 c_x0.1 ⟨_, rfl, rfl⟩ rfl (by rw [erm]; decide) (Nat.le_of_ble_eq_true rfl) dX12_makeStore_88 ?_
    show V G _ 91 [(0, .ref (G.ad x0)), (1, .int x1), (2, .int x2), (3, .int x3), (4, .int x4)] [.int v19, .int x2, .int x1, .ref (G.ad x0)] I17 L R
    obtain ⟨I21, q22, h⟩ := bn1_some h
    refine V_callV C0 (st := []) (As := [.int x1, .int x2, .int v19]) 11 (c_X12_noted G.l G.D G.cA G.ad G.bs G.X C0.2.2.2.2.2.2.2.2.2.1 C0.2.2.2.2.2.2.2.2.2.2.2.2 x0 x1 x2 v19 I17 L R I21 q22) lc_X12_noted lk_X12_253 c_x0.2 c_x0.1 ⟨_, rfl, rfl⟩ rfl (by rw [erm]; decide) (Nat.le_of_ble_eq_true rfl) dX12_makeStore_91 ?_
    show V G _ 94 [(0, .ref (G.ad x0)), (1, .int x1), (2, .int x2), (3, .int x3), (4, .int x4)] [] I21 L R
    refine V_goto C0 (tgt := 377) (by decide) dX12_makeStore_94 ?_
    cases h
    exact V_vret C0 dX12_makeStore_377
  · have h := (if_neg c2).symm.trans h
    have nd1 := nd_add nd1 c2
    by_cases c23 : x2 = (2 : Int32)
    · have h := (if_pos c23).symm.trans h
      refine V_tableC C0 (tgt := 97) (v := (2 : Int32)) c23 (by decide) (by decide) dX12_makeStore_1 ?_
      refine V_aload_n C0 0 rfl rfl dX12_makeStore_97 ?_
      refine V_iload_n C0 1 rfl rfl dX12_makeStore_98 ?_
      refine V_bipush C0 (v := (11 : Int32)) (by decide) dX12_makeStore_99 ?_
      refine V_aload_n C0 0 rfl rfl dX12_makeStore_101 ?_
      obtain ⟨v24, I25, q26, h⟩ := bn2_some h
      refine V_callV C0 (st := [.int (11 : Int32), .int x1, .ref (G.ad x0)]) (As := []) 11 (c_X12_draw G.l G.D G.cA G.ad G.bs G.X C0.2.2.2.2.2.2.2.2.2.1 C0.2.2.2.2.2.2.2.2.2.2.2.2 x0 I L R v24 I25 q26) lc_X12_draw lk_X12_242 c_x0.2 c_x0.1 ⟨_, rfl, rfl⟩ rfl (by rw [erm]; decide) (Nat.le_of_ble_eq_true rfl) dX12_makeStore_102 ?_
      show V G _ 105 [(0, .ref (G.ad x0)), (1, .int x1), (2, .int x2), (3, .int x3), (4, .int x4)] [.int v24, .int (11 : Int32), .int x1, .ref (G.ad x0)] I25 L R
      refine V_iconst C0 (v := (5 : Int32)) (by decide) dX12_makeStore_105 ?_
      obtain ⟨v27, q28, h⟩ := bn1_some h
      refine V_callS C0 (st := [.int (11 : Int32), .int x1, .ref (G.ad x0)]) (As := [.int v24, .int (5 : Int32)]) (c_X12_mod G.l G.D G.cA G.ad G.bs G.X C0.2.2.2.2.2.2.2.2.2.1 C0.2.2.2.2.2.2.2.2.2.2.2.2 v24 (5 : Int32) I25 L R v27 q28) lc_X12_mod lk_X12_115 rfl (by rw [erm]; decide) (Nat.le_of_ble_eq_true rfl) dX12_makeStore_106 ?_
      show V G _ 109 [(0, .ref (G.ad x0)), (1, .int x1), (2, .int x2), (3, .int x3), (4, .int x4)] [.int v27, .int (11 : Int32), .int x1, .ref (G.ad x0)] I25 L R
      obtain ⟨I29, q30, h⟩ := bn1_some h
      refine V_callV C0 (st := []) (As := [.int x1, .int (11 : Int32), .int v27]) 11 (c_X12_set G.l G.D G.cA G.ad G.bs G.X C0.2.2.2.2.2.2.2.2.2.1 C0.2.2.2.2.2.2.2.2.2.2.2.2 x0 x1 (11 : Int32) v27 I25 L R I29 q30) lc_X12_set lk_X12_246 c_x0.2 c_x0.1 ⟨_, rfl, rfl⟩ rfl (by rw [erm]; decide) (Nat.le_of_ble_eq_true rfl) dX12_makeStore_109 ?_
      show V G _ 112 [(0, .ref (G.ad x0)), (1, .int x1), (2, .int x2), (3, .int x3), (4, .int x4)] [] I29 L R
      refine V_aload_n C0 0 rfl rfl dX12_makeStore_112 ?_
      refine V_iload_n C0 1 rfl rfl dX12_makeStore_113 ?_
      refine V_bipush C0 (v := (10 : Int32)) (by decide) dX12_makeStore_114 ?_
      refine V_aload_n C0 0 rfl rfl dX12_makeStore_116 ?_
      refine V_iload_n C0 1 rfl rfl dX12_makeStore_117 ?_
      refine V_bipush C0 (v := (9 : Int32)) (by decide) dX12_makeStore_118 ?_
      obtain ⟨v31, q32, h⟩ := bn1_some h
      refine V_callV C0 (st := [.int (10 : Int32), .int x1, .ref (G.ad x0)]) (As := [.int x1, .int (9 : Int32)]) 11 (c_X12_get G.l G.D G.cA G.ad G.bs G.X C0.2.2.2.2.2.2.2.2.2.1 C0.2.2.2.2.2.2.2.2.2.2.2.2 x0 x1 (9 : Int32) I29 L R v31 q32) lc_X12_get lk_X12_211 c_x0.2 c_x0.1 ⟨_, rfl, rfl⟩ rfl (by rw [erm]; decide) (Nat.le_of_ble_eq_true rfl) dX12_makeStore_120 ?_
      show V G _ 123 [(0, .ref (G.ad x0)), (1, .int x1), (2, .int x2), (3, .int x3), (4, .int x4)] [.int v31, .int (10 : Int32), .int x1, .ref (G.ad x0)] I29 L R
      refine V_iconst C0 (v := (3 : Int32)) (by decide) dX12_makeStore_123 ?_
      refine V_imul C0 dX12_makeStore_124 ?_
      refine V_iconst C0 (v := (4 : Int32)) (by decide) dX12_makeStore_125 ?_
      refine V_idiv C0 (by decide) dX12_makeStore_126 ?_
      obtain ⟨I33, q34, h⟩ := bn1_some h
      refine V_callV C0 (st := []) (As := [.int x1, .int (10 : Int32), .int ((v31 * (3 : Int32)) / (4 : Int32))]) 11 (c_X12_set G.l G.D G.cA G.ad G.bs G.X C0.2.2.2.2.2.2.2.2.2.1 C0.2.2.2.2.2.2.2.2.2.2.2.2 x0 x1 (10 : Int32) ((v31 * (3 : Int32)) / (4 : Int32)) I29 L R I33 q34) lc_X12_set lk_X12_246 c_x0.2 c_x0.1 ⟨_, rfl, rfl⟩ rfl (by rw [erm]; decide) (Nat.le_of_ble_eq_true rfl) dX12_makeStore_127 ?_
      show V G _ 130 [(0, .ref (G.ad x0)), (1, .int x1), (2, .int x2), (3, .int x3), (4, .int x4)] [] I33 L R
      refine V_aload_n C0 0 rfl rfl dX12_makeStore_130 ?_
      refine V_iload_n C0 1 rfl rfl dX12_makeStore_131 ?_
      refine V_bipush C0 (v := (13 : Int32)) (by decide) dX12_makeStore_132 ?_
      refine V_aload_n C0 0 rfl rfl dX12_makeStore_134 ?_
      refine V_iload_n C0 1 rfl rfl dX12_makeStore_135 ?_
      refine V_iconst C0 (v := (2 : Int32)) (by decide) dX12_makeStore_136 ?_
      obtain ⟨v35, I36, q37, h⟩ := bn2_some h
      refine V_callV C0 (st := [.int (13 : Int32), .int x1, .ref (G.ad x0)]) (As := [.int x1, .int (2 : Int32)]) 11 (c_X12_answer G.l G.D G.cA G.ad G.bs G.X C0.2.2.2.2.2.2.2.2.2.1 C0.2.2.2.2.2.2.2.2.2.2.2.2 N x0 x1 (2 : Int32) I33 L R v35 I36 q37) lc_X12_answer lk_X12_250 c_x0.2 c_x0.1 ⟨_, rfl, rfl⟩ rfl (by rw [erm]; decide) (Nat.le_of_ble_eq_true rfl) dX12_makeStore_137 ?_
      show V G _ 140 [(0, .ref (G.ad x0)), (1, .int x1), (2, .int x2), (3, .int x3), (4, .int x4)] [.int v35, .int (13 : Int32), .int x1, .ref (G.ad x0)] I36 L R
      obtain ⟨I38, q39, h⟩ := bn1_some h
      refine V_callV C0 (st := []) (As := [.int x1, .int (13 : Int32), .int v35]) 11 (c_X12_set G.l G.D G.cA G.ad G.bs G.X C0.2.2.2.2.2.2.2.2.2.1 C0.2.2.2.2.2.2.2.2.2.2.2.2 x0 x1 (13 : Int32) v35 I36 L R I38 q39) lc_X12_set lk_X12_246 c_x0.2 c_x0.1 ⟨_, rfl, rfl⟩ rfl (by rw [erm]; decide) (Nat.le_of_ble_eq_true rfl) dX12_makeStore_140 ?_
      show V G _ 143 [(0, .ref (G.ad x0)), (1, .int x1), (2, .int x2), (3, .int x3), (4, .int x4)] [] I38 L R
      refine V_aload_n C0 0 rfl rfl dX12_makeStore_143 ?_
      refine V_iload_n C0 1 rfl rfl dX12_makeStore_144 ?_
      refine V_iload_n C0 2 rfl rfl dX12_makeStore_145 ?_
      refine V_aload_n C0 0 rfl rfl dX12_makeStore_146 ?_
      refine V_iload_n C0 1 rfl rfl dX12_makeStore_147 ?_
      refine V_bipush C0 (v := (13 : Int32)) (by decide) dX12_makeStore_148 ?_
      obtain ⟨v40, q41, h⟩ := bn1_some h
      refine V_callV C0 (st := [.int x2, .int x1, .ref (G.ad x0)]) (As := [.int x1, .int (13 : Int32)]) 11 (c_X12_get G.l G.D G.cA G.ad G.bs G.X C0.2.2.2.2.2.2.2.2.2.1 C0.2.2.2.2.2.2.2.2.2.2.2.2 x0 x1 (13 : Int32) I38 L R v40 q41) lc_X12_get lk_X12_211 c_x0.2 c_x0.1 ⟨_, rfl, rfl⟩ rfl (by rw [erm]; decide) (Nat.le_of_ble_eq_true rfl) dX12_makeStore_150 ?_
      show V G _ 153 [(0, .ref (G.ad x0)), (1, .int x1), (2, .int x2), (3, .int x3), (4, .int x4)] [.int v40, .int x2, .int x1, .ref (G.ad x0)] I38 L R
      obtain ⟨I42, q43, h⟩ := bn1_some h
      refine V_callV C0 (st := []) (As := [.int x1, .int x2, .int v40]) 11 (c_X12_noted G.l G.D G.cA G.ad G.bs G.X C0.2.2.2.2.2.2.2.2.2.1 C0.2.2.2.2.2.2.2.2.2.2.2.2 x0 x1 x2 v40 I38 L R I42 q43) lc_X12_noted lk_X12_253 c_x0.2 c_x0.1 ⟨_, rfl, rfl⟩ rfl (by rw [erm]; decide) (Nat.le_of_ble_eq_true rfl) dX12_makeStore_153 ?_
      show V G _ 156 [(0, .ref (G.ad x0)), (1, .int x1), (2, .int x2), (3, .int x3), (4, .int x4)] [] I42 L R
      refine V_goto C0 (tgt := 377) (by decide) dX12_makeStore_156 ?_
      cases h
      exact V_vret C0 dX12_makeStore_377
    · have h := (if_neg c23).symm.trans h
      have nd1 := nd_add nd1 c23
      by_cases c44 : x2 = (3 : Int32)
      · have h := (if_pos c44).symm.trans h
        refine V_tableC C0 (tgt := 159) (v := (3 : Int32)) c44 (by decide) (by decide) dX12_makeStore_1 ?_
        refine V_aload_n C0 0 rfl rfl dX12_makeStore_159 ?_
        refine V_iload_n C0 1 rfl rfl dX12_makeStore_160 ?_
        refine V_bipush C0 (v := (14 : Int32)) (by decide) dX12_makeStore_161 ?_
        refine V_iconst C0 (v := (2 : Int32)) (by decide) dX12_makeStore_163 ?_
        obtain ⟨I45, q46, h⟩ := bn1_some h
        refine V_callV C0 (st := []) (As := [.int x1, .int (14 : Int32), .int (2 : Int32)]) 11 (c_X12_set G.l G.D G.cA G.ad G.bs G.X C0.2.2.2.2.2.2.2.2.2.1 C0.2.2.2.2.2.2.2.2.2.2.2.2 x0 x1 (14 : Int32) (2 : Int32) I L R I45 q46) lc_X12_set lk_X12_246 c_x0.2 c_x0.1 ⟨_, rfl, rfl⟩ rfl (by rw [erm]; decide) (Nat.le_of_ble_eq_true rfl) dX12_makeStore_164 ?_
        show V G _ 167 [(0, .ref (G.ad x0)), (1, .int x1), (2, .int x2), (3, .int x3), (4, .int x4)] [] I45 L R
        refine V_aload_n C0 0 rfl rfl dX12_makeStore_167 ?_
        refine V_iload_n C0 1 rfl rfl dX12_makeStore_168 ?_
        refine V_bipush C0 (v := (15 : Int32)) (by decide) dX12_makeStore_169 ?_
        refine V_aload_n C0 0 rfl rfl dX12_makeStore_171 ?_
        refine V_iload_n C0 1 rfl rfl dX12_makeStore_172 ?_
        refine V_bipush C0 (v := (13 : Int32)) (by decide) dX12_makeStore_173 ?_
        obtain ⟨v47, q48, h⟩ := bn1_some h
        refine V_callV C0 (st := [.int (15 : Int32), .int x1, .ref (G.ad x0)]) (As := [.int x1, .int (13 : Int32)]) 11 (c_X12_get G.l G.D G.cA G.ad G.bs G.X C0.2.2.2.2.2.2.2.2.2.1 C0.2.2.2.2.2.2.2.2.2.2.2.2 x0 x1 (13 : Int32) I45 L R v47 q48) lc_X12_get lk_X12_211 c_x0.2 c_x0.1 ⟨_, rfl, rfl⟩ rfl (by rw [erm]; decide) (Nat.le_of_ble_eq_true rfl) dX12_makeStore_175 ?_
        show V G _ 178 [(0, .ref (G.ad x0)), (1, .int x1), (2, .int x2), (3, .int x3), (4, .int x4)] [.int v47, .int (15 : Int32), .int x1, .ref (G.ad x0)] I45 L R
        refine V_iconst C0 (v := (2 : Int32)) (by decide) dX12_makeStore_178 ?_
        refine V_imul C0 dX12_makeStore_179 ?_
        refine V_aload_n C0 0 rfl rfl dX12_makeStore_180 ?_
        refine V_iload_n C0 1 rfl rfl dX12_makeStore_181 ?_
        refine V_bipush C0 (v := (11 : Int32)) (by decide) dX12_makeStore_182 ?_
        obtain ⟨v49, q50, h⟩ := bn1_some h
        refine V_callV C0 (st := [.int (v47 * (2 : Int32)), .int (15 : Int32), .int x1, .ref (G.ad x0)]) (As := [.int x1, .int (11 : Int32)]) 11 (c_X12_get G.l G.D G.cA G.ad G.bs G.X C0.2.2.2.2.2.2.2.2.2.1 C0.2.2.2.2.2.2.2.2.2.2.2.2 x0 x1 (11 : Int32) I45 L R v49 q50) lc_X12_get lk_X12_211 c_x0.2 c_x0.1 ⟨_, rfl, rfl⟩ rfl (by rw [erm]; decide) (Nat.le_of_ble_eq_true rfl) dX12_makeStore_184 ?_
        show V G _ 187 [(0, .ref (G.ad x0)), (1, .int x1), (2, .int x2), (3, .int x3), (4, .int x4)] [.int v49, .int (v47 * (2 : Int32)), .int (15 : Int32), .int x1, .ref (G.ad x0)] I45 L R
        refine V_iadd C0 dX12_makeStore_187 ?_
        obtain ⟨I51, q52, h⟩ := bn1_some h
        refine V_callV C0 (st := []) (As := [.int x1, .int (15 : Int32), .int ((v47 * (2 : Int32)) + v49)]) 11 (c_X12_set G.l G.D G.cA G.ad G.bs G.X C0.2.2.2.2.2.2.2.2.2.1 C0.2.2.2.2.2.2.2.2.2.2.2.2 x0 x1 (15 : Int32) ((v47 * (2 : Int32)) + v49) I45 L R I51 q52) lc_X12_set lk_X12_246 c_x0.2 c_x0.1 ⟨_, rfl, rfl⟩ rfl (by rw [erm]; decide) (Nat.le_of_ble_eq_true rfl) dX12_makeStore_188 ?_
        show V G _ 191 [(0, .ref (G.ad x0)), (1, .int x1), (2, .int x2), (3, .int x3), (4, .int x4)] [] I51 L R
        refine V_aload_n C0 0 rfl rfl dX12_makeStore_191 ?_
        refine V_iload_n C0 1 rfl rfl dX12_makeStore_192 ?_
        refine V_bipush C0 (v := (16 : Int32)) (by decide) dX12_makeStore_193 ?_
        refine V_iload C0 4 rfl dX12_makeStore_195 ?_
        obtain ⟨I53, q54, h⟩ := bn1_some h
        refine V_callV C0 (st := []) (As := [.int x1, .int (16 : Int32), .int x4]) 11 (c_X12_set G.l G.D G.cA G.ad G.bs G.X C0.2.2.2.2.2.2.2.2.2.1 C0.2.2.2.2.2.2.2.2.2.2.2.2 x0 x1 (16 : Int32) x4 I51 L R I53 q54) lc_X12_set lk_X12_246 c_x0.2 c_x0.1 ⟨_, rfl, rfl⟩ rfl (by rw [erm]; decide) (Nat.le_of_ble_eq_true rfl) dX12_makeStore_197 ?_
        show V G _ 200 [(0, .ref (G.ad x0)), (1, .int x1), (2, .int x2), (3, .int x3), (4, .int x4)] [] I53 L R
        refine V_aload_n C0 0 rfl rfl dX12_makeStore_200 ?_
        refine V_iload_n C0 1 rfl rfl dX12_makeStore_201 ?_
        refine V_bipush C0 (v := (10 : Int32)) (by decide) dX12_makeStore_202 ?_
        refine V_aload_n C0 0 rfl rfl dX12_makeStore_204 ?_
        refine V_iload_n C0 1 rfl rfl dX12_makeStore_205 ?_
        refine V_bipush C0 (v := (10 : Int32)) (by decide) dX12_makeStore_206 ?_
        obtain ⟨v55, q56, h⟩ := bn1_some h
        refine V_callV C0 (st := [.int (10 : Int32), .int x1, .ref (G.ad x0)]) (As := [.int x1, .int (10 : Int32)]) 11 (c_X12_get G.l G.D G.cA G.ad G.bs G.X C0.2.2.2.2.2.2.2.2.2.1 C0.2.2.2.2.2.2.2.2.2.2.2.2 x0 x1 (10 : Int32) I53 L R v55 q56) lc_X12_get lk_X12_211 c_x0.2 c_x0.1 ⟨_, rfl, rfl⟩ rfl (by rw [erm]; decide) (Nat.le_of_ble_eq_true rfl) dX12_makeStore_208 ?_
        show V G _ 211 [(0, .ref (G.ad x0)), (1, .int x1), (2, .int x2), (3, .int x3), (4, .int x4)] [.int v55, .int (10 : Int32), .int x1, .ref (G.ad x0)] I53 L R
        refine V_iload C0 4 rfl dX12_makeStore_211 ?_
        refine V_imul C0 dX12_makeStore_213 ?_
        refine V_bipush C0 (v := (8 : Int32)) (by decide) dX12_makeStore_214 ?_
        refine V_idiv C0 (by decide) dX12_makeStore_216 ?_
        obtain ⟨I57, q58, h⟩ := bn1_some h
        refine V_callV C0 (st := []) (As := [.int x1, .int (10 : Int32), .int ((v55 * x4) / (8 : Int32))]) 11 (c_X12_set G.l G.D G.cA G.ad G.bs G.X C0.2.2.2.2.2.2.2.2.2.1 C0.2.2.2.2.2.2.2.2.2.2.2.2 x0 x1 (10 : Int32) ((v55 * x4) / (8 : Int32)) I53 L R I57 q58) lc_X12_set lk_X12_246 c_x0.2 c_x0.1 ⟨_, rfl, rfl⟩ rfl (by rw [erm]; decide) (Nat.le_of_ble_eq_true rfl) dX12_makeStore_217 ?_
        show V G _ 220 [(0, .ref (G.ad x0)), (1, .int x1), (2, .int x2), (3, .int x3), (4, .int x4)] [] I57 L R
        refine V_aload_n C0 0 rfl rfl dX12_makeStore_220 ?_
        refine V_iload_n C0 1 rfl rfl dX12_makeStore_221 ?_
        refine V_bipush C0 (v := (13 : Int32)) (by decide) dX12_makeStore_222 ?_
        refine V_aload_n C0 0 rfl rfl dX12_makeStore_224 ?_
        refine V_iload_n C0 1 rfl rfl dX12_makeStore_225 ?_
        refine V_iconst C0 (v := (2 : Int32)) (by decide) dX12_makeStore_226 ?_
        obtain ⟨v59, I60, q61, h⟩ := bn2_some h
        refine V_callV C0 (st := [.int (13 : Int32), .int x1, .ref (G.ad x0)]) (As := [.int x1, .int (2 : Int32)]) 11 (c_X12_answer G.l G.D G.cA G.ad G.bs G.X C0.2.2.2.2.2.2.2.2.2.1 C0.2.2.2.2.2.2.2.2.2.2.2.2 N x0 x1 (2 : Int32) I57 L R v59 I60 q61) lc_X12_answer lk_X12_250 c_x0.2 c_x0.1 ⟨_, rfl, rfl⟩ rfl (by rw [erm]; decide) (Nat.le_of_ble_eq_true rfl) dX12_makeStore_227 ?_
        show V G _ 230 [(0, .ref (G.ad x0)), (1, .int x1), (2, .int x2), (3, .int x3), (4, .int x4)] [.int v59, .int (13 : Int32), .int x1, .ref (G.ad x0)] I60 L R
        obtain ⟨I62, q63, h⟩ := bn1_some h
        refine V_callV C0 (st := []) (As := [.int x1, .int (13 : Int32), .int v59]) 11 (c_X12_set G.l G.D G.cA G.ad G.bs G.X C0.2.2.2.2.2.2.2.2.2.1 C0.2.2.2.2.2.2.2.2.2.2.2.2 x0 x1 (13 : Int32) v59 I60 L R I62 q63) lc_X12_set lk_X12_246 c_x0.2 c_x0.1 ⟨_, rfl, rfl⟩ rfl (by rw [erm]; decide) (Nat.le_of_ble_eq_true rfl) dX12_makeStore_230 ?_
        show V G _ 233 [(0, .ref (G.ad x0)), (1, .int x1), (2, .int x2), (3, .int x3), (4, .int x4)] [] I62 L R
        refine V_aload_n C0 0 rfl rfl dX12_makeStore_233 ?_
        refine V_iload_n C0 1 rfl rfl dX12_makeStore_234 ?_
        refine V_iload_n C0 2 rfl rfl dX12_makeStore_235 ?_
        refine V_aload_n C0 0 rfl rfl dX12_makeStore_236 ?_
        refine V_iload_n C0 1 rfl rfl dX12_makeStore_237 ?_
        refine V_bipush C0 (v := (10 : Int32)) (by decide) dX12_makeStore_238 ?_
        obtain ⟨v64, q65, h⟩ := bn1_some h
        refine V_callV C0 (st := [.int x2, .int x1, .ref (G.ad x0)]) (As := [.int x1, .int (10 : Int32)]) 11 (c_X12_get G.l G.D G.cA G.ad G.bs G.X C0.2.2.2.2.2.2.2.2.2.1 C0.2.2.2.2.2.2.2.2.2.2.2.2 x0 x1 (10 : Int32) I62 L R v64 q65) lc_X12_get lk_X12_211 c_x0.2 c_x0.1 ⟨_, rfl, rfl⟩ rfl (by rw [erm]; decide) (Nat.le_of_ble_eq_true rfl) dX12_makeStore_240 ?_
        show V G _ 243 [(0, .ref (G.ad x0)), (1, .int x1), (2, .int x2), (3, .int x3), (4, .int x4)] [.int v64, .int x2, .int x1, .ref (G.ad x0)] I62 L R
        refine V_aload_n C0 0 rfl rfl dX12_makeStore_243 ?_
        refine V_iload_n C0 1 rfl rfl dX12_makeStore_244 ?_
        refine V_bipush C0 (v := (15 : Int32)) (by decide) dX12_makeStore_245 ?_
        obtain ⟨v66, q67, h⟩ := bn1_some h
        refine V_callV C0 (st := [.int v64, .int x2, .int x1, .ref (G.ad x0)]) (As := [.int x1, .int (15 : Int32)]) 11 (c_X12_get G.l G.D G.cA G.ad G.bs G.X C0.2.2.2.2.2.2.2.2.2.1 C0.2.2.2.2.2.2.2.2.2.2.2.2 x0 x1 (15 : Int32) I62 L R v66 q67) lc_X12_get lk_X12_211 c_x0.2 c_x0.1 ⟨_, rfl, rfl⟩ rfl (by rw [erm]; decide) (Nat.le_of_ble_eq_true rfl) dX12_makeStore_247 ?_
        show V G _ 250 [(0, .ref (G.ad x0)), (1, .int x1), (2, .int x2), (3, .int x3), (4, .int x4)] [.int v66, .int v64, .int x2, .int x1, .ref (G.ad x0)] I62 L R
        refine V_iadd C0 dX12_makeStore_250 ?_
        obtain ⟨I68, q69, h⟩ := bn1_some h
        refine V_callV C0 (st := []) (As := [.int x1, .int x2, .int (v64 + v66)]) 11 (c_X12_noted G.l G.D G.cA G.ad G.bs G.X C0.2.2.2.2.2.2.2.2.2.1 C0.2.2.2.2.2.2.2.2.2.2.2.2 x0 x1 x2 (v64 + v66) I62 L R I68 q69) lc_X12_noted lk_X12_253 c_x0.2 c_x0.1 ⟨_, rfl, rfl⟩ rfl (by rw [erm]; decide) (Nat.le_of_ble_eq_true rfl) dX12_makeStore_251 ?_
        show V G _ 254 [(0, .ref (G.ad x0)), (1, .int x1), (2, .int x2), (3, .int x3), (4, .int x4)] [] I68 L R
        refine V_goto C0 (tgt := 377) (by decide) dX12_makeStore_254 ?_
        cases h
        exact V_vret C0 dX12_makeStore_377
      · have h := (if_neg c44).symm.trans h
        have nd1 := nd_add nd1 c44
        by_cases c70 : x2 = (4 : Int32)
        · have h := (if_pos c70).symm.trans h
          refine V_tableC C0 (tgt := 257) (v := (4 : Int32)) c70 (by decide) (by decide) dX12_makeStore_1 ?_
          refine V_aload_n C0 0 rfl rfl dX12_makeStore_257 ?_
          refine V_iload_n C0 1 rfl rfl dX12_makeStore_258 ?_
          refine V_bipush C0 (v := (17 : Int32)) (by decide) dX12_makeStore_259 ?_
          refine V_aload_n C0 0 rfl rfl dX12_makeStore_261 ?_
          refine V_iload_n C0 1 rfl rfl dX12_makeStore_262 ?_
          refine V_iconst C0 (v := (4 : Int32)) (by decide) dX12_makeStore_263 ?_
          obtain ⟨v71, q72, h⟩ := bn1_some h
          refine V_callV C0 (st := [.int (17 : Int32), .int x1, .ref (G.ad x0)]) (As := [.int x1, .int (4 : Int32)]) 11 (c_X12_get G.l G.D G.cA G.ad G.bs G.X C0.2.2.2.2.2.2.2.2.2.1 C0.2.2.2.2.2.2.2.2.2.2.2.2 x0 x1 (4 : Int32) I L R v71 q72) lc_X12_get lk_X12_211 c_x0.2 c_x0.1 ⟨_, rfl, rfl⟩ rfl (by rw [erm]; decide) (Nat.le_of_ble_eq_true rfl) dX12_makeStore_264 ?_
          show V G _ 267 [(0, .ref (G.ad x0)), (1, .int x1), (2, .int x2), (3, .int x3), (4, .int x4)] [.int v71, .int (17 : Int32), .int x1, .ref (G.ad x0)] I L R
          refine V_iconst C0 (v := (4 : Int32)) (by decide) dX12_makeStore_267 ?_
          obtain ⟨v73, q74, h⟩ := bn1_some h
          refine V_callS C0 (st := [.int (17 : Int32), .int x1, .ref (G.ad x0)]) (As := [.int v71, .int (4 : Int32)]) (c_X12_mod G.l G.D G.cA G.ad G.bs G.X C0.2.2.2.2.2.2.2.2.2.1 C0.2.2.2.2.2.2.2.2.2.2.2.2 v71 (4 : Int32) I L R v73 q74) lc_X12_mod lk_X12_115 rfl (by rw [erm]; decide) (Nat.le_of_ble_eq_true rfl) dX12_makeStore_268 ?_
          show V G _ 271 [(0, .ref (G.ad x0)), (1, .int x1), (2, .int x2), (3, .int x3), (4, .int x4)] [.int v73, .int (17 : Int32), .int x1, .ref (G.ad x0)] I L R
          obtain ⟨I75, q76, h⟩ := bn1_some h
          refine V_callV C0 (st := []) (As := [.int x1, .int (17 : Int32), .int v73]) 11 (c_X12_set G.l G.D G.cA G.ad G.bs G.X C0.2.2.2.2.2.2.2.2.2.1 C0.2.2.2.2.2.2.2.2.2.2.2.2 x0 x1 (17 : Int32) v73 I L R I75 q76) lc_X12_set lk_X12_246 c_x0.2 c_x0.1 ⟨_, rfl, rfl⟩ rfl (by rw [erm]; decide) (Nat.le_of_ble_eq_true rfl) dX12_makeStore_271 ?_
          show V G _ 274 [(0, .ref (G.ad x0)), (1, .int x1), (2, .int x2), (3, .int x3), (4, .int x4)] [] I75 L R
          refine V_aload_n C0 0 rfl rfl dX12_makeStore_274 ?_
          refine V_iload_n C0 1 rfl rfl dX12_makeStore_275 ?_
          refine V_bipush C0 (v := (10 : Int32)) (by decide) dX12_makeStore_276 ?_
          refine V_aload_n C0 0 rfl rfl dX12_makeStore_278 ?_
          refine V_iload_n C0 1 rfl rfl dX12_makeStore_279 ?_
          refine V_bipush C0 (v := (9 : Int32)) (by decide) dX12_makeStore_280 ?_
          obtain ⟨v77, q78, h⟩ := bn1_some h
          refine V_callV C0 (st := [.int (10 : Int32), .int x1, .ref (G.ad x0)]) (As := [.int x1, .int (9 : Int32)]) 11 (c_X12_get G.l G.D G.cA G.ad G.bs G.X C0.2.2.2.2.2.2.2.2.2.1 C0.2.2.2.2.2.2.2.2.2.2.2.2 x0 x1 (9 : Int32) I75 L R v77 q78) lc_X12_get lk_X12_211 c_x0.2 c_x0.1 ⟨_, rfl, rfl⟩ rfl (by rw [erm]; decide) (Nat.le_of_ble_eq_true rfl) dX12_makeStore_282 ?_
          show V G _ 285 [(0, .ref (G.ad x0)), (1, .int x1), (2, .int x2), (3, .int x3), (4, .int x4)] [.int v77, .int (10 : Int32), .int x1, .ref (G.ad x0)] I75 L R
          obtain ⟨I79, q80, h⟩ := bn1_some h
          refine V_callV C0 (st := []) (As := [.int x1, .int (10 : Int32), .int v77]) 11 (c_X12_set G.l G.D G.cA G.ad G.bs G.X C0.2.2.2.2.2.2.2.2.2.1 C0.2.2.2.2.2.2.2.2.2.2.2.2 x0 x1 (10 : Int32) v77 I75 L R I79 q80) lc_X12_set lk_X12_246 c_x0.2 c_x0.1 ⟨_, rfl, rfl⟩ rfl (by rw [erm]; decide) (Nat.le_of_ble_eq_true rfl) dX12_makeStore_285 ?_
          show V G _ 288 [(0, .ref (G.ad x0)), (1, .int x1), (2, .int x2), (3, .int x3), (4, .int x4)] [] I79 L R
          refine V_aload_n C0 0 rfl rfl dX12_makeStore_288 ?_
          refine V_iload_n C0 1 rfl rfl dX12_makeStore_289 ?_
          refine V_iload_n C0 2 rfl rfl dX12_makeStore_290 ?_
          refine V_aload_n C0 0 rfl rfl dX12_makeStore_291 ?_
          refine V_iload_n C0 1 rfl rfl dX12_makeStore_292 ?_
          refine V_bipush C0 (v := (17 : Int32)) (by decide) dX12_makeStore_293 ?_
          obtain ⟨v81, q82, h⟩ := bn1_some h
          refine V_callV C0 (st := [.int x2, .int x1, .ref (G.ad x0)]) (As := [.int x1, .int (17 : Int32)]) 11 (c_X12_get G.l G.D G.cA G.ad G.bs G.X C0.2.2.2.2.2.2.2.2.2.1 C0.2.2.2.2.2.2.2.2.2.2.2.2 x0 x1 (17 : Int32) I79 L R v81 q82) lc_X12_get lk_X12_211 c_x0.2 c_x0.1 ⟨_, rfl, rfl⟩ rfl (by rw [erm]; decide) (Nat.le_of_ble_eq_true rfl) dX12_makeStore_295 ?_
          show V G _ 298 [(0, .ref (G.ad x0)), (1, .int x1), (2, .int x2), (3, .int x3), (4, .int x4)] [.int v81, .int x2, .int x1, .ref (G.ad x0)] I79 L R
          obtain ⟨I83, q84, h⟩ := bn1_some h
          refine V_callV C0 (st := []) (As := [.int x1, .int x2, .int v81]) 11 (c_X12_noted G.l G.D G.cA G.ad G.bs G.X C0.2.2.2.2.2.2.2.2.2.1 C0.2.2.2.2.2.2.2.2.2.2.2.2 x0 x1 x2 v81 I79 L R I83 q84) lc_X12_noted lk_X12_253 c_x0.2 c_x0.1 ⟨_, rfl, rfl⟩ rfl (by rw [erm]; decide) (Nat.le_of_ble_eq_true rfl) dX12_makeStore_298 ?_
          show V G _ 301 [(0, .ref (G.ad x0)), (1, .int x1), (2, .int x2), (3, .int x3), (4, .int x4)] [] I83 L R
          refine V_goto C0 (tgt := 377) (by decide) dX12_makeStore_301 ?_
          cases h
          exact V_vret C0 dX12_makeStore_377
        · have h := (if_neg c70).symm.trans h
          have nd1 := nd_add nd1 c70
          refine V_tableN C0 (tgt := 304) nd1 (by decide) (by decide) dX12_makeStore_1 ?_
          refine V_aload_n C0 0 rfl rfl dX12_makeStore_304 ?_
          refine V_iload_n C0 1 rfl rfl dX12_makeStore_305 ?_
          refine V_bipush C0 (v := (18 : Int32)) (by decide) dX12_makeStore_306 ?_
          refine V_aload_n C0 0 rfl rfl dX12_makeStore_308 ?_
          refine V_iload_n C0 1 rfl rfl dX12_makeStore_309 ?_
          refine V_bipush C0 (v := (9 : Int32)) (by decide) dX12_makeStore_310 ?_
          obtain ⟨v85, q86, h⟩ := bn1_some h
          refine V_callV C0 (st := [.int (18 : Int32), .int x1, .ref (G.ad x0)]) (As := [.int x1, .int (9 : Int32)]) 11 (c_X12_get G.l G.D G.cA G.ad G.bs G.X C0.2.2.2.2.2.2.2.2.2.1 C0.2.2.2.2.2.2.2.2.2.2.2.2 x0 x1 (9 : Int32) I L R v85 q86) lc_X12_get lk_X12_211 c_x0.2 c_x0.1 ⟨_, rfl, rfl⟩ rfl (by rw [erm]; decide) (Nat.le_of_ble_eq_true rfl) dX12_makeStore_312 ?_
          show V G _ 315 [(0, .ref (G.ad x0)), (1, .int x1), (2, .int x2), (3, .int x3), (4, .int x4)] [.int v85, .int (18 : Int32), .int x1, .ref (G.ad x0)] I L R
          refine V_bipush C0 (v := (10 : Int32)) (by decide) dX12_makeStore_315 ?_
          refine V_idiv C0 (by decide) dX12_makeStore_317 ?_
          obtain ⟨I87, q88, h⟩ := bn1_some h
          refine V_callV C0 (st := []) (As := [.int x1, .int (18 : Int32), .int (v85 / (10 : Int32))]) 11 (c_X12_set G.l G.D G.cA G.ad G.bs G.X C0.2.2.2.2.2.2.2.2.2.1 C0.2.2.2.2.2.2.2.2.2.2.2.2 x0 x1 (18 : Int32) (v85 / (10 : Int32)) I L R I87 q88) lc_X12_set lk_X12_246 c_x0.2 c_x0.1 ⟨_, rfl, rfl⟩ rfl (by rw [erm]; decide) (Nat.le_of_ble_eq_true rfl) dX12_makeStore_318 ?_
          show V G _ 321 [(0, .ref (G.ad x0)), (1, .int x1), (2, .int x2), (3, .int x3), (4, .int x4)] [] I87 L R
          refine V_aload_n C0 0 rfl rfl dX12_makeStore_321 ?_
          refine V_iload_n C0 1 rfl rfl dX12_makeStore_322 ?_
          refine V_bipush C0 (v := (19 : Int32)) (by decide) dX12_makeStore_323 ?_
          refine V_aload_n C0 0 rfl rfl dX12_makeStore_325 ?_
          refine V_iload_n C0 1 rfl rfl dX12_makeStore_326 ?_
          refine V_bipush C0 (v := (10 : Int32)) (by decide) dX12_makeStore_327 ?_
          obtain ⟨v89, q90, h⟩ := bn1_some h
          refine V_callV C0 (st := [.int (19 : Int32), .int x1, .ref (G.ad x0)]) (As := [.int x1, .int (10 : Int32)]) 11 (c_X12_get G.l G.D G.cA G.ad G.bs G.X C0.2.2.2.2.2.2.2.2.2.1 C0.2.2.2.2.2.2.2.2.2.2.2.2 x0 x1 (10 : Int32) I87 L R v89 q90) lc_X12_get lk_X12_211 c_x0.2 c_x0.1 ⟨_, rfl, rfl⟩ rfl (by rw [erm]; decide) (Nat.le_of_ble_eq_true rfl) dX12_makeStore_329 ?_
          show V G _ 332 [(0, .ref (G.ad x0)), (1, .int x1), (2, .int x2), (3, .int x3), (4, .int x4)] [.int v89, .int (19 : Int32), .int x1, .ref (G.ad x0)] I87 L R
          obtain ⟨I91, q92, h⟩ := bn1_some h
          refine V_callV C0 (st := []) (As := [.int x1, .int (19 : Int32), .int v89]) 11 (c_X12_set G.l G.D G.cA G.ad G.bs G.X C0.2.2.2.2.2.2.2.2.2.1 C0.2.2.2.2.2.2.2.2.2.2.2.2 x0 x1 (19 : Int32) v89 I87 L R I91 q92) lc_X12_set lk_X12_246 c_x0.2 c_x0.1 ⟨_, rfl, rfl⟩ rfl (by rw [erm]; decide) (Nat.le_of_ble_eq_true rfl) dX12_makeStore_332 ?_
          show V G _ 335 [(0, .ref (G.ad x0)), (1, .int x1), (2, .int x2), (3, .int x3), (4, .int x4)] [] I91 L R
          refine V_aload_n C0 0 rfl rfl dX12_makeStore_335 ?_
          refine V_iload_n C0 1 rfl rfl dX12_makeStore_336 ?_
          refine V_bipush C0 (v := (10 : Int32)) (by decide) dX12_makeStore_337 ?_
          refine V_iconst C0 (v := (0 : Int32)) (by decide) dX12_makeStore_339 ?_
          obtain ⟨I93, q94, h⟩ := bn1_some h
          refine V_callV C0 (st := []) (As := [.int x1, .int (10 : Int32), .int (0 : Int32)]) 11 (c_X12_set G.l G.D G.cA G.ad G.bs G.X C0.2.2.2.2.2.2.2.2.2.1 C0.2.2.2.2.2.2.2.2.2.2.2.2 x0 x1 (10 : Int32) (0 : Int32) I91 L R I93 q94) lc_X12_set lk_X12_246 c_x0.2 c_x0.1 ⟨_, rfl, rfl⟩ rfl (by rw [erm]; decide) (Nat.le_of_ble_eq_true rfl) dX12_makeStore_340 ?_
          show V G _ 343 [(0, .ref (G.ad x0)), (1, .int x1), (2, .int x2), (3, .int x3), (4, .int x4)] [] I93 L R
          refine V_aload_n C0 0 rfl rfl dX12_makeStore_343 ?_
          refine V_iload_n C0 1 rfl rfl dX12_makeStore_344 ?_
          refine V_bipush C0 (v := (20 : Int32)) (by decide) dX12_makeStore_345 ?_
          refine V_aload_n C0 0 rfl rfl dX12_makeStore_347 ?_
          refine V_iload_n C0 1 rfl rfl dX12_makeStore_348 ?_
          refine V_iconst C0 (v := (1 : Int32)) (by decide) dX12_makeStore_349 ?_
          obtain ⟨v95, I96, q97, h⟩ := bn2_some h
          refine V_callV C0 (st := [.int (20 : Int32), .int x1, .ref (G.ad x0)]) (As := [.int x1, .int (1 : Int32)]) 11 (c_X12_answer G.l G.D G.cA G.ad G.bs G.X C0.2.2.2.2.2.2.2.2.2.1 C0.2.2.2.2.2.2.2.2.2.2.2.2 N x0 x1 (1 : Int32) I93 L R v95 I96 q97) lc_X12_answer lk_X12_250 c_x0.2 c_x0.1 ⟨_, rfl, rfl⟩ rfl (by rw [erm]; decide) (Nat.le_of_ble_eq_true rfl) dX12_makeStore_350 ?_
          show V G _ 353 [(0, .ref (G.ad x0)), (1, .int x1), (2, .int x2), (3, .int x3), (4, .int x4)] [.int v95, .int (20 : Int32), .int x1, .ref (G.ad x0)] I96 L R
          obtain ⟨I98, q99, h⟩ := bn1_some h
          refine V_callV C0 (st := []) (As := [.int x1, .int (20 : Int32), .int v95]) 11 (c_X12_set G.l G.D G.cA G.ad G.bs G.X C0.2.2.2.2.2.2.2.2.2.1 C0.2.2.2.2.2.2.2.2.2.2.2.2 x0 x1 (20 : Int32) v95 I96 L R I98 q99) lc_X12_set lk_X12_246 c_x0.2 c_x0.1 ⟨_, rfl, rfl⟩ rfl (by rw [erm]; decide) (Nat.le_of_ble_eq_true rfl) dX12_makeStore_353 ?_
          show V G _ 356 [(0, .ref (G.ad x0)), (1, .int x1), (2, .int x2), (3, .int x3), (4, .int x4)] [] I98 L R
          refine V_aload_n C0 0 rfl rfl dX12_makeStore_356 ?_
          refine V_iload_n C0 1 rfl rfl dX12_makeStore_357 ?_
          refine V_iload_n C0 2 rfl rfl dX12_makeStore_358 ?_
          refine V_aload_n C0 0 rfl rfl dX12_makeStore_359 ?_
          refine V_iload_n C0 1 rfl rfl dX12_makeStore_360 ?_
          refine V_bipush C0 (v := (20 : Int32)) (by decide) dX12_makeStore_361 ?_
          obtain ⟨v100, q101, h⟩ := bn1_some h
          refine V_callV C0 (st := [.int x2, .int x1, .ref (G.ad x0)]) (As := [.int x1, .int (20 : Int32)]) 11 (c_X12_get G.l G.D G.cA G.ad G.bs G.X C0.2.2.2.2.2.2.2.2.2.1 C0.2.2.2.2.2.2.2.2.2.2.2.2 x0 x1 (20 : Int32) I98 L R v100 q101) lc_X12_get lk_X12_211 c_x0.2 c_x0.1 ⟨_, rfl, rfl⟩ rfl (by rw [erm]; decide) (Nat.le_of_ble_eq_true rfl) dX12_makeStore_363 ?_
          show V G _ 366 [(0, .ref (G.ad x0)), (1, .int x1), (2, .int x2), (3, .int x3), (4, .int x4)] [.int v100, .int x2, .int x1, .ref (G.ad x0)] I98 L R
          refine V_aload_n C0 0 rfl rfl dX12_makeStore_366 ?_
          refine V_iload_n C0 1 rfl rfl dX12_makeStore_367 ?_
          refine V_bipush C0 (v := (19 : Int32)) (by decide) dX12_makeStore_368 ?_
          obtain ⟨v102, q103, h⟩ := bn1_some h
          refine V_callV C0 (st := [.int v100, .int x2, .int x1, .ref (G.ad x0)]) (As := [.int x1, .int (19 : Int32)]) 11 (c_X12_get G.l G.D G.cA G.ad G.bs G.X C0.2.2.2.2.2.2.2.2.2.1 C0.2.2.2.2.2.2.2.2.2.2.2.2 x0 x1 (19 : Int32) I98 L R v102 q103) lc_X12_get lk_X12_211 c_x0.2 c_x0.1 ⟨_, rfl, rfl⟩ rfl (by rw [erm]; decide) (Nat.le_of_ble_eq_true rfl) dX12_makeStore_370 ?_
          show V G _ 373 [(0, .ref (G.ad x0)), (1, .int x1), (2, .int x2), (3, .int x3), (4, .int x4)] [.int v102, .int v100, .int x2, .int x1, .ref (G.ad x0)] I98 L R
          refine V_iadd C0 dX12_makeStore_373 ?_
          obtain ⟨I104, q105, h⟩ := bn1_some h
          refine V_callV C0 (st := []) (As := [.int x1, .int x2, .int (v100 + v102)]) 11 (c_X12_noted G.l G.D G.cA G.ad G.bs G.X C0.2.2.2.2.2.2.2.2.2.1 C0.2.2.2.2.2.2.2.2.2.2.2.2 x0 x1 x2 (v100 + v102) I98 L R I104 q105) lc_X12_noted lk_X12_253 c_x0.2 c_x0.1 ⟨_, rfl, rfl⟩ rfl (by rw [erm]; decide) (Nat.le_of_ble_eq_true rfl) dX12_makeStore_374 ?_
          show V G _ 377 [(0, .ref (G.ad x0)), (1, .int x1), (2, .int x2), (3, .int x3), (4, .int x4)] [] I104 L R
          cases h
          exact V_vret C0 dX12_makeStore_377
theorem dX12_makeLoad_0 : decode cX12_makeLoad 0 = .ok (.iload_n 2, 1) := by decide +kernel
theorem dX12_makeLoad_1 : decode cX12_makeLoad 1 = .ok (.lookupswitch 269 #[(6, 43), (7, 126), (8, 157), (20, 219)], 43) := by decide +kernel
theorem dX12_makeLoad_44 : decode cX12_makeLoad 44 = .ok (.aload_n 0, 1) := by decide +kernel
theorem dX12_makeLoad_45 : decode cX12_makeLoad 45 = .ok (.iload_n 1, 1) := by decide +kernel
theorem dX12_makeLoad_46 : decode cX12_makeLoad 46 = .ok (.bipush 21, 2) := by decide +kernel
theorem dX12_makeLoad_48 : decode cX12_makeLoad 48 = .ok (.aload_n 0, 1) := by decide +kernel
theorem dX12_makeLoad_49 : decode cX12_makeLoad 49 = .ok (.iload_n 1, 1) := by decide +kernel
theorem dX12_makeLoad_50 : decode cX12_makeLoad 50 = .ok (.iconst 2, 1) := by decide +kernel
theorem dX12_makeLoad_51 : decode cX12_makeLoad 51 = .ok (.invokevirtual 211, 3) := by decide +kernel
theorem dX12_makeLoad_54 : decode cX12_makeLoad 54 = .ok (.aload_n 0, 1) := by decide +kernel
theorem dX12_makeLoad_55 : decode cX12_makeLoad 55 = .ok (.invokevirtual 242, 3) := by decide +kernel
theorem dX12_makeLoad_58 : decode cX12_makeLoad 58 = .ok (.iadd, 1) := by decide +kernel
theorem dX12_makeLoad_59 : decode cX12_makeLoad 59 = .ok (.iconst 3, 1) := by decide +kernel
theorem dX12_makeLoad_60 : decode cX12_makeLoad 60 = .ok (.invokestatic 115, 3) := by decide +kernel
theorem dX12_makeLoad_63 : decode cX12_makeLoad 63 = .ok (.invokevirtual 246, 3) := by decide +kernel
theorem dX12_makeLoad_66 : decode cX12_makeLoad 66 = .ok (.aload_n 0, 1) := by decide +kernel
theorem dX12_makeLoad_67 : decode cX12_makeLoad 67 = .ok (.iload_n 1, 1) := by decide +kernel
theorem dX12_makeLoad_68 : decode cX12_makeLoad 68 = .ok (.bipush 22, 2) := by decide +kernel
theorem dX12_makeLoad_70 : decode cX12_makeLoad 70 = .ok (.iconst 0, 1) := by decide +kernel
theorem dX12_makeLoad_71 : decode cX12_makeLoad 71 = .ok (.invokevirtual 246, 3) := by decide +kernel
theorem dX12_makeLoad_74 : decode cX12_makeLoad 74 = .ok (.aload_n 0, 1) := by decide +kernel
theorem dX12_makeLoad_75 : decode cX12_makeLoad 75 = .ok (.iload_n 1, 1) := by decide +kernel
theorem dX12_makeLoad_76 : decode cX12_makeLoad 76 = .ok (.bipush 23, 2) := by decide +kernel
theorem dX12_makeLoad_78 : decode cX12_makeLoad 78 = .ok (.iload_n 3, 1) := by decide +kernel
theorem dX12_makeLoad_79 : decode cX12_makeLoad 79 = .ok (.invokevirtual 246, 3) := by decide +kernel
theorem dX12_makeLoad_82 : decode cX12_makeLoad 82 = .ok (.aload_n 0, 1) := by decide +kernel
theorem dX12_makeLoad_83 : decode cX12_makeLoad 83 = .ok (.iload_n 1, 1) := by decide +kernel
theorem dX12_makeLoad_84 : decode cX12_makeLoad 84 = .ok (.bipush 24, 2) := by decide +kernel
theorem dX12_makeLoad_86 : decode cX12_makeLoad 86 = .ok (.aload_n 0, 1) := by decide +kernel
theorem dX12_makeLoad_87 : decode cX12_makeLoad 87 = .ok (.iload_n 1, 1) := by decide +kernel
theorem dX12_makeLoad_88 : decode cX12_makeLoad 88 = .ok (.iconst 2, 1) := by decide +kernel
theorem dX12_makeLoad_89 : decode cX12_makeLoad 89 = .ok (.invokevirtual 250, 3) := by decide +kernel
theorem dX12_makeLoad_92 : decode cX12_makeLoad 92 = .ok (.invokevirtual 246, 3) := by decide +kernel
theorem dX12_makeLoad_95 : decode cX12_makeLoad 95 = .ok (.aload_n 0, 1) := by decide +kernel
theorem dX12_makeLoad_96 : decode cX12_makeLoad 96 = .ok (.dup, 1) := by decide +kernel
theorem dX12_makeLoad_97 : decode cX12_makeLoad 97 = .ok (.getfield 256, 3) := by decide +kernel
theorem dX12_makeLoad_100 : decode cX12_makeLoad 100 = .ok (.aload_n 0, 1) := by decide +kernel
theorem dX12_makeLoad_101 : decode cX12_makeLoad 101 = .ok (.iload_n 1, 1) := by decide +kernel
theorem dX12_makeLoad_102 : decode cX12_makeLoad 102 = .ok (.bipush 24, 2) := by decide +kernel
theorem dX12_makeLoad_104 : decode cX12_makeLoad 104 = .ok (.invokevirtual 211, 3) := by decide +kernel
theorem dX12_makeLoad_107 : decode cX12_makeLoad 107 = .ok (.iadd, 1) := by decide +kernel
theorem dX12_makeLoad_108 : decode cX12_makeLoad 108 = .ok (.putfield 256, 3) := by decide +kernel
theorem dX12_makeLoad_111 : decode cX12_makeLoad 111 = .ok (.aload_n 0, 1) := by decide +kernel
theorem dX12_makeLoad_112 : decode cX12_makeLoad 112 = .ok (.iload_n 1, 1) := by decide +kernel
theorem dX12_makeLoad_113 : decode cX12_makeLoad 113 = .ok (.iload_n 2, 1) := by decide +kernel
theorem dX12_makeLoad_114 : decode cX12_makeLoad 114 = .ok (.aload_n 0, 1) := by decide +kernel
theorem dX12_makeLoad_115 : decode cX12_makeLoad 115 = .ok (.iload_n 1, 1) := by decide +kernel
theorem dX12_makeLoad_116 : decode cX12_makeLoad 116 = .ok (.bipush 24, 2) := by decide +kernel
theorem dX12_makeLoad_118 : decode cX12_makeLoad 118 = .ok (.invokevirtual 211, 3) := by decide +kernel
theorem dX12_makeLoad_121 : decode cX12_makeLoad 121 = .ok (.invokevirtual 253, 3) := by decide +kernel
theorem dX12_makeLoad_124 : decode cX12_makeLoad 124 = .ok (.goto 199, 3) := by decide +kernel
theorem dX12_makeLoad_127 : decode cX12_makeLoad 127 = .ok (.aload_n 0, 1) := by decide +kernel
theorem dX12_makeLoad_128 : decode cX12_makeLoad 128 = .ok (.iload_n 1, 1) := by decide +kernel
theorem dX12_makeLoad_129 : decode cX12_makeLoad 129 = .ok (.bipush 25, 2) := by decide +kernel
theorem dX12_makeLoad_131 : decode cX12_makeLoad 131 = .ok (.aload_n 0, 1) := by decide +kernel
theorem dX12_makeLoad_132 : decode cX12_makeLoad 132 = .ok (.iload_n 1, 1) := by decide +kernel
theorem dX12_makeLoad_133 : decode cX12_makeLoad 133 = .ok (.iconst 2, 1) := by decide +kernel
theorem dX12_makeLoad_134 : decode cX12_makeLoad 134 = .ok (.invokevirtual 250, 3) := by decide +kernel
theorem dX12_makeLoad_137 : decode cX12_makeLoad 137 = .ok (.iconst 1, 1) := by decide +kernel
theorem dX12_makeLoad_138 : decode cX12_makeLoad 138 = .ok (.iadd, 1) := by decide +kernel
theorem dX12_makeLoad_139 : decode cX12_makeLoad 139 = .ok (.invokevirtual 246, 3) := by decide +kernel
theorem dX12_makeLoad_142 : decode cX12_makeLoad 142 = .ok (.aload_n 0, 1) := by decide +kernel
theorem dX12_makeLoad_143 : decode cX12_makeLoad 143 = .ok (.iload_n 1, 1) := by decide +kernel
theorem dX12_makeLoad_144 : decode cX12_makeLoad 144 = .ok (.iload_n 2, 1) := by decide +kernel
theorem dX12_makeLoad_145 : decode cX12_makeLoad 145 = .ok (.aload_n 0, 1) := by decide +kernel
theorem dX12_makeLoad_146 : decode cX12_makeLoad 146 = .ok (.iload_n 1, 1) := by decide +kernel
theorem dX12_makeLoad_147 : decode cX12_makeLoad 147 = .ok (.bipush 25, 2) := by decide +kernel
theorem dX12_makeLoad_149 : decode cX12_makeLoad 149 = .ok (.invokevirtual 211, 3) := by decide +kernel
theorem dX12_makeLoad_152 : decode cX12_makeLoad 152 = .ok (.invokevirtual 253, 3) := by decide +kernel
theorem dX12_makeLoad_155 : decode cX12_makeLoad 155 = .ok (.goto 168, 3) := by decide +kernel
theorem dX12_makeLoad_158 : decode cX12_makeLoad 158 = .ok (.aload_n 0, 1) := by decide +kernel
theorem dX12_makeLoad_159 : decode cX12_makeLoad 159 = .ok (.iload_n 1, 1) := by decide +kernel
theorem dX12_makeLoad_160 : decode cX12_makeLoad 160 = .ok (.bipush 26, 2) := by decide +kernel
theorem dX12_makeLoad_162 : decode cX12_makeLoad 162 = .ok (.iconst 5, 1) := by decide +kernel
theorem dX12_makeLoad_163 : decode cX12_makeLoad 163 = .ok (.aload_n 0, 1) := by decide +kernel
theorem dX12_makeLoad_164 : decode cX12_makeLoad 164 = .ok (.iload_n 1, 1) := by decide +kernel
theorem dX12_makeLoad_165 : decode cX12_makeLoad 165 = .ok (.bipush 21, 2) := by decide +kernel
theorem dX12_makeLoad_167 : decode cX12_makeLoad 167 = .ok (.invokevirtual 211, 3) := by decide +kernel
theorem dX12_makeLoad_170 : decode cX12_makeLoad 170 = .ok (.iconst 5, 1) := by decide +kernel
theorem dX12_makeLoad_171 : decode cX12_makeLoad 171 = .ok (.imul, 1) := by decide +kernel
theorem dX12_makeLoad_172 : decode cX12_makeLoad 172 = .ok (.iadd, 1) := by decide +kernel
theorem dX12_makeLoad_173 : decode cX12_makeLoad 173 = .ok (.aload_n 0, 1) := by decide +kernel
theorem dX12_makeLoad_174 : decode cX12_makeLoad 174 = .ok (.iload_n 1, 1) := by decide +kernel
theorem dX12_makeLoad_175 : decode cX12_makeLoad 175 = .ok (.bipush 25, 2) := by decide +kernel
theorem dX12_makeLoad_177 : decode cX12_makeLoad 177 = .ok (.invokevirtual 211, 3) := by decide +kernel
theorem dX12_makeLoad_180 : decode cX12_makeLoad 180 = .ok (.bipush 8, 2) := by decide +kernel
theorem dX12_makeLoad_182 : decode cX12_makeLoad 182 = .ok (.idiv, 1) := by decide +kernel
theorem dX12_makeLoad_183 : decode cX12_makeLoad 183 = .ok (.iadd, 1) := by decide +kernel
theorem dX12_makeLoad_184 : decode cX12_makeLoad 184 = .ok (.invokevirtual 246, 3) := by decide +kernel
theorem dX12_makeLoad_187 : decode cX12_makeLoad 187 = .ok (.aload_n 0, 1) := by decide +kernel
theorem dX12_makeLoad_188 : decode cX12_makeLoad 188 = .ok (.iload_n 1, 1) := by decide +kernel
theorem dX12_makeLoad_189 : decode cX12_makeLoad 189 = .ok (.bipush 27, 2) := by decide +kernel
theorem dX12_makeLoad_191 : decode cX12_makeLoad 191 = .ok (.iload 4, 2) := by decide +kernel
theorem dX12_makeLoad_193 : decode cX12_makeLoad 193 = .ok (.invokevirtual 246, 3) := by decide +kernel
theorem dX12_makeLoad_196 : decode cX12_makeLoad 196 = .ok (.aload_n 0, 1) := by decide +kernel
theorem dX12_makeLoad_197 : decode cX12_makeLoad 197 = .ok (.iload_n 1, 1) := by decide +kernel
theorem dX12_makeLoad_198 : decode cX12_makeLoad 198 = .ok (.bipush 28, 2) := by decide +kernel
theorem dX12_makeLoad_200 : decode cX12_makeLoad 200 = .ok (.iload 5, 2) := by decide +kernel
theorem dX12_makeLoad_202 : decode cX12_makeLoad 202 = .ok (.invokevirtual 246, 3) := by decide +kernel
theorem dX12_makeLoad_205 : decode cX12_makeLoad 205 = .ok (.aload_n 0, 1) := by decide +kernel
theorem dX12_makeLoad_206 : decode cX12_makeLoad 206 = .ok (.iload_n 1, 1) := by decide +kernel
theorem dX12_makeLoad_207 : decode cX12_makeLoad 207 = .ok (.iload_n 2, 1) := by decide +kernel
theorem dX12_makeLoad_208 : decode cX12_makeLoad 208 = .ok (.aload_n 0, 1) := by decide +kernel
theorem dX12_makeLoad_209 : decode cX12_makeLoad 209 = .ok (.iload_n 1, 1) := by decide +kernel
theorem dX12_makeLoad_210 : decode cX12_makeLoad 210 = .ok (.iconst 3, 1) := by decide +kernel
theorem dX12_makeLoad_211 : decode cX12_makeLoad 211 = .ok (.invokevirtual 250, 3) := by decide +kernel
theorem dX12_makeLoad_214 : decode cX12_makeLoad 214 = .ok (.invokevirtual 253, 3) := by decide +kernel
theorem dX12_makeLoad_217 : decode cX12_makeLoad 217 = .ok (.goto 106, 3) := by decide +kernel
theorem dX12_makeLoad_220 : decode cX12_makeLoad 220 = .ok (.aload_n 0, 1) := by decide +kernel
theorem dX12_makeLoad_221 : decode cX12_makeLoad 221 = .ok (.iload_n 1, 1) := by decide +kernel
theorem dX12_makeLoad_222 : decode cX12_makeLoad 222 = .ok (.bipush 49, 2) := by decide +kernel
theorem dX12_makeLoad_224 : decode cX12_makeLoad 224 = .ok (.aload_n 0, 1) := by decide +kernel
theorem dX12_makeLoad_225 : decode cX12_makeLoad 225 = .ok (.iload_n 1, 1) := by decide +kernel
theorem dX12_makeLoad_226 : decode cX12_makeLoad 226 = .ok (.iconst 4, 1) := by decide +kernel
theorem dX12_makeLoad_227 : decode cX12_makeLoad 227 = .ok (.invokevirtual 211, 3) := by decide +kernel
theorem dX12_makeLoad_230 : decode cX12_makeLoad 230 = .ok (.iconst 2, 1) := by decide +kernel
theorem dX12_makeLoad_231 : decode cX12_makeLoad 231 = .ok (.imul, 1) := by decide +kernel
theorem dX12_makeLoad_232 : decode cX12_makeLoad 232 = .ok (.iconst 1, 1) := by decide +kernel
theorem dX12_makeLoad_233 : decode cX12_makeLoad 233 = .ok (.iadd, 1) := by decide +kernel
theorem dX12_makeLoad_234 : decode cX12_makeLoad 234 = .ok (.invokevirtual 246, 3) := by decide +kernel
theorem dX12_makeLoad_237 : decode cX12_makeLoad 237 = .ok (.aload_n 0, 1) := by decide +kernel
theorem dX12_makeLoad_238 : decode cX12_makeLoad 238 = .ok (.iload_n 1, 1) := by decide +kernel
theorem dX12_makeLoad_239 : decode cX12_makeLoad 239 = .ok (.bipush 50, 2) := by decide +kernel
theorem dX12_makeLoad_241 : decode cX12_makeLoad 241 = .ok (.iload 4, 2) := by decide +kernel
theorem dX12_makeLoad_243 : decode cX12_makeLoad 243 = .ok (.invokevirtual 246, 3) := by decide +kernel
theorem dX12_makeLoad_246 : decode cX12_makeLoad 246 = .ok (.aload_n 0, 1) := by decide +kernel
theorem dX12_makeLoad_247 : decode cX12_makeLoad 247 = .ok (.iload_n 1, 1) := by decide +kernel
theorem dX12_makeLoad_248 : decode cX12_makeLoad 248 = .ok (.bipush 51, 2) := by decide +kernel
theorem dX12_makeLoad_250 : decode cX12_makeLoad 250 = .ok (.iconst 0, 1) := by decide +kernel
theorem dX12_makeLoad_251 : decode cX12_makeLoad 251 = .ok (.invokevirtual 246, 3) := by decide +kernel
theorem dX12_makeLoad_254 : decode cX12_makeLoad 254 = .ok (.aload_n 0, 1) := by decide +kernel
theorem dX12_makeLoad_255 : decode cX12_makeLoad 255 = .ok (.iload_n 1, 1) := by decide +kernel
theorem dX12_makeLoad_256 : decode cX12_makeLoad 256 = .ok (.iload_n 2, 1) := by decide +kernel
theorem dX12_makeLoad_257 : decode cX12_makeLoad 257 = .ok (.aload_n 0, 1) := by decide +kernel
theorem dX12_makeLoad_258 : decode cX12_makeLoad 258 = .ok (.iload_n 1, 1) := by decide +kernel
theorem dX12_makeLoad_259 : decode cX12_makeLoad 259 = .ok (.bipush 49, 2) := by decide +kernel
theorem dX12_makeLoad_261 : decode cX12_makeLoad 261 = .ok (.invokevirtual 211, 3) := by decide +kernel
theorem dX12_makeLoad_264 : decode cX12_makeLoad 264 = .ok (.invokevirtual 253, 3) := by decide +kernel
theorem dX12_makeLoad_267 : decode cX12_makeLoad 267 = .ok (.goto 56, 3) := by decide +kernel
theorem dX12_makeLoad_270 : decode cX12_makeLoad 270 = .ok (.aload_n 0, 1) := by decide +kernel
theorem dX12_makeLoad_271 : decode cX12_makeLoad 271 = .ok (.iload_n 1, 1) := by decide +kernel
theorem dX12_makeLoad_272 : decode cX12_makeLoad 272 = .ok (.bipush 31, 2) := by decide +kernel
theorem dX12_makeLoad_274 : decode cX12_makeLoad 274 = .ok (.bipush 10, 2) := by decide +kernel
theorem dX12_makeLoad_276 : decode cX12_makeLoad 276 = .ok (.aload_n 0, 1) := by decide +kernel
theorem dX12_makeLoad_277 : decode cX12_makeLoad 277 = .ok (.iload_n 1, 1) := by decide +kernel
theorem dX12_makeLoad_278 : decode cX12_makeLoad 278 = .ok (.bipush 49, 2) := by decide +kernel
theorem dX12_makeLoad_280 : decode cX12_makeLoad 280 = .ok (.invokevirtual 211, 3) := by decide +kernel
theorem dX12_makeLoad_283 : decode cX12_makeLoad 283 = .ok (.bipush 7, 2) := by decide +kernel
theorem dX12_makeLoad_285 : decode cX12_makeLoad 285 = .ok (.invokestatic 115, 3) := by decide +kernel
theorem dX12_makeLoad_288 : decode cX12_makeLoad 288 = .ok (.iadd, 1) := by decide +kernel
theorem dX12_makeLoad_289 : decode cX12_makeLoad 289 = .ok (.invokevirtual 246, 3) := by decide +kernel
theorem dX12_makeLoad_292 : decode cX12_makeLoad 292 = .ok (.aload_n 0, 1) := by decide +kernel
theorem dX12_makeLoad_293 : decode cX12_makeLoad 293 = .ok (.iload_n 1, 1) := by decide +kernel
theorem dX12_makeLoad_294 : decode cX12_makeLoad 294 = .ok (.bipush 50, 2) := by decide +kernel
theorem dX12_makeLoad_296 : decode cX12_makeLoad 296 = .ok (.aload_n 0, 1) := by decide +kernel
theorem dX12_makeLoad_297 : decode cX12_makeLoad 297 = .ok (.iload_n 1, 1) := by decide +kernel
theorem dX12_makeLoad_298 : decode cX12_makeLoad 298 = .ok (.bipush 50, 2) := by decide +kernel
theorem dX12_makeLoad_300 : decode cX12_makeLoad 300 = .ok (.invokevirtual 211, 3) := by decide +kernel
theorem dX12_makeLoad_303 : decode cX12_makeLoad 303 = .ok (.iconst 2, 1) := by decide +kernel
theorem dX12_makeLoad_304 : decode cX12_makeLoad 304 = .ok (.idiv, 1) := by decide +kernel
theorem dX12_makeLoad_305 : decode cX12_makeLoad 305 = .ok (.iconst 1, 1) := by decide +kernel
theorem dX12_makeLoad_306 : decode cX12_makeLoad 306 = .ok (.iadd, 1) := by decide +kernel
theorem dX12_makeLoad_307 : decode cX12_makeLoad 307 = .ok (.invokevirtual 246, 3) := by decide +kernel
theorem dX12_makeLoad_310 : decode cX12_makeLoad 310 = .ok (.aload_n 0, 1) := by decide +kernel
theorem dX12_makeLoad_311 : decode cX12_makeLoad 311 = .ok (.iload_n 1, 1) := by decide +kernel
theorem dX12_makeLoad_312 : decode cX12_makeLoad 312 = .ok (.iload_n 2, 1) := by decide +kernel
theorem dX12_makeLoad_313 : decode cX12_makeLoad 313 = .ok (.aload_n 0, 1) := by decide +kernel
theorem dX12_makeLoad_314 : decode cX12_makeLoad 314 = .ok (.iload_n 1, 1) := by decide +kernel
theorem dX12_makeLoad_315 : decode cX12_makeLoad 315 = .ok (.bipush 50, 2) := by decide +kernel
theorem dX12_makeLoad_317 : decode cX12_makeLoad 317 = .ok (.invokevirtual 211, 3) := by decide +kernel
theorem dX12_makeLoad_320 : decode cX12_makeLoad 320 = .ok (.invokevirtual 253, 3) := by decide +kernel
theorem dX12_makeLoad_323 : decode cX12_makeLoad 323 = .ok (.return_, 1) := by decide +kernel
def F_X12_makeLoad (N : Nat) (x0 : Nat) (x1 : Int32) (x2 : Int32) (x3 : Int32) (x4 : Int32) (x5 : Int32) (I : MI) (L : ML) (R : MR) : Option (MI) :=
  if kd x0 = 11 ∧ x0 < NN then
  if x2 = (6 : Int32) then
    bn1 (F_X12_get x0 x1 (2 : Int32) I L R) fun v3 =>
    bn2 (F_X12_draw x0 I L R) fun v5 I6 =>
    bn1 (F_X12_mod (v3 + v5) (3 : Int32) I6 L R) fun v8 =>
    bn1 (F_X12_set x0 x1 (21 : Int32) v8 I6 L R) fun I10 =>
    bn1 (F_X12_set x0 x1 (22 : Int32) (0 : Int32) I10 L R) fun I12 =>
    bn1 (F_X12_set x0 x1 (23 : Int32) x3 I12 L R) fun I14 =>
    bn2 (F_X12_answer N x0 x1 (2 : Int32) I14 L R) fun v16 I17 =>
    bn1 (F_X12_set x0 x1 (24 : Int32) v16 I17 L R) fun I19 =>
    bn1 (F_X12_get x0 x1 (24 : Int32) I19 L R) fun v21 =>
    wr (uI I19 x0 27 ((I19 x0 27) + v21)) fun (I23 : MI) =>
    bn1 (F_X12_get x0 x1 (24 : Int32) I23 L R) fun v24 =>
    bn1 (F_X12_noted x0 x1 x2 v24 I23 L R) fun I26 =>
    some (I26)
  else
    if x2 = (7 : Int32) then
      bn2 (F_X12_answer N x0 x1 (2 : Int32) I L R) fun v29 I30 =>
      bn1 (F_X12_set x0 x1 (25 : Int32) (v29 + (1 : Int32)) I30 L R) fun I32 =>
      bn1 (F_X12_get x0 x1 (25 : Int32) I32 L R) fun v34 =>
      bn1 (F_X12_noted x0 x1 x2 v34 I32 L R) fun I36 =>
      some (I36)
    else
      if x2 = (8 : Int32) then
        bn1 (F_X12_get x0 x1 (21 : Int32) I L R) fun v39 =>
        bn1 (F_X12_get x0 x1 (25 : Int32) I L R) fun v41 =>
        bn1 (F_X12_set x0 x1 (26 : Int32) (((5 : Int32) + (v39 * (5 : Int32))) + (v41 / (8 : Int32))) I L R) fun I43 =>
        bn1 (F_X12_set x0 x1 (27 : Int32) x4 I43 L R) fun I45 =>
        bn1 (F_X12_set x0 x1 (28 : Int32) x5 I45 L R) fun I47 =>
        bn2 (F_X12_answer N x0 x1 (3 : Int32) I47 L R) fun v49 I50 =>
        bn1 (F_X12_noted x0 x1 x2 v49 I50 L R) fun I52 =>
        some (I52)
      else
        if x2 = (20 : Int32) then
          bn1 (F_X12_get x0 x1 (4 : Int32) I L R) fun v55 =>
          bn1 (F_X12_set x0 x1 (49 : Int32) ((v55 * (2 : Int32)) + (1 : Int32)) I L R) fun I57 =>
          bn1 (F_X12_set x0 x1 (50 : Int32) x4 I57 L R) fun I59 =>
          bn1 (F_X12_set x0 x1 (51 : Int32) (0 : Int32) I59 L R) fun I61 =>
          bn1 (F_X12_get x0 x1 (49 : Int32) I61 L R) fun v63 =>
          bn1 (F_X12_noted x0 x1 x2 v63 I61 L R) fun I65 =>
          some (I65)
        else
          bn1 (F_X12_get x0 x1 (49 : Int32) I L R) fun v67 =>
          bn1 (F_X12_mod v67 (7 : Int32) I L R) fun v69 =>
          bn1 (F_X12_set x0 x1 (31 : Int32) ((10 : Int32) + v69) I L R) fun I71 =>
          bn1 (F_X12_get x0 x1 (50 : Int32) I71 L R) fun v73 =>
          bn1 (F_X12_set x0 x1 (50 : Int32) ((v73 / (2 : Int32)) + (1 : Int32)) I71 L R) fun I75 =>
          bn1 (F_X12_get x0 x1 (50 : Int32) I75 L R) fun v77 =>
          bn1 (F_X12_noted x0 x1 x2 v77 I75 L R) fun I79 =>
          some (I79)
  else none
set_option maxRecDepth 100000 in
set_option maxHeartbeats 4000000 in
theorem c_X12_makeLoad (l : Launch) (D : va_G) (cA : Nat → ClassId) (ad : Nat → Nat) (bs : Nat) (X : State → Prop) (hAd : Ax ad bs) (hX : Stb bs X) (N : Nat) (x0 : Nat) (x1 : Int32) (x2 : Int32) (x3 : Int32) (x4 : Int32) (x5 : Int32) (I : MI) (L : ML) (R : MR) (I' : MI) (h : F_X12_makeLoad N x0 x1 x2 x3 x4 x5 I L R = some (I')) : Cn l D cA ad bs X yX12_makeLoad cX12_makeLoad 6 none 3 71 [.ref (ad x0), .int x1, .int x2, .int x3, .int x4, .int x5] I L R (none, I', L, R) := by
  refine Cn.ofV hAd hX [(0, .ref (ad x0)), (1, .int x1), (2, .int x2), (3, .int x3), (4, .int x4), (5, .int x5)] rfl (Nat.le_of_ble_eq_true rfl) (by decide) ?_
  intro G el eD ecA ead ebs eX erm eNL C0
  subst el eD ecA ead ebs eX
  unfold F_X12_makeLoad at h
  obtain ⟨c_x0, h⟩ := ite_some h
  refine V_iload_n C0 2 rfl rfl dX12_makeLoad_0 ?_
  have nd1 := nd_0 x2
  by_cases c2 : x2 = (6 : Int32)
  · have h := (if_pos c2).symm.trans h
    refine V_lookC C0 (tgt := 44) (v := (6 : Int32)) c2 (by decide) (by decide) dX12_makeLoad_1 ?_
    refine V_aload_n C0 0 rfl rfl dX12_makeLoad_44 ?_
    refine V_iload_n C0 1 rfl rfl dX12_makeLoad_45 ?_
    refine V_bipush C0 (v := (21 : Int32)) (by decide) dX12_makeLoad_46 ?_
    refine V_aload_n C0 0 rfl rfl dX12_makeLoad_48 ?_
    refine V_iload_n C0 1 rfl rfl dX12_makeLoad_49 ?_
    refine V_iconst C0 (v := (2 : Int32)) (by decide) dX12_makeLoad_50 ?_
    obtain ⟨v3, q4, h⟩ := bn1_some h
    refine V_callV C0 (st := [.int (21 : Int32), .int x1, .ref (G.ad x0)]) (As := [.int x1, .int (2 : Int32)]) 11 (c_X12_get G.l G.D G.cA G.ad G.bs G.X C0.2.2.2.2.2.2.2.2.2.1 C0.2.2.2.2.2.2.2.2.2.2.2.2 x0 x1 (2 : Int32) I L R v3 q4) lc_X12_get lk_X12_211 c_x0.2 c_x0.1 ⟨_, rfl, rfl⟩ rfl (by rw [erm]; decide) (Nat.le_of_ble_eq_true rfl) dX12_makeLoad_51 ?_
    show V G _ 54 [(0, .ref (G.ad x0)), (1, .int x1), (2, .int x2), (3, .int x3), (4, .int x4), (5, .int x5)] [.int v3, .int (21 : Int32), .int x1, .ref (G.ad x0)] I L R
    refine V_aload_n C0 0 rfl rfl dX12_makeLoad_54 ?_
    obtain ⟨v5, I6, q7, h⟩ := bn2_some h
    refine V_callV C0 (st := [.int v3, .int (21 : Int32), .int x1, .ref (G.ad x0)]) (As := []) 11 (c_X12_draw G.l G.D G.cA G.ad G.bs G.X C0.2.2.2.2.2.2.2.2.2.1 C0.2.2.2.2.2.2.2.2.2.2.2.2 x0 I L R v5 I6 q7) lc_X12_draw lk_X12_242 c_x0.2 c_x0.1 ⟨_, rfl, rfl⟩ rfl (by rw [erm]; decide) (Nat.le_of_ble_eq_true rfl) dX12_makeLoad_55 ?_
    show V G _ 58 [(0, .ref (G.ad x0)), (1, .int x1), (2, .int x2), (3, .int x3), (4, .int x4), (5, .int x5)] [.int v5, .int v3, .int (21 : Int32), .int x1, .ref (G.ad x0)] I6 L R
    refine V_iadd C0 dX12_makeLoad_58 ?_
    refine V_iconst C0 (v := (3 : Int32)) (by decide) dX12_makeLoad_59 ?_
    obtain ⟨v8, q9, h⟩ := bn1_some h
    refine V_callS C0 (st := [.int (21 : Int32), .int x1, .ref (G.ad x0)]) (As := [.int (v3 + v5), .int (3 : Int32)]) (c_X12_mod G.l G.D G.cA G.ad G.bs G.X C0.2.2.2.2.2.2.2.2.2.1 C0.2.2.2.2.2.2.2.2.2.2.2.2 (v3 + v5) (3 : Int32) I6 L R v8 q9) lc_X12_mod lk_X12_115 rfl (by rw [erm]; decide) (Nat.le_of_ble_eq_true rfl) dX12_makeLoad_60 ?_
    show V G _ 63 [(0, .ref (G.ad x0)), (1, .int x1), (2, .int x2), (3, .int x3), (4, .int x4), (5, .int x5)] [.int v8, .int (21 : Int32), .int x1, .ref (G.ad x0)] I6 L R
    obtain ⟨I10, q11, h⟩ := bn1_some h
    refine V_callV C0 (st := []) (As := [.int x1, .int (21 : Int32), .int v8]) 11 (c_X12_set G.l G.D G.cA G.ad G.bs G.X C0.2.2.2.2.2.2.2.2.2.1 C0.2.2.2.2.2.2.2.2.2.2.2.2 x0 x1 (21 : Int32) v8 I6 L R I10 q11) lc_X12_set lk_X12_246 c_x0.2 c_x0.1 ⟨_, rfl, rfl⟩ rfl (by rw [erm]; decide) (Nat.le_of_ble_eq_true rfl) dX12_makeLoad_63 ?_
    show V G _ 66 [(0, .ref (G.ad x0)), (1, .int x1), (2, .int x2), (3, .int x3), (4, .int x4), (5, .int x5)] [] I10 L R
    refine V_aload_n C0 0 rfl rfl dX12_makeLoad_66 ?_
    refine V_iload_n C0 1 rfl rfl dX12_makeLoad_67 ?_
    refine V_bipush C0 (v := (22 : Int32)) (by decide) dX12_makeLoad_68 ?_
    refine V_iconst C0 (v := (0 : Int32)) (by decide) dX12_makeLoad_70 ?_
    obtain ⟨I12, q13, h⟩ := bn1_some h
    refine V_callV C0 (st := []) (As := [.int x1, .int (22 : Int32), .int (0 : Int32)]) 11 (c_X12_set G.l G.D G.cA G.ad G.bs G.X C0.2.2.2.2.2.2.2.2.2.1 C0.2.2.2.2.2.2.2.2.2.2.2.2 x0 x1 (22 : Int32) (0 : Int32) I10 L R I12 q13) lc_X12_set lk_X12_246 c_x0.2 c_x0.1 ⟨_, rfl, rfl⟩ rfl (by rw [erm]; decide) (Nat.le_of_ble_eq_true rfl) dX12_makeLoad_71 ?_
    show V G _ 74 [(0, .ref (G.ad x0)), (1, .int x1), (2, .int x2), (3, .int x3), (4, .int x4), (5, .int x5)] [] I12 L R
    refine V_aload_n C0 0 rfl rfl dX12_makeLoad_74 ?_
    refine V_iload_n C0 1 rfl rfl dX12_makeLoad_75 ?_
    refine V_bipush C0 (v := (23 : Int32)) (by decide) dX12_makeLoad_76 ?_
    refine V_iload_n C0 3 rfl rfl dX12_makeLoad_78 ?_
    obtain ⟨I14, q15, h⟩ := bn1_some h
    refine V_callV C0 (st := []) (As := [.int x1, .int (23 : Int32), .int x3]) 11 (c_X12_set G.l G.D G.cA G.ad G.bs G.X C0.2.2.2.2.2.2.2.2.2.1 C0.2.2.2.2.2.2.2.2.2.2.2.2 x0 x1 (23 : Int32) x3 I12 L R I14 q15) lc_X12_set lk_X12_246 c_x0.2 c_x0.1 ⟨_, rfl, rfl⟩ rfl (by rw [erm]; decide) (Nat.le_of_ble_eq_true rfl) dX12_makeLoad_79 ?_
    show V G _ 82 [(0, .ref (G.ad x0)), (1, .int x1), (2, .int x2), (3, .int x3), (4, .int x4), (5, .int x5)] [] I14 L R
    refine V_aload_n C0 0 rfl rfl dX12_makeLoad_82 ?_
    refine V_iload_n C0 1 rfl rfl dX12_makeLoad_83 ?_
    refine V_bipush C0 (v := (24 : Int32)) (by decide) dX12_makeLoad_84 ?_
    refine V_aload_n C0 0 rfl rfl dX12_makeLoad_86 ?_
    refine V_iload_n C0 1 rfl rfl dX12_makeLoad_87 ?_
    refine V_iconst C0 (v := (2 : Int32)) (by decide) dX12_makeLoad_88 ?_
    obtain ⟨v16, I17, q18, h⟩ := bn2_some h
    refine V_callV C0 (st := [.int (24 : Int32), .int x1, .ref (G.ad x0)]) (As := [.int x1, .int (2 : Int32)]) 11 (c_X12_answer G.l G.D G.cA G.ad G.bs G.X C0.2.2.2.2.2.2.2.2.2.1 C0.2.2.2.2.2.2.2.2.2.2.2.2 N x0 x1 (2 : Int32) I14 L R v16 I17 q18) lc_X12_answer lk_X12_250 c_x0.2 c_x0.1 ⟨_, rfl, rfl⟩ rfl (by rw [erm]; decide) (Nat.le_of_ble_eq_true rfl) dX12_makeLoad_89 ?_
    show V G _ 92 [(0, .ref (G.ad x0)), (1, .int x1), (2, .int x2), (3, .int x3), (4, .int x4), (5, .int x5)] [.int v16, .int (24 : Int32), .int x1, .ref (G.ad x0)] I17 L R
    obtain ⟨I19, q20, h⟩ := bn1_some h
    refine V_callV C0 (st := []) (As := [.int x1, .int (24 : Int32), .int v16]) 11 (c_X12_set G.l G.D G.cA G.ad G.bs G.X C0.2.2.2.2.2.2.2.2.2.1 C0.2.2.2.2.2.2.2.2.2.2.2.2 x0 x1 (24 : Int32) v16 I17 L R I19 q20) lc_X12_set lk_X12_246 c_x0.2 c_x0.1 ⟨_, rfl, rfl⟩ rfl (by rw [erm]; decide) (Nat.le_of_ble_eq_true rfl) dX12_makeLoad_92 ?_
    show V G _ 95 [(0, .ref (G.ad x0)), (1, .int x1), (2, .int x2), (3, .int x3), (4, .int x4), (5, .int x5)] [] I19 L R
    refine V_aload_n C0 0 rfl rfl dX12_makeLoad_95 ?_
    refine V_dup C0 rfl dX12_makeLoad_96 ?_
    refine V_getI C0 11 27 fl_X12_256 c_x0.2 c_x0.1 rfl dX12_makeLoad_97 ?_
    refine V_aload_n C0 0 rfl rfl dX12_makeLoad_100 ?_
    refine V_iload_n C0 1 rfl rfl dX12_makeLoad_101 ?_
    refine V_bipush C0 (v := (24 : Int32)) (by decide) dX12_makeLoad_102 ?_
    obtain ⟨v21, q22, h⟩ := bn1_some h
    refine V_callV C0 (st := [.int (I19 x0 27), .ref (G.ad x0)]) (As := [.int x1, .int (24 : Int32)]) 11 (c_X12_get G.l G.D G.cA G.ad G.bs G.X C0.2.2.2.2.2.2.2.2.2.1 C0.2.2.2.2.2.2.2.2.2.2.2.2 x0 x1 (24 : Int32) I19 L R v21 q22) lc_X12_get lk_X12_211 c_x0.2 c_x0.1 ⟨_, rfl, rfl⟩ rfl (by rw [erm]; decide) (Nat.le_of_ble_eq_true rfl) dX12_makeLoad_104 ?_
    show V G _ 107 [(0, .ref (G.ad x0)), (1, .int x1), (2, .int x2), (3, .int x3), (4, .int x4), (5, .int x5)] [.int v21, .int (I19 x0 27), .ref (G.ad x0)] I19 L R
    refine V_iadd C0 dX12_makeLoad_107 ?_
    obtain ⟨I23, eI23, h⟩ := wr_some h
    refine V_putI C0 11 27 fp_X12_256 c_x0.2 c_x0.1 rfl dX12_makeLoad_108 ?_
    rw [← eI23]
    refine V_aload_n C0 0 rfl rfl dX12_makeLoad_111 ?_
    refine V_iload_n C0 1 rfl rfl dX12_makeLoad_112 ?_
    refine V_iload_n C0 2 rfl rfl dX12_makeLoad_113 ?_
    refine V_aload_n C0 0 rfl rfl dX12_makeLoad_114 ?_
    refine V_iload_n C0 1 rfl rfl dX12_makeLoad_115 ?_
    refine V_bipush C0 (v := (24 : Int32)) (by decide) dX12_makeLoad_116 ?_
    obtain ⟨v24, q25, h⟩ := bn1_some h
    refine V_callV C0 (st := [.int x2, .int x1, .ref (G.ad x0)]) (As := [.int x1, .int (24 : Int32)]) 11 (c_X12_get G.l G.D G.cA G.ad G.bs G.X C0.2.2.2.2.2.2.2.2.2.1 C0.2.2.2.2.2.2.2.2.2.2.2.2 x0 x1 (24 : Int32) I23 L R v24 q25) lc_X12_get lk_X12_211 c_x0.2 c_x0.1 ⟨_, rfl, rfl⟩ rfl (by rw [erm]; decide) (Nat.le_of_ble_eq_true rfl) dX12_makeLoad_118 ?_
    show V G _ 121 [(0, .ref (G.ad x0)), (1, .int x1), (2, .int x2), (3, .int x3), (4, .int x4), (5, .int x5)] [.int v24, .int x2, .int x1, .ref (G.ad x0)] I23 L R
    obtain ⟨I26, q27, h⟩ := bn1_some h
    refine V_callV C0 (st := []) (As := [.int x1, .int x2, .int v24]) 11 (c_X12_noted G.l G.D G.cA G.ad G.bs G.X C0.2.2.2.2.2.2.2.2.2.1 C0.2.2.2.2.2.2.2.2.2.2.2.2 x0 x1 x2 v24 I23 L R I26 q27) lc_X12_noted lk_X12_253 c_x0.2 c_x0.1 ⟨_, rfl, rfl⟩ rfl (by rw [erm]; decide) (Nat.le_of_ble_eq_true rfl) dX12_makeLoad_121 ?_
    show V G _ 124 [(0, .ref (G.ad x0)), (1, .int x1), (2, .int x2), (3, .int x3), (4, .int x4), (5, .int x5)] [] I26 L R
    refine V_goto C0 (tgt := 323) (by decide) dX12_makeLoad_124 ?_
    cases h
    exact V_vret C0 dX12_makeLoad_323
  · have h := (if_neg c2).symm.trans h
    have nd1 := nd_add nd1 c2
    by_cases c28 : x2 = (7 : Int32)
    · have h := (if_pos c28).symm.trans h
      refine V_lookC C0 (tgt := 127) (v := (7 : Int32)) c28 (by decide) (by decide) dX12_makeLoad_1 ?_
      refine V_aload_n C0 0 rfl rfl dX12_makeLoad_127 ?_
      refine V_iload_n C0 1 rfl rfl dX12_makeLoad_128 ?_
      refine V_bipush C0 (v := (25 : Int32)) (by decide) dX12_makeLoad_129 ?_
      refine V_aload_n C0 0 rfl rfl dX12_makeLoad_131 ?_
      refine V_iload_n C0 1 rfl rfl dX12_makeLoad_132 ?_
      refine V_iconst C0 (v := (2 : Int32)) (by decide) dX12_makeLoad_133 ?_
      obtain ⟨v29, I30, q31, h⟩ := bn2_some h
      refine V_callV C0 (st := [.int (25 : Int32), .int x1, .ref (G.ad x0)]) (As := [.int x1, .int (2 : Int32)]) 11 (c_X12_answer G.l G.D G.cA G.ad G.bs G.X C0.2.2.2.2.2.2.2.2.2.1 C0.2.2.2.2.2.2.2.2.2.2.2.2 N x0 x1 (2 : Int32) I L R v29 I30 q31) lc_X12_answer lk_X12_250 c_x0.2 c_x0.1 ⟨_, rfl, rfl⟩ rfl (by rw [erm]; decide) (Nat.le_of_ble_eq_true rfl) dX12_makeLoad_134 ?_
      show V G _ 137 [(0, .ref (G.ad x0)), (1, .int x1), (2, .int x2), (3, .int x3), (4, .int x4), (5, .int x5)] [.int v29, .int (25 : Int32), .int x1, .ref (G.ad x0)] I30 L R
      refine V_iconst C0 (v := (1 : Int32)) (by decide) dX12_makeLoad_137 ?_
      refine V_iadd C0 dX12_makeLoad_138 ?_
      obtain ⟨I32, q33, h⟩ := bn1_some h
      refine V_callV C0 (st := []) (As := [.int x1, .int (25 : Int32), .int (v29 + (1 : Int32))]) 11 (c_X12_set G.l G.D G.cA G.ad G.bs G.X C0.2.2.2.2.2.2.2.2.2.1 C0.2.2.2.2.2.2.2.2.2.2.2.2 x0 x1 (25 : Int32) (v29 + (1 : Int32)) I30 L R I32 q33) lc_X12_set lk_X12_246 c_x0.2 c_x0.1 ⟨_, rfl, rfl⟩ rfl (by rw [erm]; decide) (Nat.le_of_ble_eq_true rfl) dX12_makeLoad_139 ?_
      show V G _ 142 [(0, .ref (G.ad x0)), (1, .int x1), (2, .int x2), (3, .int x3), (4, .int x4), (5, .int x5)] [] I32 L R
      refine V_aload_n C0 0 rfl rfl dX12_makeLoad_142 ?_
      refine V_iload_n C0 1 rfl rfl dX12_makeLoad_143 ?_
      refine V_iload_n C0 2 rfl rfl dX12_makeLoad_144 ?_
      refine V_aload_n C0 0 rfl rfl dX12_makeLoad_145 ?_
      refine V_iload_n C0 1 rfl rfl dX12_makeLoad_146 ?_
      refine V_bipush C0 (v := (25 : Int32)) (by decide) dX12_makeLoad_147 ?_
      obtain ⟨v34, q35, h⟩ := bn1_some h
      refine V_callV C0 (st := [.int x2, .int x1, .ref (G.ad x0)]) (As := [.int x1, .int (25 : Int32)]) 11 (c_X12_get G.l G.D G.cA G.ad G.bs G.X C0.2.2.2.2.2.2.2.2.2.1 C0.2.2.2.2.2.2.2.2.2.2.2.2 x0 x1 (25 : Int32) I32 L R v34 q35) lc_X12_get lk_X12_211 c_x0.2 c_x0.1 ⟨_, rfl, rfl⟩ rfl (by rw [erm]; decide) (Nat.le_of_ble_eq_true rfl) dX12_makeLoad_149 ?_
      show V G _ 152 [(0, .ref (G.ad x0)), (1, .int x1), (2, .int x2), (3, .int x3), (4, .int x4), (5, .int x5)] [.int v34, .int x2, .int x1, .ref (G.ad x0)] I32 L R
      obtain ⟨I36, q37, h⟩ := bn1_some h
      refine V_callV C0 (st := []) (As := [.int x1, .int x2, .int v34]) 11 (c_X12_noted G.l G.D G.cA G.ad G.bs G.X C0.2.2.2.2.2.2.2.2.2.1 C0.2.2.2.2.2.2.2.2.2.2.2.2 x0 x1 x2 v34 I32 L R I36 q37) lc_X12_noted lk_X12_253 c_x0.2 c_x0.1 ⟨_, rfl, rfl⟩ rfl (by rw [erm]; decide) (Nat.le_of_ble_eq_true rfl) dX12_makeLoad_152 ?_
      show V G _ 155 [(0, .ref (G.ad x0)), (1, .int x1), (2, .int x2), (3, .int x3), (4, .int x4), (5, .int x5)] [] I36 L R
      refine V_goto C0 (tgt := 323) (by decide) dX12_makeLoad_155 ?_
      cases h
      exact V_vret C0 dX12_makeLoad_323
    · have h := (if_neg c28).symm.trans h
      have nd1 := nd_add nd1 c28
      by_cases c38 : x2 = (8 : Int32)
      · have h := (if_pos c38).symm.trans h
        refine V_lookC C0 (tgt := 158) (v := (8 : Int32)) c38 (by decide) (by decide) dX12_makeLoad_1 ?_
        refine V_aload_n C0 0 rfl rfl dX12_makeLoad_158 ?_
        refine V_iload_n C0 1 rfl rfl dX12_makeLoad_159 ?_
        refine V_bipush C0 (v := (26 : Int32)) (by decide) dX12_makeLoad_160 ?_
        refine V_iconst C0 (v := (5 : Int32)) (by decide) dX12_makeLoad_162 ?_
        refine V_aload_n C0 0 rfl rfl dX12_makeLoad_163 ?_
        refine V_iload_n C0 1 rfl rfl dX12_makeLoad_164 ?_
        refine V_bipush C0 (v := (21 : Int32)) (by decide) dX12_makeLoad_165 ?_
        obtain ⟨v39, q40, h⟩ := bn1_some h
        refine V_callV C0 (st := [.int (5 : Int32), .int (26 : Int32), .int x1, .ref (G.ad x0)]) (As := [.int x1, .int (21 : Int32)]) 11 (c_X12_get G.l G.D G.cA G.ad G.bs G.X C0.2.2.2.2.2.2.2.2.2.1 C0.2.2.2.2.2.2.2.2.2.2.2.2 x0 x1 (21 : Int32) I L R v39 q40) lc_X12_get lk_X12_211 c_x0.2 c_x0.1 ⟨_, rfl, rfl⟩ rfl (by rw [erm]; decide) (Nat.le_of_ble_eq_true rfl) dX12_makeLoad_167 ?_
        show V G _ 170 [(0, .ref (G.ad x0)), (1, .int x1), (2, .int x2), (3, .int x3), (4, .int x4), (5, .int x5)] [.int v39, .int (5 : Int32), .int (26 : Int32), .int x1, .ref (G.ad x0)] I L R
        refine V_iconst C0 (v := (5 : Int32)) (by decide) dX12_makeLoad_170 ?_
        refine V_imul C0 dX12_makeLoad_171 ?_
        refine V_iadd C0 dX12_makeLoad_172 ?_
        refine V_aload_n C0 0 rfl rfl dX12_makeLoad_173 ?_
        refine V_iload_n C0 1 rfl rfl dX12_makeLoad_174 ?_
        refine V_bipush C0 (v := (25 : Int32)) (by decide) dX12_makeLoad_175 ?_
        obtain ⟨v41, q42, h⟩ := bn1_some h
        refine V_callV C0 (st := [.int ((5 : Int32) + (v39 * (5 : Int32))), .int (26 : Int32), .int x1, .ref (G.ad x0)]) (As := [.int x1, .int (25 : Int32)]) 11 (c_X12_get G.l G.D G.cA G.ad G.bs G.X C0.2.2.2.2.2.2.2.2.2.1 C0.2.2.2.2.2.2.2.2.2.2.2.2 x0 x1 (25 : Int32) I L R v41 q42) lc_X12_get lk_X12_211 c_x0.2 c_x0.1 ⟨_, rfl, rfl⟩ rfl (by rw [erm]; decide) (Nat.le_of_ble_eq_true rfl) dX12_makeLoad_177 ?_
        show V G _ 180 [(0, .ref (G.ad x0)), (1, .int x1), (2, .int x2), (3, .int x3), (4, .int x4), (5, .int x5)] [.int v41, .int ((5 : Int32) + (v39 * (5 : Int32))), .int (26 : Int32), .int x1, .ref (G.ad x0)] I L R
        refine V_bipush C0 (v := (8 : Int32)) (by decide) dX12_makeLoad_180 ?_
        refine V_idiv C0 (by decide) dX12_makeLoad_182 ?_
        refine V_iadd C0 dX12_makeLoad_183 ?_
        obtain ⟨I43, q44, h⟩ := bn1_some h
        refine V_callV C0 (st := []) (As := [.int x1, .int (26 : Int32), .int (((5 : Int32) + (v39 * (5 : Int32))) + (v41 / (8 : Int32)))]) 11 (c_X12_set G.l G.D G.cA G.ad G.bs G.X C0.2.2.2.2.2.2.2.2.2.1 C0.2.2.2.2.2.2.2.2.2.2.2.2 x0 x1 (26 : Int32) (((5 : Int32) + (v39 * (5 : Int32))) + (v41 / (8 : Int32))) I L R I43 q44) lc_X12_set lk_X12_246 c_x0.2 c_x0.1 ⟨_, rfl, rfl⟩ rfl (by rw [erm]; decide) (Nat.le_of_ble_eq_true rfl) dX12_makeLoad_184 ?_
        show V G _ 187 [(0, .ref (G.ad x0)), (1, .int x1), (2, .int x2), (3, .int x3), (4, .int x4), (5, .int x5)] [] I43 L R
        refine V_aload_n C0 0 rfl rfl dX12_makeLoad_187 ?_
        refine V_iload_n C0 1 rfl rfl dX12_makeLoad_188 ?_
        refine V_bipush C0 (v := (27 : Int32)) (by decide) dX12_makeLoad_189 ?_
        refine V_iload C0 4 rfl dX12_makeLoad_191 ?_
        obtain ⟨I45, q46, h⟩ := bn1_some h
        refine V_callV C0 (st := []) (As := [.int x1, .int (27 : Int32), .int x4]) 11 (c_X12_set G.l G.D G.cA G.ad G.bs G.X C0.2.2.2.2.2.2.2.2.2.1 C0.2.2.2.2.2.2.2.2.2.2.2.2 x0 x1 (27 : Int32) x4 I43 L R I45 q46) lc_X12_set lk_X12_246 c_x0.2 c_x0.1 ⟨_, rfl, rfl⟩ rfl (by rw [erm]; decide) (Nat.le_of_ble_eq_true rfl) dX12_makeLoad_193 ?_
        show V G _ 196 [(0, .ref (G.ad x0)), (1, .int x1), (2, .int x2), (3, .int x3), (4, .int x4), (5, .int x5)] [] I45 L R
        refine V_aload_n C0 0 rfl rfl dX12_makeLoad_196 ?_
        refine V_iload_n C0 1 rfl rfl dX12_makeLoad_197 ?_
        refine V_bipush C0 (v := (28 : Int32)) (by decide) dX12_makeLoad_198 ?_
        refine V_iload C0 5 rfl dX12_makeLoad_200 ?_
        obtain ⟨I47, q48, h⟩ := bn1_some h
        refine V_callV C0 (st := []) (As := [.int x1, .int (28 : Int32), .int x5]) 11 (c_X12_set G.l G.D G.cA G.ad G.bs G.X C0.2.2.2.2.2.2.2.2.2.1 C0.2.2.2.2.2.2.2.2.2.2.2.2 x0 x1 (28 : Int32) x5 I45 L R I47 q48) lc_X12_set lk_X12_246 c_x0.2 c_x0.1 ⟨_, rfl, rfl⟩ rfl (by rw [erm]; decide) (Nat.le_of_ble_eq_true rfl) dX12_makeLoad_202 ?_
        show V G _ 205 [(0, .ref (G.ad x0)), (1, .int x1), (2, .int x2), (3, .int x3), (4, .int x4), (5, .int x5)] [] I47 L R
        refine V_aload_n C0 0 rfl rfl dX12_makeLoad_205 ?_
        refine V_iload_n C0 1 rfl rfl dX12_makeLoad_206 ?_
        refine V_iload_n C0 2 rfl rfl dX12_makeLoad_207 ?_
        refine V_aload_n C0 0 rfl rfl dX12_makeLoad_208 ?_
        refine V_iload_n C0 1 rfl rfl dX12_makeLoad_209 ?_
        refine V_iconst C0 (v := (3 : Int32)) (by decide) dX12_makeLoad_210 ?_
        obtain ⟨v49, I50, q51, h⟩ := bn2_some h
        refine V_callV C0 (st := [.int x2, .int x1, .ref (G.ad x0)]) (As := [.int x1, .int (3 : Int32)]) 11 (c_X12_answer G.l G.D G.cA G.ad G.bs G.X C0.2.2.2.2.2.2.2.2.2.1 C0.2.2.2.2.2.2.2.2.2.2.2.2 N x0 x1 (3 : Int32) I47 L R v49 I50 q51) lc_X12_answer lk_X12_250 c_x0.2 c_x0.1 ⟨_, rfl, rfl⟩ rfl (by rw [erm]; decide) (Nat.le_of_ble_eq_true rfl) dX12_makeLoad_211 ?_
        show V G _ 214 [(0, .ref (G.ad x0)), (1, .int x1), (2, .int x2), (3, .int x3), (4, .int x4), (5, .int x5)] [.int v49, .int x2, .int x1, .ref (G.ad x0)] I50 L R
        obtain ⟨I52, q53, h⟩ := bn1_some h
        refine V_callV C0 (st := []) (As := [.int x1, .int x2, .int v49]) 11 (c_X12_noted G.l G.D G.cA G.ad G.bs G.X C0.2.2.2.2.2.2.2.2.2.1 C0.2.2.2.2.2.2.2.2.2.2.2.2 x0 x1 x2 v49 I50 L R I52 q53) lc_X12_noted lk_X12_253 c_x0.2 c_x0.1 ⟨_, rfl, rfl⟩ rfl (by rw [erm]; decide) (Nat.le_of_ble_eq_true rfl) dX12_makeLoad_214 ?_
        show V G _ 217 [(0, .ref (G.ad x0)), (1, .int x1), (2, .int x2), (3, .int x3), (4, .int x4), (5, .int x5)] [] I52 L R
        refine V_goto C0 (tgt := 323) (by decide) dX12_makeLoad_217 ?_
        cases h
        exact V_vret C0 dX12_makeLoad_323
      · have h := (if_neg c38).symm.trans h
        have nd1 := nd_add nd1 c38
        by_cases c54 : x2 = (20 : Int32)
        · have h := (if_pos c54).symm.trans h
          refine V_lookC C0 (tgt := 220) (v := (20 : Int32)) c54 (by decide) (by decide) dX12_makeLoad_1 ?_
          refine V_aload_n C0 0 rfl rfl dX12_makeLoad_220 ?_
          refine V_iload_n C0 1 rfl rfl dX12_makeLoad_221 ?_
          refine V_bipush C0 (v := (49 : Int32)) (by decide) dX12_makeLoad_222 ?_
          refine V_aload_n C0 0 rfl rfl dX12_makeLoad_224 ?_
          refine V_iload_n C0 1 rfl rfl dX12_makeLoad_225 ?_
          refine V_iconst C0 (v := (4 : Int32)) (by decide) dX12_makeLoad_226 ?_
          obtain ⟨v55, q56, h⟩ := bn1_some h
          refine V_callV C0 (st := [.int (49 : Int32), .int x1, .ref (G.ad x0)]) (As := [.int x1, .int (4 : Int32)]) 11 (c_X12_get G.l G.D G.cA G.ad G.bs G.X C0.2.2.2.2.2.2.2.2.2.1 C0.2.2.2.2.2.2.2.2.2.2.2.2 x0 x1 (4 : Int32) I L R v55 q56) lc_X12_get lk_X12_211 c_x0.2 c_x0.1 ⟨_, rfl, rfl⟩ rfl (by rw [erm]; decide) (Nat.le_of_ble_eq_true rfl) dX12_makeLoad_227 ?_
          show V G _ 230 [(0, .ref (G.ad x0)), (1, .int x1), (2, .int x2), (3, .int x3), (4, .int x4), (5, .int x5)] [.int v55, .int (49 : Int32), .int x1, .ref (G.ad x0)] I L R
          refine V_iconst C0 (v := (2 : Int32)) (by decide) dX12_makeLoad_230 ?_
          refine V_imul C0 dX12_makeLoad_231 ?_
          refine V_iconst C0 (v := (1 : Int32)) (by decide) dX12_makeLoad_232 ?_
          refine V_iadd C0 dX12_makeLoad_233 ?_
          obtain ⟨I57, q58, h⟩ := bn1_some h
          refine V_callV C0 (st := []) (As := [.int x1, .int (49 : Int32), .int ((v55 * (2 : Int32)) + (1 : Int32))]) 11 (c_X12_set G.l G.D G.cA G.ad G.bs G.X C0.2.2.2.2.2.2.2.2.2.1 C0.2.2.2.2.2.2.2.2.2.2.2.2 x0 x1 (49 : Int32) ((v55 * (2 : Int32)) + (1 : Int32)) I L R I57 q58) lc_X12_set lk_X12_246 c_x0.2 c_x0.1 ⟨_, rfl, rfl⟩ rfl (by rw [erm]; decide) (Nat.le_of_ble_eq_true rfl) dX12_makeLoad_234 ?_
          show V G _ 237 [(0, .ref (G.ad x0)), (1, .int x1), (2, .int x2), (3, .int x3), (4, .int x4), (5, .int x5)] [] I57 L R
          refine V_aload_n C0 0 rfl rfl dX12_makeLoad_237 ?_
          refine V_iload_n C0 1 rfl rfl dX12_makeLoad_238 ?_
          refine V_bipush C0 (v := (50 : Int32)) (by decide) dX12_makeLoad_239 ?_
          refine V_iload C0 4 rfl dX12_makeLoad_241 ?_
          obtain ⟨I59, q60, h⟩ := bn1_some h
          refine V_callV C0 (st := []) (As := [.int x1, .int (50 : Int32), .int x4]) 11 (c_X12_set G.l G.D G.cA G.ad G.bs G.X C0.2.2.2.2.2.2.2.2.2.1 C0.2.2.2.2.2.2.2.2.2.2.2.2 x0 x1 (50 : Int32) x4 I57 L R I59 q60) lc_X12_set lk_X12_246 c_x0.2 c_x0.1 ⟨_, rfl, rfl⟩ rfl (by rw [erm]; decide) (Nat.le_of_ble_eq_true rfl) dX12_makeLoad_243 ?_
          show V G _ 246 [(0, .ref (G.ad x0)), (1, .int x1), (2, .int x2), (3, .int x3), (4, .int x4), (5, .int x5)] [] I59 L R
          refine V_aload_n C0 0 rfl rfl dX12_makeLoad_246 ?_
          refine V_iload_n C0 1 rfl rfl dX12_makeLoad_247 ?_
          refine V_bipush C0 (v := (51 : Int32)) (by decide) dX12_makeLoad_248 ?_
          refine V_iconst C0 (v := (0 : Int32)) (by decide) dX12_makeLoad_250 ?_
          obtain ⟨I61, q62, h⟩ := bn1_some h
          refine V_callV C0 (st := []) (As := [.int x1, .int (51 : Int32), .int (0 : Int32)]) 11 (c_X12_set G.l G.D G.cA G.ad G.bs G.X C0.2.2.2.2.2.2.2.2.2.1 C0.2.2.2.2.2.2.2.2.2.2.2.2 x0 x1 (51 : Int32) (0 : Int32) I59 L R I61 q62) lc_X12_set lk_X12_246 c_x0.2 c_x0.1 ⟨_, rfl, rfl⟩ rfl (by rw [erm]; decide) (Nat.le_of_ble_eq_true rfl) dX12_makeLoad_251 ?_
          show V G _ 254 [(0, .ref (G.ad x0)), (1, .int x1), (2, .int x2), (3, .int x3), (4, .int x4), (5, .int x5)] [] I61 L R
          refine V_aload_n C0 0 rfl rfl dX12_makeLoad_254 ?_
          refine V_iload_n C0 1 rfl rfl dX12_makeLoad_255 ?_
          refine V_iload_n C0 2 rfl rfl dX12_makeLoad_256 ?_
          refine V_aload_n C0 0 rfl rfl dX12_makeLoad_257 ?_
          refine V_iload_n C0 1 rfl rfl dX12_makeLoad_258 ?_
          refine V_bipush C0 (v := (49 : Int32)) (by decide) dX12_makeLoad_259 ?_
          obtain ⟨v63, q64, h⟩ := bn1_some h
          refine V_callV C0 (st := [.int x2, .int x1, .ref (G.ad x0)]) (As := [.int x1, .int (49 : Int32)]) 11 (c_X12_get G.l G.D G.cA G.ad G.bs G.X C0.2.2.2.2.2.2.2.2.2.1 C0.2.2.2.2.2.2.2.2.2.2.2.2 x0 x1 (49 : Int32) I61 L R v63 q64) lc_X12_get lk_X12_211 c_x0.2 c_x0.1 ⟨_, rfl, rfl⟩ rfl (by rw [erm]; decide) (Nat.le_of_ble_eq_true rfl) dX12_makeLoad_261 ?_
          show V G _ 264 [(0, .ref (G.ad x0)), (1, .int x1), (2, .int x2), (3, .int x3), (4, .int x4), (5, .int x5)] [.int v63, .int x2, .int x1, .ref (G.ad x0)] I61 L R
          obtain ⟨I65, q66, h⟩ := bn1_some h
          refine V_callV C0 (st := []) (As := [.int x1, .int x2, .int v63]) 11 (c_X12_noted G.l G.D G.cA G.ad G.bs G.X C0.2.2.2.2.2.2.2.2.2.1 C0.2.2.2.2.2.2.2.2.2.2.2.2 x0 x1 x2 v63 I61 L R I65 q66) lc_X12_noted lk_X12_253 c_x0.2 c_x0.1 ⟨_, rfl, rfl⟩ rfl (by rw [erm]; decide) (Nat.le_of_ble_eq_true rfl) dX12_makeLoad_264 ?_
          show V G _ 267 [(0, .ref (G.ad x0)), (1, .int x1), (2, .int x2), (3, .int x3), (4, .int x4), (5, .int x5)] [] I65 L R
          refine V_goto C0 (tgt := 323) (by decide) dX12_makeLoad_267 ?_
          cases h
          exact V_vret C0 dX12_makeLoad_323
        · have h := (if_neg c54).symm.trans h
          have nd1 := nd_add nd1 c54
          refine V_lookN C0 (tgt := 270) nd1 (by decide) (by decide) dX12_makeLoad_1 ?_
          refine V_aload_n C0 0 rfl rfl dX12_makeLoad_270 ?_
          refine V_iload_n C0 1 rfl rfl dX12_makeLoad_271 ?_
          refine V_bipush C0 (v := (31 : Int32)) (by decide) dX12_makeLoad_272 ?_
          refine V_bipush C0 (v := (10 : Int32)) (by decide) dX12_makeLoad_274 ?_
          refine V_aload_n C0 0 rfl rfl dX12_makeLoad_276 ?_
          refine V_iload_n C0 1 rfl rfl dX12_makeLoad_277 ?_
          refine V_bipush C0 (v := (49 : Int32)) (by decide) dX12_makeLoad_278 ?_
          obtain ⟨v67, q68, h⟩ := bn1_some h
          refine V_callV C0 (st := [.int (10 : Int32), .int (31 : Int32), .int x1, .ref (G.ad x0)]) (As := [.int x1, .int (49 : Int32)]) 11 (c_X12_get G.l G.D G.cA G.ad G.bs G.X C0.2.2.2.2.2.2.2.2.2.1 C0.2.2.2.2.2.2.2.2.2.2.2.2 x0 x1 (49 : Int32) I L R v67 q68) lc_X12_get lk_X12_211 c_x0.2 c_x0.1 ⟨_, rfl, rfl⟩ rfl (by rw [erm]; decide) (Nat.le_of_ble_eq_true rfl) dX12_makeLoad_280 ?_
          show V G _ 283 [(0, .ref (G.ad x0)), (1, .int x1), (2, .int x2), (3, .int x3), (4, .int x4), (5, .int x5)] [.int v67, .int (10 : Int32), .int (31 : Int32), .int x1, .ref (G.ad x0)] I L R
          refine V_bipush C0 (v := (7 : Int32)) (by decide) dX12_makeLoad_283 ?_
          obtain ⟨v69, q70, h⟩ := bn1_some h
          refine V_callS C0 (st := [.int (10 : Int32), .int (31 : Int32), .int x1, .ref (G.ad x0)]) (As := [.int v67, .int (7 : Int32)]) (c_X12_mod G.l G.D G.cA G.ad G.bs G.X C0.2.2.2.2.2.2.2.2.2.1 C0.2.2.2.2.2.2.2.2.2.2.2.2 v67 (7 : Int32) I L R v69 q70) lc_X12_mod lk_X12_115 rfl (by rw [erm]; decide) (Nat.le_of_ble_eq_true rfl) dX12_makeLoad_285 ?_
          show V G _ 288 [(0, .ref (G.ad x0)), (1, .int x1), (2, .int x2), (3, .int x3), (4, .int x4), (5, .int x5)] [.int v69, .int (10 : Int32), .int (31 : Int32), .int x1, .ref (G.ad x0)] I L R
          refine V_iadd C0 dX12_makeLoad_288 ?_
          obtain ⟨I71, q72, h⟩ := bn1_some h
          refine V_callV C0 (st := []) (As := [.int x1, .int (31 : Int32), .int ((10 : Int32) + v69)]) 11 (c_X12_set G.l G.D G.cA G.ad G.bs G.X C0.2.2.2.2.2.2.2.2.2.1 C0.2.2.2.2.2.2.2.2.2.2.2.2 x0 x1 (31 : Int32) ((10 : Int32) + v69) I L R I71 q72) lc_X12_set lk_X12_246 c_x0.2 c_x0.1 ⟨_, rfl, rfl⟩ rfl (by rw [erm]; decide) (Nat.le_of_ble_eq_true rfl) dX12_makeLoad_289 ?_
          show V G _ 292 [(0, .ref (G.ad x0)), (1, .int x1), (2, .int x2), (3, .int x3), (4, .int x4), (5, .int x5)] [] I71 L R
          refine V_aload_n C0 0 rfl rfl dX12_makeLoad_292 ?_
          refine V_iload_n C0 1 rfl rfl dX12_makeLoad_293 ?_
          refine V_bipush C0 (v := (50 : Int32)) (by decide) dX12_makeLoad_294 ?_
          refine V_aload_n C0 0 rfl rfl dX12_makeLoad_296 ?_
          refine V_iload_n C0 1 rfl rfl dX12_makeLoad_297 ?_
          refine V_bipush C0 (v := (50 : Int32)) (by decide) dX12_makeLoad_298 ?_
          obtain ⟨v73, q74, h⟩ := bn1_some h
          refine V_callV C0 (st := [.int (50 : Int32), .int x1, .ref (G.ad x0)]) (As := [.int x1, .int (50 : Int32)]) 11 (c_X12_get G.l G.D G.cA G.ad G.bs G.X C0.2.2.2.2.2.2.2.2.2.1 C0.2.2.2.2.2.2.2.2.2.2.2.2 x0 x1 (50 : Int32) I71 L R v73 q74) lc_X12_get lk_X12_211 c_x0.2 c_x0.1 ⟨_, rfl, rfl⟩ rfl (by rw [erm]; decide) (Nat.le_of_ble_eq_true rfl) dX12_makeLoad_300 ?_
          show V G _ 303 [(0, .ref (G.ad x0)), (1, .int x1), (2, .int x2), (3, .int x3), (4, .int x4), (5, .int x5)] [.int v73, .int (50 : Int32), .int x1, .ref (G.ad x0)] I71 L R
          refine V_iconst C0 (v := (2 : Int32)) (by decide) dX12_makeLoad_303 ?_
          refine V_idiv C0 (by decide) dX12_makeLoad_304 ?_
          refine V_iconst C0 (v := (1 : Int32)) (by decide) dX12_makeLoad_305 ?_
          refine V_iadd C0 dX12_makeLoad_306 ?_
          obtain ⟨I75, q76, h⟩ := bn1_some h
          refine V_callV C0 (st := []) (As := [.int x1, .int (50 : Int32), .int ((v73 / (2 : Int32)) + (1 : Int32))]) 11 (c_X12_set G.l G.D G.cA G.ad G.bs G.X C0.2.2.2.2.2.2.2.2.2.1 C0.2.2.2.2.2.2.2.2.2.2.2.2 x0 x1 (50 : Int32) ((v73 / (2 : Int32)) + (1 : Int32)) I71 L R I75 q76) lc_X12_set lk_X12_246 c_x0.2 c_x0.1 ⟨_, rfl, rfl⟩ rfl (by rw [erm]; decide) (Nat.le_of_ble_eq_true rfl) dX12_makeLoad_307 ?_
          show V G _ 310 [(0, .ref (G.ad x0)), (1, .int x1), (2, .int x2), (3, .int x3), (4, .int x4), (5, .int x5)] [] I75 L R
          refine V_aload_n C0 0 rfl rfl dX12_makeLoad_310 ?_
          refine V_iload_n C0 1 rfl rfl dX12_makeLoad_311 ?_
          refine V_iload_n C0 2 rfl rfl dX12_makeLoad_312 ?_
          refine V_aload_n C0 0 rfl rfl dX12_makeLoad_313 ?_
          refine V_iload_n C0 1 rfl rfl dX12_makeLoad_314 ?_
          refine V_bipush C0 (v := (50 : Int32)) (by decide) dX12_makeLoad_315 ?_
          obtain ⟨v77, q78, h⟩ := bn1_some h
          refine V_callV C0 (st := [.int x2, .int x1, .ref (G.ad x0)]) (As := [.int x1, .int (50 : Int32)]) 11 (c_X12_get G.l G.D G.cA G.ad G.bs G.X C0.2.2.2.2.2.2.2.2.2.1 C0.2.2.2.2.2.2.2.2.2.2.2.2 x0 x1 (50 : Int32) I75 L R v77 q78) lc_X12_get lk_X12_211 c_x0.2 c_x0.1 ⟨_, rfl, rfl⟩ rfl (by rw [erm]; decide) (Nat.le_of_ble_eq_true rfl) dX12_makeLoad_317 ?_
          show V G _ 320 [(0, .ref (G.ad x0)), (1, .int x1), (2, .int x2), (3, .int x3), (4, .int x4), (5, .int x5)] [.int v77, .int x2, .int x1, .ref (G.ad x0)] I75 L R
          obtain ⟨I79, q80, h⟩ := bn1_some h
          refine V_callV C0 (st := []) (As := [.int x1, .int x2, .int v77]) 11 (c_X12_noted G.l G.D G.cA G.ad G.bs G.X C0.2.2.2.2.2.2.2.2.2.1 C0.2.2.2.2.2.2.2.2.2.2.2.2 x0 x1 x2 v77 I75 L R I79 q80) lc_X12_noted lk_X12_253 c_x0.2 c_x0.1 ⟨_, rfl, rfl⟩ rfl (by rw [erm]; decide) (Nat.le_of_ble_eq_true rfl) dX12_makeLoad_320 ?_
          show V G _ 323 [(0, .ref (G.ad x0)), (1, .int x1), (2, .int x2), (3, .int x3), (4, .int x4), (5, .int x5)] [] I79 L R
          cases h
          exact V_vret C0 dX12_makeLoad_323
theorem dX12_makeSensor_0 : decode cX12_makeSensor 0 = .ok (.iload_n 2, 1) := by decide +kernel
theorem dX12_makeSensor_1 : decode cX12_makeSensor 1 = .ok (.tableswitch 306 9 13 #[35, 96, 158, 228, 265], 35) := by decide +kernel
theorem dX12_makeSensor_36 : decode cX12_makeSensor 36 = .ok (.aload_n 0, 1) := by decide +kernel
theorem dX12_makeSensor_37 : decode cX12_makeSensor 37 = .ok (.iload_n 1, 1) := by decide +kernel
theorem dX12_makeSensor_38 : decode cX12_makeSensor 38 = .ok (.bipush 29, 2) := by decide +kernel
theorem dX12_makeSensor_40 : decode cX12_makeSensor 40 = .ok (.aload_n 0, 1) := by decide +kernel
theorem dX12_makeSensor_41 : decode cX12_makeSensor 41 = .ok (.invokevirtual 242, 3) := by decide +kernel
theorem dX12_makeSensor_44 : decode cX12_makeSensor 44 = .ok (.bipush 7, 2) := by decide +kernel
theorem dX12_makeSensor_46 : decode cX12_makeSensor 46 = .ok (.invokestatic 115, 3) := by decide +kernel
theorem dX12_makeSensor_49 : decode cX12_makeSensor 49 = .ok (.invokevirtual 246, 3) := by decide +kernel
theorem dX12_makeSensor_52 : decode cX12_makeSensor 52 = .ok (.aload_n 0, 1) := by decide +kernel
theorem dX12_makeSensor_53 : decode cX12_makeSensor 53 = .ok (.iload_n 1, 1) := by decide +kernel
theorem dX12_makeSensor_54 : decode cX12_makeSensor 54 = .ok (.bipush 30, 2) := by decide +kernel
theorem dX12_makeSensor_56 : decode cX12_makeSensor 56 = .ok (.aload_n 0, 1) := by decide +kernel
theorem dX12_makeSensor_57 : decode cX12_makeSensor 57 = .ok (.iload_n 1, 1) := by decide +kernel
theorem dX12_makeSensor_58 : decode cX12_makeSensor 58 = .ok (.iconst 4, 1) := by decide +kernel
theorem dX12_makeSensor_59 : decode cX12_makeSensor 59 = .ok (.invokevirtual 250, 3) := by decide +kernel
theorem dX12_makeSensor_62 : decode cX12_makeSensor 62 = .ok (.invokevirtual 246, 3) := by decide +kernel
theorem dX12_makeSensor_65 : decode cX12_makeSensor 65 = .ok (.aload_n 0, 1) := by decide +kernel
theorem dX12_makeSensor_66 : decode cX12_makeSensor 66 = .ok (.iload_n 1, 1) := by decide +kernel
theorem dX12_makeSensor_67 : decode cX12_makeSensor 67 = .ok (.bipush 31, 2) := by decide +kernel
theorem dX12_makeSensor_69 : decode cX12_makeSensor 69 = .ok (.iload_n 3, 1) := by decide +kernel
theorem dX12_makeSensor_70 : decode cX12_makeSensor 70 = .ok (.invokevirtual 246, 3) := by decide +kernel
theorem dX12_makeSensor_73 : decode cX12_makeSensor 73 = .ok (.aload_n 0, 1) := by decide +kernel
theorem dX12_makeSensor_74 : decode cX12_makeSensor 74 = .ok (.iload_n 1, 1) := by decide +kernel
theorem dX12_makeSensor_75 : decode cX12_makeSensor 75 = .ok (.bipush 32, 2) := by decide +kernel
theorem dX12_makeSensor_77 : decode cX12_makeSensor 77 = .ok (.iconst 0, 1) := by decide +kernel
theorem dX12_makeSensor_78 : decode cX12_makeSensor 78 = .ok (.invokevirtual 246, 3) := by decide +kernel
theorem dX12_makeSensor_81 : decode cX12_makeSensor 81 = .ok (.aload_n 0, 1) := by decide +kernel
theorem dX12_makeSensor_82 : decode cX12_makeSensor 82 = .ok (.iload_n 1, 1) := by decide +kernel
theorem dX12_makeSensor_83 : decode cX12_makeSensor 83 = .ok (.iload_n 2, 1) := by decide +kernel
theorem dX12_makeSensor_84 : decode cX12_makeSensor 84 = .ok (.aload_n 0, 1) := by decide +kernel
theorem dX12_makeSensor_85 : decode cX12_makeSensor 85 = .ok (.iload_n 1, 1) := by decide +kernel
theorem dX12_makeSensor_86 : decode cX12_makeSensor 86 = .ok (.bipush 30, 2) := by decide +kernel
theorem dX12_makeSensor_88 : decode cX12_makeSensor 88 = .ok (.invokevirtual 211, 3) := by decide +kernel
theorem dX12_makeSensor_91 : decode cX12_makeSensor 91 = .ok (.invokevirtual 253, 3) := by decide +kernel
theorem dX12_makeSensor_94 : decode cX12_makeSensor 94 = .ok (.goto 266, 3) := by decide +kernel
theorem dX12_makeSensor_97 : decode cX12_makeSensor 97 = .ok (.aload_n 0, 1) := by decide +kernel
theorem dX12_makeSensor_98 : decode cX12_makeSensor 98 = .ok (.iload_n 1, 1) := by decide +kernel
theorem dX12_makeSensor_99 : decode cX12_makeSensor 99 = .ok (.bipush 33, 2) := by decide +kernel
theorem dX12_makeSensor_101 : decode cX12_makeSensor 101 = .ok (.aload_n 0, 1) := by decide +kernel
theorem dX12_makeSensor_102 : decode cX12_makeSensor 102 = .ok (.iload_n 1, 1) := by decide +kernel
theorem dX12_makeSensor_103 : decode cX12_makeSensor 103 = .ok (.bipush 29, 2) := by decide +kernel
theorem dX12_makeSensor_105 : decode cX12_makeSensor 105 = .ok (.invokevirtual 211, 3) := by decide +kernel
theorem dX12_makeSensor_108 : decode cX12_makeSensor 108 = .ok (.iconst 3, 1) := by decide +kernel
theorem dX12_makeSensor_109 : decode cX12_makeSensor 109 = .ok (.isub, 1) := by decide +kernel
theorem dX12_makeSensor_110 : decode cX12_makeSensor 110 = .ok (.invokevirtual 246, 3) := by decide +kernel
theorem dX12_makeSensor_113 : decode cX12_makeSensor 113 = .ok (.aload_n 0, 1) := by decide +kernel
theorem dX12_makeSensor_114 : decode cX12_makeSensor 114 = .ok (.iload_n 1, 1) := by decide +kernel
theorem dX12_makeSensor_115 : decode cX12_makeSensor 115 = .ok (.bipush 34, 2) := by decide +kernel
theorem dX12_makeSensor_117 : decode cX12_makeSensor 117 = .ok (.iconst 1, 1) := by decide +kernel
theorem dX12_makeSensor_118 : decode cX12_makeSensor 118 = .ok (.invokevirtual 246, 3) := by decide +kernel
theorem dX12_makeSensor_121 : decode cX12_makeSensor 121 = .ok (.aload_n 0, 1) := by decide +kernel
theorem dX12_makeSensor_122 : decode cX12_makeSensor 122 = .ok (.iload_n 1, 1) := by decide +kernel
theorem dX12_makeSensor_123 : decode cX12_makeSensor 123 = .ok (.bipush 35, 2) := by decide +kernel
theorem dX12_makeSensor_125 : decode cX12_makeSensor 125 = .ok (.iload 4, 2) := by decide +kernel
theorem dX12_makeSensor_127 : decode cX12_makeSensor 127 = .ok (.invokevirtual 246, 3) := by decide +kernel
theorem dX12_makeSensor_130 : decode cX12_makeSensor 130 = .ok (.aload_n 0, 1) := by decide +kernel
theorem dX12_makeSensor_131 : decode cX12_makeSensor 131 = .ok (.iload_n 1, 1) := by decide +kernel
theorem dX12_makeSensor_132 : decode cX12_makeSensor 132 = .ok (.bipush 30, 2) := by decide +kernel
theorem dX12_makeSensor_134 : decode cX12_makeSensor 134 = .ok (.aload_n 0, 1) := by decide +kernel
theorem dX12_makeSensor_135 : decode cX12_makeSensor 135 = .ok (.iload_n 1, 1) := by decide +kernel
theorem dX12_makeSensor_136 : decode cX12_makeSensor 136 = .ok (.iconst 4, 1) := by decide +kernel
theorem dX12_makeSensor_137 : decode cX12_makeSensor 137 = .ok (.invokevirtual 250, 3) := by decide +kernel
theorem dX12_makeSensor_140 : decode cX12_makeSensor 140 = .ok (.invokevirtual 246, 3) := by decide +kernel
theorem dX12_makeSensor_143 : decode cX12_makeSensor 143 = .ok (.aload_n 0, 1) := by decide +kernel
theorem dX12_makeSensor_144 : decode cX12_makeSensor 144 = .ok (.iload_n 1, 1) := by decide +kernel
theorem dX12_makeSensor_145 : decode cX12_makeSensor 145 = .ok (.iload_n 2, 1) := by decide +kernel
theorem dX12_makeSensor_146 : decode cX12_makeSensor 146 = .ok (.aload_n 0, 1) := by decide +kernel
theorem dX12_makeSensor_147 : decode cX12_makeSensor 147 = .ok (.iload_n 1, 1) := by decide +kernel
theorem dX12_makeSensor_148 : decode cX12_makeSensor 148 = .ok (.bipush 33, 2) := by decide +kernel
theorem dX12_makeSensor_150 : decode cX12_makeSensor 150 = .ok (.invokevirtual 211, 3) := by decide +kernel
theorem dX12_makeSensor_153 : decode cX12_makeSensor 153 = .ok (.invokevirtual 253, 3) := by decide +kernel
theorem dX12_makeSensor_156 : decode cX12_makeSensor 156 = .ok (.goto 204, 3) := by decide +kernel
theorem dX12_makeSensor_159 : decode cX12_makeSensor 159 = .ok (.aload_n 0, 1) := by decide +kernel
theorem dX12_makeSensor_160 : decode cX12_makeSensor 160 = .ok (.iload_n 1, 1) := by decide +kernel
theorem dX12_makeSensor_161 : decode cX12_makeSensor 161 = .ok (.bipush 33, 2) := by decide +kernel
theorem dX12_makeSensor_163 : decode cX12_makeSensor 163 = .ok (.aload_n 0, 1) := by decide +kernel
theorem dX12_makeSensor_164 : decode cX12_makeSensor 164 = .ok (.iload_n 1, 1) := by decide +kernel
theorem dX12_makeSensor_165 : decode cX12_makeSensor 165 = .ok (.bipush 33, 2) := by decide +kernel
theorem dX12_makeSensor_167 : decode cX12_makeSensor 167 = .ok (.invokevirtual 211, 3) := by decide +kernel
theorem dX12_makeSensor_170 : decode cX12_makeSensor 170 = .ok (.iconst 2, 1) := by decide +kernel
theorem dX12_makeSensor_171 : decode cX12_makeSensor 171 = .ok (.idiv, 1) := by decide +kernel
theorem dX12_makeSensor_172 : decode cX12_makeSensor 172 = .ok (.invokevirtual 246, 3) := by decide +kernel
theorem dX12_makeSensor_175 : decode cX12_makeSensor 175 = .ok (.aload_n 0, 1) := by decide +kernel
theorem dX12_makeSensor_176 : decode cX12_makeSensor 176 = .ok (.iload_n 1, 1) := by decide +kernel
theorem dX12_makeSensor_177 : decode cX12_makeSensor 177 = .ok (.bipush 36, 2) := by decide +kernel
theorem dX12_makeSensor_179 : decode cX12_makeSensor 179 = .ok (.aload_n 0, 1) := by decide +kernel
theorem dX12_makeSensor_180 : decode cX12_makeSensor 180 = .ok (.invokevirtual 242, 3) := by decide +kernel
theorem dX12_makeSensor_183 : decode cX12_makeSensor 183 = .ok (.iconst 4, 1) := by decide +kernel
theorem dX12_makeSensor_184 : decode cX12_makeSensor 184 = .ok (.invokestatic 115, 3) := by decide +kernel
theorem dX12_makeSensor_187 : decode cX12_makeSensor 187 = .ok (.iconst 1, 1) := by decide +kernel
theorem dX12_makeSensor_188 : decode cX12_makeSensor 188 = .ok (.iadd, 1) := by decide +kernel
theorem dX12_makeSensor_189 : decode cX12_makeSensor 189 = .ok (.invokevirtual 246, 3) := by decide +kernel
theorem dX12_makeSensor_192 : decode cX12_makeSensor 192 = .ok (.aload_n 0, 1) := by decide +kernel
theorem dX12_makeSensor_193 : decode cX12_makeSensor 193 = .ok (.iload_n 1, 1) := by decide +kernel
theorem dX12_makeSensor_194 : decode cX12_makeSensor 194 = .ok (.bipush 34, 2) := by decide +kernel
theorem dX12_makeSensor_196 : decode cX12_makeSensor 196 = .ok (.iconst 3, 1) := by decide +kernel
theorem dX12_makeSensor_197 : decode cX12_makeSensor 197 = .ok (.invokevirtual 246, 3) := by decide +kernel
theorem dX12_makeSensor_200 : decode cX12_makeSensor 200 = .ok (.aload_n 0, 1) := by decide +kernel
theorem dX12_makeSensor_201 : decode cX12_makeSensor 201 = .ok (.iload_n 1, 1) := by decide +kernel
theorem dX12_makeSensor_202 : decode cX12_makeSensor 202 = .ok (.bipush 30, 2) := by decide +kernel
theorem dX12_makeSensor_204 : decode cX12_makeSensor 204 = .ok (.aload_n 0, 1) := by decide +kernel
theorem dX12_makeSensor_205 : decode cX12_makeSensor 205 = .ok (.iload_n 1, 1) := by decide +kernel
theorem dX12_makeSensor_206 : decode cX12_makeSensor 206 = .ok (.iconst 4, 1) := by decide +kernel
theorem dX12_makeSensor_207 : decode cX12_makeSensor 207 = .ok (.invokevirtual 250, 3) := by decide +kernel
theorem dX12_makeSensor_210 : decode cX12_makeSensor 210 = .ok (.invokevirtual 246, 3) := by decide +kernel
theorem dX12_makeSensor_213 : decode cX12_makeSensor 213 = .ok (.aload_n 0, 1) := by decide +kernel
theorem dX12_makeSensor_214 : decode cX12_makeSensor 214 = .ok (.iload_n 1, 1) := by decide +kernel
theorem dX12_makeSensor_215 : decode cX12_makeSensor 215 = .ok (.iload_n 2, 1) := by decide +kernel
theorem dX12_makeSensor_216 : decode cX12_makeSensor 216 = .ok (.aload_n 0, 1) := by decide +kernel
theorem dX12_makeSensor_217 : decode cX12_makeSensor 217 = .ok (.iload_n 1, 1) := by decide +kernel
theorem dX12_makeSensor_218 : decode cX12_makeSensor 218 = .ok (.bipush 30, 2) := by decide +kernel
theorem dX12_makeSensor_220 : decode cX12_makeSensor 220 = .ok (.invokevirtual 211, 3) := by decide +kernel
theorem dX12_makeSensor_223 : decode cX12_makeSensor 223 = .ok (.invokevirtual 253, 3) := by decide +kernel
theorem dX12_makeSensor_226 : decode cX12_makeSensor 226 = .ok (.goto 134, 3) := by decide +kernel
theorem dX12_makeSensor_229 : decode cX12_makeSensor 229 = .ok (.aload_n 0, 1) := by decide +kernel
theorem dX12_makeSensor_230 : decode cX12_makeSensor 230 = .ok (.iload_n 1, 1) := by decide +kernel
theorem dX12_makeSensor_231 : decode cX12_makeSensor 231 = .ok (.bipush 37, 2) := by decide +kernel
theorem dX12_makeSensor_233 : decode cX12_makeSensor 233 = .ok (.sipush 600, 3) := by decide +kernel
theorem dX12_makeSensor_236 : decode cX12_makeSensor 236 = .ok (.aload_n 0, 1) := by decide +kernel
theorem dX12_makeSensor_237 : decode cX12_makeSensor 237 = .ok (.iload_n 1, 1) := by decide +kernel
theorem dX12_makeSensor_238 : decode cX12_makeSensor 238 = .ok (.bipush 29, 2) := by decide +kernel
theorem dX12_makeSensor_240 : decode cX12_makeSensor 240 = .ok (.invokevirtual 211, 3) := by decide +kernel
theorem dX12_makeSensor_243 : decode cX12_makeSensor 243 = .ok (.bipush 40, 2) := by decide +kernel
theorem dX12_makeSensor_245 : decode cX12_makeSensor 245 = .ok (.imul, 1) := by decide +kernel
theorem dX12_makeSensor_246 : decode cX12_makeSensor 246 = .ok (.iadd, 1) := by decide +kernel
theorem dX12_makeSensor_247 : decode cX12_makeSensor 247 = .ok (.invokevirtual 246, 3) := by decide +kernel
theorem dX12_makeSensor_250 : decode cX12_makeSensor 250 = .ok (.aload_n 0, 1) := by decide +kernel
theorem dX12_makeSensor_251 : decode cX12_makeSensor 251 = .ok (.iload_n 1, 1) := by decide +kernel
theorem dX12_makeSensor_252 : decode cX12_makeSensor 252 = .ok (.iload_n 2, 1) := by decide +kernel
theorem dX12_makeSensor_253 : decode cX12_makeSensor 253 = .ok (.aload_n 0, 1) := by decide +kernel
theorem dX12_makeSensor_254 : decode cX12_makeSensor 254 = .ok (.iload_n 1, 1) := by decide +kernel
theorem dX12_makeSensor_255 : decode cX12_makeSensor 255 = .ok (.bipush 37, 2) := by decide +kernel
theorem dX12_makeSensor_257 : decode cX12_makeSensor 257 = .ok (.invokevirtual 211, 3) := by decide +kernel
theorem dX12_makeSensor_260 : decode cX12_makeSensor 260 = .ok (.invokevirtual 253, 3) := by decide +kernel
theorem dX12_makeSensor_263 : decode cX12_makeSensor 263 = .ok (.goto 97, 3) := by decide +kernel
theorem dX12_makeSensor_266 : decode cX12_makeSensor 266 = .ok (.aload_n 0, 1) := by decide +kernel
theorem dX12_makeSensor_267 : decode cX12_makeSensor 267 = .ok (.iload_n 1, 1) := by decide +kernel
theorem dX12_makeSensor_268 : decode cX12_makeSensor 268 = .ok (.bipush 38, 2) := by decide +kernel
theorem dX12_makeSensor_270 : decode cX12_makeSensor 270 = .ok (.aload_n 0, 1) := by decide +kernel
theorem dX12_makeSensor_271 : decode cX12_makeSensor 271 = .ok (.iload_n 1, 1) := by decide +kernel
theorem dX12_makeSensor_272 : decode cX12_makeSensor 272 = .ok (.bipush 29, 2) := by decide +kernel
theorem dX12_makeSensor_274 : decode cX12_makeSensor 274 = .ok (.invokevirtual 211, 3) := by decide +kernel
theorem dX12_makeSensor_277 : decode cX12_makeSensor 277 = .ok (.iconst 2, 1) := by decide +kernel
theorem dX12_makeSensor_278 : decode cX12_makeSensor 278 = .ok (.isub, 1) := by decide +kernel
theorem dX12_makeSensor_279 : decode cX12_makeSensor 279 = .ok (.invokevirtual 246, 3) := by decide +kernel
theorem dX12_makeSensor_282 : decode cX12_makeSensor 282 = .ok (.aload_n 0, 1) := by decide +kernel
theorem dX12_makeSensor_283 : decode cX12_makeSensor 283 = .ok (.iload_n 1, 1) := by decide +kernel
theorem dX12_makeSensor_284 : decode cX12_makeSensor 284 = .ok (.bipush 27, 2) := by decide +kernel
theorem dX12_makeSensor_286 : decode cX12_makeSensor 286 = .ok (.iload 4, 2) := by decide +kernel
theorem dX12_makeSensor_288 : decode cX12_makeSensor 288 = .ok (.invokevirtual 246, 3) := by decide +kernel
theorem dX12_makeSensor_291 : decode cX12_makeSensor 291 = .ok (.aload_n 0, 1) := by decide +kernel
theorem dX12_makeSensor_292 : decode cX12_makeSensor 292 = .ok (.iload_n 1, 1) := by decide +kernel
theorem dX12_makeSensor_293 : decode cX12_makeSensor 293 = .ok (.iload_n 2, 1) := by decide +kernel
theorem dX12_makeSensor_294 : decode cX12_makeSensor 294 = .ok (.aload_n 0, 1) := by decide +kernel
theorem dX12_makeSensor_295 : decode cX12_makeSensor 295 = .ok (.iload_n 1, 1) := by decide +kernel
theorem dX12_makeSensor_296 : decode cX12_makeSensor 296 = .ok (.bipush 38, 2) := by decide +kernel
theorem dX12_makeSensor_298 : decode cX12_makeSensor 298 = .ok (.invokevirtual 211, 3) := by decide +kernel
theorem dX12_makeSensor_301 : decode cX12_makeSensor 301 = .ok (.invokevirtual 253, 3) := by decide +kernel
theorem dX12_makeSensor_304 : decode cX12_makeSensor 304 = .ok (.goto 56, 3) := by decide +kernel
theorem dX12_makeSensor_307 : decode cX12_makeSensor 307 = .ok (.aload_n 0, 1) := by decide +kernel
theorem dX12_makeSensor_308 : decode cX12_makeSensor 308 = .ok (.iload_n 1, 1) := by decide +kernel
theorem dX12_makeSensor_309 : decode cX12_makeSensor 309 = .ok (.bipush 39, 2) := by decide +kernel
theorem dX12_makeSensor_311 : decode cX12_makeSensor 311 = .ok (.aload_n 0, 1) := by decide +kernel
theorem dX12_makeSensor_312 : decode cX12_makeSensor 312 = .ok (.iload_n 1, 1) := by decide +kernel
theorem dX12_makeSensor_313 : decode cX12_makeSensor 313 = .ok (.bipush 30, 2) := by decide +kernel
theorem dX12_makeSensor_315 : decode cX12_makeSensor 315 = .ok (.invokevirtual 211, 3) := by decide +kernel
theorem dX12_makeSensor_318 : decode cX12_makeSensor 318 = .ok (.aload_n 0, 1) := by decide +kernel
theorem dX12_makeSensor_319 : decode cX12_makeSensor 319 = .ok (.invokevirtual 242, 3) := by decide +kernel
theorem dX12_makeSensor_322 : decode cX12_makeSensor 322 = .ok (.iconst 3, 1) := by decide +kernel
theorem dX12_makeSensor_323 : decode cX12_makeSensor 323 = .ok (.invokestatic 115, 3) := by decide +kernel
theorem dX12_makeSensor_326 : decode cX12_makeSensor 326 = .ok (.iadd, 1) := by decide +kernel
theorem dX12_makeSensor_327 : decode cX12_makeSensor 327 = .ok (.invokevirtual 246, 3) := by decide +kernel
theorem dX12_makeSensor_330 : decode cX12_makeSensor 330 = .ok (.aload_n 0, 1) := by decide +kernel
theorem dX12_makeSensor_331 : decode cX12_makeSensor 331 = .ok (.iload_n 1, 1) := by decide +kernel
theorem dX12_makeSensor_332 : decode cX12_makeSensor 332 = .ok (.bipush 27, 2) := by decide +kernel
theorem dX12_makeSensor_334 : decode cX12_makeSensor 334 = .ok (.iload 4, 2) := by decide +kernel
theorem dX12_makeSensor_336 : decode cX12_makeSensor 336 = .ok (.invokevirtual 246, 3) := by decide +kernel
theorem dX12_makeSensor_339 : decode cX12_makeSensor 339 = .ok (.aload_n 0, 1) := by decide +kernel
theorem dX12_makeSensor_340 : decode cX12_makeSensor 340 = .ok (.iload_n 1, 1) := by decide +kernel
theorem dX12_makeSensor_341 : decode cX12_makeSensor 341 = .ok (.bipush 40, 2) := by decide +kernel
theorem dX12_makeSensor_343 : decode cX12_makeSensor 343 = .ok (.iconst 0, 1) := by decide +kernel
theorem dX12_makeSensor_344 : decode cX12_makeSensor 344 = .ok (.invokevirtual 246, 3) := by decide +kernel
theorem dX12_makeSensor_347 : decode cX12_makeSensor 347 = .ok (.aload_n 0, 1) := by decide +kernel
theorem dX12_makeSensor_348 : decode cX12_makeSensor 348 = .ok (.iload_n 1, 1) := by decide +kernel
theorem dX12_makeSensor_349 : decode cX12_makeSensor 349 = .ok (.iload_n 2, 1) := by decide +kernel
theorem dX12_makeSensor_350 : decode cX12_makeSensor 350 = .ok (.aload_n 0, 1) := by decide +kernel
theorem dX12_makeSensor_351 : decode cX12_makeSensor 351 = .ok (.iload_n 1, 1) := by decide +kernel
theorem dX12_makeSensor_352 : decode cX12_makeSensor 352 = .ok (.bipush 39, 2) := by decide +kernel
theorem dX12_makeSensor_354 : decode cX12_makeSensor 354 = .ok (.invokevirtual 211, 3) := by decide +kernel
theorem dX12_makeSensor_357 : decode cX12_makeSensor 357 = .ok (.invokevirtual 253, 3) := by decide +kernel
theorem dX12_makeSensor_360 : decode cX12_makeSensor 360 = .ok (.return_, 1) := by decide +kernel
def F_X12_makeSensor (N : Nat) (x0 : Nat) (x1 : Int32) (x2 : Int32) (x3 : Int32) (x4 : Int32) (I : MI) (L : ML) (R : MR) : Option (MI) :=
  if kd x0 = 11 ∧ x0 < NN then
  if x2 = (9 : Int32) then
    bn2 (F_X12_draw x0 I L R) fun v3 I4 =>
    bn1 (F_X12_mod v3 (7 : Int32) I4 L R) fun v6 =>
    bn1 (F_X12_set x0 x1 (29 : Int32) v6 I4 L R) fun I8 =>
    bn2 (F_X12_answer N x0 x1 (4 : Int32) I8 L R) fun v10 I11 =>
    bn1 (F_X12_set x0 x1 (30 : Int32) v10 I11 L R) fun I13 =>
    bn1 (F_X12_set x0 x1 (31 : Int32) x3 I13 L R) fun I15 =>
    bn1 (F_X12_set x0 x1 (32 : Int32) (0 : Int32) I15 L R) fun I17 =>
    bn1 (F_X12_get x0 x1 (30 : Int32) I17 L R) fun v19 =>
    bn1 (F_X12_noted x0 x1 x2 v19 I17 L R) fun I21 =>
    some (I21)
  else
    if x2 = (10 : Int32) then
      bn1 (F_X12_get x0 x1 (29 : Int32) I L R) fun v24 =>
      bn1 (F_X12_set x0 x1 (33 : Int32) (v24 - (3 : Int32)) I L R) fun I26 =>
      bn1 (F_X12_set x0 x1 (34 : Int32) (1 : Int32) I26 L R) fun I28 =>
      bn1 (F_X12_set x0 x1 (35 : Int32) x4 I28 L R) fun I30 =>
      bn2 (F_X12_answer N x0 x1 (4 : Int32) I30 L R) fun v32 I33 =>
      bn1 (F_X12_set x0 x1 (30 : Int32) v32 I33 L R) fun I35 =>
      bn1 (F_X12_get x0 x1 (33 : Int32) I35 L R) fun v37 =>
      bn1 (F_X12_noted x0 x1 x2 v37 I35 L R) fun I39 =>
      some (I39)
    else
      if x2 = (11 : Int32) then
        bn1 (F_X12_get x0 x1 (33 : Int32) I L R) fun v42 =>
        bn1 (F_X12_set x0 x1 (33 : Int32) (v42 / (2 : Int32)) I L R) fun I44 =>
        bn2 (F_X12_draw x0 I44 L R) fun v46 I47 =>
        bn1 (F_X12_mod v46 (4 : Int32) I47 L R) fun v49 =>
        bn1 (F_X12_set x0 x1 (36 : Int32) (v49 + (1 : Int32)) I47 L R) fun I51 =>
        bn1 (F_X12_set x0 x1 (34 : Int32) (3 : Int32) I51 L R) fun I53 =>
        bn2 (F_X12_answer N x0 x1 (4 : Int32) I53 L R) fun v55 I56 =>
        bn1 (F_X12_set x0 x1 (30 : Int32) v55 I56 L R) fun I58 =>
        bn1 (F_X12_get x0 x1 (30 : Int32) I58 L R) fun v60 =>
        bn1 (F_X12_noted x0 x1 x2 v60 I58 L R) fun I62 =>
        some (I62)
      else
        if x2 = (12 : Int32) then
          bn1 (F_X12_get x0 x1 (29 : Int32) I L R) fun v65 =>
          bn1 (F_X12_set x0 x1 (37 : Int32) ((600 : Int32) + (v65 * (40 : Int32))) I L R) fun I67 =>
          bn1 (F_X12_get x0 x1 (37 : Int32) I67 L R) fun v69 =>
          bn1 (F_X12_noted x0 x1 x2 v69 I67 L R) fun I71 =>
          some (I71)
        else
          if x2 = (13 : Int32) then
            bn1 (F_X12_get x0 x1 (29 : Int32) I L R) fun v74 =>
            bn1 (F_X12_set x0 x1 (38 : Int32) (v74 - (2 : Int32)) I L R) fun I76 =>
            bn1 (F_X12_set x0 x1 (27 : Int32) x4 I76 L R) fun I78 =>
            bn1 (F_X12_get x0 x1 (38 : Int32) I78 L R) fun v80 =>
            bn1 (F_X12_noted x0 x1 x2 v80 I78 L R) fun I82 =>
            some (I82)
          else
            bn1 (F_X12_get x0 x1 (30 : Int32) I L R) fun v84 =>
            bn2 (F_X12_draw x0 I L R) fun v86 I87 =>
            bn1 (F_X12_mod v86 (3 : Int32) I87 L R) fun v89 =>
            bn1 (F_X12_set x0 x1 (39 : Int32) (v84 + v89) I87 L R) fun I91 =>
            bn1 (F_X12_set x0 x1 (27 : Int32) x4 I91 L R) fun I93 =>
            bn1 (F_X12_set x0 x1 (40 : Int32) (0 : Int32) I93 L R) fun I95 =>
            bn1 (F_X12_get x0 x1 (39 : Int32) I95 L R) fun v97 =>
            bn1 (F_X12_noted x0 x1 x2 v97 I95 L R) fun I99 =>
            some (I99)
  else none
set_option maxRecDepth 100000 in
set_option maxHeartbeats 4000000 in
theorem c_X12_makeSensor (l : Launch) (D : va_G) (cA : Nat → ClassId) (ad : Nat → Nat) (bs : Nat) (X : State → Prop) (hAd : Ax ad bs) (hX : Stb bs X) (N : Nat) (x0 : Nat) (x1 : Int32) (x2 : Int32) (x3 : Int32) (x4 : Int32) (I : MI) (L : ML) (R : MR) (I' : MI) (h : F_X12_makeSensor N x0 x1 x2 x3 x4 I L R = some (I')) : Cn l D cA ad bs X yX12_makeSensor cX12_makeSensor 5 none 3 71 [.ref (ad x0), .int x1, .int x2, .int x3, .int x4] I L R (none, I', L, R) := by
  refine Cn.ofV hAd hX [(0, .ref (ad x0)), (1, .int x1), (2, .int x2), (3, .int x3), (4, .int x4)] rfl (Nat.le_of_ble_eq_true rfl) (by decide) ?_
  intro G el eD ecA ead ebs eX erm eNL C0
  subst el eD ecA ead ebs eX
  unfold F_X12_makeSensor at h
  obtain ⟨c_x0, h⟩ := ite_some h
  refine V_iload_n C0 2 rfl rfl dX12_makeSensor_0 ?_
  have nd1 := nd_0 x2
  by_cases c2 : x2 = (9 : Int32)
  · have h := (if_pos c2).symm.trans h
    refine V_tableC C0 (tgt := 36) (v := (9 : Int32)) c2 (by decide) (by decide) dX12_makeSensor_1 ?_
    refine V_aload_n C0 0 rfl rfl dX12_makeSensor_36 ?_
    refine V_iload_n C0 1 rfl rfl dX12_makeSensor_37 ?_
    refine V_bipush C0 (v := (29 : Int32)) (by decide) dX12_makeSensor_38 ?_
    refine V_aload_n C0 0 rfl rfl dX12_makeSensor_40 ?_
    obtain ⟨v3, I4, q5, h⟩ := bn2_some h
    refine V_callV C0 (st := [.int (29 : Int32), .int x1, .ref (G.ad x0)]) (As := []) 11 (c_X12_draw G.l G.D G.cA G.ad G.bs G.X C0.2.2.2.2.2.2.2.2.2.1 C0.2.2.2.2.2.2.2.2.2.2.2.2 x0 I L R v3 I4 q5) lc_X12_draw lk_X12_242 c_x0.2 c_x0.1 ⟨_, rfl, rfl⟩ rfl (by rw [erm]; decide) (Nat.le_of_ble_eq_true rfl) dX12_makeSensor_41 ?_
    show V G _ 44 [(0, .ref (G.ad x0)), (1, .int x1), (2, .int x2), (3, .int x3), (4, .int x4)] [.int v3, .int (29 : Int32), .int x1, .ref (G.ad x0)] I4 L R
    refine V_bipush C0 (v := (7 : Int32)) (by decide) dX12_makeSensor_44 ?_
    obtain ⟨v6, q7, h⟩ := bn1_some h
    refine V_callS C0 (st := [.int (29 : Int32), .int x1, .ref (G.ad x0)]) (As := [.int v3, .int (7 : Int32)]) (c_X12_mod G.l G.D G.cA G.ad G.bs G.X C0.2.2.2.2.2.2.2.2.2.1 C0.2.2.2.2.2.2.2.2.2.2.2.2 v3 (7 : Int32) I4 L R v6 q7) lc_X12_mod lk_X12_115 rfl (by rw [erm]; decide) (Nat.le_of_ble_eq_true rfl) dX12_makeSensor_46 ?_
    show V G _ 49 [(0, .ref (G.ad x0)), (1, .int x1), (2, .int x2), (3, .int x3), (4, .int x4)] [.int v6, .int (29 : Int32), .int x1, .ref (G.ad x0)] I4 L R
    obtain ⟨I8, q9, h⟩ := bn1_some h
    refine V_callV C0 (st := []) (As := [.int x1, .int (29 : Int32), .int v6]) 11 (c_X12_set G.l G.D G.cA G.ad G.bs G.X C0.2.2.2.2.2.2.2.2.2.1 C0.2.2.2.2.2.2.2.2.2.2.2.2 x0 x1 (29 : Int32) v6 I4 L R I8 q9) lc_X12_set lk_X12_246 c_x0.2 c_x0.1 ⟨_, rfl, rfl⟩ rfl (by rw [erm]; decide) (Nat.le_of_ble_eq_true rfl) dX12_makeSensor_49 ?_
    show V G _ 52 [(0, .ref (G.ad x0)), (1, .int x1), (2, .int x2), (3, .int x3), (4, .int x4)] [] I8 L R
    refine V_aload_n C0 0 rfl rfl dX12_makeSensor_52 ?_
    refine V_iload_n C0 1 rfl rfl dX12_makeSensor_53 ?_
    refine V_bipush C0 (v := (30 : Int32)) (by decide) dX12_makeSensor_54 ?_
    refine V_aload_n C0 0 rfl rfl dX12_makeSensor_56 ?_
    refine V_iload_n C0 1 rfl rfl dX12_makeSensor_57 ?_
    refine V_iconst C0 (v := (4 : Int32)) (by decide) dX12_makeSensor_58 ?_
    obtain ⟨v10, I11, q12, h⟩ := bn2_some h
    refine V_callV C0 (st := [.int (30 : Int32), .int x1, .ref (G.ad x0)]) (As := [.int x1, .int (4 : Int32)]) 11 (c_X12_answer G.l G.D G.cA G.ad G.bs G.X C0.2.2.2.2.2.2.2.2.2.1 C0.2.2.2.2.2.2.2.2.2.2.2.2 N x0 x1 (4 : Int32) I8 L R v10 I11 q12) lc_X12_answer lk_X12_250 c_x0.2 c_x0.1 ⟨_, rfl, rfl⟩ rfl (by rw [erm]; decide) (Nat.le_of_ble_eq_true rfl) dX12_makeSensor_59 ?_
    show V G _ 62 [(0, .ref (G.ad x0)), (1, .int x1), (2, .int x2), (3, .int x3), (4, .int x4)] [.int v10, .int (30 : Int32), .int x1, .ref (G.ad x0)] I11 L R
    obtain ⟨I13, q14, h⟩ := bn1_some h
    refine V_callV C0 (st := []) (As := [.int x1, .int (30 : Int32), .int v10]) 11 (c_X12_set G.l G.D G.cA G.ad G.bs G.X C0.2.2.2.2.2.2.2.2.2.1 C0.2.2.2.2.2.2.2.2.2.2.2.2 x0 x1 (30 : Int32) v10 I11 L R I13 q14) lc_X12_set lk_X12_246 c_x0.2 c_x0.1 ⟨_, rfl, rfl⟩ rfl (by rw [erm]; decide) (Nat.le_of_ble_eq_true rfl) dX12_makeSensor_62 ?_
    show V G _ 65 [(0, .ref (G.ad x0)), (1, .int x1), (2, .int x2), (3, .int x3), (4, .int x4)] [] I13 L R
    refine V_aload_n C0 0 rfl rfl dX12_makeSensor_65 ?_
    refine V_iload_n C0 1 rfl rfl dX12_makeSensor_66 ?_
    refine V_bipush C0 (v := (31 : Int32)) (by decide) dX12_makeSensor_67 ?_
    refine V_iload_n C0 3 rfl rfl dX12_makeSensor_69 ?_
    obtain ⟨I15, q16, h⟩ := bn1_some h
    refine V_callV C0 (st := []) (As := [.int x1, .int (31 : Int32), .int x3]) 11 (c_X12_set G.l G.D G.cA G.ad G.bs G.X C0.2.2.2.2.2.2.2.2.2.1 C0.2.2.2.2.2.2.2.2.2.2.2.2 x0 x1 (31 : Int32) x3 I13 L R I15 q16) lc_X12_set lk_X12_246 c_x0.2 c_x0.1 ⟨_, rfl, rfl⟩ rfl (by rw [erm]; decide) (Nat.le_of_ble_eq_true rfl) dX12_makeSensor_70 ?_
    show V G _ 73 [(0, .ref (G.ad x0)), (1, .int x1), (2, .int x2), (3, .int x3), (4, .int x4)] [] I15 L R
    refine V_aload_n C0 0 rfl rfl dX12_makeSensor_73 ?_
    refine V_iload_n C0 1 rfl rfl dX12_makeSensor_74 ?_
    refine V_bipush C0 (v := (32 : Int32)) (by decide) dX12_makeSensor_75 ?_
    refine V_iconst C0 (v := (0 : Int32)) (by decide) dX12_makeSensor_77 ?_
    obtain ⟨I17, q18, h⟩ := bn1_some h
    refine V_callV C0 (st := []) (As := [.int x1, .int (32 : Int32), .int (0 : Int32)]) 11 (c_X12_set G.l G.D G.cA G.ad G.bs G.X C0.2.2.2.2.2.2.2.2.2.1 C0.2.2.2.2.2.2.2.2.2.2.2.2 x0 x1 (32 : Int32) (0 : Int32) I15 L R I17 q18) lc_X12_set lk_X12_246 c_x0.2 c_x0.1 ⟨_, rfl, rfl⟩ rfl (by rw [erm]; decide) (Nat.le_of_ble_eq_true rfl) dX12_makeSensor_78 ?_
    show V G _ 81 [(0, .ref (G.ad x0)), (1, .int x1), (2, .int x2), (3, .int x3), (4, .int x4)] [] I17 L R
    refine V_aload_n C0 0 rfl rfl dX12_makeSensor_81 ?_
    refine V_iload_n C0 1 rfl rfl dX12_makeSensor_82 ?_
    refine V_iload_n C0 2 rfl rfl dX12_makeSensor_83 ?_
    refine V_aload_n C0 0 rfl rfl dX12_makeSensor_84 ?_
    refine V_iload_n C0 1 rfl rfl dX12_makeSensor_85 ?_
    refine V_bipush C0 (v := (30 : Int32)) (by decide) dX12_makeSensor_86 ?_
    obtain ⟨v19, q20, h⟩ := bn1_some h
    refine V_callV C0 (st := [.int x2, .int x1, .ref (G.ad x0)]) (As := [.int x1, .int (30 : Int32)]) 11 (c_X12_get G.l G.D G.cA G.ad G.bs G.X C0.2.2.2.2.2.2.2.2.2.1 C0.2.2.2.2.2.2.2.2.2.2.2.2 x0 x1 (30 : Int32) I17 L R v19 q20) lc_X12_get lk_X12_211 c_x0.2 c_x0.1 ⟨_, rfl, rfl⟩ rfl (by rw [erm]; decide) (Nat.le_of_ble_eq_true rfl) dX12_makeSensor_88 ?_
    show V G _ 91 [(0, .ref (G.ad x0)), (1, .int x1), (2, .int x2), (3, .int x3), (4, .int x4)] [.int v19, .int x2, .int x1, .ref (G.ad x0)] I17 L R
    obtain ⟨I21, q22, h⟩ := bn1_some h
    refine V_callV C0 (st := []) (As := [.int x1, .int x2, .int v19]) 11 (c_X12_noted G.l G.D G.cA G.ad G.bs G.X C0.2.2.2.2.2.2.2.2.2.1 C0.2.2.2.2.2.2.2.2.2.2.2.2 x0 x1 x2 v19 I17 L R I21 q22) lc_X12_noted lk_X12_253 c_x0.2 c_x0.1 ⟨_, rfl, rfl⟩ rfl (by rw [erm]; decide) (Nat.le_of_ble_eq_true rfl) dX12_makeSensor_91 ?_
    show V G _ 94 [(0, .ref (G.ad x0)), (1, .int x1), (2, .int x2), (3, .int x3), (4, .int x4)] [] I21 L R
    refine V_goto C0 (tgt := 360) (by decide) dX12_makeSensor_94 ?_
    cases h
    exact V_vret C0 dX12_makeSensor_360
  · have h := (if_neg c2).symm.trans h
    have nd1 := nd_add nd1 c2
    by_cases c23 : x2 = (10 : Int32)
    · have h := (if_pos c23).symm.trans h
      refine V_tableC C0 (tgt := 97) (v := (10 : Int32)) c23 (by decide) (by decide) dX12_makeSensor_1 ?_
      refine V_aload_n C0 0 rfl rfl dX12_makeSensor_97 ?_
      refine V_iload_n C0 1 rfl rfl dX12_makeSensor_98 ?_
      refine V_bipush C0 (v := (33 : Int32)) (by decide) dX12_makeSensor_99 ?_
      refine V_aload_n C0 0 rfl rfl dX12_makeSensor_101 ?_
      refine V_iload_n C0 1 rfl rfl dX12_makeSensor_102 ?_
      refine V_bipush C0 (v := (29 : Int32)) (by decide) dX12_makeSensor_103 ?_
      obtain ⟨v24, q25, h⟩ := bn1_some h
      refine V_callV C0 (st := [.int (33 : Int32), .int x1, .ref (G.ad x0)]) (As := [.int x1, .int (29 : Int32)]) 11 (c_X12_get G.l G.D G.cA G.ad G.bs G.X C0.2.2.2.2.2.2.2.2.2.1 C0.2.2.2.2.2.2.2.2.2.2.2.2 x0 x1 (29 : Int32) I L R v24 q25) lc_X12_get lk_X12_211 c_x0.2 c_x0.1 ⟨_, rfl, rfl⟩ rfl (by rw [erm]; decide) (Nat.le_of_ble_eq_true rfl) dX12_makeSensor_105 ?_
      show V G _ 108 [(0, .ref (G.ad x0)), (1, .int x1), (2, .int x2), (3, .int x3), (4, .int x4)] [.int v24, .int (33 : Int32), .int x1, .ref (G.ad x0)] I L R
      refine V_iconst C0 (v := (3 : Int32)) (by decide) dX12_makeSensor_108 ?_
      refine V_isub C0 dX12_makeSensor_109 ?_
      obtain ⟨I26, q27, h⟩ := bn1_some h
      refine V_callV C0 (st := []) (As := [.int x1, .int (33 : Int32), .int (v24 - (3 : Int32))]) 11 (c_X12_set G.l G.D G.cA G.ad G.bs G.X C0.2.2.2.2.2.2.2.2.2.1 C0.2.2.2.2.2.2.2.2.2.2.2.2 x0 x1 (33 : Int32) (v24 - (3 : Int32)) I L R I26 q27) lc_X12_set lk_X12_246 c_x0.2 c_x0.1 ⟨_, rfl, rfl⟩ rfl (by rw [erm]; decide) (Nat.le_of_ble_eq_true rfl) dX12_makeSensor_110 ?_
      show V G _ 113 [(0, .ref (G.ad x0)), (1, .int x1), (2, .int x2), (3, .int x3), (4, .int x4)] [] I26 L R
      refine V_aload_n C0 0 rfl rfl dX12_makeSensor_113 ?_
      refine V_iload_n C0 1 rfl rfl dX12_makeSensor_114 ?_
      refine V_bipush C0 (v := (34 : Int32)) (by decide) dX12_makeSensor_115 ?_
      refine V_iconst C0 (v := (1 : Int32)) (by decide) dX12_makeSensor_117 ?_
      obtain ⟨I28, q29, h⟩ := bn1_some h
      refine V_callV C0 (st := []) (As := [.int x1, .int (34 : Int32), .int (1 : Int32)]) 11 (c_X12_set G.l G.D G.cA G.ad G.bs G.X C0.2.2.2.2.2.2.2.2.2.1 C0.2.2.2.2.2.2.2.2.2.2.2.2 x0 x1 (34 : Int32) (1 : Int32) I26 L R I28 q29) lc_X12_set lk_X12_246 c_x0.2 c_x0.1 ⟨_, rfl, rfl⟩ rfl (by rw [erm]; decide) (Nat.le_of_ble_eq_true rfl) dX12_makeSensor_118 ?_
      show V G _ 121 [(0, .ref (G.ad x0)), (1, .int x1), (2, .int x2), (3, .int x3), (4, .int x4)] [] I28 L R
      refine V_aload_n C0 0 rfl rfl dX12_makeSensor_121 ?_
      refine V_iload_n C0 1 rfl rfl dX12_makeSensor_122 ?_
      refine V_bipush C0 (v := (35 : Int32)) (by decide) dX12_makeSensor_123 ?_
      refine V_iload C0 4 rfl dX12_makeSensor_125 ?_
      obtain ⟨I30, q31, h⟩ := bn1_some h
      refine V_callV C0 (st := []) (As := [.int x1, .int (35 : Int32), .int x4]) 11 (c_X12_set G.l G.D G.cA G.ad G.bs G.X C0.2.2.2.2.2.2.2.2.2.1 C0.2.2.2.2.2.2.2.2.2.2.2.2 x0 x1 (35 : Int32) x4 I28 L R I30 q31) lc_X12_set lk_X12_246 c_x0.2 c_x0.1 ⟨_, rfl, rfl⟩ rfl (by rw [erm]; decide) (Nat.le_of_ble_eq_true rfl) dX12_makeSensor_127 ?_
      show V G _ 130 [(0, .ref (G.ad x0)), (1, .int x1), (2, .int x2), (3, .int x3), (4, .int x4)] [] I30 L R
      refine V_aload_n C0 0 rfl rfl dX12_makeSensor_130 ?_
      refine V_iload_n C0 1 rfl rfl dX12_makeSensor_131 ?_
      refine V_bipush C0 (v := (30 : Int32)) (by decide) dX12_makeSensor_132 ?_
      refine V_aload_n C0 0 rfl rfl dX12_makeSensor_134 ?_
      refine V_iload_n C0 1 rfl rfl dX12_makeSensor_135 ?_
      refine V_iconst C0 (v := (4 : Int32)) (by decide) dX12_makeSensor_136 ?_
      obtain ⟨v32, I33, q34, h⟩ := bn2_some h
      refine V_callV C0 (st := [.int (30 : Int32), .int x1, .ref (G.ad x0)]) (As := [.int x1, .int (4 : Int32)]) 11 (c_X12_answer G.l G.D G.cA G.ad G.bs G.X C0.2.2.2.2.2.2.2.2.2.1 C0.2.2.2.2.2.2.2.2.2.2.2.2 N x0 x1 (4 : Int32) I30 L R v32 I33 q34) lc_X12_answer lk_X12_250 c_x0.2 c_x0.1 ⟨_, rfl, rfl⟩ rfl (by rw [erm]; decide) (Nat.le_of_ble_eq_true rfl) dX12_makeSensor_137 ?_
      show V G _ 140 [(0, .ref (G.ad x0)), (1, .int x1), (2, .int x2), (3, .int x3), (4, .int x4)] [.int v32, .int (30 : Int32), .int x1, .ref (G.ad x0)] I33 L R
      obtain ⟨I35, q36, h⟩ := bn1_some h
      refine V_callV C0 (st := []) (As := [.int x1, .int (30 : Int32), .int v32]) 11 (c_X12_set G.l G.D G.cA G.ad G.bs G.X C0.2.2.2.2.2.2.2.2.2.1 C0.2.2.2.2.2.2.2.2.2.2.2.2 x0 x1 (30 : Int32) v32 I33 L R I35 q36) lc_X12_set lk_X12_246 c_x0.2 c_x0.1 ⟨_, rfl, rfl⟩ rfl (by rw [erm]; decide) (Nat.le_of_ble_eq_true rfl) dX12_makeSensor_140 ?_
      show V G _ 143 [(0, .ref (G.ad x0)), (1, .int x1), (2, .int x2), (3, .int x3), (4, .int x4)] [] I35 L R
      refine V_aload_n C0 0 rfl rfl dX12_makeSensor_143 ?_
      refine V_iload_n C0 1 rfl rfl dX12_makeSensor_144 ?_
      refine V_iload_n C0 2 rfl rfl dX12_makeSensor_145 ?_
      refine V_aload_n C0 0 rfl rfl dX12_makeSensor_146 ?_
      refine V_iload_n C0 1 rfl rfl dX12_makeSensor_147 ?_
      refine V_bipush C0 (v := (33 : Int32)) (by decide) dX12_makeSensor_148 ?_
      obtain ⟨v37, q38, h⟩ := bn1_some h
      refine V_callV C0 (st := [.int x2, .int x1, .ref (G.ad x0)]) (As := [.int x1, .int (33 : Int32)]) 11 (c_X12_get G.l G.D G.cA G.ad G.bs G.X C0.2.2.2.2.2.2.2.2.2.1 C0.2.2.2.2.2.2.2.2.2.2.2.2 x0 x1 (33 : Int32) I35 L R v37 q38) lc_X12_get lk_X12_211 c_x0.2 c_x0.1 ⟨_, rfl, rfl⟩ rfl (by rw [erm]; decide) (Nat.le_of_ble_eq_true rfl) dX12_makeSensor_150 ?_
      show V G _ 153 [(0, .ref (G.ad x0)), (1, .int x1), (2, .int x2), (3, .int x3), (4, .int x4)] [.int v37, .int x2, .int x1, .ref (G.ad x0)] I35 L R
      obtain ⟨I39, q40, h⟩ := bn1_some h
      refine V_callV C0 (st := []) (As := [.int x1, .int x2, .int v37]) 11 (c_X12_noted G.l G.D G.cA G.ad G.bs G.X C0.2.2.2.2.2.2.2.2.2.1 C0.2.2.2.2.2.2.2.2.2.2.2.2 x0 x1 x2 v37 I35 L R I39 q40) lc_X12_noted lk_X12_253 c_x0.2 c_x0.1 ⟨_, rfl, rfl⟩ rfl (by rw [erm]; decide) (Nat.le_of_ble_eq_true rfl) dX12_makeSensor_153 ?_
      show V G _ 156 [(0, .ref (G.ad x0)), (1, .int x1), (2, .int x2), (3, .int x3), (4, .int x4)] [] I39 L R
      refine V_goto C0 (tgt := 360) (by decide) dX12_makeSensor_156 ?_
      cases h
      exact V_vret C0 dX12_makeSensor_360
    · have h := (if_neg c23).symm.trans h
      have nd1 := nd_add nd1 c23
      by_cases c41 : x2 = (11 : Int32)
      · have h := (if_pos c41).symm.trans h
        refine V_tableC C0 (tgt := 159) (v := (11 : Int32)) c41 (by decide) (by decide) dX12_makeSensor_1 ?_
        refine V_aload_n C0 0 rfl rfl dX12_makeSensor_159 ?_
        refine V_iload_n C0 1 rfl rfl dX12_makeSensor_160 ?_
        refine V_bipush C0 (v := (33 : Int32)) (by decide) dX12_makeSensor_161 ?_
        refine V_aload_n C0 0 rfl rfl dX12_makeSensor_163 ?_
        refine V_iload_n C0 1 rfl rfl dX12_makeSensor_164 ?_
        refine V_bipush C0 (v := (33 : Int32)) (by decide) dX12_makeSensor_165 ?_
        obtain ⟨v42, q43, h⟩ := bn1_some h
        refine V_callV C0 (st := [.int (33 : Int32), .int x1, .ref (G.ad x0)]) (As := [.int x1, .int (33 : Int32)]) 11 (c_X12_get G.l G.D G.cA G.ad G.bs G.X C0.2.2.2.2.2.2.2.2.2.1 C0.2.2.2.2.2.2.2.2.2.2.2.2 x0 x1 (33 : Int32) I L R v42 q43) lc_X12_get lk_X12_211 c_x0.2 c_x0.1 ⟨_, rfl, rfl⟩ rfl (by rw [erm]; decide) (Nat.le_of_ble_eq_true rfl) dX12_makeSensor_167 ?_
        show V G _ 170 [(0, .ref (G.ad x0)), (1, .int x1), (2, .int x2), (3, .int x3), (4, .int x4)] [.int v42, .int (33 : Int32), .int x1, .ref (G.ad x0)] I L R
        refine V_iconst C0 (v := (2 : Int32)) (by decide) dX12_makeSensor_170 ?_
        refine V_idiv C0 (by decide) dX12_makeSensor_171 ?_
        obtain ⟨I44, q45, h⟩ := bn1_some h
        refine V_callV C0 (st := []) (As := [.int x1, .int (33 : Int32), .int (v42 / (2 : Int32))]) 11 (c_X12_set G.l G.D G.cA G.ad G.bs G.X C0.2.2.2.2.2.2.2.2.2.1 C0.2.2.2.2.2.2.2.2.2.2.2.2 x0 x1 (33 : Int32) (v42 / (2 : Int32)) I L R I44 q45) lc_X12_set lk_X12_246 c_x0.2 c_x0.1 ⟨_, rfl, rfl⟩ rfl (by rw [erm]; decide) (Nat.le_of_ble_eq_true rfl) dX12_makeSensor_172 ?_
        show V G _ 175 [(0, .ref (G.ad x0)), (1, .int x1), (2, .int x2), (3, .int x3), (4, .int x4)] [] I44 L R
        refine V_aload_n C0 0 rfl rfl dX12_makeSensor_175 ?_
        refine V_iload_n C0 1 rfl rfl dX12_makeSensor_176 ?_
        refine V_bipush C0 (v := (36 : Int32)) (by decide) dX12_makeSensor_177 ?_
        refine V_aload_n C0 0 rfl rfl dX12_makeSensor_179 ?_
        obtain ⟨v46, I47, q48, h⟩ := bn2_some h
        refine V_callV C0 (st := [.int (36 : Int32), .int x1, .ref (G.ad x0)]) (As := []) 11 (c_X12_draw G.l G.D G.cA G.ad G.bs G.X C0.2.2.2.2.2.2.2.2.2.1 C0.2.2.2.2.2.2.2.2.2.2.2.2 x0 I44 L R v46 I47 q48) lc_X12_draw lk_X12_242 c_x0.2 c_x0.1 ⟨_, rfl, rfl⟩ rfl (by rw [erm]; decide) (Nat.le_of_ble_eq_true rfl) dX12_makeSensor_180 ?_
        show V G _ 183 [(0, .ref (G.ad x0)), (1, .int x1), (2, .int x2), (3, .int x3), (4, .int x4)] [.int v46, .int (36 : Int32), .int x1, .ref (G.ad x0)] I47 L R
        refine V_iconst C0 (v := (4 : Int32)) (by decide) dX12_makeSensor_183 ?_
        obtain ⟨v49, q50, h⟩ := bn1_some h
        refine V_callS C0 (st := [.int (36 : Int32), .int x1, .ref (G.ad x0)]) (As := [.int v46, .int (4 : Int32)]) (c_X12_mod G.l G.D G.cA G.ad G.bs G.X C0.2.2.2.2.2.2.2.2.2.1 C0.2.2.2.2.2.2.2.2.2.2.2.2 v46 (4 : Int32) I47 L R v49 q50) lc_X12_mod lk_X12_115 rfl (by rw [erm]; decide) (Nat.le_of_ble_eq_true rfl) dX12_makeSensor_184 ?_
        show V G _ 187 [(0, .ref (G.ad x0)), (1, .int x1), (2, .int x2), (3, .int x3), (4, .int x4)] [.int v49, .int (36 : Int32), .int x1, .ref (G.ad x0)] I47 L R
        refine V_iconst C0 (v := (1 : Int32)) (by decide) dX12_makeSensor_187 ?_
        refine V_iadd C0 dX12_makeSensor_188 ?_
        obtain ⟨I51, q52, h⟩ := bn1_some h
        refine V_callV C0 (st := []) (As := [.int x1, .int (36 : Int32), .int (v49 + (1 : Int32))]) 11 (c_X12_set G.l G.D G.cA G.ad G.bs G.X C0.2.2.2.2.2.2.2.2.2.1 C0.2.2.2.2.2.2.2.2.2.2.2.2 x0 x1 (36 : Int32) (v49 + (1 : Int32)) I47 L R I51 q52) lc_X12_set lk_X12_246 c_x0.2 c_x0.1 ⟨_, rfl, rfl⟩ rfl (by rw [erm]; decide) (Nat.le_of_ble_eq_true rfl) dX12_makeSensor_189 ?_
        show V G _ 192 [(0, .ref (G.ad x0)), (1, .int x1), (2, .int x2), (3, .int x3), (4, .int x4)] [] I51 L R
        refine V_aload_n C0 0 rfl rfl dX12_makeSensor_192 ?_
        refine V_iload_n C0 1 rfl rfl dX12_makeSensor_193 ?_
        refine V_bipush C0 (v := (34 : Int32)) (by decide) dX12_makeSensor_194 ?_
        refine V_iconst C0 (v := (3 : Int32)) (by decide) dX12_makeSensor_196 ?_
        obtain ⟨I53, q54, h⟩ := bn1_some h
        refine V_callV C0 (st := []) (As := [.int x1, .int (34 : Int32), .int (3 : Int32)]) 11 (c_X12_set G.l G.D G.cA G.ad G.bs G.X C0.2.2.2.2.2.2.2.2.2.1 C0.2.2.2.2.2.2.2.2.2.2.2.2 x0 x1 (34 : Int32) (3 : Int32) I51 L R I53 q54) lc_X12_set lk_X12_246 c_x0.2 c_x0.1 ⟨_, rfl, rfl⟩ rfl (by rw [erm]; decide) (Nat.le_of_ble_eq_true rfl) dX12_makeSensor_197 ?_
        show V G _ 200 [(0, .ref (G.ad x0)), (1, .int x1), (2, .int x2), (3, .int x3), (4, .int x4)] [] I53 L R
        refine V_aload_n C0 0 rfl rfl dX12_makeSensor_200 ?_
        refine V_iload_n C0 1 rfl rfl dX12_makeSensor_201 ?_
        refine V_bipush C0 (v := (30 : Int32)) (by decide) dX12_makeSensor_202 ?_
        refine V_aload_n C0 0 rfl rfl dX12_makeSensor_204 ?_
        refine V_iload_n C0 1 rfl rfl dX12_makeSensor_205 ?_
        refine V_iconst C0 (v := (4 : Int32)) (by decide) dX12_makeSensor_206 ?_
        obtain ⟨v55, I56, q57, h⟩ := bn2_some h
        refine V_callV C0 (st := [.int (30 : Int32), .int x1, .ref (G.ad x0)]) (As := [.int x1, .int (4 : Int32)]) 11 (c_X12_answer G.l G.D G.cA G.ad G.bs G.X C0.2.2.2.2.2.2.2.2.2.1 C0.2.2.2.2.2.2.2.2.2.2.2.2 N x0 x1 (4 : Int32) I53 L R v55 I56 q57) lc_X12_answer lk_X12_250 c_x0.2 c_x0.1 ⟨_, rfl, rfl⟩ rfl (by rw [erm]; decide) (Nat.le_of_ble_eq_true rfl) dX12_makeSensor_207 ?_
        show V G _ 210 [(0, .ref (G.ad x0)), (1, .int x1), (2, .int x2), (3, .int x3), (4, .int x4)] [.int v55, .int (30 : Int32), .int x1, .ref (G.ad x0)] I56 L R
        obtain ⟨I58, q59, h⟩ := bn1_some h
        refine V_callV C0 (st := []) (As := [.int x1, .int (30 : Int32), .int v55]) 11 (c_X12_set G.l G.D G.cA G.ad G.bs G.X C0.2.2.2.2.2.2.2.2.2.1 C0.2.2.2.2.2.2.2.2.2.2.2.2 x0 x1 (30 : Int32) v55 I56 L R I58 q59) lc_X12_set lk_X12_246 c_x0.2 c_x0.1 ⟨_, rfl, rfl⟩ rfl (by rw [erm]; decide) (Nat.le_of_ble_eq_true rfl) dX12_makeSensor_210 ?_
        show V G _ 213 [(0, .ref (G.ad x0)), (1, .int x1), (2, .int x2), (3, .int x3), (4, .int x4)] [] I58 L R
        refine V_aload_n C0 0 rfl rfl dX12_makeSensor_213 ?_
        refine V_iload_n C0 1 rfl rfl dX12_makeSensor_214 ?_
        refine V_iload_n C0 2 rfl rfl dX12_makeSensor_215 ?_
        refine V_aload_n C0 0 rfl rfl dX12_makeSensor_216 ?_
        refine V_iload_n C0 1 rfl rfl dX12_makeSensor_217 ?_
        refine V_bipush C0 (v := (30 : Int32)) (by decide) dX12_makeSensor_218 ?_
        obtain ⟨v60, q61, h⟩ := bn1_some h
        refine V_callV C0 (st := [.int x2, .int x1, .ref (G.ad x0)]) (As := [.int x1, .int (30 : Int32)]) 11 (c_X12_get G.l G.D G.cA G.ad G.bs G.X C0.2.2.2.2.2.2.2.2.2.1 C0.2.2.2.2.2.2.2.2.2.2.2.2 x0 x1 (30 : Int32) I58 L R v60 q61) lc_X12_get lk_X12_211 c_x0.2 c_x0.1 ⟨_, rfl, rfl⟩ rfl (by rw [erm]; decide) (Nat.le_of_ble_eq_true rfl) dX12_makeSensor_220 ?_
        show V G _ 223 [(0, .ref (G.ad x0)), (1, .int x1), (2, .int x2), (3, .int x3), (4, .int x4)] [.int v60, .int x2, .int x1, .ref (G.ad x0)] I58 L R
        obtain ⟨I62, q63, h⟩ := bn1_some h
        refine V_callV C0 (st := []) (As := [.int x1, .int x2, .int v60]) 11 (c_X12_noted G.l G.D G.cA G.ad G.bs G.X C0.2.2.2.2.2.2.2.2.2.1 C0.2.2.2.2.2.2.2.2.2.2.2.2 x0 x1 x2 v60 I58 L R I62 q63) lc_X12_noted lk_X12_253 c_x0.2 c_x0.1 ⟨_, rfl, rfl⟩ rfl (by rw [erm]; decide) (Nat.le_of_ble_eq_true rfl) dX12_makeSensor_223 ?_
        show V G _ 226 [(0, .ref (G.ad x0)), (1, .int x1), (2, .int x2), (3, .int x3), (4, .int x4)] [] I62 L R
        refine V_goto C0 (tgt := 360) (by decide) dX12_makeSensor_226 ?_
        cases h
        exact V_vret C0 dX12_makeSensor_360
      · have h := (if_neg c41).symm.trans h
        have nd1 := nd_add nd1 c41
        by_cases c64 : x2 = (12 : Int32)
        · have h := (if_pos c64).symm.trans h
          refine V_tableC C0 (tgt := 229) (v := (12 : Int32)) c64 (by decide) (by decide) dX12_makeSensor_1 ?_
          refine V_aload_n C0 0 rfl rfl dX12_makeSensor_229 ?_
          refine V_iload_n C0 1 rfl rfl dX12_makeSensor_230 ?_
          refine V_bipush C0 (v := (37 : Int32)) (by decide) dX12_makeSensor_231 ?_
          refine V_sipush C0 (v := (600 : Int32)) (by decide) dX12_makeSensor_233 ?_
          refine V_aload_n C0 0 rfl rfl dX12_makeSensor_236 ?_
          refine V_iload_n C0 1 rfl rfl dX12_makeSensor_237 ?_
          refine V_bipush C0 (v := (29 : Int32)) (by decide) dX12_makeSensor_238 ?_
          obtain ⟨v65, q66, h⟩ := bn1_some h
          refine V_callV C0 (st := [.int (600 : Int32), .int (37 : Int32), .int x1, .ref (G.ad x0)]) (As := [.int x1, .int (29 : Int32)]) 11 (c_X12_get G.l G.D G.cA G.ad G.bs G.X C0.2.2.2.2.2.2.2.2.2.1 C0.2.2.2.2.2.2.2.2.2.2.2.2 x0 x1 (29 : Int32) I L R v65 q66) lc_X12_get lk_X12_211 c_x0.2 c_x0.1 ⟨_, rfl, rfl⟩ rfl (by rw [erm]; decide) (Nat.le_of_ble_eq_true rfl) dX12_makeSensor_240 ?_
          show V G _ 243 [(0, .ref (G.ad x0)), (1, .int x1), (2, .int x2), (3, .int x3), (4, .int x4)] [.int v65, .int (600 : Int32), .int (37 : Int32), .int x1, .ref (G.ad x0)] I L R
          refine V_bipush C0 (v := (40 : Int32)) (by decide) dX12_makeSensor_243 ?_
          refine V_imul C0 dX12_makeSensor_245 ?_
          refine V_iadd C0 dX12_makeSensor_246 ?_
          obtain ⟨I67, q68, h⟩ := bn1_some h
          refine V_callV C0 (st := []) (As := [.int x1, .int (37 : Int32), .int ((600 : Int32) + (v65 * (40 : Int32)))]) 11 (c_X12_set G.l G.D G.cA G.ad G.bs G.X C0.2.2.2.2.2.2.2.2.2.1 C0.2.2.2.2.2.2.2.2.2.2.2.2 x0 x1 (37 : Int32) ((600 : Int32) + (v65 * (40 : Int32))) I L R I67 q68) lc_X12_set lk_X12_246 c_x0.2 c_x0.1 ⟨_, rfl, rfl⟩ rfl (by rw [erm]; decide) (Nat.le_of_ble_eq_true rfl) dX12_makeSensor_247 ?_
          show V G _ 250 [(0, .ref (G.ad x0)), (1, .int x1), (2, .int x2), (3, .int x3), (4, .int x4)] [] I67 L R
          refine V_aload_n C0 0 rfl rfl dX12_makeSensor_250 ?_
          refine V_iload_n C0 1 rfl rfl dX12_makeSensor_251 ?_
          refine V_iload_n C0 2 rfl rfl dX12_makeSensor_252 ?_
          refine V_aload_n C0 0 rfl rfl dX12_makeSensor_253 ?_
          refine V_iload_n C0 1 rfl rfl dX12_makeSensor_254 ?_
          refine V_bipush C0 (v := (37 : Int32)) (by decide) dX12_makeSensor_255 ?_
          obtain ⟨v69, q70, h⟩ := bn1_some h
          refine V_callV C0 (st := [.int x2, .int x1, .ref (G.ad x0)]) (As := [.int x1, .int (37 : Int32)]) 11 (c_X12_get G.l G.D G.cA G.ad G.bs G.X C0.2.2.2.2.2.2.2.2.2.1 C0.2.2.2.2.2.2.2.2.2.2.2.2 x0 x1 (37 : Int32) I67 L R v69 q70) lc_X12_get lk_X12_211 c_x0.2 c_x0.1 ⟨_, rfl, rfl⟩ rfl (by rw [erm]; decide) (Nat.le_of_ble_eq_true rfl) dX12_makeSensor_257 ?_
          show V G _ 260 [(0, .ref (G.ad x0)), (1, .int x1), (2, .int x2), (3, .int x3), (4, .int x4)] [.int v69, .int x2, .int x1, .ref (G.ad x0)] I67 L R
          obtain ⟨I71, q72, h⟩ := bn1_some h
          refine V_callV C0 (st := []) (As := [.int x1, .int x2, .int v69]) 11 (c_X12_noted G.l G.D G.cA G.ad G.bs G.X C0.2.2.2.2.2.2.2.2.2.1 C0.2.2.2.2.2.2.2.2.2.2.2.2 x0 x1 x2 v69 I67 L R I71 q72) lc_X12_noted lk_X12_253 c_x0.2 c_x0.1 ⟨_, rfl, rfl⟩ rfl (by rw [erm]; decide) (Nat.le_of_ble_eq_true rfl) dX12_makeSensor_260 ?_
          show V G _ 263 [(0, .ref (G.ad x0)), (1, .int x1), (2, .int x2), (3, .int x3), (4, .int x4)] [] I71 L R
          refine V_goto C0 (tgt := 360) (by decide) dX12_makeSensor_263 ?_
          cases h
          exact V_vret C0 dX12_makeSensor_360
        · have h := (if_neg c64).symm.trans h
          have nd1 := nd_add nd1 c64
          by_cases c73 : x2 = (13 : Int32)
          · have h := (if_pos c73).symm.trans h
            refine V_tableC C0 (tgt := 266) (v := (13 : Int32)) c73 (by decide) (by decide) dX12_makeSensor_1 ?_
            refine V_aload_n C0 0 rfl rfl dX12_makeSensor_266 ?_
            refine V_iload_n C0 1 rfl rfl dX12_makeSensor_267 ?_
            refine V_bipush C0 (v := (38 : Int32)) (by decide) dX12_makeSensor_268 ?_
            refine V_aload_n C0 0 rfl rfl dX12_makeSensor_270 ?_
            refine V_iload_n C0 1 rfl rfl dX12_makeSensor_271 ?_
            refine V_bipush C0 (v := (29 : Int32)) (by decide) dX12_makeSensor_272 ?_
            obtain ⟨v74, q75, h⟩ := bn1_some h
            refine V_callV C0 (st := [.int (38 : Int32), .int x1, .ref (G.ad x0)]) (As := [.int x1, .int (29 : Int32)]) 11 (c_X12_get G.l G.D G.cA G.ad G.bs G.X C0.2.2.2.2.2.2.2.2.2.1 C0.2.2.2.2.2.2.2.2.2.2.2.2 x0 x1 (29 : Int32) I L R v74 q75) lc_X12_get lk_X12_211 c_x0.2 c_x0.1 ⟨_, rfl, rfl⟩ rfl (by rw [erm]; decide) (Nat.le_of_ble_eq_true rfl) dX12_makeSensor_274 ?_
            show V G _ 277 [(0, .ref (G.ad x0)), (1, .int x1), (2, .int x2), (3, .int x3), (4, .int x4)] [.int v74, .int (38 : Int32), .int x1, .ref (G.ad x0)] I L R
            refine V_iconst C0 (v := (2 : Int32)) (by decide) dX12_makeSensor_277 ?_
            refine V_isub C0 dX12_makeSensor_278 ?_
            obtain ⟨I76, q77, h⟩ := bn1_some h
            refine V_callV C0 (st := []) (As := [.int x1, .int (38 : Int32), .int (v74 - (2 : Int32))]) 11 (c_X12_set G.l G.D G.cA G.ad G.bs G.X C0.2.2.2.2.2.2.2.2.2.1 C0.2.2.2.2.2.2.2.2.2.2.2.2 x0 x1 (38 : Int32) (v74 - (2 : Int32)) I L R I76 q77) lc_X12_set lk_X12_246 c_x0.2 c_x0.1 ⟨_, rfl, rfl⟩ rfl (by rw [erm]; decide) (Nat.le_of_ble_eq_true rfl) dX12_makeSensor_279 ?_
            show V G _ 282 [(0, .ref (G.ad x0)), (1, .int x1), (2, .int x2), (3, .int x3), (4, .int x4)] [] I76 L R
            refine V_aload_n C0 0 rfl rfl dX12_makeSensor_282 ?_
            refine V_iload_n C0 1 rfl rfl dX12_makeSensor_283 ?_
            refine V_bipush C0 (v := (27 : Int32)) (by decide) dX12_makeSensor_284 ?_
            refine V_iload C0 4 rfl dX12_makeSensor_286 ?_
            obtain ⟨I78, q79, h⟩ := bn1_some h
            refine V_callV C0 (st := []) (As := [.int x1, .int (27 : Int32), .int x4]) 11 (c_X12_set G.l G.D G.cA G.ad G.bs G.X C0.2.2.2.2.2.2.2.2.2.1 C0.2.2.2.2.2.2.2.2.2.2.2.2 x0 x1 (27 : Int32) x4 I76 L R I78 q79) lc_X12_set lk_X12_246 c_x0.2 c_x0.1 ⟨_, rfl, rfl⟩ rfl (by rw [erm]; decide) (Nat.le_of_ble_eq_true rfl) dX12_makeSensor_288 ?_
            show V G _ 291 [(0, .ref (G.ad x0)), (1, .int x1), (2, .int x2), (3, .int x3), (4, .int x4)] [] I78 L R
            refine V_aload_n C0 0 rfl rfl dX12_makeSensor_291 ?_
            refine V_iload_n C0 1 rfl rfl dX12_makeSensor_292 ?_
            refine V_iload_n C0 2 rfl rfl dX12_makeSensor_293 ?_
            refine V_aload_n C0 0 rfl rfl dX12_makeSensor_294 ?_
            refine V_iload_n C0 1 rfl rfl dX12_makeSensor_295 ?_
            refine V_bipush C0 (v := (38 : Int32)) (by decide) dX12_makeSensor_296 ?_
            obtain ⟨v80, q81, h⟩ := bn1_some h
            refine V_callV C0 (st := [.int x2, .int x1, .ref (G.ad x0)]) (As := [.int x1, .int (38 : Int32)]) 11 (c_X12_get G.l G.D G.cA G.ad G.bs G.X C0.2.2.2.2.2.2.2.2.2.1 C0.2.2.2.2.2.2.2.2.2.2.2.2 x0 x1 (38 : Int32) I78 L R v80 q81) lc_X12_get lk_X12_211 c_x0.2 c_x0.1 ⟨_, rfl, rfl⟩ rfl (by rw [erm]; decide) (Nat.le_of_ble_eq_true rfl) dX12_makeSensor_298 ?_
            show V G _ 301 [(0, .ref (G.ad x0)), (1, .int x1), (2, .int x2), (3, .int x3), (4, .int x4)] [.int v80, .int x2, .int x1, .ref (G.ad x0)] I78 L R
            obtain ⟨I82, q83, h⟩ := bn1_some h
            refine V_callV C0 (st := []) (As := [.int x1, .int x2, .int v80]) 11 (c_X12_noted G.l G.D G.cA G.ad G.bs G.X C0.2.2.2.2.2.2.2.2.2.1 C0.2.2.2.2.2.2.2.2.2.2.2.2 x0 x1 x2 v80 I78 L R I82 q83) lc_X12_noted lk_X12_253 c_x0.2 c_x0.1 ⟨_, rfl, rfl⟩ rfl (by rw [erm]; decide) (Nat.le_of_ble_eq_true rfl) dX12_makeSensor_301 ?_
            show V G _ 304 [(0, .ref (G.ad x0)), (1, .int x1), (2, .int x2), (3, .int x3), (4, .int x4)] [] I82 L R
            refine V_goto C0 (tgt := 360) (by decide) dX12_makeSensor_304 ?_
            cases h
            exact V_vret C0 dX12_makeSensor_360
          · have h := (if_neg c73).symm.trans h
            have nd1 := nd_add nd1 c73
            refine V_tableN C0 (tgt := 307) nd1 (by decide) (by decide) dX12_makeSensor_1 ?_
            refine V_aload_n C0 0 rfl rfl dX12_makeSensor_307 ?_
            refine V_iload_n C0 1 rfl rfl dX12_makeSensor_308 ?_
            refine V_bipush C0 (v := (39 : Int32)) (by decide) dX12_makeSensor_309 ?_
            refine V_aload_n C0 0 rfl rfl dX12_makeSensor_311 ?_
            refine V_iload_n C0 1 rfl rfl dX12_makeSensor_312 ?_
            refine V_bipush C0 (v := (30 : Int32)) (by decide) dX12_makeSensor_313 ?_
            obtain ⟨v84, q85, h⟩ := bn1_some h
            refine V_callV C0 (st := [.int (39 : Int32), .int x1, .ref (G.ad x0)]) (As := [.int x1, .int (30 : Int32)]) 11 (c_X12_get G.l G.D G.cA G.ad G.bs G.X C0.2.2.2.2.2.2.2.2.2.1 C0.2.2.2.2.2.2.2.2.2.2.2.2 x0 x1 (30 : Int32) I L R v84 q85) lc_X12_get lk_X12_211 c_x0.2 c_x0.1 ⟨_, rfl, rfl⟩ rfl (by rw [erm]; decide) (Nat.le_of_ble_eq_true rfl) dX12_makeSensor_315 ?_
            show V G _ 318 [(0, .ref (G.ad x0)), (1, .int x1), (2, .int x2), (3, .int x3), (4, .int x4)] [.int v84, .int (39 : Int32), .int x1, .ref (G.ad x0)] I L R
            refine V_aload_n C0 0 rfl rfl dX12_makeSensor_318 ?_
            obtain ⟨v86, I87, q88, h⟩ := bn2_some h
            refine V_callV C0 (st := [.int v84, .int (39 : Int32), .int x1, .ref (G.ad x0)]) (As := []) 11 (c_X12_draw G.l G.D G.cA G.ad G.bs G.X C0.2.2.2.2.2.2.2.2.2.1 C0.2.2.2.2.2.2.2.2.2.2.2.2 x0 I L R v86 I87 q88) lc_X12_draw lk_X12_242 c_x0.2 c_x0.1 ⟨_, rfl, rfl⟩ rfl (by rw [erm]; decide) (Nat.le_of_ble_eq_true rfl) dX12_makeSensor_319 ?_
            show V G _ 322 [(0, .ref (G.ad x0)), (1, .int x1), (2, .int x2), (3, .int x3), (4, .int x4)] [.int v86, .int v84, .int (39 : Int32), .int x1, .ref (G.ad x0)] I87 L R
            refine V_iconst C0 (v := (3 : Int32)) (by decide) dX12_makeSensor_322 ?_
            obtain ⟨v89, q90, h⟩ := bn1_some h
            refine V_callS C0 (st := [.int v84, .int (39 : Int32), .int x1, .ref (G.ad x0)]) (As := [.int v86, .int (3 : Int32)]) (c_X12_mod G.l G.D G.cA G.ad G.bs G.X C0.2.2.2.2.2.2.2.2.2.1 C0.2.2.2.2.2.2.2.2.2.2.2.2 v86 (3 : Int32) I87 L R v89 q90) lc_X12_mod lk_X12_115 rfl (by rw [erm]; decide) (Nat.le_of_ble_eq_true rfl) dX12_makeSensor_323 ?_
            show V G _ 326 [(0, .ref (G.ad x0)), (1, .int x1), (2, .int x2), (3, .int x3), (4, .int x4)] [.int v89, .int v84, .int (39 : Int32), .int x1, .ref (G.ad x0)] I87 L R
            refine V_iadd C0 dX12_makeSensor_326 ?_
            obtain ⟨I91, q92, h⟩ := bn1_some h
            refine V_callV C0 (st := []) (As := [.int x1, .int (39 : Int32), .int (v84 + v89)]) 11 (c_X12_set G.l G.D G.cA G.ad G.bs G.X C0.2.2.2.2.2.2.2.2.2.1 C0.2.2.2.2.2.2.2.2.2.2.2.2 x0 x1 (39 : Int32) (v84 + v89) I87 L R I91 q92) lc_X12_set lk_X12_246 c_x0.2 c_x0.1 ⟨_, rfl, rfl⟩ rfl (by rw [erm]; decide) (Nat.le_of_ble_eq_true rfl) dX12_makeSensor_327 ?_
            show V G _ 330 [(0, .ref (G.ad x0)), (1, .int x1), (2, .int x2), (3, .int x3), (4, .int x4)] [] I91 L R
            refine V_aload_n C0 0 rfl rfl dX12_makeSensor_330 ?_
            refine V_iload_n C0 1 rfl rfl dX12_makeSensor_331 ?_
            refine V_bipush C0 (v := (27 : Int32)) (by decide) dX12_makeSensor_332 ?_
            refine V_iload C0 4 rfl dX12_makeSensor_334 ?_
            obtain ⟨I93, q94, h⟩ := bn1_some h
            refine V_callV C0 (st := []) (As := [.int x1, .int (27 : Int32), .int x4]) 11 (c_X12_set G.l G.D G.cA G.ad G.bs G.X C0.2.2.2.2.2.2.2.2.2.1 C0.2.2.2.2.2.2.2.2.2.2.2.2 x0 x1 (27 : Int32) x4 I91 L R I93 q94) lc_X12_set lk_X12_246 c_x0.2 c_x0.1 ⟨_, rfl, rfl⟩ rfl (by rw [erm]; decide) (Nat.le_of_ble_eq_true rfl) dX12_makeSensor_336 ?_
            show V G _ 339 [(0, .ref (G.ad x0)), (1, .int x1), (2, .int x2), (3, .int x3), (4, .int x4)] [] I93 L R
            refine V_aload_n C0 0 rfl rfl dX12_makeSensor_339 ?_
            refine V_iload_n C0 1 rfl rfl dX12_makeSensor_340 ?_
            refine V_bipush C0 (v := (40 : Int32)) (by decide) dX12_makeSensor_341 ?_
            refine V_iconst C0 (v := (0 : Int32)) (by decide) dX12_makeSensor_343 ?_
            obtain ⟨I95, q96, h⟩ := bn1_some h
            refine V_callV C0 (st := []) (As := [.int x1, .int (40 : Int32), .int (0 : Int32)]) 11 (c_X12_set G.l G.D G.cA G.ad G.bs G.X C0.2.2.2.2.2.2.2.2.2.1 C0.2.2.2.2.2.2.2.2.2.2.2.2 x0 x1 (40 : Int32) (0 : Int32) I93 L R I95 q96) lc_X12_set lk_X12_246 c_x0.2 c_x0.1 ⟨_, rfl, rfl⟩ rfl (by rw [erm]; decide) (Nat.le_of_ble_eq_true rfl) dX12_makeSensor_344 ?_
            show V G _ 347 [(0, .ref (G.ad x0)), (1, .int x1), (2, .int x2), (3, .int x3), (4, .int x4)] [] I95 L R
            refine V_aload_n C0 0 rfl rfl dX12_makeSensor_347 ?_
            refine V_iload_n C0 1 rfl rfl dX12_makeSensor_348 ?_
            refine V_iload_n C0 2 rfl rfl dX12_makeSensor_349 ?_
            refine V_aload_n C0 0 rfl rfl dX12_makeSensor_350 ?_
            refine V_iload_n C0 1 rfl rfl dX12_makeSensor_351 ?_
            refine V_bipush C0 (v := (39 : Int32)) (by decide) dX12_makeSensor_352 ?_
            obtain ⟨v97, q98, h⟩ := bn1_some h
            refine V_callV C0 (st := [.int x2, .int x1, .ref (G.ad x0)]) (As := [.int x1, .int (39 : Int32)]) 11 (c_X12_get G.l G.D G.cA G.ad G.bs G.X C0.2.2.2.2.2.2.2.2.2.1 C0.2.2.2.2.2.2.2.2.2.2.2.2 x0 x1 (39 : Int32) I95 L R v97 q98) lc_X12_get lk_X12_211 c_x0.2 c_x0.1 ⟨_, rfl, rfl⟩ rfl (by rw [erm]; decide) (Nat.le_of_ble_eq_true rfl) dX12_makeSensor_354 ?_
            show V G _ 357 [(0, .ref (G.ad x0)), (1, .int x1), (2, .int x2), (3, .int x3), (4, .int x4)] [.int v97, .int x2, .int x1, .ref (G.ad x0)] I95 L R
            obtain ⟨I99, q100, h⟩ := bn1_some h
            refine V_callV C0 (st := []) (As := [.int x1, .int x2, .int v97]) 11 (c_X12_noted G.l G.D G.cA G.ad G.bs G.X C0.2.2.2.2.2.2.2.2.2.1 C0.2.2.2.2.2.2.2.2.2.2.2.2 x0 x1 x2 v97 I95 L R I99 q100) lc_X12_noted lk_X12_253 c_x0.2 c_x0.1 ⟨_, rfl, rfl⟩ rfl (by rw [erm]; decide) (Nat.le_of_ble_eq_true rfl) dX12_makeSensor_357 ?_
            show V G _ 360 [(0, .ref (G.ad x0)), (1, .int x1), (2, .int x2), (3, .int x3), (4, .int x4)] [] I99 L R
            cases h
            exact V_vret C0 dX12_makeSensor_360
theorem dX12_makeActuator_0 : decode cX12_makeActuator 0 = .ok (.iload_n 2, 1) := by decide +kernel
theorem dX12_makeActuator_1 : decode cX12_makeActuator 1 = .ok (.tableswitch 232 15 18 #[31, 89, 138, 183], 31) := by decide +kernel
theorem dX12_makeActuator_32 : decode cX12_makeActuator 32 = .ok (.aload_n 0, 1) := by decide +kernel
theorem dX12_makeActuator_33 : decode cX12_makeActuator 33 = .ok (.iload_n 1, 1) := by decide +kernel
theorem dX12_makeActuator_34 : decode cX12_makeActuator 34 = .ok (.bipush 41, 2) := by decide +kernel
theorem dX12_makeActuator_36 : decode cX12_makeActuator 36 = .ok (.aload_n 0, 1) := by decide +kernel
theorem dX12_makeActuator_37 : decode cX12_makeActuator 37 = .ok (.iload_n 1, 1) := by decide +kernel
theorem dX12_makeActuator_38 : decode cX12_makeActuator 38 = .ok (.iconst 5, 1) := by decide +kernel
theorem dX12_makeActuator_39 : decode cX12_makeActuator 39 = .ok (.invokevirtual 250, 3) := by decide +kernel
theorem dX12_makeActuator_42 : decode cX12_makeActuator 42 = .ok (.invokevirtual 246, 3) := by decide +kernel
theorem dX12_makeActuator_45 : decode cX12_makeActuator 45 = .ok (.aload_n 0, 1) := by decide +kernel
theorem dX12_makeActuator_46 : decode cX12_makeActuator 46 = .ok (.iload_n 1, 1) := by decide +kernel
theorem dX12_makeActuator_47 : decode cX12_makeActuator 47 = .ok (.bipush 35, 2) := by decide +kernel
theorem dX12_makeActuator_49 : decode cX12_makeActuator 49 = .ok (.iload_n 3, 1) := by decide +kernel
theorem dX12_makeActuator_50 : decode cX12_makeActuator 50 = .ok (.invokevirtual 246, 3) := by decide +kernel
theorem dX12_makeActuator_53 : decode cX12_makeActuator 53 = .ok (.aload_n 0, 1) := by decide +kernel
theorem dX12_makeActuator_54 : decode cX12_makeActuator 54 = .ok (.iload_n 1, 1) := by decide +kernel
theorem dX12_makeActuator_55 : decode cX12_makeActuator 55 = .ok (.bipush 42, 2) := by decide +kernel
theorem dX12_makeActuator_57 : decode cX12_makeActuator 57 = .ok (.aload_n 0, 1) := by decide +kernel
theorem dX12_makeActuator_58 : decode cX12_makeActuator 58 = .ok (.iload_n 1, 1) := by decide +kernel
theorem dX12_makeActuator_59 : decode cX12_makeActuator 59 = .ok (.iconst 5, 1) := by decide +kernel
theorem dX12_makeActuator_60 : decode cX12_makeActuator 60 = .ok (.invokevirtual 250, 3) := by decide +kernel
theorem dX12_makeActuator_63 : decode cX12_makeActuator 63 = .ok (.invokevirtual 246, 3) := by decide +kernel
theorem dX12_makeActuator_66 : decode cX12_makeActuator 66 = .ok (.aload_n 0, 1) := by decide +kernel
theorem dX12_makeActuator_67 : decode cX12_makeActuator 67 = .ok (.iload_n 1, 1) := by decide +kernel
theorem dX12_makeActuator_68 : decode cX12_makeActuator 68 = .ok (.iload_n 2, 1) := by decide +kernel
theorem dX12_makeActuator_69 : decode cX12_makeActuator 69 = .ok (.aload_n 0, 1) := by decide +kernel
theorem dX12_makeActuator_70 : decode cX12_makeActuator 70 = .ok (.iload_n 1, 1) := by decide +kernel
theorem dX12_makeActuator_71 : decode cX12_makeActuator 71 = .ok (.bipush 42, 2) := by decide +kernel
theorem dX12_makeActuator_73 : decode cX12_makeActuator 73 = .ok (.invokevirtual 211, 3) := by decide +kernel
theorem dX12_makeActuator_76 : decode cX12_makeActuator 76 = .ok (.aload_n 0, 1) := by decide +kernel
theorem dX12_makeActuator_77 : decode cX12_makeActuator 77 = .ok (.iload_n 1, 1) := by decide +kernel
theorem dX12_makeActuator_78 : decode cX12_makeActuator 78 = .ok (.bipush 41, 2) := by decide +kernel
theorem dX12_makeActuator_80 : decode cX12_makeActuator 80 = .ok (.invokevirtual 211, 3) := by decide +kernel
theorem dX12_makeActuator_83 : decode cX12_makeActuator 83 = .ok (.isub, 1) := by decide +kernel
theorem dX12_makeActuator_84 : decode cX12_makeActuator 84 = .ok (.invokevirtual 253, 3) := by decide +kernel
theorem dX12_makeActuator_87 : decode cX12_makeActuator 87 = .ok (.goto 188, 3) := by decide +kernel
theorem dX12_makeActuator_90 : decode cX12_makeActuator 90 = .ok (.aload_n 0, 1) := by decide +kernel
theorem dX12_makeActuator_91 : decode cX12_makeActuator 91 = .ok (.iload_n 1, 1) := by decide +kernel
theorem dX12_makeActuator_92 : decode cX12_makeActuator 92 = .ok (.bipush 43, 2) := by decide +kernel
theorem dX12_makeActuator_94 : decode cX12_makeActuator 94 = .ok (.sipush 200, 3) := by decide +kernel
theorem dX12_makeActuator_97 : decode cX12_makeActuator 97 = .ok (.aload_n 0, 1) := by decide +kernel
theorem dX12_makeActuator_98 : decode cX12_makeActuator 98 = .ok (.iload_n 1, 1) := by decide +kernel
theorem dX12_makeActuator_99 : decode cX12_makeActuator 99 = .ok (.iconst 2, 1) := by decide +kernel
theorem dX12_makeActuator_100 : decode cX12_makeActuator 100 = .ok (.invokevirtual 211, 3) := by decide +kernel
theorem dX12_makeActuator_103 : decode cX12_makeActuator 103 = .ok (.iadd, 1) := by decide +kernel
theorem dX12_makeActuator_104 : decode cX12_makeActuator 104 = .ok (.invokevirtual 246, 3) := by decide +kernel
theorem dX12_makeActuator_107 : decode cX12_makeActuator 107 = .ok (.aload_n 0, 1) := by decide +kernel
theorem dX12_makeActuator_108 : decode cX12_makeActuator 108 = .ok (.iload_n 1, 1) := by decide +kernel
theorem dX12_makeActuator_109 : decode cX12_makeActuator 109 = .ok (.bipush 44, 2) := by decide +kernel
theorem dX12_makeActuator_111 : decode cX12_makeActuator 111 = .ok (.iconst 0, 1) := by decide +kernel
theorem dX12_makeActuator_112 : decode cX12_makeActuator 112 = .ok (.invokevirtual 246, 3) := by decide +kernel
theorem dX12_makeActuator_115 : decode cX12_makeActuator 115 = .ok (.aload_n 0, 1) := by decide +kernel
theorem dX12_makeActuator_116 : decode cX12_makeActuator 116 = .ok (.iload_n 1, 1) := by decide +kernel
theorem dX12_makeActuator_117 : decode cX12_makeActuator 117 = .ok (.iload_n 2, 1) := by decide +kernel
theorem dX12_makeActuator_118 : decode cX12_makeActuator 118 = .ok (.aload_n 0, 1) := by decide +kernel
theorem dX12_makeActuator_119 : decode cX12_makeActuator 119 = .ok (.iload_n 1, 1) := by decide +kernel
theorem dX12_makeActuator_120 : decode cX12_makeActuator 120 = .ok (.bipush 43, 2) := by decide +kernel
theorem dX12_makeActuator_122 : decode cX12_makeActuator 122 = .ok (.invokevirtual 211, 3) := by decide +kernel
theorem dX12_makeActuator_125 : decode cX12_makeActuator 125 = .ok (.aload_n 0, 1) := by decide +kernel
theorem dX12_makeActuator_126 : decode cX12_makeActuator 126 = .ok (.iload_n 1, 1) := by decide +kernel
theorem dX12_makeActuator_127 : decode cX12_makeActuator 127 = .ok (.bipush 42, 2) := by decide +kernel
theorem dX12_makeActuator_129 : decode cX12_makeActuator 129 = .ok (.invokevirtual 211, 3) := by decide +kernel
theorem dX12_makeActuator_132 : decode cX12_makeActuator 132 = .ok (.isub, 1) := by decide +kernel
theorem dX12_makeActuator_133 : decode cX12_makeActuator 133 = .ok (.invokevirtual 253, 3) := by decide +kernel
theorem dX12_makeActuator_136 : decode cX12_makeActuator 136 = .ok (.goto 139, 3) := by decide +kernel
theorem dX12_makeActuator_139 : decode cX12_makeActuator 139 = .ok (.aload_n 0, 1) := by decide +kernel
theorem dX12_makeActuator_140 : decode cX12_makeActuator 140 = .ok (.iload_n 1, 1) := by decide +kernel
theorem dX12_makeActuator_141 : decode cX12_makeActuator 141 = .ok (.bipush 45, 2) := by decide +kernel
theorem dX12_makeActuator_143 : decode cX12_makeActuator 143 = .ok (.aload_n 0, 1) := by decide +kernel
theorem dX12_makeActuator_144 : decode cX12_makeActuator 144 = .ok (.iload_n 1, 1) := by decide +kernel
theorem dX12_makeActuator_145 : decode cX12_makeActuator 145 = .ok (.bipush 41, 2) := by decide +kernel
theorem dX12_makeActuator_147 : decode cX12_makeActuator 147 = .ok (.invokevirtual 211, 3) := by decide +kernel
theorem dX12_makeActuator_150 : decode cX12_makeActuator 150 = .ok (.iconst 2, 1) := by decide +kernel
theorem dX12_makeActuator_151 : decode cX12_makeActuator 151 = .ok (.imul, 1) := by decide +kernel
theorem dX12_makeActuator_152 : decode cX12_makeActuator 152 = .ok (.invokevirtual 246, 3) := by decide +kernel
theorem dX12_makeActuator_155 : decode cX12_makeActuator 155 = .ok (.aload_n 0, 1) := by decide +kernel
theorem dX12_makeActuator_156 : decode cX12_makeActuator 156 = .ok (.iload_n 1, 1) := by decide +kernel
theorem dX12_makeActuator_157 : decode cX12_makeActuator 157 = .ok (.bipush 42, 2) := by decide +kernel
theorem dX12_makeActuator_159 : decode cX12_makeActuator 159 = .ok (.aload_n 0, 1) := by decide +kernel
theorem dX12_makeActuator_160 : decode cX12_makeActuator 160 = .ok (.iload_n 1, 1) := by decide +kernel
theorem dX12_makeActuator_161 : decode cX12_makeActuator 161 = .ok (.iconst 5, 1) := by decide +kernel
theorem dX12_makeActuator_162 : decode cX12_makeActuator 162 = .ok (.invokevirtual 250, 3) := by decide +kernel
theorem dX12_makeActuator_165 : decode cX12_makeActuator 165 = .ok (.invokevirtual 246, 3) := by decide +kernel
theorem dX12_makeActuator_168 : decode cX12_makeActuator 168 = .ok (.aload_n 0, 1) := by decide +kernel
theorem dX12_makeActuator_169 : decode cX12_makeActuator 169 = .ok (.iload_n 1, 1) := by decide +kernel
theorem dX12_makeActuator_170 : decode cX12_makeActuator 170 = .ok (.iload_n 2, 1) := by decide +kernel
theorem dX12_makeActuator_171 : decode cX12_makeActuator 171 = .ok (.aload_n 0, 1) := by decide +kernel
theorem dX12_makeActuator_172 : decode cX12_makeActuator 172 = .ok (.iload_n 1, 1) := by decide +kernel
theorem dX12_makeActuator_173 : decode cX12_makeActuator 173 = .ok (.bipush 42, 2) := by decide +kernel
theorem dX12_makeActuator_175 : decode cX12_makeActuator 175 = .ok (.invokevirtual 211, 3) := by decide +kernel
theorem dX12_makeActuator_178 : decode cX12_makeActuator 178 = .ok (.invokevirtual 253, 3) := by decide +kernel
theorem dX12_makeActuator_181 : decode cX12_makeActuator 181 = .ok (.goto 94, 3) := by decide +kernel
theorem dX12_makeActuator_184 : decode cX12_makeActuator 184 = .ok (.aload_n 0, 1) := by decide +kernel
theorem dX12_makeActuator_185 : decode cX12_makeActuator 185 = .ok (.iload_n 1, 1) := by decide +kernel
theorem dX12_makeActuator_186 : decode cX12_makeActuator 186 = .ok (.bipush 47, 2) := by decide +kernel
theorem dX12_makeActuator_188 : decode cX12_makeActuator 188 = .ok (.aload_n 0, 1) := by decide +kernel
theorem dX12_makeActuator_189 : decode cX12_makeActuator 189 = .ok (.invokevirtual 242, 3) := by decide +kernel
theorem dX12_makeActuator_192 : decode cX12_makeActuator 192 = .ok (.iconst 3, 1) := by decide +kernel
theorem dX12_makeActuator_193 : decode cX12_makeActuator 193 = .ok (.invokestatic 115, 3) := by decide +kernel
theorem dX12_makeActuator_196 : decode cX12_makeActuator 196 = .ok (.iconst 1, 1) := by decide +kernel
theorem dX12_makeActuator_197 : decode cX12_makeActuator 197 = .ok (.iadd, 1) := by decide +kernel
theorem dX12_makeActuator_198 : decode cX12_makeActuator 198 = .ok (.invokevirtual 246, 3) := by decide +kernel
theorem dX12_makeActuator_201 : decode cX12_makeActuator 201 = .ok (.aload_n 0, 1) := by decide +kernel
theorem dX12_makeActuator_202 : decode cX12_makeActuator 202 = .ok (.iload_n 1, 1) := by decide +kernel
theorem dX12_makeActuator_203 : decode cX12_makeActuator 203 = .ok (.bipush 27, 2) := by decide +kernel
theorem dX12_makeActuator_205 : decode cX12_makeActuator 205 = .ok (.iload 4, 2) := by decide +kernel
theorem dX12_makeActuator_207 : decode cX12_makeActuator 207 = .ok (.invokevirtual 246, 3) := by decide +kernel
theorem dX12_makeActuator_210 : decode cX12_makeActuator 210 = .ok (.aload_n 0, 1) := by decide +kernel
theorem dX12_makeActuator_211 : decode cX12_makeActuator 211 = .ok (.iload_n 1, 1) := by decide +kernel
theorem dX12_makeActuator_212 : decode cX12_makeActuator 212 = .ok (.bipush 40, 2) := by decide +kernel
theorem dX12_makeActuator_214 : decode cX12_makeActuator 214 = .ok (.iconst 0, 1) := by decide +kernel
theorem dX12_makeActuator_215 : decode cX12_makeActuator 215 = .ok (.invokevirtual 246, 3) := by decide +kernel
theorem dX12_makeActuator_218 : decode cX12_makeActuator 218 = .ok (.aload_n 0, 1) := by decide +kernel
theorem dX12_makeActuator_219 : decode cX12_makeActuator 219 = .ok (.iload_n 1, 1) := by decide +kernel
theorem dX12_makeActuator_220 : decode cX12_makeActuator 220 = .ok (.iload_n 2, 1) := by decide +kernel
theorem dX12_makeActuator_221 : decode cX12_makeActuator 221 = .ok (.aload_n 0, 1) := by decide +kernel
theorem dX12_makeActuator_222 : decode cX12_makeActuator 222 = .ok (.iload_n 1, 1) := by decide +kernel
theorem dX12_makeActuator_223 : decode cX12_makeActuator 223 = .ok (.iconst 5, 1) := by decide +kernel
theorem dX12_makeActuator_224 : decode cX12_makeActuator 224 = .ok (.invokevirtual 250, 3) := by decide +kernel
theorem dX12_makeActuator_227 : decode cX12_makeActuator 227 = .ok (.invokevirtual 253, 3) := by decide +kernel
theorem dX12_makeActuator_230 : decode cX12_makeActuator 230 = .ok (.goto 45, 3) := by decide +kernel
theorem dX12_makeActuator_233 : decode cX12_makeActuator 233 = .ok (.aload_n 0, 1) := by decide +kernel
theorem dX12_makeActuator_234 : decode cX12_makeActuator 234 = .ok (.iload_n 1, 1) := by decide +kernel
theorem dX12_makeActuator_235 : decode cX12_makeActuator 235 = .ok (.bipush 48, 2) := by decide +kernel
theorem dX12_makeActuator_237 : decode cX12_makeActuator 237 = .ok (.aload_n 0, 1) := by decide +kernel
theorem dX12_makeActuator_238 : decode cX12_makeActuator 238 = .ok (.iload_n 1, 1) := by decide +kernel
theorem dX12_makeActuator_239 : decode cX12_makeActuator 239 = .ok (.bipush 47, 2) := by decide +kernel
theorem dX12_makeActuator_241 : decode cX12_makeActuator 241 = .ok (.invokevirtual 211, 3) := by decide +kernel
theorem dX12_makeActuator_244 : decode cX12_makeActuator 244 = .ok (.iconst 1, 1) := by decide +kernel
theorem dX12_makeActuator_245 : decode cX12_makeActuator 245 = .ok (.iadd, 1) := by decide +kernel
theorem dX12_makeActuator_246 : decode cX12_makeActuator 246 = .ok (.invokevirtual 246, 3) := by decide +kernel
theorem dX12_makeActuator_249 : decode cX12_makeActuator 249 = .ok (.aload_n 0, 1) := by decide +kernel
theorem dX12_makeActuator_250 : decode cX12_makeActuator 250 = .ok (.iload_n 1, 1) := by decide +kernel
theorem dX12_makeActuator_251 : decode cX12_makeActuator 251 = .ok (.bipush 42, 2) := by decide +kernel
theorem dX12_makeActuator_253 : decode cX12_makeActuator 253 = .ok (.aload_n 0, 1) := by decide +kernel
theorem dX12_makeActuator_254 : decode cX12_makeActuator 254 = .ok (.iload_n 1, 1) := by decide +kernel
theorem dX12_makeActuator_255 : decode cX12_makeActuator 255 = .ok (.iconst 5, 1) := by decide +kernel
theorem dX12_makeActuator_256 : decode cX12_makeActuator 256 = .ok (.invokevirtual 250, 3) := by decide +kernel
theorem dX12_makeActuator_259 : decode cX12_makeActuator 259 = .ok (.invokevirtual 246, 3) := by decide +kernel
theorem dX12_makeActuator_262 : decode cX12_makeActuator 262 = .ok (.aload_n 0, 1) := by decide +kernel
theorem dX12_makeActuator_263 : decode cX12_makeActuator 263 = .ok (.iload_n 1, 1) := by decide +kernel
theorem dX12_makeActuator_264 : decode cX12_makeActuator 264 = .ok (.iload_n 2, 1) := by decide +kernel
theorem dX12_makeActuator_265 : decode cX12_makeActuator 265 = .ok (.aload_n 0, 1) := by decide +kernel
theorem dX12_makeActuator_266 : decode cX12_makeActuator 266 = .ok (.iload_n 1, 1) := by decide +kernel
theorem dX12_makeActuator_267 : decode cX12_makeActuator 267 = .ok (.bipush 42, 2) := by decide +kernel
theorem dX12_makeActuator_269 : decode cX12_makeActuator 269 = .ok (.invokevirtual 211, 3) := by decide +kernel
theorem dX12_makeActuator_272 : decode cX12_makeActuator 272 = .ok (.invokevirtual 253, 3) := by decide +kernel
theorem dX12_makeActuator_275 : decode cX12_makeActuator 275 = .ok (.return_, 1) := by decide +kernel
def F_X12_makeActuator (N : Nat) (x0 : Nat) (x1 : Int32) (x2 : Int32) (x3 : Int32) (x4 : Int32) (I : MI) (L : ML) (R : MR) : Option (MI) :=
  if kd x0 = 11 ∧ x0 < NN then
  if x2 = (15 : Int32) then
    bn2 (F_X12_answer N x0 x1 (5 : Int32) I L R) fun v3 I4 =>
    bn1 (F_X12_set x0 x1 (41 : Int32) v3 I4 L R) fun I6 =>
    bn1 (F_X12_set x0 x1 (35 : Int32) x3 I6 L R) fun I8 =>
    bn2 (F_X12_answer N x0 x1 (5 : Int32) I8 L R) fun v10 I11 =>
    bn1 (F_X12_set x0 x1 (42 : Int32) v10 I11 L R) fun I13 =>
    bn1 (F_X12_get x0 x1 (42 : Int32) I13 L R) fun v15 =>
    bn1 (F_X12_get x0 x1 (41 : Int32) I13 L R) fun v17 =>
    bn1 (F_X12_noted x0 x1 x2 (v15 - v17) I13 L R) fun I19 =>
    some (I19)
  else
    if x2 = (16 : Int32) then
      bn1 (F_X12_get x0 x1 (2 : Int32) I L R) fun v22 =>
      bn1 (F_X12_set x0 x1 (43 : Int32) ((200 : Int32) + v22) I L R) fun I24 =>
      bn1 (F_X12_set x0 x1 (44 : Int32) (0 : Int32) I24 L R) fun I26 =>
      bn1 (F_X12_get x0 x1 (43 : Int32) I26 L R) fun v28 =>
      bn1 (F_X12_get x0 x1 (42 : Int32) I26 L R) fun v30 =>
      bn1 (F_X12_noted x0 x1 x2 (v28 - v30) I26 L R) fun I32 =>
      some (I32)
    else
      if x2 = (17 : Int32) then
        bn1 (F_X12_get x0 x1 (41 : Int32) I L R) fun v35 =>
        bn1 (F_X12_set x0 x1 (45 : Int32) (v35 * (2 : Int32)) I L R) fun I37 =>
        bn2 (F_X12_answer N x0 x1 (5 : Int32) I37 L R) fun v39 I40 =>
        bn1 (F_X12_set x0 x1 (42 : Int32) v39 I40 L R) fun I42 =>
        bn1 (F_X12_get x0 x1 (42 : Int32) I42 L R) fun v44 =>
        bn1 (F_X12_noted x0 x1 x2 v44 I42 L R) fun I46 =>
        some (I46)
      else
        if x2 = (18 : Int32) then
          bn2 (F_X12_draw x0 I L R) fun v49 I50 =>
          bn1 (F_X12_mod v49 (3 : Int32) I50 L R) fun v52 =>
          bn1 (F_X12_set x0 x1 (47 : Int32) (v52 + (1 : Int32)) I50 L R) fun I54 =>
          bn1 (F_X12_set x0 x1 (27 : Int32) x4 I54 L R) fun I56 =>
          bn1 (F_X12_set x0 x1 (40 : Int32) (0 : Int32) I56 L R) fun I58 =>
          bn2 (F_X12_answer N x0 x1 (5 : Int32) I58 L R) fun v60 I61 =>
          bn1 (F_X12_noted x0 x1 x2 v60 I61 L R) fun I63 =>
          some (I63)
        else
          bn1 (F_X12_get x0 x1 (47 : Int32) I L R) fun v65 =>
          bn1 (F_X12_set x0 x1 (48 : Int32) (v65 + (1 : Int32)) I L R) fun I67 =>
          bn2 (F_X12_answer N x0 x1 (5 : Int32) I67 L R) fun v69 I70 =>
          bn1 (F_X12_set x0 x1 (42 : Int32) v69 I70 L R) fun I72 =>
          bn1 (F_X12_get x0 x1 (42 : Int32) I72 L R) fun v74 =>
          bn1 (F_X12_noted x0 x1 x2 v74 I72 L R) fun I76 =>
          some (I76)
  else none
set_option maxRecDepth 100000 in
set_option maxHeartbeats 4000000 in
theorem c_X12_makeActuator (l : Launch) (D : va_G) (cA : Nat → ClassId) (ad : Nat → Nat) (bs : Nat) (X : State → Prop) (hAd : Ax ad bs) (hX : Stb bs X) (N : Nat) (x0 : Nat) (x1 : Int32) (x2 : Int32) (x3 : Int32) (x4 : Int32) (I : MI) (L : ML) (R : MR) (I' : MI) (h : F_X12_makeActuator N x0 x1 x2 x3 x4 I L R = some (I')) : Cn l D cA ad bs X yX12_makeActuator cX12_makeActuator 5 none 3 71 [.ref (ad x0), .int x1, .int x2, .int x3, .int x4] I L R (none, I', L, R) := by
  refine Cn.ofV hAd hX [(0, .ref (ad x0)), (1, .int x1), (2, .int x2), (3, .int x3), (4, .int x4)] rfl (Nat.le_of_ble_eq_true rfl) (by decide) ?_
  intro G el eD ecA ead ebs eX erm eNL C0
  subst el eD ecA ead ebs eX
  unfold F_X12_makeActuator at h
  obtain ⟨c_x0, h⟩ := ite_some h
  refine V_iload_n C0 2 rfl rfl dX12_makeActuator_0 ?_
  have nd1 := nd_0 x2
  by_cases c2 : x2 = (15 : Int32)
  · have h := (if_pos c2).symm.trans h
    refine V_tableC C0 (tgt := 32) (v := (15 : Int32)) c2 (by decide) (by decide) dX12_makeActuator_1 ?_
    refine V_aload_n C0 0 rfl rfl dX12_makeActuator_32 ?_
    refine V_iload_n C0 1 rfl rfl dX12_makeActuator_33 ?_
    refine V_bipush C0 (v := (41 : Int32)) (by decide) dX12_makeActuator_34 ?_
    refine V_aload_n C0 0 rfl rfl dX12_makeActuator_36 ?_
    refine V_iload_n C0 1 rfl rfl dX12_makeActuator_37 ?_
    refine V_iconst C0 (v := (5 : Int32)) (by decide) dX12_makeActuator_38 ?_
    obtain ⟨v3, I4, q5, h⟩ := bn2_some h
    refine V_callV C0 (st := [.int (41 : Int32), .int x1, .ref (G.ad x0)]) (As := [.int x1, .int (5 : Int32)]) 11 (c_X12_answer G.l G.D G.cA G.ad G.bs G.X C0.2.2.2.2.2.2.2.2.2.1 C0.2.2.2.2.2.2.2.2.2.2.2.2 N x0 x1 (5 : Int32) I L R v3 I4 q5) lc_X12_answer lk_X12_250 c_x0.2 c_x0.1 ⟨_, rfl, rfl⟩ rfl (by rw [erm]; decide) (Nat.le_of_ble_eq_true rfl) dX12_makeActuator_39 ?_
    show V G _ 42 [(0, .ref (G.ad x0)), (1, .int x1), (2, .int x2), (3, .int x3), (4, .int x4)] [.int v3, .int (41 : Int32), .int x1, .ref (G.ad x0)] I4 L R
    obtain ⟨I6, q7, h⟩ := bn1_some h
    refine V_callV C0 (st := []) (As := [.int x1, .int (41 : Int32), .int v3]) 11 (c_X12_set G.l G.D G.cA G.ad G.bs G.X C0.2.2.2.2.2.2.2.2.2.1 C0.2.2.2.2.2.2.2.2.2.2.2.2 x0 x1 (41 : Int32) v3 I4 L R I6 q7) lc_X12_set lk_X12_246 c_x0.2 c_x0.1 ⟨_, rfl, rfl⟩ rfl (by rw [erm]; decide) (Nat.le_of_ble_eq_true rfl) dX12_makeActuator_42 ?_
    show V G _ 45 [(0, .ref (G.ad x0)), (1, .int x1), (2, .int x2), (3, .int x3), (4, .int x4)] [] I6 L R
    refine V_aload_n C0 0 rfl rfl dX12_makeActuator_45 ?_
    refine V_iload_n C0 1 rfl rfl dX12_makeActuator_46 ?_
    refine V_bipush C0 (v := (35 : Int32)) (by decide) dX12_makeActuator_47 ?_
    refine V_iload_n C0 3 rfl rfl dX12_makeActuator_49 ?_
    obtain ⟨I8, q9, h⟩ := bn1_some h
    refine V_callV C0 (st := []) (As := [.int x1, .int (35 : Int32), .int x3]) 11 (c_X12_set G.l G.D G.cA G.ad G.bs G.X C0.2.2.2.2.2.2.2.2.2.1 C0.2.2.2.2.2.2.2.2.2.2.2.2 x0 x1 (35 : Int32) x3 I6 L R I8 q9) lc_X12_set lk_X12_246 c_x0.2 c_x0.1 ⟨_, rfl, rfl⟩ rfl (by rw [erm]; decide) (Nat.le_of_ble_eq_true rfl) dX12_makeActuator_50 ?_
    show V G _ 53 [(0, .ref (G.ad x0)), (1, .int x1), (2, .int x2), (3, .int x3), (4, .int x4)] [] I8 L R
    refine V_aload_n C0 0 rfl rfl dX12_makeActuator_53 ?_
    refine V_iload_n C0 1 rfl rfl dX12_makeActuator_54 ?_
    refine V_bipush C0 (v := (42 : Int32)) (by decide) dX12_makeActuator_55 ?_
    refine V_aload_n C0 0 rfl rfl dX12_makeActuator_57 ?_
    refine V_iload_n C0 1 rfl rfl dX12_makeActuator_58 ?_
    refine V_iconst C0 (v := (5 : Int32)) (by decide) dX12_makeActuator_59 ?_
    obtain ⟨v10, I11, q12, h⟩ := bn2_some h
    refine V_callV C0 (st := [.int (42 : Int32), .int x1, .ref (G.ad x0)]) (As := [.int x1, .int (5 : Int32)]) 11 (c_X12_answer G.l G.D G.cA G.ad G.bs G.X C0.2.2.2.2.2.2.2.2.2.1 C0.2.2.2.2.2.2.2.2.2.2.2.2 N x0 x1 (5 : Int32) I8 L R v10 I11 q12) lc_X12_answer lk_X12_250 c_x0.2 c_x0.1 ⟨_, rfl, rfl⟩ rfl (by rw [erm]; decide) (Nat.le_of_ble_eq_true rfl) dX12_makeActuator_60 ?_
    show V G _ 63 [(0, .ref (G.ad x0)), (1, .int x1), (2, .int x2), (3, .int x3), (4, .int x4)] [.int v10, .int (42 : Int32), .int x1, .ref (G.ad x0)] I11 L R
    obtain ⟨I13, q14, h⟩ := bn1_some h
    refine V_callV C0 (st := []) (As := [.int x1, .int (42 : Int32), .int v10]) 11 (c_X12_set G.l G.D G.cA G.ad G.bs G.X C0.2.2.2.2.2.2.2.2.2.1 C0.2.2.2.2.2.2.2.2.2.2.2.2 x0 x1 (42 : Int32) v10 I11 L R I13 q14) lc_X12_set lk_X12_246 c_x0.2 c_x0.1 ⟨_, rfl, rfl⟩ rfl (by rw [erm]; decide) (Nat.le_of_ble_eq_true rfl) dX12_makeActuator_63 ?_
    show V G _ 66 [(0, .ref (G.ad x0)), (1, .int x1), (2, .int x2), (3, .int x3), (4, .int x4)] [] I13 L R
    refine V_aload_n C0 0 rfl rfl dX12_makeActuator_66 ?_
    refine V_iload_n C0 1 rfl rfl dX12_makeActuator_67 ?_
    refine V_iload_n C0 2 rfl rfl dX12_makeActuator_68 ?_
    refine V_aload_n C0 0 rfl rfl dX12_makeActuator_69 ?_
    refine V_iload_n C0 1 rfl rfl dX12_makeActuator_70 ?_
    refine V_bipush C0 (v := (42 : Int32)) (by decide) dX12_makeActuator_71 ?_
    obtain ⟨v15, q16, h⟩ := bn1_some h
    refine V_callV C0 (st := [.int x2, .int x1, .ref (G.ad x0)]) (As := [.int x1, .int (42 : Int32)]) 11 (c_X12_get G.l G.D G.cA G.ad G.bs G.X C0.2.2.2.2.2.2.2.2.2.1 C0.2.2.2.2.2.2.2.2.2.2.2.2 x0 x1 (42 : Int32) I13 L R v15 q16) lc_X12_get lk_X12_211 c_x0.2 c_x0.1 ⟨_, rfl, rfl⟩ rfl (by rw [erm]; decide) (Nat.le_of_ble_eq_true rfl) dX12_makeActuator_73 ?_
    show V G _ 76 [(0, .ref (G.ad x0)), (1, .int x1), (2, .int x2), (3, .int x3), (4, .int x4)] [.int v15, .int x2, .int x1, .ref (G.ad x0)] I13 L R
    refine V_aload_n C0 0 rfl rfl dX12_makeActuator_76 ?_
    refine V_iload_n C0 1 rfl rfl dX12_makeActuator_77 ?_
    refine V_bipush C0 (v := (41 : Int32)) (by decide) dX12_makeActuator_78 ?_
    obtain ⟨v17, q18, h⟩ := bn1_some h
    refine V_callV C0 (st := [.int v15, .int x2, .int x1, .ref (G.ad x0)]) (As := [.int x1, .int (41 : Int32)]) 11 (c_X12_get G.l G.D G.cA G.ad G.bs G.X C0.2.2.2.2.2.2.2.2.2.1 C0.2.2.2.2.2.2.2.2.2.2.2.2 x0 x1 (41 : Int32) I13 L R v17 q18) lc_X12_get lk_X12_211 c_x0.2 c_x0.1 ⟨_, rfl, rfl⟩ rfl (by rw [erm]; decide) (Nat.le_of_ble_eq_true rfl) dX12_makeActuator_80 ?_
    show V G _ 83 [(0, .ref (G.ad x0)), (1, .int x1), (2, .int x2), (3, .int x3), (4, .int x4)] [.int v17, .int v15, .int x2, .int x1, .ref (G.ad x0)] I13 L R
    refine V_isub C0 dX12_makeActuator_83 ?_
    obtain ⟨I19, q20, h⟩ := bn1_some h
    refine V_callV C0 (st := []) (As := [.int x1, .int x2, .int (v15 - v17)]) 11 (c_X12_noted G.l G.D G.cA G.ad G.bs G.X C0.2.2.2.2.2.2.2.2.2.1 C0.2.2.2.2.2.2.2.2.2.2.2.2 x0 x1 x2 (v15 - v17) I13 L R I19 q20) lc_X12_noted lk_X12_253 c_x0.2 c_x0.1 ⟨_, rfl, rfl⟩ rfl (by rw [erm]; decide) (Nat.le_of_ble_eq_true rfl) dX12_makeActuator_84 ?_
    show V G _ 87 [(0, .ref (G.ad x0)), (1, .int x1), (2, .int x2), (3, .int x3), (4, .int x4)] [] I19 L R
    refine V_goto C0 (tgt := 275) (by decide) dX12_makeActuator_87 ?_
    cases h
    exact V_vret C0 dX12_makeActuator_275
  · have h := (if_neg c2).symm.trans h
    have nd1 := nd_add nd1 c2
    by_cases c21 : x2 = (16 : Int32)
    · have h := (if_pos c21).symm.trans h
      refine V_tableC C0 (tgt := 90) (v := (16 : Int32)) c21 (by decide) (by decide) dX12_makeActuator_1 ?_
      refine V_aload_n C0 0 rfl rfl dX12_makeActuator_90 ?_
      refine V_iload_n C0 1 rfl rfl dX12_makeActuator_91 ?_
      refine V_bipush C0 (v := (43 : Int32)) (by decide) dX12_makeActuator_92 ?_
      refine V_sipush C0 (v := (200 : Int32)) (by decide) dX12_makeActuator_94 ?_
      refine V_aload_n C0 0 rfl rfl dX12_makeActuator_97 ?_
      refine V_iload_n C0 1 rfl rfl dX12_makeActuator_98 ?_
      refine V_iconst C0 (v := (2 : Int32)) (by decide) dX12_makeActuator_99 ?_
      obtain ⟨v22, q23, h⟩ := bn1_some h
      refine V_callV C0 (st := [.int (200 : Int32), .int (43 : Int32), .int x1, .ref (G.ad x0)]) (As := [.int x1, .int (2 : Int32)]) 11 (c_X12_get G.l G.D G.cA G.ad G.bs G.X C0.2.2.2.2.2.2.2.2.2.1 C0.2.2.2.2.2.2.2.2.2.2.2.2 x0 x1 (2 : Int32) I L R v22 q23) lc_X12_get lk_X12_211 c_x0.2 c_x0.1 ⟨_, rfl, rfl⟩ rfl (by rw [erm]; decide) (Nat.le_of_ble_eq_true rfl) dX12_makeActuator_100 ?_
      show V G _ 103 [(0, .ref (G.ad x0)), (1, .int x1), (2, .int x2), (3, .int x3), (4, .int x4)] [.int v22, .int (200 : Int32), .int (43 : Int32), .int x1, .ref (G.ad x0)] I L R
      refine V_iadd C0 dX12_makeActuator_103 ?_
      obtain ⟨I24, q25, h⟩ := bn1_some h
      refine V_callV C0 (st := []) (As := [.int x1, .int (43 : Int32), .int ((200 : Int32) + v22)]) 11 (c_X12_set G.l G.D G.cA G.ad G.bs G.X C0.2.2.2.2.2.2.2.2.2.1 C0.2.2.2.2.2.2.2.2.2.2.2.2 x0 x1 (43 : Int32) ((200 : Int32) + v22) I L R I24 q25) lc_X12_set lk_X12_246 c_x0.2 c_x0.1 ⟨_, rfl, rfl⟩ rfl (by rw [erm]; decide) (Nat.le_of_ble_eq_true rfl) dX12_makeActuator_104 ?_
      show V G _ 107 [(0, .ref (G.ad x0)), (1, .int x1), (2, .int x2), (3, .int x3), (4, .int x4)] [] I24 L R
      refine V_aload_n C0 0 rfl rfl dX12_makeActuator_107 ?_
      refine V_iload_n C0 1 rfl rfl dX12_makeActuator_108 ?_
      refine V_bipush C0 (v := (44 : Int32)) (by decide) dX12_makeActuator_109 ?_
      refine V_iconst C0 (v := (0 : Int32)) (by decide) dX12_makeActuator_111 ?_
      obtain ⟨I26, q27, h⟩ := bn1_some h
      refine V_callV C0 (st := []) (As := [.int x1, .int (44 : Int32), .int (0 : Int32)]) 11 (c_X12_set G.l G.D G.cA G.ad G.bs G.X C0.2.2.2.2.2.2.2.2.2.1 C0.2.2.2.2.2.2.2.2.2.2.2.2 x0 x1 (44 : Int32) (0 : Int32) I24 L R I26 q27) lc_X12_set lk_X12_246 c_x0.2 c_x0.1 ⟨_, rfl, rfl⟩ rfl (by rw [erm]; decide) (Nat.le_of_ble_eq_true rfl) dX12_makeActuator_112 ?_
      show V G _ 115 [(0, .ref (G.ad x0)), (1, .int x1), (2, .int x2), (3, .int x3), (4, .int x4)] [] I26 L R
      refine V_aload_n C0 0 rfl rfl dX12_makeActuator_115 ?_
      refine V_iload_n C0 1 rfl rfl dX12_makeActuator_116 ?_
      refine V_iload_n C0 2 rfl rfl dX12_makeActuator_117 ?_
      refine V_aload_n C0 0 rfl rfl dX12_makeActuator_118 ?_
      refine V_iload_n C0 1 rfl rfl dX12_makeActuator_119 ?_
      refine V_bipush C0 (v := (43 : Int32)) (by decide) dX12_makeActuator_120 ?_
      obtain ⟨v28, q29, h⟩ := bn1_some h
      refine V_callV C0 (st := [.int x2, .int x1, .ref (G.ad x0)]) (As := [.int x1, .int (43 : Int32)]) 11 (c_X12_get G.l G.D G.cA G.ad G.bs G.X C0.2.2.2.2.2.2.2.2.2.1 C0.2.2.2.2.2.2.2.2.2.2.2.2 x0 x1 (43 : Int32) I26 L R v28 q29) lc_X12_get lk_X12_211 c_x0.2 c_x0.1 ⟨_, rfl, rfl⟩ rfl (by rw [erm]; decide) (Nat.le_of_ble_eq_true rfl) dX12_makeActuator_122 ?_
      show V G _ 125 [(0, .ref (G.ad x0)), (1, .int x1), (2, .int x2), (3, .int x3), (4, .int x4)] [.int v28, .int x2, .int x1, .ref (G.ad x0)] I26 L R
      refine V_aload_n C0 0 rfl rfl dX12_makeActuator_125 ?_
      refine V_iload_n C0 1 rfl rfl dX12_makeActuator_126 ?_
      refine V_bipush C0 (v := (42 : Int32)) (by decide) dX12_makeActuator_127 ?_
      obtain ⟨v30, q31, h⟩ := bn1_some h
      refine V_callV C0 (st := [.int v28, .int x2, .int x1, .ref (G.ad x0)]) (As := [.int x1, .int (42 : Int32)]) 11 (c_X12_get G.l G.D G.cA G.ad G.bs G.X C0.2.2.2.2.2.2.2.2.2.1 C0.2.2.2.2.2.2.2.2.2.2.2.2 x0 x1 (42 : Int32) I26 L R v30 q31) lc_X12_get lk_X12_211 c_x0.2 c_x0.1 ⟨_, rfl, rfl⟩ rfl (by rw [erm]; decide) (Nat.le_of_ble_eq_true rfl) dX12_makeActuator_129 ?_
      show V G _ 132 [(0, .ref (G.ad x0)), (1, .int x1), (2, .int x2), (3, .int x3), (4, .int x4)] [.int v30, .int v28, .int x2, .int x1, .ref (G.ad x0)] I26 L R
      refine V_isub C0 dX12_makeActuator_132 ?_
      obtain ⟨I32, q33, h⟩ := bn1_some h
      refine V_callV C0 (st := []) (As := [.int x1, .int x2, .int (v28 - v30)]) 11 (c_X12_noted G.l G.D G.cA G.ad G.bs G.X C0.2.2.2.2.2.2.2.2.2.1 C0.2.2.2.2.2.2.2.2.2.2.2.2 x0 x1 x2 (v28 - v30) I26 L R I32 q33) lc_X12_noted lk_X12_253 c_x0.2 c_x0.1 ⟨_, rfl, rfl⟩ rfl (by rw [erm]; decide) (Nat.le_of_ble_eq_true rfl) dX12_makeActuator_133 ?_
      show V G _ 136 [(0, .ref (G.ad x0)), (1, .int x1), (2, .int x2), (3, .int x3), (4, .int x4)] [] I32 L R
      refine V_goto C0 (tgt := 275) (by decide) dX12_makeActuator_136 ?_
      cases h
      exact V_vret C0 dX12_makeActuator_275
    · have h := (if_neg c21).symm.trans h
      have nd1 := nd_add nd1 c21
      by_cases c34 : x2 = (17 : Int32)
      · have h := (if_pos c34).symm.trans h
        refine V_tableC C0 (tgt := 139) (v := (17 : Int32)) c34 (by decide) (by decide) dX12_makeActuator_1 ?_
        refine V_aload_n C0 0 rfl rfl dX12_makeActuator_139 ?_
        refine V_iload_n C0 1 rfl rfl dX12_makeActuator_140 ?_
        refine V_bipush C0 (v := (45 : Int32)) (by decide) dX12_makeActuator_141 ?_
        refine V_aload_n C0 0 rfl rfl dX12_makeActuator_143 ?_
        refine V_iload_n C0 1 rfl rfl dX12_makeActuator_144 ?_
        refine V_bipush C0 (v := (41 : Int32)) (by decide) dX12_makeActuator_145 ?_
        obtain ⟨v35, q36, h⟩ := bn1_some h
        refine V_callV C0 (st := [.int (45 : Int32), .int x1, .ref (G.ad x0)]) (As := [.int x1, .int (41 : Int32)]) 11 (c_X12_get G.l G.D G.cA G.ad G.bs G.X C0.2.2.2.2.2.2.2.2.2.1 C0.2.2.2.2.2.2.2.2.2.2.2.2 x0 x1 (41 : Int32) I L R v35 q36) lc_X12_get lk_X12_211 c_x0.2 c_x0.1 ⟨_, rfl, rfl⟩ rfl (by rw [erm]; decide) (Nat.le_of_ble_eq_true rfl) dX12_makeActuator_147 ?_
        show V G _ 150 [(0, .ref (G.ad x0)), (1, .int x1), (2, .int x2), (3, .int x3), (4, .int x4)] [.int v35, .int (45 : Int32), .int x1, .ref (G.ad x0)] I L R
        refine V_iconst C0 (v := (2 : Int32)) (by decide) dX12_makeActuator_150 ?_
        refine V_imul C0 dX12_makeActuator_151 ?_
        obtain ⟨I37, q38, h⟩ := bn1_some h
        refine V_callV C0 (st := []) (As := [.int x1, .int (45 : Int32), .int (v35 * (2 : Int32))]) 11 (c_X12_set G.l G.D G.cA G.ad G.bs G.X C0.2.2.2.2.2.2.2.2.2.1 C0.2.2.2.2.2.2.2.2.2.2.2.2 x0 x1 (45 : Int32) (v35 * (2 : Int32)) I L R I37 q38) lc_X12_set lk_X12_246 c_x0.2 c_x0.1 ⟨_, rfl, rfl⟩ rfl (by rw [erm]; decide) (Nat.le_of_ble_eq_true rfl) dX12_makeActuator_152 ?_
        show V G _ 155 [(0, .ref (G.ad x0)), (1, .int x1), (2, .int x2), (3, .int x3), (4, .int x4)] [] I37 L R
        refine V_aload_n C0 0 rfl rfl dX12_makeActuator_155 ?_
        refine V_iload_n C0 1 rfl rfl dX12_makeActuator_156 ?_
        refine V_bipush C0 (v := (42 : Int32)) (by decide) dX12_makeActuator_157 ?_
        refine V_aload_n C0 0 rfl rfl dX12_makeActuator_159 ?_
        refine V_iload_n C0 1 rfl rfl dX12_makeActuator_160 ?_
        refine V_iconst C0 (v := (5 : Int32)) (by decide) dX12_makeActuator_161 ?_
        obtain ⟨v39, I40, q41, h⟩ := bn2_some h
        refine V_callV C0 (st := [.int (42 : Int32), .int x1, .ref (G.ad x0)]) (As := [.int x1, .int (5 : Int32)]) 11 (c_X12_answer G.l G.D G.cA G.ad G.bs G.X C0.2.2.2.2.2.2.2.2.2.1 C0.2.2.2.2.2.2.2.2.2.2.2.2 N x0 x1 (5 : Int32) I37 L R v39 I40 q41) lc_X12_answer lk_X12_250 c_x0.2 c_x0.1 ⟨_, rfl, rfl⟩ rfl (by rw [erm]; decide) (Nat.le_of_ble_eq_true rfl) dX12_makeActuator_162 ?_
        show V G _ 165 [(0, .ref (G.ad x0)), (1, .int x1), (2, .int x2), (3, .int x3), (4, .int x4)] [.int v39, .int (42 : Int32), .int x1, .ref (G.ad x0)] I40 L R
        obtain ⟨I42, q43, h⟩ := bn1_some h
        refine V_callV C0 (st := []) (As := [.int x1, .int (42 : Int32), .int v39]) 11 (c_X12_set G.l G.D G.cA G.ad G.bs G.X C0.2.2.2.2.2.2.2.2.2.1 C0.2.2.2.2.2.2.2.2.2.2.2.2 x0 x1 (42 : Int32) v39 I40 L R I42 q43) lc_X12_set lk_X12_246 c_x0.2 c_x0.1 ⟨_, rfl, rfl⟩ rfl (by rw [erm]; decide) (Nat.le_of_ble_eq_true rfl) dX12_makeActuator_165 ?_
        show V G _ 168 [(0, .ref (G.ad x0)), (1, .int x1), (2, .int x2), (3, .int x3), (4, .int x4)] [] I42 L R
        refine V_aload_n C0 0 rfl rfl dX12_makeActuator_168 ?_
        refine V_iload_n C0 1 rfl rfl dX12_makeActuator_169 ?_
        refine V_iload_n C0 2 rfl rfl dX12_makeActuator_170 ?_
        refine V_aload_n C0 0 rfl rfl dX12_makeActuator_171 ?_
        refine V_iload_n C0 1 rfl rfl dX12_makeActuator_172 ?_
        refine V_bipush C0 (v := (42 : Int32)) (by decide) dX12_makeActuator_173 ?_
        obtain ⟨v44, q45, h⟩ := bn1_some h
        refine V_callV C0 (st := [.int x2, .int x1, .ref (G.ad x0)]) (As := [.int x1, .int (42 : Int32)]) 11 (c_X12_get G.l G.D G.cA G.ad G.bs G.X C0.2.2.2.2.2.2.2.2.2.1 C0.2.2.2.2.2.2.2.2.2.2.2.2 x0 x1 (42 : Int32) I42 L R v44 q45) lc_X12_get lk_X12_211 c_x0.2 c_x0.1 ⟨_, rfl, rfl⟩ rfl (by rw [erm]; decide) (Nat.le_of_ble_eq_true rfl) dX12_makeActuator_175 ?_
        show V G _ 178 [(0, .ref (G.ad x0)), (1, .int x1), (2, .int x2), (3, .int x3), (4, .int x4)] [.int v44, .int x2, .int x1, .ref (G.ad x0)] I42 L R
        obtain ⟨I46, q47, h⟩ := bn1_some h
        refine V_callV C0 (st := []) (As := [.int x1, .int x2, .int v44]) 11 (c_X12_noted G.l G.D G.cA G.ad G.bs G.X C0.2.2.2.2.2.2.2.2.2.1 C0.2.2.2.2.2.2.2.2.2.2.2.2 x0 x1 x2 v44 I42 L R I46 q47) lc_X12_noted lk_X12_253 c_x0.2 c_x0.1 ⟨_, rfl, rfl⟩ rfl (by rw [erm]; decide) (Nat.le_of_ble_eq_true rfl) dX12_makeActuator_178 ?_
        show V G _ 181 [(0, .ref (G.ad x0)), (1, .int x1), (2, .int x2), (3, .int x3), (4, .int x4)] [] I46 L R
        refine V_goto C0 (tgt := 275) (by decide) dX12_makeActuator_181 ?_
        cases h
        exact V_vret C0 dX12_makeActuator_275
      · have h := (if_neg c34).symm.trans h
        have nd1 := nd_add nd1 c34
        by_cases c48 : x2 = (18 : Int32)
        · have h := (if_pos c48).symm.trans h
          refine V_tableC C0 (tgt := 184) (v := (18 : Int32)) c48 (by decide) (by decide) dX12_makeActuator_1 ?_
          refine V_aload_n C0 0 rfl rfl dX12_makeActuator_184 ?_
          refine V_iload_n C0 1 rfl rfl dX12_makeActuator_185 ?_
          refine V_bipush C0 (v := (47 : Int32)) (by decide) dX12_makeActuator_186 ?_
          refine V_aload_n C0 0 rfl rfl dX12_makeActuator_188 ?_
          obtain ⟨v49, I50, q51, h⟩ := bn2_some h
          refine V_callV C0 (st := [.int (47 : Int32), .int x1, .ref (G.ad x0)]) (As := []) 11 (c_X12_draw G.l G.D G.cA G.ad G.bs G.X C0.2.2.2.2.2.2.2.2.2.1 C0.2.2.2.2.2.2.2.2.2.2.2.2 x0 I L R v49 I50 q51) lc_X12_draw lk_X12_242 c_x0.2 c_x0.1 ⟨_, rfl, rfl⟩ rfl (by rw [erm]; decide) (Nat.le_of_ble_eq_true rfl) dX12_makeActuator_189 ?_
          show V G _ 192 [(0, .ref (G.ad x0)), (1, .int x1), (2, .int x2), (3, .int x3), (4, .int x4)] [.int v49, .int (47 : Int32), .int x1, .ref (G.ad x0)] I50 L R
          refine V_iconst C0 (v := (3 : Int32)) (by decide) dX12_makeActuator_192 ?_
          obtain ⟨v52, q53, h⟩ := bn1_some h
          refine V_callS C0 (st := [.int (47 : Int32), .int x1, .ref (G.ad x0)]) (As := [.int v49, .int (3 : Int32)]) (c_X12_mod G.l G.D G.cA G.ad G.bs G.X C0.2.2.2.2.2.2.2.2.2.1 C0.2.2.2.2.2.2.2.2.2.2.2.2 v49 (3 : Int32) I50 L R v52 q53) lc_X12_mod lk_X12_115 rfl (by rw [erm]; decide) (Nat.le_of_ble_eq_true rfl) dX12_makeActuator_193 ?_
          show V G _ 196 [(0, .ref (G.ad x0)), (1, .int x1), (2, .int x2), (3, .int x3), (4, .int x4)] [.int v52, .int (47 : Int32), .int x1, .ref (G.ad x0)] I50 L R
          refine V_iconst C0 (v := (1 : Int32)) (by decide) dX12_makeActuator_196 ?_
          refine V_iadd C0 dX12_makeActuator_197 ?_
          obtain ⟨I54, q55, h⟩ := bn1_some h
          refine V_callV C0 (st := []) (As := [.int x1, .int (47 : Int32), .int (v52 + (1 : Int32))]) 11 (c_X12_set G.l G.D G.cA G.ad G.bs G.X C0.2.2.2.2.2.2.2.2.2.1 C0.2.2.2.2.2.2.2.2.2.2.2.2 x0 x1 (47 : Int32) (v52 + (1 : Int32)) I50 L R I54 q55) lc_X12_set lk_X12_246 c_x0.2 c_x0.1 ⟨_, rfl, rfl⟩ rfl (by rw [erm]; decide) (Nat.le_of_ble_eq_true rfl) dX12_makeActuator_198 ?_
          show V G _ 201 [(0, .ref (G.ad x0)), (1, .int x1), (2, .int x2), (3, .int x3), (4, .int x4)] [] I54 L R
          refine V_aload_n C0 0 rfl rfl dX12_makeActuator_201 ?_
          refine V_iload_n C0 1 rfl rfl dX12_makeActuator_202 ?_
          refine V_bipush C0 (v := (27 : Int32)) (by decide) dX12_makeActuator_203 ?_
          refine V_iload C0 4 rfl dX12_makeActuator_205 ?_
          obtain ⟨I56, q57, h⟩ := bn1_some h
          refine V_callV C0 (st := []) (As := [.int x1, .int (27 : Int32), .int x4]) 11 (c_X12_set G.l G.D G.cA G.ad G.bs G.X C0.2.2.2.2.2.2.2.2.2.1 C0.2.2.2.2.2.2.2.2.2.2.2.2 x0 x1 (27 : Int32) x4 I54 L R I56 q57) lc_X12_set lk_X12_246 c_x0.2 c_x0.1 ⟨_, rfl, rfl⟩ rfl (by rw [erm]; decide) (Nat.le_of_ble_eq_true rfl) dX12_makeActuator_207 ?_
          show V G _ 210 [(0, .ref (G.ad x0)), (1, .int x1), (2, .int x2), (3, .int x3), (4, .int x4)] [] I56 L R
          refine V_aload_n C0 0 rfl rfl dX12_makeActuator_210 ?_
          refine V_iload_n C0 1 rfl rfl dX12_makeActuator_211 ?_
          refine V_bipush C0 (v := (40 : Int32)) (by decide) dX12_makeActuator_212 ?_
          refine V_iconst C0 (v := (0 : Int32)) (by decide) dX12_makeActuator_214 ?_
          obtain ⟨I58, q59, h⟩ := bn1_some h
          refine V_callV C0 (st := []) (As := [.int x1, .int (40 : Int32), .int (0 : Int32)]) 11 (c_X12_set G.l G.D G.cA G.ad G.bs G.X C0.2.2.2.2.2.2.2.2.2.1 C0.2.2.2.2.2.2.2.2.2.2.2.2 x0 x1 (40 : Int32) (0 : Int32) I56 L R I58 q59) lc_X12_set lk_X12_246 c_x0.2 c_x0.1 ⟨_, rfl, rfl⟩ rfl (by rw [erm]; decide) (Nat.le_of_ble_eq_true rfl) dX12_makeActuator_215 ?_
          show V G _ 218 [(0, .ref (G.ad x0)), (1, .int x1), (2, .int x2), (3, .int x3), (4, .int x4)] [] I58 L R
          refine V_aload_n C0 0 rfl rfl dX12_makeActuator_218 ?_
          refine V_iload_n C0 1 rfl rfl dX12_makeActuator_219 ?_
          refine V_iload_n C0 2 rfl rfl dX12_makeActuator_220 ?_
          refine V_aload_n C0 0 rfl rfl dX12_makeActuator_221 ?_
          refine V_iload_n C0 1 rfl rfl dX12_makeActuator_222 ?_
          refine V_iconst C0 (v := (5 : Int32)) (by decide) dX12_makeActuator_223 ?_
          obtain ⟨v60, I61, q62, h⟩ := bn2_some h
          refine V_callV C0 (st := [.int x2, .int x1, .ref (G.ad x0)]) (As := [.int x1, .int (5 : Int32)]) 11 (c_X12_answer G.l G.D G.cA G.ad G.bs G.X C0.2.2.2.2.2.2.2.2.2.1 C0.2.2.2.2.2.2.2.2.2.2.2.2 N x0 x1 (5 : Int32) I58 L R v60 I61 q62) lc_X12_answer lk_X12_250 c_x0.2 c_x0.1 ⟨_, rfl, rfl⟩ rfl (by rw [erm]; decide) (Nat.le_of_ble_eq_true rfl) dX12_makeActuator_224 ?_
          show V G _ 227 [(0, .ref (G.ad x0)), (1, .int x1), (2, .int x2), (3, .int x3), (4, .int x4)] [.int v60, .int x2, .int x1, .ref (G.ad x0)] I61 L R
          obtain ⟨I63, q64, h⟩ := bn1_some h
          refine V_callV C0 (st := []) (As := [.int x1, .int x2, .int v60]) 11 (c_X12_noted G.l G.D G.cA G.ad G.bs G.X C0.2.2.2.2.2.2.2.2.2.1 C0.2.2.2.2.2.2.2.2.2.2.2.2 x0 x1 x2 v60 I61 L R I63 q64) lc_X12_noted lk_X12_253 c_x0.2 c_x0.1 ⟨_, rfl, rfl⟩ rfl (by rw [erm]; decide) (Nat.le_of_ble_eq_true rfl) dX12_makeActuator_227 ?_
          show V G _ 230 [(0, .ref (G.ad x0)), (1, .int x1), (2, .int x2), (3, .int x3), (4, .int x4)] [] I63 L R
          refine V_goto C0 (tgt := 275) (by decide) dX12_makeActuator_230 ?_
          cases h
          exact V_vret C0 dX12_makeActuator_275
        · have h := (if_neg c48).symm.trans h
          have nd1 := nd_add nd1 c48
          refine V_tableN C0 (tgt := 233) nd1 (by decide) (by decide) dX12_makeActuator_1 ?_
          refine V_aload_n C0 0 rfl rfl dX12_makeActuator_233 ?_
          refine V_iload_n C0 1 rfl rfl dX12_makeActuator_234 ?_
          refine V_bipush C0 (v := (48 : Int32)) (by decide) dX12_makeActuator_235 ?_
          refine V_aload_n C0 0 rfl rfl dX12_makeActuator_237 ?_
          refine V_iload_n C0 1 rfl rfl dX12_makeActuator_238 ?_
          refine V_bipush C0 (v := (47 : Int32)) (by decide) dX12_makeActuator_239 ?_
          obtain ⟨v65, q66, h⟩ := bn1_some h
          refine V_callV C0 (st := [.int (48 : Int32), .int x1, .ref (G.ad x0)]) (As := [.int x1, .int (47 : Int32)]) 11 (c_X12_get G.l G.D G.cA G.ad G.bs G.X C0.2.2.2.2.2.2.2.2.2.1 C0.2.2.2.2.2.2.2.2.2.2.2.2 x0 x1 (47 : Int32) I L R v65 q66) lc_X12_get lk_X12_211 c_x0.2 c_x0.1 ⟨_, rfl, rfl⟩ rfl (by rw [erm]; decide) (Nat.le_of_ble_eq_true rfl) dX12_makeActuator_241 ?_
          show V G _ 244 [(0, .ref (G.ad x0)), (1, .int x1), (2, .int x2), (3, .int x3), (4, .int x4)] [.int v65, .int (48 : Int32), .int x1, .ref (G.ad x0)] I L R
          refine V_iconst C0 (v := (1 : Int32)) (by decide) dX12_makeActuator_244 ?_
          refine V_iadd C0 dX12_makeActuator_245 ?_
          obtain ⟨I67, q68, h⟩ := bn1_some h
          refine V_callV C0 (st := []) (As := [.int x1, .int (48 : Int32), .int (v65 + (1 : Int32))]) 11 (c_X12_set G.l G.D G.cA G.ad G.bs G.X C0.2.2.2.2.2.2.2.2.2.1 C0.2.2.2.2.2.2.2.2.2.2.2.2 x0 x1 (48 : Int32) (v65 + (1 : Int32)) I L R I67 q68) lc_X12_set lk_X12_246 c_x0.2 c_x0.1 ⟨_, rfl, rfl⟩ rfl (by rw [erm]; decide) (Nat.le_of_ble_eq_true rfl) dX12_makeActuator_246 ?_
          show V G _ 249 [(0, .ref (G.ad x0)), (1, .int x1), (2, .int x2), (3, .int x3), (4, .int x4)] [] I67 L R
          refine V_aload_n C0 0 rfl rfl dX12_makeActuator_249 ?_
          refine V_iload_n C0 1 rfl rfl dX12_makeActuator_250 ?_
          refine V_bipush C0 (v := (42 : Int32)) (by decide) dX12_makeActuator_251 ?_
          refine V_aload_n C0 0 rfl rfl dX12_makeActuator_253 ?_
          refine V_iload_n C0 1 rfl rfl dX12_makeActuator_254 ?_
          refine V_iconst C0 (v := (5 : Int32)) (by decide) dX12_makeActuator_255 ?_
          obtain ⟨v69, I70, q71, h⟩ := bn2_some h
          refine V_callV C0 (st := [.int (42 : Int32), .int x1, .ref (G.ad x0)]) (As := [.int x1, .int (5 : Int32)]) 11 (c_X12_answer G.l G.D G.cA G.ad G.bs G.X C0.2.2.2.2.2.2.2.2.2.1 C0.2.2.2.2.2.2.2.2.2.2.2.2 N x0 x1 (5 : Int32) I67 L R v69 I70 q71) lc_X12_answer lk_X12_250 c_x0.2 c_x0.1 ⟨_, rfl, rfl⟩ rfl (by rw [erm]; decide) (Nat.le_of_ble_eq_true rfl) dX12_makeActuator_256 ?_
          show V G _ 259 [(0, .ref (G.ad x0)), (1, .int x1), (2, .int x2), (3, .int x3), (4, .int x4)] [.int v69, .int (42 : Int32), .int x1, .ref (G.ad x0)] I70 L R
          obtain ⟨I72, q73, h⟩ := bn1_some h
          refine V_callV C0 (st := []) (As := [.int x1, .int (42 : Int32), .int v69]) 11 (c_X12_set G.l G.D G.cA G.ad G.bs G.X C0.2.2.2.2.2.2.2.2.2.1 C0.2.2.2.2.2.2.2.2.2.2.2.2 x0 x1 (42 : Int32) v69 I70 L R I72 q73) lc_X12_set lk_X12_246 c_x0.2 c_x0.1 ⟨_, rfl, rfl⟩ rfl (by rw [erm]; decide) (Nat.le_of_ble_eq_true rfl) dX12_makeActuator_259 ?_
          show V G _ 262 [(0, .ref (G.ad x0)), (1, .int x1), (2, .int x2), (3, .int x3), (4, .int x4)] [] I72 L R
          refine V_aload_n C0 0 rfl rfl dX12_makeActuator_262 ?_
          refine V_iload_n C0 1 rfl rfl dX12_makeActuator_263 ?_
          refine V_iload_n C0 2 rfl rfl dX12_makeActuator_264 ?_
          refine V_aload_n C0 0 rfl rfl dX12_makeActuator_265 ?_
          refine V_iload_n C0 1 rfl rfl dX12_makeActuator_266 ?_
          refine V_bipush C0 (v := (42 : Int32)) (by decide) dX12_makeActuator_267 ?_
          obtain ⟨v74, q75, h⟩ := bn1_some h
          refine V_callV C0 (st := [.int x2, .int x1, .ref (G.ad x0)]) (As := [.int x1, .int (42 : Int32)]) 11 (c_X12_get G.l G.D G.cA G.ad G.bs G.X C0.2.2.2.2.2.2.2.2.2.1 C0.2.2.2.2.2.2.2.2.2.2.2.2 x0 x1 (42 : Int32) I72 L R v74 q75) lc_X12_get lk_X12_211 c_x0.2 c_x0.1 ⟨_, rfl, rfl⟩ rfl (by rw [erm]; decide) (Nat.le_of_ble_eq_true rfl) dX12_makeActuator_269 ?_
          show V G _ 272 [(0, .ref (G.ad x0)), (1, .int x1), (2, .int x2), (3, .int x3), (4, .int x4)] [.int v74, .int x2, .int x1, .ref (G.ad x0)] I72 L R
          obtain ⟨I76, q77, h⟩ := bn1_some h
          refine V_callV C0 (st := []) (As := [.int x1, .int x2, .int v74]) 11 (c_X12_noted G.l G.D G.cA G.ad G.bs G.X C0.2.2.2.2.2.2.2.2.2.1 C0.2.2.2.2.2.2.2.2.2.2.2.2 x0 x1 x2 v74 I72 L R I76 q77) lc_X12_noted lk_X12_253 c_x0.2 c_x0.1 ⟨_, rfl, rfl⟩ rfl (by rw [erm]; decide) (Nat.le_of_ble_eq_true rfl) dX12_makeActuator_272 ?_
          show V G _ 275 [(0, .ref (G.ad x0)), (1, .int x1), (2, .int x2), (3, .int x3), (4, .int x4)] [] I76 L R
          cases h
          exact V_vret C0 dX12_makeActuator_275
theorem dX12_makeSource_0 : decode cX12_makeSource 0 = .ok (.iload_n 2, 1) := by decide +kernel
theorem dX12_makeSource_1 : decode cX12_makeSource 1 = .ok (.tableswitch 158 22 24 #[27, 65, 110], 27) := by decide +kernel
theorem dX12_makeSource_28 : decode cX12_makeSource 28 = .ok (.aload_n 0, 1) := by decide +kernel
theorem dX12_makeSource_29 : decode cX12_makeSource 29 = .ok (.iload_n 1, 1) := by decide +kernel
theorem dX12_makeSource_30 : decode cX12_makeSource 30 = .ok (.bipush 52, 2) := by decide +kernel
theorem dX12_makeSource_32 : decode cX12_makeSource 32 = .ok (.aload_n 0, 1) := by decide +kernel
theorem dX12_makeSource_33 : decode cX12_makeSource 33 = .ok (.invokevirtual 242, 3) := by decide +kernel
theorem dX12_makeSource_36 : decode cX12_makeSource 36 = .ok (.iconst 3, 1) := by decide +kernel
theorem dX12_makeSource_37 : decode cX12_makeSource 37 = .ok (.invokestatic 115, 3) := by decide +kernel
theorem dX12_makeSource_40 : decode cX12_makeSource 40 = .ok (.invokevirtual 246, 3) := by decide +kernel
theorem dX12_makeSource_43 : decode cX12_makeSource 43 = .ok (.aload_n 0, 1) := by decide +kernel
theorem dX12_makeSource_44 : decode cX12_makeSource 44 = .ok (.iload_n 1, 1) := by decide +kernel
theorem dX12_makeSource_45 : decode cX12_makeSource 45 = .ok (.bipush 43, 2) := by decide +kernel
theorem dX12_makeSource_47 : decode cX12_makeSource 47 = .ok (.iload_n 3, 1) := by decide +kernel
theorem dX12_makeSource_48 : decode cX12_makeSource 48 = .ok (.invokevirtual 246, 3) := by decide +kernel
theorem dX12_makeSource_51 : decode cX12_makeSource 51 = .ok (.aload_n 0, 1) := by decide +kernel
theorem dX12_makeSource_52 : decode cX12_makeSource 52 = .ok (.iload_n 1, 1) := by decide +kernel
theorem dX12_makeSource_53 : decode cX12_makeSource 53 = .ok (.iload_n 2, 1) := by decide +kernel
theorem dX12_makeSource_54 : decode cX12_makeSource 54 = .ok (.aload_n 0, 1) := by decide +kernel
theorem dX12_makeSource_55 : decode cX12_makeSource 55 = .ok (.iload_n 1, 1) := by decide +kernel
theorem dX12_makeSource_56 : decode cX12_makeSource 56 = .ok (.iconst 0, 1) := by decide +kernel
theorem dX12_makeSource_57 : decode cX12_makeSource 57 = .ok (.invokevirtual 250, 3) := by decide +kernel
theorem dX12_makeSource_60 : decode cX12_makeSource 60 = .ok (.invokevirtual 253, 3) := by decide +kernel
theorem dX12_makeSource_63 : decode cX12_makeSource 63 = .ok (.goto 141, 3) := by decide +kernel
theorem dX12_makeSource_66 : decode cX12_makeSource 66 = .ok (.aload_n 0, 1) := by decide +kernel
theorem dX12_makeSource_67 : decode cX12_makeSource 67 = .ok (.iload_n 1, 1) := by decide +kernel
theorem dX12_makeSource_68 : decode cX12_makeSource 68 = .ok (.bipush 53, 2) := by decide +kernel
theorem dX12_makeSource_70 : decode cX12_makeSource 70 = .ok (.aload_n 0, 1) := by decide +kernel
theorem dX12_makeSource_71 : decode cX12_makeSource 71 = .ok (.iload_n 1, 1) := by decide +kernel
theorem dX12_makeSource_72 : decode cX12_makeSource 72 = .ok (.bipush 52, 2) := by decide +kernel
theorem dX12_makeSource_74 : decode cX12_makeSource 74 = .ok (.invokevirtual 211, 3) := by decide +kernel
theorem dX12_makeSource_77 : decode cX12_makeSource 77 = .ok (.bipush 10, 2) := by decide +kernel
theorem dX12_makeSource_79 : decode cX12_makeSource 79 = .ok (.imul, 1) := by decide +kernel
theorem dX12_makeSource_80 : decode cX12_makeSource 80 = .ok (.invokevirtual 246, 3) := by decide +kernel
theorem dX12_makeSource_83 : decode cX12_makeSource 83 = .ok (.aload_n 0, 1) := by decide +kernel
theorem dX12_makeSource_84 : decode cX12_makeSource 84 = .ok (.iload_n 1, 1) := by decide +kernel
theorem dX12_makeSource_85 : decode cX12_makeSource 85 = .ok (.bipush 54, 2) := by decide +kernel
theorem dX12_makeSource_87 : decode cX12_makeSource 87 = .ok (.iload 4, 2) := by decide +kernel
theorem dX12_makeSource_89 : decode cX12_makeSource 89 = .ok (.invokevirtual 246, 3) := by decide +kernel
theorem dX12_makeSource_92 : decode cX12_makeSource 92 = .ok (.aload_n 0, 1) := by decide +kernel
theorem dX12_makeSource_93 : decode cX12_makeSource 93 = .ok (.iload_n 1, 1) := by decide +kernel
theorem dX12_makeSource_94 : decode cX12_makeSource 94 = .ok (.iload_n 2, 1) := by decide +kernel
theorem dX12_makeSource_95 : decode cX12_makeSource 95 = .ok (.aload_n 0, 1) := by decide +kernel
theorem dX12_makeSource_96 : decode cX12_makeSource 96 = .ok (.iload_n 1, 1) := by decide +kernel
theorem dX12_makeSource_97 : decode cX12_makeSource 97 = .ok (.bipush 53, 2) := by decide +kernel
theorem dX12_makeSource_99 : decode cX12_makeSource 99 = .ok (.invokevirtual 211, 3) := by decide +kernel
theorem dX12_makeSource_102 : decode cX12_makeSource 102 = .ok (.iload 4, 2) := by decide +kernel
theorem dX12_makeSource_104 : decode cX12_makeSource 104 = .ok (.iadd, 1) := by decide +kernel
theorem dX12_makeSource_105 : decode cX12_makeSource 105 = .ok (.invokevirtual 253, 3) := by decide +kernel
theorem dX12_makeSource_108 : decode cX12_makeSource 108 = .ok (.goto 96, 3) := by decide +kernel
theorem dX12_makeSource_111 : decode cX12_makeSource 111 = .ok (.aload_n 0, 1) := by decide +kernel
theorem dX12_makeSource_112 : decode cX12_makeSource 112 = .ok (.iload_n 1, 1) := by decide +kernel
theorem dX12_makeSource_113 : decode cX12_makeSource 113 = .ok (.bipush 56, 2) := by decide +kernel
theorem dX12_makeSource_115 : decode cX12_makeSource 115 = .ok (.aload_n 0, 1) := by decide +kernel
theorem dX12_makeSource_116 : decode cX12_makeSource 116 = .ok (.iload_n 1, 1) := by decide +kernel
theorem dX12_makeSource_117 : decode cX12_makeSource 117 = .ok (.bipush 54, 2) := by decide +kernel
theorem dX12_makeSource_119 : decode cX12_makeSource 119 = .ok (.invokevirtual 211, 3) := by decide +kernel
theorem dX12_makeSource_122 : decode cX12_makeSource 122 = .ok (.sipush 900, 3) := by decide +kernel
theorem dX12_makeSource_125 : decode cX12_makeSource 125 = .ok (.imul, 1) := by decide +kernel
theorem dX12_makeSource_126 : decode cX12_makeSource 126 = .ok (.aload_n 0, 1) := by decide +kernel
theorem dX12_makeSource_127 : decode cX12_makeSource 127 = .ok (.iload_n 1, 1) := by decide +kernel
theorem dX12_makeSource_128 : decode cX12_makeSource 128 = .ok (.bipush 53, 2) := by decide +kernel
theorem dX12_makeSource_130 : decode cX12_makeSource 130 = .ok (.invokevirtual 211, 3) := by decide +kernel
theorem dX12_makeSource_133 : decode cX12_makeSource 133 = .ok (.iadd, 1) := by decide +kernel
theorem dX12_makeSource_134 : decode cX12_makeSource 134 = .ok (.sipush 3600, 3) := by decide +kernel
theorem dX12_makeSource_137 : decode cX12_makeSource 137 = .ok (.invokestatic 115, 3) := by decide +kernel
theorem dX12_makeSource_140 : decode cX12_makeSource 140 = .ok (.invokevirtual 246, 3) := by decide +kernel
theorem dX12_makeSource_143 : decode cX12_makeSource 143 = .ok (.aload_n 0, 1) := by decide +kernel
theorem dX12_makeSource_144 : decode cX12_makeSource 144 = .ok (.iload_n 1, 1) := by decide +kernel
theorem dX12_makeSource_145 : decode cX12_makeSource 145 = .ok (.iload_n 2, 1) := by decide +kernel
theorem dX12_makeSource_146 : decode cX12_makeSource 146 = .ok (.aload_n 0, 1) := by decide +kernel
theorem dX12_makeSource_147 : decode cX12_makeSource 147 = .ok (.iload_n 1, 1) := by decide +kernel
theorem dX12_makeSource_148 : decode cX12_makeSource 148 = .ok (.bipush 56, 2) := by decide +kernel
theorem dX12_makeSource_150 : decode cX12_makeSource 150 = .ok (.invokevirtual 211, 3) := by decide +kernel
theorem dX12_makeSource_153 : decode cX12_makeSource 153 = .ok (.invokevirtual 253, 3) := by decide +kernel
theorem dX12_makeSource_156 : decode cX12_makeSource 156 = .ok (.goto 48, 3) := by decide +kernel
theorem dX12_makeSource_159 : decode cX12_makeSource 159 = .ok (.aload_n 0, 1) := by decide +kernel
theorem dX12_makeSource_160 : decode cX12_makeSource 160 = .ok (.iload_n 1, 1) := by decide +kernel
theorem dX12_makeSource_161 : decode cX12_makeSource 161 = .ok (.bipush 57, 2) := by decide +kernel
theorem dX12_makeSource_163 : decode cX12_makeSource 163 = .ok (.aload_n 0, 1) := by decide +kernel
theorem dX12_makeSource_164 : decode cX12_makeSource 164 = .ok (.iload_n 1, 1) := by decide +kernel
theorem dX12_makeSource_165 : decode cX12_makeSource 165 = .ok (.iconst 3, 1) := by decide +kernel
theorem dX12_makeSource_166 : decode cX12_makeSource 166 = .ok (.invokevirtual 211, 3) := by decide +kernel
theorem dX12_makeSource_169 : decode cX12_makeSource 169 = .ok (.iconst 2, 1) := by decide +kernel
theorem dX12_makeSource_170 : decode cX12_makeSource 170 = .ok (.imul, 1) := by decide +kernel
theorem dX12_makeSource_171 : decode cX12_makeSource 171 = .ok (.aload_n 0, 1) := by decide +kernel
theorem dX12_makeSource_172 : decode cX12_makeSource 172 = .ok (.iload_n 1, 1) := by decide +kernel
theorem dX12_makeSource_173 : decode cX12_makeSource 173 = .ok (.bipush 52, 2) := by decide +kernel
theorem dX12_makeSource_175 : decode cX12_makeSource 175 = .ok (.invokevirtual 211, 3) := by decide +kernel
theorem dX12_makeSource_178 : decode cX12_makeSource 178 = .ok (.iadd, 1) := by decide +kernel
theorem dX12_makeSource_179 : decode cX12_makeSource 179 = .ok (.invokevirtual 246, 3) := by decide +kernel
theorem dX12_makeSource_182 : decode cX12_makeSource 182 = .ok (.aload_n 0, 1) := by decide +kernel
theorem dX12_makeSource_183 : decode cX12_makeSource 183 = .ok (.iload_n 1, 1) := by decide +kernel
theorem dX12_makeSource_184 : decode cX12_makeSource 184 = .ok (.bipush 27, 2) := by decide +kernel
theorem dX12_makeSource_186 : decode cX12_makeSource 186 = .ok (.iload 4, 2) := by decide +kernel
theorem dX12_makeSource_188 : decode cX12_makeSource 188 = .ok (.invokevirtual 246, 3) := by decide +kernel
theorem dX12_makeSource_191 : decode cX12_makeSource 191 = .ok (.aload_n 0, 1) := by decide +kernel
theorem dX12_makeSource_192 : decode cX12_makeSource 192 = .ok (.iload_n 1, 1) := by decide +kernel
theorem dX12_makeSource_193 : decode cX12_makeSource 193 = .ok (.iload_n 2, 1) := by decide +kernel
theorem dX12_makeSource_194 : decode cX12_makeSource 194 = .ok (.aload_n 0, 1) := by decide +kernel
theorem dX12_makeSource_195 : decode cX12_makeSource 195 = .ok (.iload_n 1, 1) := by decide +kernel
theorem dX12_makeSource_196 : decode cX12_makeSource 196 = .ok (.bipush 57, 2) := by decide +kernel
theorem dX12_makeSource_198 : decode cX12_makeSource 198 = .ok (.invokevirtual 211, 3) := by decide +kernel
theorem dX12_makeSource_201 : decode cX12_makeSource 201 = .ok (.invokevirtual 253, 3) := by decide +kernel
theorem dX12_makeSource_204 : decode cX12_makeSource 204 = .ok (.return_, 1) := by decide +kernel
def F_X12_makeSource (N : Nat) (x0 : Nat) (x1 : Int32) (x2 : Int32) (x3 : Int32) (x4 : Int32) (I : MI) (L : ML) (R : MR) : Option (MI) :=
  if kd x0 = 11 ∧ x0 < NN then
  if x2 = (22 : Int32) then
    bn2 (F_X12_draw x0 I L R) fun v3 I4 =>
    bn1 (F_X12_mod v3 (3 : Int32) I4 L R) fun v6 =>
    bn1 (F_X12_set x0 x1 (52 : Int32) v6 I4 L R) fun I8 =>
    bn1 (F_X12_set x0 x1 (43 : Int32) x3 I8 L R) fun I10 =>
    bn2 (F_X12_answer N x0 x1 (0 : Int32) I10 L R) fun v12 I13 =>
    bn1 (F_X12_noted x0 x1 x2 v12 I13 L R) fun I15 =>
    some (I15)
  else
    if x2 = (23 : Int32) then
      bn1 (F_X12_get x0 x1 (52 : Int32) I L R) fun v18 =>
      bn1 (F_X12_set x0 x1 (53 : Int32) (v18 * (10 : Int32)) I L R) fun I20 =>
      bn1 (F_X12_set x0 x1 (54 : Int32) x4 I20 L R) fun I22 =>
      bn1 (F_X12_get x0 x1 (53 : Int32) I22 L R) fun v24 =>
      bn1 (F_X12_noted x0 x1 x2 (v24 + x4) I22 L R) fun I26 =>
      some (I26)
    else
      if x2 = (24 : Int32) then
        bn1 (F_X12_get x0 x1 (54 : Int32) I L R) fun v29 =>
        bn1 (F_X12_get x0 x1 (53 : Int32) I L R) fun v31 =>
        bn1 (F_X12_mod ((v29 * (900 : Int32)) + v31) (3600 : Int32) I L R) fun v33 =>
        bn1 (F_X12_set x0 x1 (56 : Int32) v33 I L R) fun I35 =>
        bn1 (F_X12_get x0 x1 (56 : Int32) I35 L R) fun v37 =>
        bn1 (F_X12_noted x0 x1 x2 v37 I35 L R) fun I39 =>
        some (I39)
      else
        bn1 (F_X12_get x0 x1 (3 : Int32) I L R) fun v41 =>
        bn1 (F_X12_get x0 x1 (52 : Int32) I L R) fun v43 =>
        bn1 (F_X12_set x0 x1 (57 : Int32) ((v41 * (2 : Int32)) + v43) I L R) fun I45 =>
        bn1 (F_X12_set x0 x1 (27 : Int32) x4 I45 L R) fun I47 =>
        bn1 (F_X12_get x0 x1 (57 : Int32) I47 L R) fun v49 =>
        bn1 (F_X12_noted x0 x1 x2 v49 I47 L R) fun I51 =>
        some (I51)
  else none
set_option maxRecDepth 100000 in
set_option maxHeartbeats 4000000 in
theorem c_X12_makeSource (l : Launch) (D : va_G) (cA : Nat → ClassId) (ad : Nat → Nat) (bs : Nat) (X : State → Prop) (hAd : Ax ad bs) (hX : Stb bs X) (N : Nat) (x0 : Nat) (x1 : Int32) (x2 : Int32) (x3 : Int32) (x4 : Int32) (I : MI) (L : ML) (R : MR) (I' : MI) (h : F_X12_makeSource N x0 x1 x2 x3 x4 I L R = some (I')) : Cn l D cA ad bs X yX12_makeSource cX12_makeSource 5 none 3 71 [.ref (ad x0), .int x1, .int x2, .int x3, .int x4] I L R (none, I', L, R) := by
  refine Cn.ofV hAd hX [(0, .ref (ad x0)), (1, .int x1), (2, .int x2), (3, .int x3), (4, .int x4)] rfl (Nat.le_of_ble_eq_true rfl) (by decide) ?_
  intro G el eD ecA ead ebs eX erm eNL C0
  subst el eD ecA ead ebs eX
  unfold F_X12_makeSource at h
  obtain ⟨c_x0, h⟩ := ite_some h
  refine V_iload_n C0 2 rfl rfl dX12_makeSource_0 ?_
  have nd1 := nd_0 x2
  by_cases c2 : x2 = (22 : Int32)
  · have h := (if_pos c2).symm.trans h
    refine V_tableC C0 (tgt := 28) (v := (22 : Int32)) c2 (by decide) (by decide) dX12_makeSource_1 ?_
    refine V_aload_n C0 0 rfl rfl dX12_makeSource_28 ?_
    refine V_iload_n C0 1 rfl rfl dX12_makeSource_29 ?_
    refine V_bipush C0 (v := (52 : Int32)) (by decide) dX12_makeSource_30 ?_
    refine V_aload_n C0 0 rfl rfl dX12_makeSource_32 ?_
    obtain ⟨v3, I4, q5, h⟩ := bn2_some h
    refine V_callV C0 (st := [.int (52 : Int32), .int x1, .ref (G.ad x0)]) (As := []) 11 (c_X12_draw G.l G.D G.cA G.ad G.bs G.X C0.2.2.2.2.2.2.2.2.2.1 C0.2.2.2.2.2.2.2.2.2.2.2.2 x0 I L R v3 I4 q5) lc_X12_draw lk_X12_242 c_x0.2 c_x0.1 ⟨_, rfl, rfl⟩ rfl (by rw [erm]; decide) (Nat.le_of_ble_eq_true rfl) dX12_makeSource_33 ?_
    show V G _ 36 [(0, .ref (G.ad x0)), (1, .int x1), (2, .int x2), (3, .int x3), (4, .int x4)] [.int v3, .int (52 : Int32), .int x1, .ref (G.ad x0)] I4 L R
    refine V_iconst C0 (v := (3 : Int32)) (by decide) dX12_makeSource_36 ?_
    obtain ⟨v6, q7, h⟩ := bn1_some h
    refine V_callS C0 (st := [.int (52 : Int32), .int x1, .ref (G.ad x0)]) (As := [.int v3, .int (3 : Int32)]) (c_X12_mod G.l G.D G.cA G.ad G.bs G.X C0.2.2.2.2.2.2.2.2.2.1 C0.2.2.2.2.2.2.2.2.2.2.2.2 v3 (3 : Int32) I4 L R v6 q7) lc_X12_mod lk_X12_115 rfl (by rw [erm]; decide) (Nat.le_of_ble_eq_true rfl) dX12_makeSource_37 ?_
    show V G _ 40 [(0, .ref (G.ad x0)), (1, .int x1), (2, .int x2), (3, .int x3), (4, .int x4)] [.int v6, .int (52 : Int32), .int x1, .ref (G.ad x0)] I4 L R
    obtain ⟨I8, q9, h⟩ := bn1_some h
    refine V_callV C0 (st := []) (As := [.int x1, .int (52 : Int32), .int v6]) 11 (c_X12_set G.l G.D G.cA G.ad G.bs G.X C0.2.2.2.2.2.2.2.2.2.1 C0.2.2.2.2.2.2.2.2.2.2.2.2 x0 x1 (52 : Int32) v6 I4 L R I8 q9) lc_X12_set lk_X12_246 c_x0.2 c_x0.1 ⟨_, rfl, rfl⟩ rfl (by rw [erm]; decide) (Nat.le_of_ble_eq_true rfl) dX12_makeSource_40 ?_
    show V G _ 43 [(0, .ref (G.ad x0)), (1, .int x1), (2, .int x2), (3, .int x3), (4, .int x4)] [] I8 L R
    refine V_aload_n C0 0 rfl rfl dX12_makeSource_43 ?_
    refine V_iload_n C0 1 rfl rfl dX12_makeSource_44 ?_
    refine V_bipush C0 (v := (43 : Int32)) (by decide) dX12_makeSource_45 ?_
    refine V_iload_n C0 3 rfl rfl dX12_makeSource_47 ?_
    obtain ⟨I10, q11, h⟩ := bn1_some h
    refine V_callV C0 (st := []) (As := [.int x1, .int (43 : Int32), .int x3]) 11 (c_X12_set G.l G.D G.cA G.ad G.bs G.X C0.2.2.2.2.2.2.2.2.2.1 C0.2.2.2.2.2.2.2.2.2.2.2.2 x0 x1 (43 : Int32) x3 I8 L R I10 q11) lc_X12_set lk_X12_246 c_x0.2 c_x0.1 ⟨_, rfl, rfl⟩ rfl (by rw [erm]; decide) (Nat.le_of_ble_eq_true rfl) dX12_makeSource_48 ?_
    show V G _ 51 [(0, .ref (G.ad x0)), (1, .int x1), (2, .int x2), (3, .int x3), (4, .int x4)] [] I10 L R
    refine V_aload_n C0 0 rfl rfl dX12_makeSource_51 ?_
    refine V_iload_n C0 1 rfl rfl dX12_makeSource_52 ?_
    refine V_iload_n C0 2 rfl rfl dX12_makeSource_53 ?_
    refine V_aload_n C0 0 rfl rfl dX12_makeSource_54 ?_
    refine V_iload_n C0 1 rfl rfl dX12_makeSource_55 ?_
    refine V_iconst C0 (v := (0 : Int32)) (by decide) dX12_makeSource_56 ?_
    obtain ⟨v12, I13, q14, h⟩ := bn2_some h
    refine V_callV C0 (st := [.int x2, .int x1, .ref (G.ad x0)]) (As := [.int x1, .int (0 : Int32)]) 11 (c_X12_answer G.l G.D G.cA G.ad G.bs G.X C0.2.2.2.2.2.2.2.2.2.1 C0.2.2.2.2.2.2.2.2.2.2.2.2 N x0 x1 (0 : Int32) I10 L R v12 I13 q14) lc_X12_answer lk_X12_250 c_x0.2 c_x0.1 ⟨_, rfl, rfl⟩ rfl (by rw [erm]; decide) (Nat.le_of_ble_eq_true rfl) dX12_makeSource_57 ?_
    show V G _ 60 [(0, .ref (G.ad x0)), (1, .int x1), (2, .int x2), (3, .int x3), (4, .int x4)] [.int v12, .int x2, .int x1, .ref (G.ad x0)] I13 L R
    obtain ⟨I15, q16, h⟩ := bn1_some h
    refine V_callV C0 (st := []) (As := [.int x1, .int x2, .int v12]) 11 (c_X12_noted G.l G.D G.cA G.ad G.bs G.X C0.2.2.2.2.2.2.2.2.2.1 C0.2.2.2.2.2.2.2.2.2.2.2.2 x0 x1 x2 v12 I13 L R I15 q16) lc_X12_noted lk_X12_253 c_x0.2 c_x0.1 ⟨_, rfl, rfl⟩ rfl (by rw [erm]; decide) (Nat.le_of_ble_eq_true rfl) dX12_makeSource_60 ?_
    show V G _ 63 [(0, .ref (G.ad x0)), (1, .int x1), (2, .int x2), (3, .int x3), (4, .int x4)] [] I15 L R
    refine V_goto C0 (tgt := 204) (by decide) dX12_makeSource_63 ?_
    cases h
    exact V_vret C0 dX12_makeSource_204
  · have h := (if_neg c2).symm.trans h
    have nd1 := nd_add nd1 c2
    by_cases c17 : x2 = (23 : Int32)
    · have h := (if_pos c17).symm.trans h
      refine V_tableC C0 (tgt := 66) (v := (23 : Int32)) c17 (by decide) (by decide) dX12_makeSource_1 ?_
      refine V_aload_n C0 0 rfl rfl dX12_makeSource_66 ?_
      refine V_iload_n C0 1 rfl rfl dX12_makeSource_67 ?_
      refine V_bipush C0 (v := (53 : Int32)) (by decide) dX12_makeSource_68 ?_
      refine V_aload_n C0 0 rfl rfl dX12_makeSource_70 ?_
      refine V_iload_n C0 1 rfl rfl dX12_makeSource_71 ?_
      refine V_bipush C0 (v := (52 : Int32)) (by decide) dX12_makeSource_72 ?_
      obtain ⟨v18, q19, h⟩ := bn1_some h
      refine V_callV C0 (st := [.int (53 : Int32), .int x1, .ref (G.ad x0)]) (As := [.int x1, .int (52 : Int32)]) 11 (c_X12_get G.l G.D G.cA G.ad G.bs G.X C0.2.2.2.2.2.2.2.2.2.1 C0.2.2.2.2.2.2.2.2.2.2.2.2 x0 x1 (52 : Int32) I L R v18 q19) lc_X12_get lk_X12_211 c_x0.2 c_x0.1 ⟨_, rfl, rfl⟩ rfl (by rw [erm]; decide) (Nat.le_of_ble_eq_true rfl) dX12_makeSource_74 ?_
      show V G _ 77 [(0, .ref (G.ad x0)), (1, .int x1), (2, .int x2), (3, .int x3), (4, .int x4)] [.int v18, .int (53 : Int32), .int x1, .ref (G.ad x0)] I L R
      refine V_bipush C0 (v := (10 : Int32)) (by decide) dX12_makeSource_77 ?_
      refine V_imul C0 dX12_makeSource_79 ?_
      obtain ⟨I20, q21, h⟩ := bn1_some h
      refine V_callV C0 (st := []) (As := [.int x1, .int (53 : Int32), .int (v18 * (10 : Int32))]) 11 (c_X12_set G.l G.D G.cA G.ad G.bs G.X C0.2.2.2.2.2.2.2.2.2.1 C0.2.2.2.2.2.2.2.2.2.2.2.2 x0 x1 (53 : Int32) (v18 * (10 : Int32)) I L R I20 q21) lc_X12_set lk_X12_246 c_x0.2 c_x0.1 ⟨_, rfl, rfl⟩ rfl (by rw [erm]; decide) (Nat.le_of_ble_eq_true rfl) dX12_makeSource_80 ?_
      show V G _ 83 [(0, .ref (G.ad x0)), (1, .int x1), (2, .int x2), (3, .int x3), (4, .int x4)] [] I20 L R
      refine V_aload_n C0 0 rfl rfl dX12_makeSource_83 ?_
      refine V_iload_n C0 1 rfl rfl dX12_makeSource_84 ?_
      refine V_bipush C0 (v := (54 : Int32)) (by decide) dX12_makeSource_85 ?_
      refine V_iload C0 4 rfl dX12_makeSource_87 ?_
      obtain ⟨I22, q23, h⟩ := bn1_some h
      refine V_callV C0 (st := []) (As := [.int x1, .int (54 : Int32), .int x4]) 11 (c_X12_set G.l G.D G.cA G.ad G.bs G.X C0.2.2.2.2.2.2.2.2.2.1 C0.2.2.2.2.2.2.2.2.2.2.2.2 x0 x1 (54 : Int32) x4 I20 L R I22 q23) lc_X12_set lk_X12_246 c_x0.2 c_x0.1 ⟨_, rfl, rfl⟩ rfl (by rw [erm]; decide) (Nat.le_of_ble_eq_true rfl) dX12_makeSource_89 ?_
      show V G _ 92 [(0, .ref (G.ad x0)), (1, .int x1), (2, .int x2), (3, .int x3), (4, .int x4)] [] I22 L R
      refine V_aload_n C0 0 rfl rfl dX12_makeSource_92 ?_
      refine V_iload_n C0 1 rfl rfl dX12_makeSource_93 ?_
      refine V_iload_n C0 2 rfl rfl dX12_makeSource_94 ?_
      refine V_aload_n C0 0 rfl rfl dX12_makeSource_95 ?_
      refine V_iload_n C0 1 rfl rfl dX12_makeSource_96 ?_
      refine V_bipush C0 (v := (53 : Int32)) (by decide) dX12_makeSource_97 ?_
      obtain ⟨v24, q25, h⟩ := bn1_some h
      refine V_callV C0 (st := [.int x2, .int x1, .ref (G.ad x0)]) (As := [.int x1, .int (53 : Int32)]) 11 (c_X12_get G.l G.D G.cA G.ad G.bs G.X C0.2.2.2.2.2.2.2.2.2.1 C0.2.2.2.2.2.2.2.2.2.2.2.2 x0 x1 (53 : Int32) I22 L R v24 q25) lc_X12_get lk_X12_211 c_x0.2 c_x0.1 ⟨_, rfl, rfl⟩ rfl (by rw [erm]; decide) (Nat.le_of_ble_eq_true rfl) dX12_makeSource_99 ?_
      show V G _ 102 [(0, .ref (G.ad x0)), (1, .int x1), (2, .int x2), (3, .int x3), (4, .int x4)] [.int v24, .int x2, .int x1, .ref (G.ad x0)] I22 L R
      refine V_iload C0 4 rfl dX12_makeSource_102 ?_
      refine V_iadd C0 dX12_makeSource_104 ?_
      obtain ⟨I26, q27, h⟩ := bn1_some h
      refine V_callV C0 (st := []) (As := [.int x1, .int x2, .int (v24 + x4)]) 11 (c_X12_noted G.l G.D G.cA G.ad G.bs G.X C0.2.2.2.2.2.2.2.2.2.1 C0.2.2.2.2.2.2.2.2.2.2.2.2 x0 x1 x2 (v24 + x4) I22 L R I26 q27) lc_X12_noted lk_X12_253 c_x0.2 c_x0.1 ⟨_, rfl, rfl⟩ rfl (by rw [erm]; decide) (Nat.le_of_ble_eq_true rfl) dX12_makeSource_105 ?_
      show V G _ 108 [(0, .ref (G.ad x0)), (1, .int x1), (2, .int x2), (3, .int x3), (4, .int x4)] [] I26 L R
      refine V_goto C0 (tgt := 204) (by decide) dX12_makeSource_108 ?_
      cases h
      exact V_vret C0 dX12_makeSource_204
    · have h := (if_neg c17).symm.trans h
      have nd1 := nd_add nd1 c17
      by_cases c28 : x2 = (24 : Int32)
      · have h := (if_pos c28).symm.trans h
        refine V_tableC C0 (tgt := 111) (v := (24 : Int32)) c28 (by decide) (by decide) dX12_makeSource_1 ?_
        refine V_aload_n C0 0 rfl rfl dX12_makeSource_111 ?_
        refine V_iload_n C0 1 rfl rfl dX12_makeSource_112 ?_
        refine V_bipush C0 (v := (56 : Int32)) (by decide) dX12_makeSource_113 ?_
        refine V_aload_n C0 0 rfl rfl dX12_makeSource_115 ?_
        refine V_iload_n C0 1 rfl rfl dX12_makeSource_116 ?_
        refine V_bipush C0 (v := (54 : Int32)) (by decide) dX12_makeSource_117 ?_
        obtain ⟨v29, q30, h⟩ := bn1_some h
        refine V_callV C0 (st := [.int (56 : Int32), .int x1, .ref (G.ad x0)]) (As := [.int x1, .int (54 : Int32)]) 11 (c_X12_get G.l G.D G.cA G.ad G.bs G.X C0.2.2.2.2.2.2.2.2.2.1 C0.2.2.2.2.2.2.2.2.2.2.2.2 x0 x1 (54 : Int32) I L R v29 q30) lc_X12_get lk_X12_211 c_x0.2 c_x0.1 ⟨_, rfl, rfl⟩ rfl (by rw [erm]; decide) (Nat.le_of_ble_eq_true rfl) dX12_makeSource_119 ?_
        show V G _ 122 [(0, .ref (G.ad x0)), (1, .int x1), (2, .int x2), (3, .int x3), (4, .int x4)] [.int v29, .int (56 : Int32), .int x1, .ref (G.ad x0)] I L R
        refine V_sipush C0 (v := (900 : Int32)) (by decide) dX12_makeSource_122 ?_
        refine V_imul C0 dX12_makeSource_125 ?_
        refine V_aload_n C0 0 rfl rfl dX12_makeSource_126 ?_
        refine V_iload_n C0 1 rfl rfl dX12_makeSource_127 ?_
        refine V_bipush C0 (v := (53 : Int32)) (by decide) dX12_makeSource_128 ?_
        obtain ⟨v31, q32, h⟩ := bn1_some h
        refine V_callV C0 (st := [.int (v29 * (900 : Int32)), .int (56 : Int32), .int x1, .ref (G.ad x0)]) (As := [.int x1, .int (53 : Int32)]) 11 (c_X12_get G.l G.D G.cA G.ad G.bs G.X C0.2.2.2.2.2.2.2.2.2.1 C0.2.2.2.2.2.2.2.2.2.2.2.2 x0 x1 (53 : Int32) I L R v31 q32) lc_X12_get lk_X12_211 c_x0.2 c_x0.1 ⟨_, rfl, rfl⟩ rfl (by rw [erm]; decide) (Nat.le_of_ble_eq_true rfl) dX12_makeSource_130 ?_
        show V G _ 133 [(0, .ref (G.ad x0)), (1, .int x1), (2, .int x2), (3, .int x3), (4, .int x4)] [.int v31, .int (v29 * (900 : Int32)), .int (56 : Int32), .int x1, .ref (G.ad x0)] I L R
        refine V_iadd C0 dX12_makeSource_133 ?_
        refine V_sipush C0 (v := (3600 : Int32)) (by decide) dX12_makeSource_134 ?_
        obtain ⟨v33, q34, h⟩ := bn1_some h
        refine V_callS C0 (st := [.int (56 : Int32), .int x1, .ref (G.ad x0)]) (As := [.int ((v29 * (900 : Int32)) + v31), .int (3600 : Int32)]) (c_X12_mod G.l G.D G.cA G.ad G.bs G.X C0.2.2.2.2.2.2.2.2.2.1 C0.2.2.2.2.2.2.2.2.2.2.2.2 ((v29 * (900 : Int32)) + v31) (3600 : Int32) I L R v33 q34) lc_X12_mod lk_X12_115 rfl (by rw [erm]; decide) (Nat.le_of_ble_eq_true rfl) dX12_makeSource_137 ?_
        show V G _ 140 [(0, .ref (G.ad x0)), (1, .int x1), (2, .int x2), (3, .int x3), (4, .int x4)] [.int v33, .int (56 : Int32), .int x1, .ref (G.ad x0)] I L R
        obtain ⟨I35, q36, h⟩ := bn1_some h
        refine V_callV C0 (st := []) (As := [.int x1, .int (56 : Int32), .int v33]) 11 (c_X12_set G.l G.D G.cA G.ad G.bs G.X C0.2.2.2.2.2.2.2.2.2.1 C0.2.2.2.2.2.2.2.2.2.2.2.2 x0 x1 (56 : Int32) v33 I L R I35 q36) lc_X12_set lk_X12_246 c_x0.2 c_x0.1 ⟨_, rfl, rfl⟩ rfl (by rw [erm]; decide) (Nat.le_of_ble_eq_true rfl) dX12_makeSource_140 ?_
        show V G _ 143 [(0, .ref (G.ad x0)), (1, .int x1), (2, .int x2), (3, .int x3), (4, .int x4)] [] I35 L R
        refine V_aload_n C0 0 rfl rfl dX12_makeSource_143 ?_
        refine V_iload_n C0 1 rfl rfl dX12_makeSource_144 ?_
        refine V_iload_n C0 2 rfl rfl dX12_makeSource_145 ?_
        refine V_aload_n C0 0 rfl rfl dX12_makeSource_146 ?_
        refine V_iload_n C0 1 rfl rfl dX12_makeSource_147 ?_
        refine V_bipush C0 (v := (56 : Int32)) (by decide) dX12_makeSource_148 ?_
        obtain ⟨v37, q38, h⟩ := bn1_some h
        refine V_callV C0 (st := [.int x2, .int x1, .ref (G.ad x0)]) (As := [.int x1, .int (56 : Int32)]) 11 (c_X12_get G.l G.D G.cA G.ad G.bs G.X C0.2.2.2.2.2.2.2.2.2.1 C0.2.2.2.2.2.2.2.2.2.2.2.2 x0 x1 (56 : Int32) I35 L R v37 q38) lc_X12_get lk_X12_211 c_x0.2 c_x0.1 ⟨_, rfl, rfl⟩ rfl (by rw [erm]; decide) (Nat.le_of_ble_eq_true rfl) dX12_makeSource_150 ?_
        show V G _ 153 [(0, .ref (G.ad x0)), (1, .int x1), (2, .int x2), (3, .int x3), (4, .int x4)] [.int v37, .int x2, .int x1, .ref (G.ad x0)] I35 L R
        obtain ⟨I39, q40, h⟩ := bn1_some h
        refine V_callV C0 (st := []) (As := [.int x1, .int x2, .int v37]) 11 (c_X12_noted G.l G.D G.cA G.ad G.bs G.X C0.2.2.2.2.2.2.2.2.2.1 C0.2.2.2.2.2.2.2.2.2.2.2.2 x0 x1 x2 v37 I35 L R I39 q40) lc_X12_noted lk_X12_253 c_x0.2 c_x0.1 ⟨_, rfl, rfl⟩ rfl (by rw [erm]; decide) (Nat.le_of_ble_eq_true rfl) dX12_makeSource_153 ?_
        show V G _ 156 [(0, .ref (G.ad x0)), (1, .int x1), (2, .int x2), (3, .int x3), (4, .int x4)] [] I39 L R
        refine V_goto C0 (tgt := 204) (by decide) dX12_makeSource_156 ?_
        cases h
        exact V_vret C0 dX12_makeSource_204
      · have h := (if_neg c28).symm.trans h
        have nd1 := nd_add nd1 c28
        refine V_tableN C0 (tgt := 159) nd1 (by decide) (by decide) dX12_makeSource_1 ?_
        refine V_aload_n C0 0 rfl rfl dX12_makeSource_159 ?_
        refine V_iload_n C0 1 rfl rfl dX12_makeSource_160 ?_
        refine V_bipush C0 (v := (57 : Int32)) (by decide) dX12_makeSource_161 ?_
        refine V_aload_n C0 0 rfl rfl dX12_makeSource_163 ?_
        refine V_iload_n C0 1 rfl rfl dX12_makeSource_164 ?_
        refine V_iconst C0 (v := (3 : Int32)) (by decide) dX12_makeSource_165 ?_
        obtain ⟨v41, q42, h⟩ := bn1_some h
        refine V_callV C0 (st := [.int (57 : Int32), .int x1, .ref (G.ad x0)]) (As := [.int x1, .int (3 : Int32)]) 11 (c_X12_get G.l G.D G.cA G.ad G.bs G.X C0.2.2.2.2.2.2.2.2.2.1 C0.2.2.2.2.2.2.2.2.2.2.2.2 x0 x1 (3 : Int32) I L R v41 q42) lc_X12_get lk_X12_211 c_x0.2 c_x0.1 ⟨_, rfl, rfl⟩ rfl (by rw [erm]; decide) (Nat.le_of_ble_eq_true rfl) dX12_makeSource_166 ?_
        show V G _ 169 [(0, .ref (G.ad x0)), (1, .int x1), (2, .int x2), (3, .int x3), (4, .int x4)] [.int v41, .int (57 : Int32), .int x1, .ref (G.ad x0)] I L R
        refine V_iconst C0 (v := (2 : Int32)) (by decide) dX12_makeSource_169 ?_
        refine V_imul C0 dX12_makeSource_170 ?_
        refine V_aload_n C0 0 rfl rfl dX12_makeSource_171 ?_
        refine V_iload_n C0 1 rfl rfl dX12_makeSource_172 ?_
        refine V_bipush C0 (v := (52 : Int32)) (by decide) dX12_makeSource_173 ?_
        obtain ⟨v43, q44, h⟩ := bn1_some h
        refine V_callV C0 (st := [.int (v41 * (2 : Int32)), .int (57 : Int32), .int x1, .ref (G.ad x0)]) (As := [.int x1, .int (52 : Int32)]) 11 (c_X12_get G.l G.D G.cA G.ad G.bs G.X C0.2.2.2.2.2.2.2.2.2.1 C0.2.2.2.2.2.2.2.2.2.2.2.2 x0 x1 (52 : Int32) I L R v43 q44) lc_X12_get lk_X12_211 c_x0.2 c_x0.1 ⟨_, rfl, rfl⟩ rfl (by rw [erm]; decide) (Nat.le_of_ble_eq_true rfl) dX12_makeSource_175 ?_
        show V G _ 178 [(0, .ref (G.ad x0)), (1, .int x1), (2, .int x2), (3, .int x3), (4, .int x4)] [.int v43, .int (v41 * (2 : Int32)), .int (57 : Int32), .int x1, .ref (G.ad x0)] I L R
        refine V_iadd C0 dX12_makeSource_178 ?_
        obtain ⟨I45, q46, h⟩ := bn1_some h
        refine V_callV C0 (st := []) (As := [.int x1, .int (57 : Int32), .int ((v41 * (2 : Int32)) + v43)]) 11 (c_X12_set G.l G.D G.cA G.ad G.bs G.X C0.2.2.2.2.2.2.2.2.2.1 C0.2.2.2.2.2.2.2.2.2.2.2.2 x0 x1 (57 : Int32) ((v41 * (2 : Int32)) + v43) I L R I45 q46) lc_X12_set lk_X12_246 c_x0.2 c_x0.1 ⟨_, rfl, rfl⟩ rfl (by rw [erm]; decide) (Nat.le_of_ble_eq_true rfl) dX12_makeSource_179 ?_
        show V G _ 182 [(0, .ref (G.ad x0)), (1, .int x1), (2, .int x2), (3, .int x3), (4, .int x4)] [] I45 L R
        refine V_aload_n C0 0 rfl rfl dX12_makeSource_182 ?_
        refine V_iload_n C0 1 rfl rfl dX12_makeSource_183 ?_
        refine V_bipush C0 (v := (27 : Int32)) (by decide) dX12_makeSource_184 ?_
        refine V_iload C0 4 rfl dX12_makeSource_186 ?_
        obtain ⟨I47, q48, h⟩ := bn1_some h
        refine V_callV C0 (st := []) (As := [.int x1, .int (27 : Int32), .int x4]) 11 (c_X12_set G.l G.D G.cA G.ad G.bs G.X C0.2.2.2.2.2.2.2.2.2.1 C0.2.2.2.2.2.2.2.2.2.2.2.2 x0 x1 (27 : Int32) x4 I45 L R I47 q48) lc_X12_set lk_X12_246 c_x0.2 c_x0.1 ⟨_, rfl, rfl⟩ rfl (by rw [erm]; decide) (Nat.le_of_ble_eq_true rfl) dX12_makeSource_188 ?_
        show V G _ 191 [(0, .ref (G.ad x0)), (1, .int x1), (2, .int x2), (3, .int x3), (4, .int x4)] [] I47 L R
        refine V_aload_n C0 0 rfl rfl dX12_makeSource_191 ?_
        refine V_iload_n C0 1 rfl rfl dX12_makeSource_192 ?_
        refine V_iload_n C0 2 rfl rfl dX12_makeSource_193 ?_
        refine V_aload_n C0 0 rfl rfl dX12_makeSource_194 ?_
        refine V_iload_n C0 1 rfl rfl dX12_makeSource_195 ?_
        refine V_bipush C0 (v := (57 : Int32)) (by decide) dX12_makeSource_196 ?_
        obtain ⟨v49, q50, h⟩ := bn1_some h
        refine V_callV C0 (st := [.int x2, .int x1, .ref (G.ad x0)]) (As := [.int x1, .int (57 : Int32)]) 11 (c_X12_get G.l G.D G.cA G.ad G.bs G.X C0.2.2.2.2.2.2.2.2.2.1 C0.2.2.2.2.2.2.2.2.2.2.2.2 x0 x1 (57 : Int32) I47 L R v49 q50) lc_X12_get lk_X12_211 c_x0.2 c_x0.1 ⟨_, rfl, rfl⟩ rfl (by rw [erm]; decide) (Nat.le_of_ble_eq_true rfl) dX12_makeSource_198 ?_
        show V G _ 201 [(0, .ref (G.ad x0)), (1, .int x1), (2, .int x2), (3, .int x3), (4, .int x4)] [.int v49, .int x2, .int x1, .ref (G.ad x0)] I47 L R
        obtain ⟨I51, q52, h⟩ := bn1_some h
        refine V_callV C0 (st := []) (As := [.int x1, .int x2, .int v49]) 11 (c_X12_noted G.l G.D G.cA G.ad G.bs G.X C0.2.2.2.2.2.2.2.2.2.1 C0.2.2.2.2.2.2.2.2.2.2.2.2 x0 x1 x2 v49 I47 L R I51 q52) lc_X12_noted lk_X12_253 c_x0.2 c_x0.1 ⟨_, rfl, rfl⟩ rfl (by rw [erm]; decide) (Nat.le_of_ble_eq_true rfl) dX12_makeSource_201 ?_
        show V G _ 204 [(0, .ref (G.ad x0)), (1, .int x1), (2, .int x2), (3, .int x3), (4, .int x4)] [] I51 L R
        cases h
        exact V_vret C0 dX12_makeSource_204
theorem dX12_makeLink_0 : decode cX12_makeLink 0 = .ok (.iload_n 2, 1) := by decide +kernel
theorem dX12_makeLink_1 : decode cX12_makeLink 1 = .ok (.lookupswitch 118 #[(26, 27), (27, 86)], 27) := by decide +kernel
theorem dX12_makeLink_28 : decode cX12_makeLink 28 = .ok (.aload_n 0, 1) := by decide +kernel
theorem dX12_makeLink_29 : decode cX12_makeLink 29 = .ok (.iload_n 1, 1) := by decide +kernel
theorem dX12_makeLink_30 : decode cX12_makeLink 30 = .ok (.iconst 1, 1) := by decide +kernel
theorem dX12_makeLink_31 : decode cX12_makeLink 31 = .ok (.invokevirtual 250, 3) := by decide +kernel
theorem dX12_makeLink_34 : decode cX12_makeLink 34 = .ok (.istore 6, 2) := by decide +kernel
theorem dX12_makeLink_36 : decode cX12_makeLink 36 = .ok (.aload_n 0, 1) := by decide +kernel
theorem dX12_makeLink_37 : decode cX12_makeLink 37 = .ok (.iload_n 1, 1) := by decide +kernel
theorem dX12_makeLink_38 : decode cX12_makeLink 38 = .ok (.bipush 58, 2) := by decide +kernel
theorem dX12_makeLink_40 : decode cX12_makeLink 40 = .ok (.iload 6, 2) := by decide +kernel
theorem dX12_makeLink_42 : decode cX12_makeLink 42 = .ok (.aload_n 0, 1) := by decide +kernel
theorem dX12_makeLink_43 : decode cX12_makeLink 43 = .ok (.invokevirtual 242, 3) := by decide +kernel
theorem dX12_makeLink_46 : decode cX12_makeLink 46 = .ok (.iconst 2, 1) := by decide +kernel
theorem dX12_makeLink_47 : decode cX12_makeLink 47 = .ok (.invokestatic 115, 3) := by decide +kernel
theorem dX12_makeLink_50 : decode cX12_makeLink 50 = .ok (.iadd, 1) := by decide +kernel
theorem dX12_makeLink_51 : decode cX12_makeLink 51 = .ok (.invokevirtual 246, 3) := by decide +kernel
theorem dX12_makeLink_54 : decode cX12_makeLink 54 = .ok (.aload_n 0, 1) := by decide +kernel
theorem dX12_makeLink_55 : decode cX12_makeLink 55 = .ok (.iload_n 1, 1) := by decide +kernel
theorem dX12_makeLink_56 : decode cX12_makeLink 56 = .ok (.bipush 59, 2) := by decide +kernel
theorem dX12_makeLink_58 : decode cX12_makeLink 58 = .ok (.iload_n 3, 1) := by decide +kernel
theorem dX12_makeLink_59 : decode cX12_makeLink 59 = .ok (.invokevirtual 246, 3) := by decide +kernel
theorem dX12_makeLink_62 : decode cX12_makeLink 62 = .ok (.aload_n 0, 1) := by decide +kernel
theorem dX12_makeLink_63 : decode cX12_makeLink 63 = .ok (.iload_n 1, 1) := by decide +kernel
theorem dX12_makeLink_64 : decode cX12_makeLink 64 = .ok (.bipush 60, 2) := by decide +kernel
theorem dX12_makeLink_66 : decode cX12_makeLink 66 = .ok (.iload 4, 2) := by decide +kernel
theorem dX12_makeLink_68 : decode cX12_makeLink 68 = .ok (.invokevirtual 246, 3) := by decide +kernel
theorem dX12_makeLink_71 : decode cX12_makeLink 71 = .ok (.aload_n 0, 1) := by decide +kernel
theorem dX12_makeLink_72 : decode cX12_makeLink 72 = .ok (.iload_n 1, 1) := by decide +kernel
theorem dX12_makeLink_73 : decode cX12_makeLink 73 = .ok (.iload_n 2, 1) := by decide +kernel
theorem dX12_makeLink_74 : decode cX12_makeLink 74 = .ok (.aload_n 0, 1) := by decide +kernel
theorem dX12_makeLink_75 : decode cX12_makeLink 75 = .ok (.iload_n 1, 1) := by decide +kernel
theorem dX12_makeLink_76 : decode cX12_makeLink 76 = .ok (.bipush 58, 2) := by decide +kernel
theorem dX12_makeLink_78 : decode cX12_makeLink 78 = .ok (.invokevirtual 211, 3) := by decide +kernel
theorem dX12_makeLink_81 : decode cX12_makeLink 81 = .ok (.invokevirtual 253, 3) := by decide +kernel
theorem dX12_makeLink_84 : decode cX12_makeLink 84 = .ok (.goto 79, 3) := by decide +kernel
theorem dX12_makeLink_87 : decode cX12_makeLink 87 = .ok (.aload_n 0, 1) := by decide +kernel
theorem dX12_makeLink_88 : decode cX12_makeLink 88 = .ok (.iload_n 1, 1) := by decide +kernel
theorem dX12_makeLink_89 : decode cX12_makeLink 89 = .ok (.bipush 61, 2) := by decide +kernel
theorem dX12_makeLink_91 : decode cX12_makeLink 91 = .ok (.aload_n 0, 1) := by decide +kernel
theorem dX12_makeLink_92 : decode cX12_makeLink 92 = .ok (.iload_n 1, 1) := by decide +kernel
theorem dX12_makeLink_93 : decode cX12_makeLink 93 = .ok (.bipush 58, 2) := by decide +kernel
theorem dX12_makeLink_95 : decode cX12_makeLink 95 = .ok (.invokevirtual 211, 3) := by decide +kernel
theorem dX12_makeLink_98 : decode cX12_makeLink 98 = .ok (.iconst 2, 1) := by decide +kernel
theorem dX12_makeLink_99 : decode cX12_makeLink 99 = .ok (.iadd, 1) := by decide +kernel
theorem dX12_makeLink_100 : decode cX12_makeLink 100 = .ok (.invokevirtual 246, 3) := by decide +kernel
theorem dX12_makeLink_103 : decode cX12_makeLink 103 = .ok (.aload_n 0, 1) := by decide +kernel
theorem dX12_makeLink_104 : decode cX12_makeLink 104 = .ok (.iload_n 1, 1) := by decide +kernel
theorem dX12_makeLink_105 : decode cX12_makeLink 105 = .ok (.iload_n 2, 1) := by decide +kernel
theorem dX12_makeLink_106 : decode cX12_makeLink 106 = .ok (.aload_n 0, 1) := by decide +kernel
theorem dX12_makeLink_107 : decode cX12_makeLink 107 = .ok (.iload_n 1, 1) := by decide +kernel
theorem dX12_makeLink_108 : decode cX12_makeLink 108 = .ok (.bipush 61, 2) := by decide +kernel
theorem dX12_makeLink_110 : decode cX12_makeLink 110 = .ok (.invokevirtual 211, 3) := by decide +kernel
theorem dX12_makeLink_113 : decode cX12_makeLink 113 = .ok (.invokevirtual 253, 3) := by decide +kernel
theorem dX12_makeLink_116 : decode cX12_makeLink 116 = .ok (.goto 47, 3) := by decide +kernel
theorem dX12_makeLink_119 : decode cX12_makeLink 119 = .ok (.aload_n 0, 1) := by decide +kernel
theorem dX12_makeLink_120 : decode cX12_makeLink 120 = .ok (.iload_n 1, 1) := by decide +kernel
theorem dX12_makeLink_121 : decode cX12_makeLink 121 = .ok (.bipush 61, 2) := by decide +kernel
theorem dX12_makeLink_123 : decode cX12_makeLink 123 = .ok (.aload_n 0, 1) := by decide +kernel
theorem dX12_makeLink_124 : decode cX12_makeLink 124 = .ok (.iload_n 1, 1) := by decide +kernel
theorem dX12_makeLink_125 : decode cX12_makeLink 125 = .ok (.bipush 58, 2) := by decide +kernel
theorem dX12_makeLink_127 : decode cX12_makeLink 127 = .ok (.invokevirtual 211, 3) := by decide +kernel
theorem dX12_makeLink_130 : decode cX12_makeLink 130 = .ok (.invokevirtual 246, 3) := by decide +kernel
theorem dX12_makeLink_133 : decode cX12_makeLink 133 = .ok (.aload_n 0, 1) := by decide +kernel
theorem dX12_makeLink_134 : decode cX12_makeLink 134 = .ok (.iload_n 1, 1) := by decide +kernel
theorem dX12_makeLink_135 : decode cX12_makeLink 135 = .ok (.bipush 61, 2) := by decide +kernel
theorem dX12_makeLink_137 : decode cX12_makeLink 137 = .ok (.iload 5, 2) := by decide +kernel
theorem dX12_makeLink_139 : decode cX12_makeLink 139 = .ok (.invokevirtual 259, 3) := by decide +kernel
theorem dX12_makeLink_142 : decode cX12_makeLink 142 = .ok (.aload_n 0, 1) := by decide +kernel
theorem dX12_makeLink_143 : decode cX12_makeLink 143 = .ok (.iload_n 1, 1) := by decide +kernel
theorem dX12_makeLink_144 : decode cX12_makeLink 144 = .ok (.iload_n 2, 1) := by decide +kernel
theorem dX12_makeLink_145 : decode cX12_makeLink 145 = .ok (.aload_n 0, 1) := by decide +kernel
theorem dX12_makeLink_146 : decode cX12_makeLink 146 = .ok (.iload_n 1, 1) := by decide +kernel
theorem dX12_makeLink_147 : decode cX12_makeLink 147 = .ok (.bipush 61, 2) := by decide +kernel
theorem dX12_makeLink_149 : decode cX12_makeLink 149 = .ok (.invokevirtual 211, 3) := by decide +kernel
theorem dX12_makeLink_152 : decode cX12_makeLink 152 = .ok (.aload_n 0, 1) := by decide +kernel
theorem dX12_makeLink_153 : decode cX12_makeLink 153 = .ok (.iload_n 1, 1) := by decide +kernel
theorem dX12_makeLink_154 : decode cX12_makeLink 154 = .ok (.bipush 59, 2) := by decide +kernel
theorem dX12_makeLink_156 : decode cX12_makeLink 156 = .ok (.invokevirtual 211, 3) := by decide +kernel
theorem dX12_makeLink_159 : decode cX12_makeLink 159 = .ok (.iadd, 1) := by decide +kernel
theorem dX12_makeLink_160 : decode cX12_makeLink 160 = .ok (.invokevirtual 253, 3) := by decide +kernel
theorem dX12_makeLink_163 : decode cX12_makeLink 163 = .ok (.return_, 1) := by decide +kernel
def F_X12_makeLink (N : Nat) (x0 : Nat) (x1 : Int32) (x2 : Int32) (x3 : Int32) (x4 : Int32) (x5 : Int32) (I : MI) (L : ML) (R : MR) : Option (MI) :=
  if kd x0 = 11 ∧ x0 < NN then
  if x2 = (26 : Int32) then
    bn2 (F_X12_answer N x0 x1 (1 : Int32) I L R) fun v3 I4 =>
    bn2 (F_X12_draw x0 I4 L R) fun v6 I7 =>
    bn1 (F_X12_mod v6 (2 : Int32) I7 L R) fun v9 =>
    bn1 (F_X12_set x0 x1 (58 : Int32) (v3 + v9) I7 L R) fun I11 =>
    bn1 (F_X12_set x0 x1 (59 : Int32) x3 I11 L R) fun I13 =>
    bn1 (F_X12_set x0 x1 (60 : Int32) x4 I13 L R) fun I15 =>
    bn1 (F_X12_get x0 x1 (58 : Int32) I15 L R) fun v17 =>
    bn1 (F_X12_noted x0 x1 x2 v17 I15 L R) fun I19 =>
    some (I19)
  else
    if x2 = (27 : Int32) then
      bn1 (F_X12_get x0 x1 (58 : Int32) I L R) fun v22 =>
      bn1 (F_X12_set x0 x1 (61 : Int32) (v22 + (2 : Int32)) I L R) fun I24 =>
      bn1 (F_X12_get x0 x1 (61 : Int32) I24 L R) fun v26 =>
      bn1 (F_X12_noted x0 x1 x2 v26 I24 L R) fun I28 =>
      some (I28)
    else
      bn1 (F_X12_get x0 x1 (58 : Int32) I L R) fun v30 =>
      bn1 (F_X12_set x0 x1 (61 : Int32) v30 I L R) fun I32 =>
      bn1 (F_X12_grow x0 x1 (61 : Int32) x5 I32 L R) fun I34 =>
      bn1 (F_X12_get x0 x1 (61 : Int32) I34 L R) fun v36 =>
      bn1 (F_X12_get x0 x1 (59 : Int32) I34 L R) fun v38 =>
      bn1 (F_X12_noted x0 x1 x2 (v36 + v38) I34 L R) fun I40 =>
      some (I40)
  else none
set_option maxRecDepth 100000 in
set_option maxHeartbeats 4000000 in
theorem c_X12_makeLink (l : Launch) (D : va_G) (cA : Nat → ClassId) (ad : Nat → Nat) (bs : Nat) (X : State → Prop) (hAd : Ax ad bs) (hX : Stb bs X) (N : Nat) (x0 : Nat) (x1 : Int32) (x2 : Int32) (x3 : Int32) (x4 : Int32) (x5 : Int32) (I : MI) (L : ML) (R : MR) (I' : MI) (h : F_X12_makeLink N x0 x1 x2 x3 x4 x5 I L R = some (I')) : Cn l D cA ad bs X yX12_makeLink cX12_makeLink 7 none 3 71 [.ref (ad x0), .int x1, .int x2, .int x3, .int x4, .int x5] I L R (none, I', L, R) := by
  refine Cn.ofV hAd hX [(0, .ref (ad x0)), (1, .int x1), (2, .int x2), (3, .int x3), (4, .int x4), (5, .int x5)] rfl (Nat.le_of_ble_eq_true rfl) (by decide) ?_
  intro G el eD ecA ead ebs eX erm eNL C0
  subst el eD ecA ead ebs eX
  unfold F_X12_makeLink at h
  obtain ⟨c_x0, h⟩ := ite_some h
  refine V_iload_n C0 2 rfl rfl dX12_makeLink_0 ?_
  have nd1 := nd_0 x2
  by_cases c2 : x2 = (26 : Int32)
  · have h := (if_pos c2).symm.trans h
    refine V_lookC C0 (tgt := 28) (v := (26 : Int32)) c2 (by decide) (by decide) dX12_makeLink_1 ?_
    refine V_aload_n C0 0 rfl rfl dX12_makeLink_28 ?_
    refine V_iload_n C0 1 rfl rfl dX12_makeLink_29 ?_
    refine V_iconst C0 (v := (1 : Int32)) (by decide) dX12_makeLink_30 ?_
    obtain ⟨v3, I4, q5, h⟩ := bn2_some h
    refine V_callV C0 (st := []) (As := [.int x1, .int (1 : Int32)]) 11 (c_X12_answer G.l G.D G.cA G.ad G.bs G.X C0.2.2.2.2.2.2.2.2.2.1 C0.2.2.2.2.2.2.2.2.2.2.2.2 N x0 x1 (1 : Int32) I L R v3 I4 q5) lc_X12_answer lk_X12_250 c_x0.2 c_x0.1 ⟨_, rfl, rfl⟩ rfl (by rw [erm]; decide) (Nat.le_of_ble_eq_true rfl) dX12_makeLink_31 ?_
    show V G _ 34 [(0, .ref (G.ad x0)), (1, .int x1), (2, .int x2), (3, .int x3), (4, .int x4), (5, .int x5)] [.int v3] I4 L R
    refine V_istore C0 [(6, .int v3), (0, .ref (G.ad x0)), (1, .int x1), (2, .int x2), (3, .int x3), (4, .int x4), (5, .int x5)] (by rw [eNL]; decide) rfl dX12_makeLink_34 ?_
    refine V_aload_n C0 1 rfl rfl dX12_makeLink_36 ?_
    refine V_iload_n C0 2 rfl rfl dX12_makeLink_37 ?_
    refine V_bipush C0 (v := (58 : Int32)) (by decide) dX12_makeLink_38 ?_
    refine V_iload C0 0 rfl dX12_makeLink_40 ?_
    refine V_aload_n C0 1 rfl rfl dX12_makeLink_42 ?_
    obtain ⟨v6, I7, q8, h⟩ := bn2_some h
    refine V_callV C0 (st := [.int v3, .int (58 : Int32), .int x1, .ref (G.ad x0)]) (As := []) 11 (c_X12_draw G.l G.D G.cA G.ad G.bs G.X C0.2.2.2.2.2.2.2.2.2.1 C0.2.2.2.2.2.2.2.2.2.2.2.2 x0 I4 L R v6 I7 q8) lc_X12_draw lk_X12_242 c_x0.2 c_x0.1 ⟨_, rfl, rfl⟩ rfl (by rw [erm]; decide) (Nat.le_of_ble_eq_true rfl) dX12_makeLink_43 ?_
    show V G _ 46 [(6, .int v3), (0, .ref (G.ad x0)), (1, .int x1), (2, .int x2), (3, .int x3), (4, .int x4), (5, .int x5)] [.int v6, .int v3, .int (58 : Int32), .int x1, .ref (G.ad x0)] I7 L R
    refine V_iconst C0 (v := (2 : Int32)) (by decide) dX12_makeLink_46 ?_
    obtain ⟨v9, q10, h⟩ := bn1_some h
    refine V_callS C0 (st := [.int v3, .int (58 : Int32), .int x1, .ref (G.ad x0)]) (As := [.int v6, .int (2 : Int32)]) (c_X12_mod G.l G.D G.cA G.ad G.bs G.X C0.2.2.2.2.2.2.2.2.2.1 C0.2.2.2.2.2.2.2.2.2.2.2.2 v6 (2 : Int32) I7 L R v9 q10) lc_X12_mod lk_X12_115 rfl (by rw [erm]; decide) (Nat.le_of_ble_eq_true rfl) dX12_makeLink_47 ?_
    show V G _ 50 [(6, .int v3), (0, .ref (G.ad x0)), (1, .int x1), (2, .int x2), (3, .int x3), (4, .int x4), (5, .int x5)] [.int v9, .int v3, .int (58 : Int32), .int x1, .ref (G.ad x0)] I7 L R
    refine V_iadd C0 dX12_makeLink_50 ?_
    obtain ⟨I11, q12, h⟩ := bn1_some h
    refine V_callV C0 (st := []) (As := [.int x1, .int (58 : Int32), .int (v3 + v9)]) 11 (c_X12_set G.l G.D G.cA G.ad G.bs G.X C0.2.2.2.2.2.2.2.2.2.1 C0.2.2.2.2.2.2.2.2.2.2.2.2 x0 x1 (58 : Int32) (v3 + v9) I7 L R I11 q12) lc_X12_set lk_X12_246 c_x0.2 c_x0.1 ⟨_, rfl, rfl⟩ rfl (by rw [erm]; decide) (Nat.le_of_ble_eq_true rfl) dX12_makeLink_51 ?_
    show V G _ 54 [(6, .int v3), (0, .ref (G.ad x0)), (1, .int x1), (2, .int x2), (3, .int x3), (4, .int x4), (5, .int x5)] [] I11 L R
    refine V_aload_n C0 1 rfl rfl dX12_makeLink_54 ?_
    refine V_iload_n C0 2 rfl rfl dX12_makeLink_55 ?_
    refine V_bipush C0 (v := (59 : Int32)) (by decide) dX12_makeLink_56 ?_
    refine V_iload_n C0 4 rfl rfl dX12_makeLink_58 ?_
    obtain ⟨I13, q14, h⟩ := bn1_some h
    refine V_callV C0 (st := []) (As := [.int x1, .int (59 : Int32), .int x3]) 11 (c_X12_set G.l G.D G.cA G.ad G.bs G.X C0.2.2.2.2.2.2.2.2.2.1 C0.2.2.2.2.2.2.2.2.2.2.2.2 x0 x1 (59 : Int32) x3 I11 L R I13 q14) lc_X12_set lk_X12_246 c_x0.2 c_x0.1 ⟨_, rfl, rfl⟩ rfl (by rw [erm]; decide) (Nat.le_of_ble_eq_true rfl) dX12_makeLink_59 ?_
    show V G _ 62 [(6, .int v3), (0, .ref (G.ad x0)), (1, .int x1), (2, .int x2), (3, .int x3), (4, .int x4), (5, .int x5)] [] I13 L R
    refine V_aload_n C0 1 rfl rfl dX12_makeLink_62 ?_
    refine V_iload_n C0 2 rfl rfl dX12_makeLink_63 ?_
    refine V_bipush C0 (v := (60 : Int32)) (by decide) dX12_makeLink_64 ?_
    refine V_iload C0 5 rfl dX12_makeLink_66 ?_
    obtain ⟨I15, q16, h⟩ := bn1_some h
    refine V_callV C0 (st := []) (As := [.int x1, .int (60 : Int32), .int x4]) 11 (c_X12_set G.l G.D G.cA G.ad G.bs G.X C0.2.2.2.2.2.2.2.2.2.1 C0.2.2.2.2.2.2.2.2.2.2.2.2 x0 x1 (60 : Int32) x4 I13 L R I15 q16) lc_X12_set lk_X12_246 c_x0.2 c_x0.1 ⟨_, rfl, rfl⟩ rfl (by rw [erm]; decide) (Nat.le_of_ble_eq_true rfl) dX12_makeLink_68 ?_
    show V G _ 71 [(6, .int v3), (0, .ref (G.ad x0)), (1, .int x1), (2, .int x2), (3, .int x3), (4, .int x4), (5, .int x5)] [] I15 L R
    refine V_aload_n C0 1 rfl rfl dX12_makeLink_71 ?_
    refine V_iload_n C0 2 rfl rfl dX12_makeLink_72 ?_
    refine V_iload_n C0 3 rfl rfl dX12_makeLink_73 ?_
    refine V_aload_n C0 1 rfl rfl dX12_makeLink_74 ?_
    refine V_iload_n C0 2 rfl rfl dX12_makeLink_75 ?_
    refine V_bipush C0 (v := (58 : Int32)) (by decide) dX12_makeLink_76 ?_
    obtain ⟨v17, q18, h⟩ := bn1_some h
    refine V_callV C0 (st := [.int x2, .int x1, .ref (G.ad x0)]) (As := [.int x1, .int (58 : Int32)]) 11 (c_X12_get G.l G.D G.cA G.ad G.bs G.X C0.2.2.2.2.2.2.2.2.2.1 C0.2.2.2.2.2.2.2.2.2.2.2.2 x0 x1 (58 : Int32) I15 L R v17 q18) lc_X12_get lk_X12_211 c_x0.2 c_x0.1 ⟨_, rfl, rfl⟩ rfl (by rw [erm]; decide) (Nat.le_of_ble_eq_true rfl) dX12_makeLink_78 ?_
    show V G _ 81 [(6, .int v3), (0, .ref (G.ad x0)), (1, .int x1), (2, .int x2), (3, .int x3), (4, .int x4), (5, .int x5)] [.int v17, .int x2, .int x1, .ref (G.ad x0)] I15 L R
    obtain ⟨I19, q20, h⟩ := bn1_some h
    refine V_callV C0 (st := []) (As := [.int x1, .int x2, .int v17]) 11 (c_X12_noted G.l G.D G.cA G.ad G.bs G.X C0.2.2.2.2.2.2.2.2.2.1 C0.2.2.2.2.2.2.2.2.2.2.2.2 x0 x1 x2 v17 I15 L R I19 q20) lc_X12_noted lk_X12_253 c_x0.2 c_x0.1 ⟨_, rfl, rfl⟩ rfl (by rw [erm]; decide) (Nat.le_of_ble_eq_true rfl) dX12_makeLink_81 ?_
    show V G _ 84 [(6, .int v3), (0, .ref (G.ad x0)), (1, .int x1), (2, .int x2), (3, .int x3), (4, .int x4), (5, .int x5)] [] I19 L R
    refine V_goto C0 (tgt := 163) (by decide) dX12_makeLink_84 ?_
    cases h
    exact V_vret C0 dX12_makeLink_163
  · have h := (if_neg c2).symm.trans h
    have nd1 := nd_add nd1 c2
    by_cases c21 : x2 = (27 : Int32)
    · have h := (if_pos c21).symm.trans h
      refine V_lookC C0 (tgt := 87) (v := (27 : Int32)) c21 (by decide) (by decide) dX12_makeLink_1 ?_
      refine V_aload_n C0 0 rfl rfl dX12_makeLink_87 ?_
      refine V_iload_n C0 1 rfl rfl dX12_makeLink_88 ?_
      refine V_bipush C0 (v := (61 : Int32)) (by decide) dX12_makeLink_89 ?_
      refine V_aload_n C0 0 rfl rfl dX12_makeLink_91 ?_
      refine V_iload_n C0 1 rfl rfl dX12_makeLink_92 ?_
      refine V_bipush C0 (v := (58 : Int32)) (by decide) dX12_makeLink_93 ?_
      obtain ⟨v22, q23, h⟩ := bn1_some h
      refine V_callV C0 (st := [.int (61 : Int32), .int x1, .ref (G.ad x0)]) (As := [.int x1, .int (58 : Int32)]) 11 (c_X12_get G.l G.D G.cA G.ad G.bs G.X C0.2.2.2.2.2.2.2.2.2.1 C0.2.2.2.2.2.2.2.2.2.2.2.2 x0 x1 (58 : Int32) I L R v22 q23) lc_X12_get lk_X12_211 c_x0.2 c_x0.1 ⟨_, rfl, rfl⟩ rfl (by rw [erm]; decide) (Nat.le_of_ble_eq_true rfl) dX12_makeLink_95 ?_
      show V G _ 98 [(0, .ref (G.ad x0)), (1, .int x1), (2, .int x2), (3, .int x3), (4, .int x4), (5, .int x5)] [.int v22, .int (61 : Int32), .int x1, .ref (G.ad x0)] I L R
      refine V_iconst C0 (v := (2 : Int32)) (by decide) dX12_makeLink_98 ?_
      refine V_iadd C0 dX12_makeLink_99 ?_
      obtain ⟨I24, q25, h⟩ := bn1_some h
      refine V_callV C0 (st := []) (As := [.int x1, .int (61 : Int32), .int (v22 + (2 : Int32))]) 11 (c_X12_set G.l G.D G.cA G.ad G.bs G.X C0.2.2.2.2.2.2.2.2.2.1 C0.2.2.2.2.2.2.2.2.2.2.2.2 x0 x1 (61 : Int32) (v22 + (2 : Int32)) I L R I24 q25) lc_X12_set lk_X12_246 c_x0.2 c_x0.1 ⟨_, rfl, rfl⟩ rfl (by rw [erm]; decide) (Nat.le_of_ble_eq_true rfl) dX12_makeLink_100 ?_
      show V G _ 103 [(0, .ref (G.ad x0)), (1, .int x1), (2, .int x2), (3, .int x3), (4, .int x4), (5, .int x5)] [] I24 L R
      refine V_aload_n C0 0 rfl rfl dX12_makeLink_103 ?_
      refine V_iload_n C0 1 rfl rfl dX12_makeLink_104 ?_
      refine V_iload_n C0 2 rfl rfl dX12_makeLink_105 ?_
      refine V_aload_n C0 0 rfl rfl dX12_makeLink_106 ?_
      refine V_iload_n C0 1 rfl rfl dX12_makeLink_107 ?_
      refine V_bipush C0 (v := (61 : Int32)) (by decide) dX12_makeLink_108 ?_
      obtain ⟨v26, q27, h⟩ := bn1_some h
      refine V_callV C0 (st := [.int x2, .int x1, .ref (G.ad x0)]) (As := [.int x1, .int (61 : Int32)]) 11 (c_X12_get G.l G.D G.cA G.ad G.bs G.X C0.2.2.2.2.2.2.2.2.2.1 C0.2.2.2.2.2.2.2.2.2.2.2.2 x0 x1 (61 : Int32) I24 L R v26 q27) lc_X12_get lk_X12_211 c_x0.2 c_x0.1 ⟨_, rfl, rfl⟩ rfl (by rw [erm]; decide) (Nat.le_of_ble_eq_true rfl) dX12_makeLink_110 ?_
      show V G _ 113 [(0, .ref (G.ad x0)), (1, .int x1), (2, .int x2), (3, .int x3), (4, .int x4), (5, .int x5)] [.int v26, .int x2, .int x1, .ref (G.ad x0)] I24 L R
      obtain ⟨I28, q29, h⟩ := bn1_some h
      refine V_callV C0 (st := []) (As := [.int x1, .int x2, .int v26]) 11 (c_X12_noted G.l G.D G.cA G.ad G.bs G.X C0.2.2.2.2.2.2.2.2.2.1 C0.2.2.2.2.2.2.2.2.2.2.2.2 x0 x1 x2 v26 I24 L R I28 q29) lc_X12_noted lk_X12_253 c_x0.2 c_x0.1 ⟨_, rfl, rfl⟩ rfl (by rw [erm]; decide) (Nat.le_of_ble_eq_true rfl) dX12_makeLink_113 ?_
      show V G _ 116 [(0, .ref (G.ad x0)), (1, .int x1), (2, .int x2), (3, .int x3), (4, .int x4), (5, .int x5)] [] I28 L R
      refine V_goto C0 (tgt := 163) (by decide) dX12_makeLink_116 ?_
      cases h
      exact V_vret C0 dX12_makeLink_163
    · have h := (if_neg c21).symm.trans h
      have nd1 := nd_add nd1 c21
      refine V_lookN C0 (tgt := 119) nd1 (by decide) (by decide) dX12_makeLink_1 ?_
      refine V_aload_n C0 0 rfl rfl dX12_makeLink_119 ?_
      refine V_iload_n C0 1 rfl rfl dX12_makeLink_120 ?_
      refine V_bipush C0 (v := (61 : Int32)) (by decide) dX12_makeLink_121 ?_
      refine V_aload_n C0 0 rfl rfl dX12_makeLink_123 ?_
      refine V_iload_n C0 1 rfl rfl dX12_makeLink_124 ?_
      refine V_bipush C0 (v := (58 : Int32)) (by decide) dX12_makeLink_125 ?_
      obtain ⟨v30, q31, h⟩ := bn1_some h
      refine V_callV C0 (st := [.int (61 : Int32), .int x1, .ref (G.ad x0)]) (As := [.int x1, .int (58 : Int32)]) 11 (c_X12_get G.l G.D G.cA G.ad G.bs G.X C0.2.2.2.2.2.2.2.2.2.1 C0.2.2.2.2.2.2.2.2.2.2.2.2 x0 x1 (58 : Int32) I L R v30 q31) lc_X12_get lk_X12_211 c_x0.2 c_x0.1 ⟨_, rfl, rfl⟩ rfl (by rw [erm]; decide) (Nat.le_of_ble_eq_true rfl) dX12_makeLink_127 ?_
      show V G _ 130 [(0, .ref (G.ad x0)), (1, .int x1), (2, .int x2), (3, .int x3), (4, .int x4), (5, .int x5)] [.int v30, .int (61 : Int32), .int x1, .ref (G.ad x0)] I L R
      obtain ⟨I32, q33, h⟩ := bn1_some h
      refine V_callV C0 (st := []) (As := [.int x1, .int (61 : Int32), .int v30]) 11 (c_X12_set G.l G.D G.cA G.ad G.bs G.X C0.2.2.2.2.2.2.2.2.2.1 C0.2.2.2.2.2.2.2.2.2.2.2.2 x0 x1 (61 : Int32) v30 I L R I32 q33) lc_X12_set lk_X12_246 c_x0.2 c_x0.1 ⟨_, rfl, rfl⟩ rfl (by rw [erm]; decide) (Nat.le_of_ble_eq_true rfl) dX12_makeLink_130 ?_
      show V G _ 133 [(0, .ref (G.ad x0)), (1, .int x1), (2, .int x2), (3, .int x3), (4, .int x4), (5, .int x5)] [] I32 L R
      refine V_aload_n C0 0 rfl rfl dX12_makeLink_133 ?_
      refine V_iload_n C0 1 rfl rfl dX12_makeLink_134 ?_
      refine V_bipush C0 (v := (61 : Int32)) (by decide) dX12_makeLink_135 ?_
      refine V_iload C0 5 rfl dX12_makeLink_137 ?_
      obtain ⟨I34, q35, h⟩ := bn1_some h
      refine V_callV C0 (st := []) (As := [.int x1, .int (61 : Int32), .int x5]) 11 (c_X12_grow G.l G.D G.cA G.ad G.bs G.X C0.2.2.2.2.2.2.2.2.2.1 C0.2.2.2.2.2.2.2.2.2.2.2.2 x0 x1 (61 : Int32) x5 I32 L R I34 q35) lc_X12_grow lk_X12_259 c_x0.2 c_x0.1 ⟨_, rfl, rfl⟩ rfl (by rw [erm]; decide) (Nat.le_of_ble_eq_true rfl) dX12_makeLink_139 ?_
      show V G _ 142 [(0, .ref (G.ad x0)), (1, .int x1), (2, .int x2), (3, .int x3), (4, .int x4), (5, .int x5)] [] I34 L R
      refine V_aload_n C0 0 rfl rfl dX12_makeLink_142 ?_
      refine V_iload_n C0 1 rfl rfl dX12_makeLink_143 ?_
      refine V_iload_n C0 2 rfl rfl dX12_makeLink_144 ?_
      refine V_aload_n C0 0 rfl rfl dX12_makeLink_145 ?_
      refine V_iload_n C0 1 rfl rfl dX12_makeLink_146 ?_
      refine V_bipush C0 (v := (61 : Int32)) (by decide) dX12_makeLink_147 ?_
      obtain ⟨v36, q37, h⟩ := bn1_some h
      refine V_callV C0 (st := [.int x2, .int x1, .ref (G.ad x0)]) (As := [.int x1, .int (61 : Int32)]) 11 (c_X12_get G.l G.D G.cA G.ad G.bs G.X C0.2.2.2.2.2.2.2.2.2.1 C0.2.2.2.2.2.2.2.2.2.2.2.2 x0 x1 (61 : Int32) I34 L R v36 q37) lc_X12_get lk_X12_211 c_x0.2 c_x0.1 ⟨_, rfl, rfl⟩ rfl (by rw [erm]; decide) (Nat.le_of_ble_eq_true rfl) dX12_makeLink_149 ?_
      show V G _ 152 [(0, .ref (G.ad x0)), (1, .int x1), (2, .int x2), (3, .int x3), (4, .int x4), (5, .int x5)] [.int v36, .int x2, .int x1, .ref (G.ad x0)] I34 L R
      refine V_aload_n C0 0 rfl rfl dX12_makeLink_152 ?_
      refine V_iload_n C0 1 rfl rfl dX12_makeLink_153 ?_
      refine V_bipush C0 (v := (59 : Int32)) (by decide) dX12_makeLink_154 ?_
      obtain ⟨v38, q39, h⟩ := bn1_some h
      refine V_callV C0 (st := [.int v36, .int x2, .int x1, .ref (G.ad x0)]) (As := [.int x1, .int (59 : Int32)]) 11 (c_X12_get G.l G.D G.cA G.ad G.bs G.X C0.2.2.2.2.2.2.2.2.2.1 C0.2.2.2.2.2.2.2.2.2.2.2.2 x0 x1 (59 : Int32) I34 L R v38 q39) lc_X12_get lk_X12_211 c_x0.2 c_x0.1 ⟨_, rfl, rfl⟩ rfl (by rw [erm]; decide) (Nat.le_of_ble_eq_true rfl) dX12_makeLink_156 ?_
      show V G _ 159 [(0, .ref (G.ad x0)), (1, .int x1), (2, .int x2), (3, .int x3), (4, .int x4), (5, .int x5)] [.int v38, .int v36, .int x2, .int x1, .ref (G.ad x0)] I34 L R
      refine V_iadd C0 dX12_makeLink_159 ?_
      obtain ⟨I40, q41, h⟩ := bn1_some h
      refine V_callV C0 (st := []) (As := [.int x1, .int x2, .int (v36 + v38)]) 11 (c_X12_noted G.l G.D G.cA G.ad G.bs G.X C0.2.2.2.2.2.2.2.2.2.1 C0.2.2.2.2.2.2.2.2.2.2.2.2 x0 x1 x2 (v36 + v38) I34 L R I40 q41) lc_X12_noted lk_X12_253 c_x0.2 c_x0.1 ⟨_, rfl, rfl⟩ rfl (by rw [erm]; decide) (Nat.le_of_ble_eq_true rfl) dX12_makeLink_160 ?_
      show V G _ 163 [(0, .ref (G.ad x0)), (1, .int x1), (2, .int x2), (3, .int x3), (4, .int x4), (5, .int x5)] [] I40 L R
      cases h
      exact V_vret C0 dX12_makeLink_163
theorem dX12_makeUnit_0 : decode cX12_makeUnit 0 = .ok (.aload_n 0, 1) := by decide +kernel
theorem dX12_makeUnit_1 : decode cX12_makeUnit 1 = .ok (.iload_n 1, 1) := by decide +kernel
theorem dX12_makeUnit_2 : decode cX12_makeUnit 2 = .ok (.iconst 1, 1) := by decide +kernel
theorem dX12_makeUnit_3 : decode cX12_makeUnit 3 = .ok (.iload_n 1, 1) := by decide +kernel
theorem dX12_makeUnit_4 : decode cX12_makeUnit 4 = .ok (.invokevirtual 246, 3) := by decide +kernel
theorem dX12_makeUnit_7 : decode cX12_makeUnit 7 = .ok (.aload_n 0, 1) := by decide +kernel
theorem dX12_makeUnit_8 : decode cX12_makeUnit 8 = .ok (.iload_n 1, 1) := by decide +kernel
theorem dX12_makeUnit_9 : decode cX12_makeUnit 9 = .ok (.iconst 2, 1) := by decide +kernel
theorem dX12_makeUnit_10 : decode cX12_makeUnit 10 = .ok (.aload_n 0, 1) := by decide +kernel
theorem dX12_makeUnit_11 : decode cX12_makeUnit 11 = .ok (.invokevirtual 242, 3) := by decide +kernel
theorem dX12_makeUnit_14 : decode cX12_makeUnit 14 = .ok (.invokevirtual 246, 3) := by decide +kernel
theorem dX12_makeUnit_17 : decode cX12_makeUnit 17 = .ok (.aload_n 0, 1) := by decide +kernel
theorem dX12_makeUnit_18 : decode cX12_makeUnit 18 = .ok (.iload_n 1, 1) := by decide +kernel
theorem dX12_makeUnit_19 : decode cX12_makeUnit 19 = .ok (.iconst 3, 1) := by decide +kernel
theorem dX12_makeUnit_20 : decode cX12_makeUnit 20 = .ok (.aload_n 0, 1) := by decide +kernel
theorem dX12_makeUnit_21 : decode cX12_makeUnit 21 = .ok (.iload_n 1, 1) := by decide +kernel
theorem dX12_makeUnit_22 : decode cX12_makeUnit 22 = .ok (.iconst 0, 1) := by decide +kernel
theorem dX12_makeUnit_23 : decode cX12_makeUnit 23 = .ok (.invokevirtual 250, 3) := by decide +kernel
theorem dX12_makeUnit_26 : decode cX12_makeUnit 26 = .ok (.invokevirtual 246, 3) := by decide +kernel
theorem dX12_makeUnit_29 : decode cX12_makeUnit 29 = .ok (.aload_n 0, 1) := by decide +kernel
theorem dX12_makeUnit_30 : decode cX12_makeUnit 30 = .ok (.iload_n 1, 1) := by decide +kernel
theorem dX12_makeUnit_31 : decode cX12_makeUnit 31 = .ok (.iconst 4, 1) := by decide +kernel
theorem dX12_makeUnit_32 : decode cX12_makeUnit 32 = .ok (.aload_n 0, 1) := by decide +kernel
theorem dX12_makeUnit_33 : decode cX12_makeUnit 33 = .ok (.getfield 262, 3) := by decide +kernel
theorem dX12_makeUnit_36 : decode cX12_makeUnit 36 = .ok (.invokevirtual 246, 3) := by decide +kernel
theorem dX12_makeUnit_39 : decode cX12_makeUnit 39 = .ok (.aload_n 0, 1) := by decide +kernel
theorem dX12_makeUnit_40 : decode cX12_makeUnit 40 = .ok (.iload_n 1, 1) := by decide +kernel
theorem dX12_makeUnit_41 : decode cX12_makeUnit 41 = .ok (.iconst 1, 1) := by decide +kernel
theorem dX12_makeUnit_42 : decode cX12_makeUnit 42 = .ok (.invokevirtual 250, 3) := by decide +kernel
theorem dX12_makeUnit_45 : decode cX12_makeUnit 45 = .ok (.istore_n 2, 1) := by decide +kernel
theorem dX12_makeUnit_46 : decode cX12_makeUnit 46 = .ok (.aload_n 0, 1) := by decide +kernel
theorem dX12_makeUnit_47 : decode cX12_makeUnit 47 = .ok (.iload_n 1, 1) := by decide +kernel
theorem dX12_makeUnit_48 : decode cX12_makeUnit 48 = .ok (.iconst 5, 1) := by decide +kernel
theorem dX12_makeUnit_49 : decode cX12_makeUnit 49 = .ok (.iload_n 2, 1) := by decide +kernel
theorem dX12_makeUnit_50 : decode cX12_makeUnit 50 = .ok (.iconst 1, 1) := by decide +kernel
theorem dX12_makeUnit_51 : decode cX12_makeUnit 51 = .ok (.if_icmp .ge 7, 3) := by decide +kernel
theorem dX12_makeUnit_54 : decode cX12_makeUnit 54 = .ok (.iconst 1, 1) := by decide +kernel
theorem dX12_makeUnit_55 : decode cX12_makeUnit 55 = .ok (.goto 4, 3) := by decide +kernel
theorem dX12_makeUnit_58 : decode cX12_makeUnit 58 = .ok (.iload_n 2, 1) := by decide +kernel
theorem dX12_makeUnit_59 : decode cX12_makeUnit 59 = .ok (.invokevirtual 246, 3) := by decide +kernel
theorem dX12_makeUnit_62 : decode cX12_makeUnit 62 = .ok (.aload_n 0, 1) := by decide +kernel
theorem dX12_makeUnit_63 : decode cX12_makeUnit 63 = .ok (.dup, 1) := by decide +kernel
theorem dX12_makeUnit_64 : decode cX12_makeUnit 64 = .ok (.getfield 262, 3) := by decide +kernel
theorem dX12_makeUnit_67 : decode cX12_makeUnit 67 = .ok (.aload_n 0, 1) := by decide +kernel
theorem dX12_makeUnit_68 : decode cX12_makeUnit 68 = .ok (.iload_n 1, 1) := by decide +kernel
theorem dX12_makeUnit_69 : decode cX12_makeUnit 69 = .ok (.iconst 5, 1) := by decide +kernel
theorem dX12_makeUnit_70 : decode cX12_makeUnit 70 = .ok (.invokevirtual 211, 3) := by decide +kernel
theorem dX12_makeUnit_73 : decode cX12_makeUnit 73 = .ok (.iadd, 1) := by decide +kernel
theorem dX12_makeUnit_74 : decode cX12_makeUnit 74 = .ok (.putfield 262, 3) := by decide +kernel
theorem dX12_makeUnit_77 : decode cX12_makeUnit 77 = .ok (.aload_n 0, 1) := by decide +kernel
theorem dX12_makeUnit_78 : decode cX12_makeUnit 78 = .ok (.iload_n 1, 1) := by decide +kernel
theorem dX12_makeUnit_79 : decode cX12_makeUnit 79 = .ok (.bipush 6, 2) := by decide +kernel
theorem dX12_makeUnit_81 : decode cX12_makeUnit 81 = .ok (.aload_n 0, 1) := by decide +kernel
theorem dX12_makeUnit_82 : decode cX12_makeUnit 82 = .ok (.iload_n 1, 1) := by decide +kernel
theorem dX12_makeUnit_83 : decode cX12_makeUnit 83 = .ok (.iconst 3, 1) := by decide +kernel
theorem dX12_makeUnit_84 : decode cX12_makeUnit 84 = .ok (.invokevirtual 250, 3) := by decide +kernel
theorem dX12_makeUnit_87 : decode cX12_makeUnit 87 = .ok (.invokevirtual 246, 3) := by decide +kernel
theorem dX12_makeUnit_90 : decode cX12_makeUnit 90 = .ok (.aload_n 0, 1) := by decide +kernel
theorem dX12_makeUnit_91 : decode cX12_makeUnit 91 = .ok (.iload_n 1, 1) := by decide +kernel
theorem dX12_makeUnit_92 : decode cX12_makeUnit 92 = .ok (.iconst 0, 1) := by decide +kernel
theorem dX12_makeUnit_93 : decode cX12_makeUnit 93 = .ok (.aload_n 0, 1) := by decide +kernel
theorem dX12_makeUnit_94 : decode cX12_makeUnit 94 = .ok (.iload_n 1, 1) := by decide +kernel
theorem dX12_makeUnit_95 : decode cX12_makeUnit 95 = .ok (.bipush 6, 2) := by decide +kernel
theorem dX12_makeUnit_97 : decode cX12_makeUnit 97 = .ok (.invokevirtual 211, 3) := by decide +kernel
theorem dX12_makeUnit_100 : decode cX12_makeUnit 100 = .ok (.invokevirtual 253, 3) := by decide +kernel
theorem dX12_makeUnit_103 : decode cX12_makeUnit 103 = .ok (.return_, 1) := by decide +kernel
def F_X12_makeUnit (N : Nat) (x0 : Nat) (x1 : Int32) (I : MI) (L : ML) (R : MR) : Option (MI) :=
  if kd x0 = 11 ∧ x0 < NN then
  bn1 (F_X12_set x0 x1 (1 : Int32) x1 I L R) fun I1 =>
  bn2 (F_X12_draw x0 I1 L R) fun v3 I4 =>
  bn1 (F_X12_set x0 x1 (2 : Int32) v3 I4 L R) fun I6 =>
  bn2 (F_X12_answer N x0 x1 (0 : Int32) I6 L R) fun v8 I9 =>
  bn1 (F_X12_set x0 x1 (3 : Int32) v8 I9 L R) fun I11 =>
  bn1 (F_X12_set x0 x1 (4 : Int32) (I11 x0 26) I11 L R) fun I13 =>
  bn2 (F_X12_answer N x0 x1 (1 : Int32) I13 L R) fun v15 I16 =>
  bn1 (
    if (1 : Int32) ≤ v15 then
      some (v15)
    else
      some ((1 : Int32))
  ) fun (s18 : Int32) =>
  bn1 (F_X12_set x0 x1 (5 : Int32) s18 I16 L R) fun I22 =>
  bn1 (F_X12_get x0 x1 (5 : Int32) I22 L R) fun v24 =>
  wr (uI I22 x0 26 ((I22 x0 26) + v24)) fun (I26 : MI) =>
  bn2 (F_X12_answer N x0 x1 (3 : Int32) I26 L R) fun v27 I28 =>
  bn1 (F_X12_set x0 x1 (6 : Int32) v27 I28 L R) fun I30 =>
  bn1 (F_X12_get x0 x1 (6 : Int32) I30 L R) fun v32 =>
  bn1 (F_X12_noted x0 x1 (0 : Int32) v32 I30 L R) fun I34 =>
  some (I34)
  else none
set_option maxRecDepth 100000 in
set_option maxHeartbeats 4000000 in
theorem c_X12_makeUnit (l : Launch) (D : va_G) (cA : Nat → ClassId) (ad : Nat → Nat) (bs : Nat) (X : State → Prop) (hAd : Ax ad bs) (hX : Stb bs X) (N : Nat) (x0 : Nat) (x1 : Int32) (I : MI) (L : ML) (R : MR) (I' : MI) (h : F_X12_makeUnit N x0 x1 I L R = some (I')) : Cn l D cA ad bs X yX12_makeUnit cX12_makeUnit 3 none 3 71 [.ref (ad x0), .int x1] I L R (none, I', L, R) := by
  refine Cn.ofV hAd hX [(0, .ref (ad x0)), (1, .int x1)] rfl (Nat.le_of_ble_eq_true rfl) (by decide) ?_
  intro G el eD ecA ead ebs eX erm eNL C0
  subst el eD ecA ead ebs eX
  unfold F_X12_makeUnit at h
  obtain ⟨c_x0, h⟩ := ite_some h
  refine V_aload_n C0 0 rfl rfl dX12_makeUnit_0 ?_
  refine V_iload_n C0 1 rfl rfl dX12_makeUnit_1 ?_
  refine V_iconst C0 (v := (1 : Int32)) (by decide) dX12_makeUnit_2 ?_
  refine V_iload_n C0 1 rfl rfl dX12_makeUnit_3 ?_
  obtain ⟨I1, q2, h⟩ := bn1_some h
  refine V_callV C0 (st := []) (As := [.int x1, .int (1 : Int32), .int x1]) 11 (c_X12_set G.l G.D G.cA G.ad G.bs G.X C0.2.2.2.2.2.2.2.2.2.1 C0.2.2.2.2.2.2.2.2.2.2.2.2 x0 x1 (1 : Int32) x1 I L R I1 q2) lc_X12_set lk_X12_246 c_x0.2 c_x0.1 ⟨_, rfl, rfl⟩ rfl (by rw [erm]; decide) (Nat.le_of_ble_eq_true rfl) dX12_makeUnit_4 ?_
  show V G _ 7 [(0, .ref (G.ad x0)), (1, .int x1)] [] I1 L R
  refine V_aload_n C0 0 rfl rfl dX12_makeUnit_7 ?_
  refine V_iload_n C0 1 rfl rfl dX12_makeUnit_8 ?_
  refine V_iconst C0 (v := (2 : Int32)) (by decide) dX12_makeUnit_9 ?_
  refine V_aload_n C0 0 rfl rfl dX12_makeUnit_10 ?_
  obtain ⟨v3, I4, q5, h⟩ := bn2_some h
  refine V_callV C0 (st := [.int (2 : Int32), .int x1, .ref (G.ad x0)]) (As := []) 11 (c_X12_draw G.l G.D G.cA G.ad G.bs G.X C0.2.2.2.2.2.2.2.2.2.1 C0.2.2.2.2.2.2.2.2.2.2.2.2 x0 I1 L R v3 I4 q5) lc_X12_draw lk_X12_242 c_x0.2 c_x0.1 ⟨_, rfl, rfl⟩ rfl (by rw [erm]; decide) (Nat.le_of_ble_eq_true rfl) dX12_makeUnit_11 ?_
  show V G _ 14 [(0, .ref (G.ad x0)), (1, .int x1)] [.int v3, .int (2 : Int32), .int x1, .ref (G.ad x0)] I4 L R
  obtain ⟨I6, q7, h⟩ := bn1_some h
  refine V_callV C0 (st := []) (As := [.int x1, .int (2 : Int32), .int v3]) 11 (c_X12_set G.l G.D G.cA G.ad G.bs G.X C0.2.2.2.2.2.2.2.2.2.1 C0.2.2.2.2.2.2.2.2.2.2.2.2 x0 x1 (2 : Int32) v3 I4 L R I6 q7) lc_X12_set lk_X12_246 c_x0.2 c_x0.1 ⟨_, rfl, rfl⟩ rfl (by rw [erm]; decide) (Nat.le_of_ble_eq_true rfl) dX12_makeUnit_14 ?_
  show V G _ 17 [(0, .ref (G.ad x0)), (1, .int x1)] [] I6 L R
  refine V_aload_n C0 0 rfl rfl dX12_makeUnit_17 ?_
  refine V_iload_n C0 1 rfl rfl dX12_makeUnit_18 ?_
  refine V_iconst C0 (v := (3 : Int32)) (by decide) dX12_makeUnit_19 ?_
  refine V_aload_n C0 0 rfl rfl dX12_makeUnit_20 ?_
  refine V_iload_n C0 1 rfl rfl dX12_makeUnit_21 ?_
  refine V_iconst C0 (v := (0 : Int32)) (by decide) dX12_makeUnit_22 ?_
  obtain ⟨v8, I9, q10, h⟩ := bn2_some h
  refine V_callV C0 (st := [.int (3 : Int32), .int x1, .ref (G.ad x0)]) (As := [.int x1, .int (0 : Int32)]) 11 (c_X12_answer G.l G.D G.cA G.ad G.bs G.X C0.2.2.2.2.2.2.2.2.2.1 C0.2.2.2.2.2.2.2.2.2.2.2.2 N x0 x1 (0 : Int32) I6 L R v8 I9 q10) lc_X12_answer lk_X12_250 c_x0.2 c_x0.1 ⟨_, rfl, rfl⟩ rfl (by rw [erm]; decide) (Nat.le_of_ble_eq_true rfl) dX12_makeUnit_23 ?_
  show V G _ 26 [(0, .ref (G.ad x0)), (1, .int x1)] [.int v8, .int (3 : Int32), .int x1, .ref (G.ad x0)] I9 L R
  obtain ⟨I11, q12, h⟩ := bn1_some h
  refine V_callV C0 (st := []) (As := [.int x1, .int (3 : Int32), .int v8]) 11 (c_X12_set G.l G.D G.cA G.ad G.bs G.X C0.2.2.2.2.2.2.2.2.2.1 C0.2.2.2.2.2.2.2.2.2.2.2.2 x0 x1 (3 : Int32) v8 I9 L R I11 q12) lc_X12_set lk_X12_246 c_x0.2 c_x0.1 ⟨_, rfl, rfl⟩ rfl (by rw [erm]; decide) (Nat.le_of_ble_eq_true rfl) dX12_makeUnit_26 ?_
  show V G _ 29 [(0, .ref (G.ad x0)), (1, .int x1)] [] I11 L R
  refine V_aload_n C0 0 rfl rfl dX12_makeUnit_29 ?_
  refine V_iload_n C0 1 rfl rfl dX12_makeUnit_30 ?_
  refine V_iconst C0 (v := (4 : Int32)) (by decide) dX12_makeUnit_31 ?_
  refine V_aload_n C0 0 rfl rfl dX12_makeUnit_32 ?_
  refine V_getI C0 11 26 fl_X12_262 c_x0.2 c_x0.1 rfl dX12_makeUnit_33 ?_
  obtain ⟨I13, q14, h⟩ := bn1_some h
  refine V_callV C0 (st := []) (As := [.int x1, .int (4 : Int32), .int (I11 x0 26)]) 11 (c_X12_set G.l G.D G.cA G.ad G.bs G.X C0.2.2.2.2.2.2.2.2.2.1 C0.2.2.2.2.2.2.2.2.2.2.2.2 x0 x1 (4 : Int32) (I11 x0 26) I11 L R I13 q14) lc_X12_set lk_X12_246 c_x0.2 c_x0.1 ⟨_, rfl, rfl⟩ rfl (by rw [erm]; decide) (Nat.le_of_ble_eq_true rfl) dX12_makeUnit_36 ?_
  show V G _ 39 [(0, .ref (G.ad x0)), (1, .int x1)] [] I13 L R
  refine V_aload_n C0 0 rfl rfl dX12_makeUnit_39 ?_
  refine V_iload_n C0 1 rfl rfl dX12_makeUnit_40 ?_
  refine V_iconst C0 (v := (1 : Int32)) (by decide) dX12_makeUnit_41 ?_
  obtain ⟨v15, I16, q17, h⟩ := bn2_some h
  refine V_callV C0 (st := []) (As := [.int x1, .int (1 : Int32)]) 11 (c_X12_answer G.l G.D G.cA G.ad G.bs G.X C0.2.2.2.2.2.2.2.2.2.1 C0.2.2.2.2.2.2.2.2.2.2.2.2 N x0 x1 (1 : Int32) I13 L R v15 I16 q17) lc_X12_answer lk_X12_250 c_x0.2 c_x0.1 ⟨_, rfl, rfl⟩ rfl (by rw [erm]; decide) (Nat.le_of_ble_eq_true rfl) dX12_makeUnit_42 ?_
  show V G _ 45 [(0, .ref (G.ad x0)), (1, .int x1)] [.int v15] I16 L R
  refine V_istore_n C0 [(2, .int v15), (0, .ref (G.ad x0)), (1, .int x1)] rfl (by rw [eNL]; decide) rfl dX12_makeUnit_45 ?_
  refine V_aload_n C0 1 rfl rfl dX12_makeUnit_46 ?_
  refine V_iload_n C0 2 rfl rfl dX12_makeUnit_47 ?_
  refine V_iconst C0 (v := (5 : Int32)) (by decide) dX12_makeUnit_48 ?_
  refine V_iload_n C0 0 rfl rfl dX12_makeUnit_49 ?_
  refine V_iconst C0 (v := (1 : Int32)) (by decide) dX12_makeUnit_50 ?_
  obtain ⟨s18, q19, h⟩ := bn1_some h
  have k20 : V G (qf G (none, I', L, R)) 59 [(0, .ref (G.ad x0)), (1, .int x1)] [.int s18, .int (5 : Int32), .int x1, .ref (G.ad x0)] I16 L R := by
    obtain ⟨I22, q23, h⟩ := bn1_some h
    refine V_callV C0 (st := []) (As := [.int x1, .int (5 : Int32), .int s18]) 11 (c_X12_set G.l G.D G.cA G.ad G.bs G.X C0.2.2.2.2.2.2.2.2.2.1 C0.2.2.2.2.2.2.2.2.2.2.2.2 x0 x1 (5 : Int32) s18 I16 L R I22 q23) lc_X12_set lk_X12_246 c_x0.2 c_x0.1 ⟨_, rfl, rfl⟩ rfl (by rw [erm]; decide) (Nat.le_of_ble_eq_true rfl) dX12_makeUnit_59 ?_
    show V G _ 62 [(0, .ref (G.ad x0)), (1, .int x1)] [] I22 L R
    refine V_aload_n C0 0 rfl rfl dX12_makeUnit_62 ?_
    refine V_dup C0 rfl dX12_makeUnit_63 ?_
    refine V_getI C0 11 26 fl_X12_262 c_x0.2 c_x0.1 rfl dX12_makeUnit_64 ?_
    refine V_aload_n C0 0 rfl rfl dX12_makeUnit_67 ?_
    refine V_iload_n C0 1 rfl rfl dX12_makeUnit_68 ?_
    refine V_iconst C0 (v := (5 : Int32)) (by decide) dX12_makeUnit_69 ?_
    obtain ⟨v24, q25, h⟩ := bn1_some h
    refine V_callV C0 (st := [.int (I22 x0 26), .ref (G.ad x0)]) (As := [.int x1, .int (5 : Int32)]) 11 (c_X12_get G.l G.D G.cA G.ad G.bs G.X C0.2.2.2.2.2.2.2.2.2.1 C0.2.2.2.2.2.2.2.2.2.2.2.2 x0 x1 (5 : Int32) I22 L R v24 q25) lc_X12_get lk_X12_211 c_x0.2 c_x0.1 ⟨_, rfl, rfl⟩ rfl (by rw [erm]; decide) (Nat.le_of_ble_eq_true rfl) dX12_makeUnit_70 ?_
    show V G _ 73 [(0, .ref (G.ad x0)), (1, .int x1)] [.int v24, .int (I22 x0 26), .ref (G.ad x0)] I22 L R
    refine V_iadd C0 dX12_makeUnit_73 ?_
    obtain ⟨I26, eI26, h⟩ := wr_some h
    refine V_putI C0 11 26 fp_X12_262 c_x0.2 c_x0.1 rfl dX12_makeUnit_74 ?_
    rw [← eI26]
    refine V_aload_n C0 0 rfl rfl dX12_makeUnit_77 ?_
    refine V_iload_n C0 1 rfl rfl dX12_makeUnit_78 ?_
    refine V_bipush C0 (v := (6 : Int32)) (by decide) dX12_makeUnit_79 ?_
    refine V_aload_n C0 0 rfl rfl dX12_makeUnit_81 ?_
    refine V_iload_n C0 1 rfl rfl dX12_makeUnit_82 ?_
    refine V_iconst C0 (v := (3 : Int32)) (by decide) dX12_makeUnit_83 ?_
    obtain ⟨v27, I28, q29, h⟩ := bn2_some h
    refine V_callV C0 (st := [.int (6 : Int32), .int x1, .ref (G.ad x0)]) (As := [.int x1, .int (3 : Int32)]) 11 (c_X12_answer G.l G.D G.cA G.ad G.bs G.X C0.2.2.2.2.2.2.2.2.2.1 C0.2.2.2.2.2.2.2.2.2.2.2.2 N x0 x1 (3 : Int32) I26 L R v27 I28 q29) lc_X12_answer lk_X12_250 c_x0.2 c_x0.1 ⟨_, rfl, rfl⟩ rfl (by rw [erm]; decide) (Nat.le_of_ble_eq_true rfl) dX12_makeUnit_84 ?_
    show V G _ 87 [(0, .ref (G.ad x0)), (1, .int x1)] [.int v27, .int (6 : Int32), .int x1, .ref (G.ad x0)] I28 L R
    obtain ⟨I30, q31, h⟩ := bn1_some h
    refine V_callV C0 (st := []) (As := [.int x1, .int (6 : Int32), .int v27]) 11 (c_X12_set G.l G.D G.cA G.ad G.bs G.X C0.2.2.2.2.2.2.2.2.2.1 C0.2.2.2.2.2.2.2.2.2.2.2.2 x0 x1 (6 : Int32) v27 I28 L R I30 q31) lc_X12_set lk_X12_246 c_x0.2 c_x0.1 ⟨_, rfl, rfl⟩ rfl (by rw [erm]; decide) (Nat.le_of_ble_eq_true rfl) dX12_makeUnit_87 ?_
    show V G _ 90 [(0, .ref (G.ad x0)), (1, .int x1)] [] I30 L R
    refine V_aload_n C0 0 rfl rfl dX12_makeUnit_90 ?_
    refine V_iload_n C0 1 rfl rfl dX12_makeUnit_91 ?_
    refine V_iconst C0 (v := (0 : Int32)) (by decide) dX12_makeUnit_92 ?_
    refine V_aload_n C0 0 rfl rfl dX12_makeUnit_93 ?_
    refine V_iload_n C0 1 rfl rfl dX12_makeUnit_94 ?_
    refine V_bipush C0 (v := (6 : Int32)) (by decide) dX12_makeUnit_95 ?_
    obtain ⟨v32, q33, h⟩ := bn1_some h
    refine V_callV C0 (st := [.int (0 : Int32), .int x1, .ref (G.ad x0)]) (As := [.int x1, .int (6 : Int32)]) 11 (c_X12_get G.l G.D G.cA G.ad G.bs G.X C0.2.2.2.2.2.2.2.2.2.1 C0.2.2.2.2.2.2.2.2.2.2.2.2 x0 x1 (6 : Int32) I30 L R v32 q33) lc_X12_get lk_X12_211 c_x0.2 c_x0.1 ⟨_, rfl, rfl⟩ rfl (by rw [erm]; decide) (Nat.le_of_ble_eq_true rfl) dX12_makeUnit_97 ?_
    show V G _ 100 [(0, .ref (G.ad x0)), (1, .int x1)] [.int v32, .int (0 : Int32), .int x1, .ref (G.ad x0)] I30 L R
    obtain ⟨I34, q35, h⟩ := bn1_some h
    refine V_callV C0 (st := []) (As := [.int x1, .int (0 : Int32), .int v32]) 11 (c_X12_noted G.l G.D G.cA G.ad G.bs G.X C0.2.2.2.2.2.2.2.2.2.1 C0.2.2.2.2.2.2.2.2.2.2.2.2 x0 x1 (0 : Int32) v32 I30 L R I34 q35) lc_X12_noted lk_X12_253 c_x0.2 c_x0.1 ⟨_, rfl, rfl⟩ rfl (by rw [erm]; decide) (Nat.le_of_ble_eq_true rfl) dX12_makeUnit_100 ?_
    show V G _ 103 [(0, .ref (G.ad x0)), (1, .int x1)] [] I34 L R
    cases h
    exact V_vret C0 dX12_makeUnit_103
  refine V_icmp_ge C0 (tgt := 58) (by decide) dX12_makeUnit_51 (fun c21 => ?_) (fun c21 => ?_)
  · have q19 := (if_pos c21).symm.trans q19
    refine V_iload_n C0 0 rfl rfl dX12_makeUnit_58 ?_
    cases q19
    exact V_sub [1, 2] rfl k20
  · have q19 := (if_neg c21).symm.trans q19
    refine V_iconst C0 (v := (1 : Int32)) (by decide) dX12_makeUnit_54 ?_
    refine V_goto C0 (tgt := 59) (by decide) dX12_makeUnit_55 ?_
    cases q19
    exact V_sub [1, 2] rfl k20
theorem dX12_makeLayer_0 : decode cX12_makeLayer 0 = .ok (.aload_n 0, 1) := by decide +kernel
theorem dX12_makeLayer_1 : decode cX12_makeLayer 1 = .ok (.getfield 47, 3) := by decide +kernel
theorem dX12_makeLayer_4 : decode cX12_makeLayer 4 = .ok (.iconst 3, 1) := by decide +kernel
theorem dX12_makeLayer_5 : decode cX12_makeLayer 5 = .ok (.iload_n 1, 1) := by decide +kernel
theorem dX12_makeLayer_6 : decode cX12_makeLayer 6 = .ok (.imul, 1) := by decide +kernel
theorem dX12_makeLayer_7 : decode cX12_makeLayer 7 = .ok (.iaload, 1) := by decide +kernel
theorem dX12_makeLayer_8 : decode cX12_makeLayer 8 = .ok (.istore_n 3, 1) := by decide +kernel
theorem dX12_makeLayer_9 : decode cX12_makeLayer 9 = .ok (.aload_n 0, 1) := by decide +kernel
theorem dX12_makeLayer_10 : decode cX12_makeLayer 10 = .ok (.getfield 47, 3) := by decide +kernel
theorem dX12_makeLayer_13 : decode cX12_makeLayer 13 = .ok (.iconst 3, 1) := by decide +kernel
theorem dX12_makeLayer_14 : decode cX12_makeLayer 14 = .ok (.iload_n 1, 1) := by decide +kernel
theorem dX12_makeLayer_15 : decode cX12_makeLayer 15 = .ok (.imul, 1) := by decide +kernel
theorem dX12_makeLayer_16 : decode cX12_makeLayer 16 = .ok (.iconst 1, 1) := by decide +kernel
theorem dX12_makeLayer_17 : decode cX12_makeLayer 17 = .ok (.iadd, 1) := by decide +kernel
theorem dX12_makeLayer_18 : decode cX12_makeLayer 18 = .ok (.iaload, 1) := by decide +kernel
theorem dX12_makeLayer_19 : decode cX12_makeLayer 19 = .ok (.istore 4, 2) := by decide +kernel
theorem dX12_makeLayer_21 : decode cX12_makeLayer 21 = .ok (.aload_n 0, 1) := by decide +kernel
theorem dX12_makeLayer_22 : decode cX12_makeLayer 22 = .ok (.getfield 47, 3) := by decide +kernel
theorem dX12_makeLayer_25 : decode cX12_makeLayer 25 = .ok (.iconst 3, 1) := by decide +kernel
theorem dX12_makeLayer_26 : decode cX12_makeLayer 26 = .ok (.iload_n 1, 1) := by decide +kernel
theorem dX12_makeLayer_27 : decode cX12_makeLayer 27 = .ok (.imul, 1) := by decide +kernel
theorem dX12_makeLayer_28 : decode cX12_makeLayer 28 = .ok (.iconst 2, 1) := by decide +kernel
theorem dX12_makeLayer_29 : decode cX12_makeLayer 29 = .ok (.iadd, 1) := by decide +kernel
theorem dX12_makeLayer_30 : decode cX12_makeLayer 30 = .ok (.iaload, 1) := by decide +kernel
theorem dX12_makeLayer_31 : decode cX12_makeLayer 31 = .ok (.istore 5, 2) := by decide +kernel
theorem dX12_makeLayer_33 : decode cX12_makeLayer 33 = .ok (.iload_n 2, 1) := by decide +kernel
theorem dX12_makeLayer_34 : decode cX12_makeLayer 34 = .ok (.ifCond .ne 11, 3) := by decide +kernel
theorem dX12_makeLayer_37 : decode cX12_makeLayer 37 = .ok (.aload_n 0, 1) := by decide +kernel
theorem dX12_makeLayer_38 : decode cX12_makeLayer 38 = .ok (.iload_n 1, 1) := by decide +kernel
theorem dX12_makeLayer_39 : decode cX12_makeLayer 39 = .ok (.invokevirtual 265, 3) := by decide +kernel
theorem dX12_makeLayer_42 : decode cX12_makeLayer 42 = .ok (.goto 120, 3) := by decide +kernel
theorem dX12_makeLayer_45 : decode cX12_makeLayer 45 = .ok (.iload_n 2, 1) := by decide +kernel
theorem dX12_makeLayer_46 : decode cX12_makeLayer 46 = .ok (.bipush 6, 2) := by decide +kernel
theorem dX12_makeLayer_48 : decode cX12_makeLayer 48 = .ok (.if_icmp .ge 15, 3) := by decide +kernel
theorem dX12_makeLayer_51 : decode cX12_makeLayer 51 = .ok (.aload_n 0, 1) := by decide +kernel
theorem dX12_makeLayer_52 : decode cX12_makeLayer 52 = .ok (.iload_n 1, 1) := by decide +kernel
theorem dX12_makeLayer_53 : decode cX12_makeLayer 53 = .ok (.iload_n 2, 1) := by decide +kernel
theorem dX12_makeLayer_54 : decode cX12_makeLayer 54 = .ok (.iload_n 3, 1) := by decide +kernel
theorem dX12_makeLayer_55 : decode cX12_makeLayer 55 = .ok (.iload 4, 2) := by decide +kernel
theorem dX12_makeLayer_57 : decode cX12_makeLayer 57 = .ok (.invokevirtual 268, 3) := by decide +kernel
theorem dX12_makeLayer_60 : decode cX12_makeLayer 60 = .ok (.goto 102, 3) := by decide +kernel
theorem dX12_makeLayer_63 : decode cX12_makeLayer 63 = .ok (.iload_n 2, 1) := by decide +kernel
theorem dX12_makeLayer_64 : decode cX12_makeLayer 64 = .ok (.bipush 9, 2) := by decide +kernel
theorem dX12_makeLayer_66 : decode cX12_makeLayer 66 = .ok (.if_icmp .lt 15, 3) := by decide +kernel
theorem dX12_makeLayer_69 : decode cX12_makeLayer 69 = .ok (.iload_n 2, 1) := by decide +kernel
theorem dX12_makeLayer_70 : decode cX12_makeLayer 70 = .ok (.bipush 20, 2) := by decide +kernel
theorem dX12_makeLayer_72 : decode cX12_makeLayer 72 = .ok (.if_icmp .eq 9, 3) := by decide +kernel
theorem dX12_makeLayer_75 : decode cX12_makeLayer 75 = .ok (.iload_n 2, 1) := by decide +kernel
theorem dX12_makeLayer_76 : decode cX12_makeLayer 76 = .ok (.bipush 21, 2) := by decide +kernel
theorem dX12_makeLayer_78 : decode cX12_makeLayer 78 = .ok (.if_icmp .ne 17, 3) := by decide +kernel
theorem dX12_makeLayer_81 : decode cX12_makeLayer 81 = .ok (.aload_n 0, 1) := by decide +kernel
theorem dX12_makeLayer_82 : decode cX12_makeLayer 82 = .ok (.iload_n 1, 1) := by decide +kernel
theorem dX12_makeLayer_83 : decode cX12_makeLayer 83 = .ok (.iload_n 2, 1) := by decide +kernel
theorem dX12_makeLayer_84 : decode cX12_makeLayer 84 = .ok (.iload_n 3, 1) := by decide +kernel
theorem dX12_makeLayer_85 : decode cX12_makeLayer 85 = .ok (.iload 4, 2) := by decide +kernel
theorem dX12_makeLayer_87 : decode cX12_makeLayer 87 = .ok (.iload 5, 2) := by decide +kernel
theorem dX12_makeLayer_89 : decode cX12_makeLayer 89 = .ok (.invokevirtual 272, 3) := by decide +kernel
theorem dX12_makeLayer_92 : decode cX12_makeLayer 92 = .ok (.goto 70, 3) := by decide +kernel
theorem dX12_makeLayer_95 : decode cX12_makeLayer 95 = .ok (.iload_n 2, 1) := by decide +kernel
theorem dX12_makeLayer_96 : decode cX12_makeLayer 96 = .ok (.bipush 15, 2) := by decide +kernel
theorem dX12_makeLayer_98 : decode cX12_makeLayer 98 = .ok (.if_icmp .ge 16, 3) := by decide +kernel
theorem dX12_makeLayer_101 : decode cX12_makeLayer 101 = .ok (.aload_n 0, 1) := by decide +kernel
theorem dX12_makeLayer_102 : decode cX12_makeLayer 102 = .ok (.iload_n 1, 1) := by decide +kernel
theorem dX12_makeLayer_103 : decode cX12_makeLayer 103 = .ok (.iload_n 2, 1) := by decide +kernel
theorem dX12_makeLayer_104 : decode cX12_makeLayer 104 = .ok (.iload 4, 2) := by decide +kernel
theorem dX12_makeLayer_106 : decode cX12_makeLayer 106 = .ok (.iload 5, 2) := by decide +kernel
theorem dX12_makeLayer_108 : decode cX12_makeLayer 108 = .ok (.invokevirtual 276, 3) := by decide +kernel
theorem dX12_makeLayer_111 : decode cX12_makeLayer 111 = .ok (.goto 51, 3) := by decide +kernel
theorem dX12_makeLayer_114 : decode cX12_makeLayer 114 = .ok (.iload_n 2, 1) := by decide +kernel
theorem dX12_makeLayer_115 : decode cX12_makeLayer 115 = .ok (.bipush 20, 2) := by decide +kernel
theorem dX12_makeLayer_117 : decode cX12_makeLayer 117 = .ok (.if_icmp .ge 16, 3) := by decide +kernel
theorem dX12_makeLayer_120 : decode cX12_makeLayer 120 = .ok (.aload_n 0, 1) := by decide +kernel
theorem dX12_makeLayer_121 : decode cX12_makeLayer 121 = .ok (.iload_n 1, 1) := by decide +kernel
theorem dX12_makeLayer_122 : decode cX12_makeLayer 122 = .ok (.iload_n 2, 1) := by decide +kernel
theorem dX12_makeLayer_123 : decode cX12_makeLayer 123 = .ok (.iload 4, 2) := by decide +kernel
theorem dX12_makeLayer_125 : decode cX12_makeLayer 125 = .ok (.iload 5, 2) := by decide +kernel
theorem dX12_makeLayer_127 : decode cX12_makeLayer 127 = .ok (.invokevirtual 279, 3) := by decide +kernel
theorem dX12_makeLayer_130 : decode cX12_makeLayer 130 = .ok (.goto 32, 3) := by decide +kernel
theorem dX12_makeLayer_133 : decode cX12_makeLayer 133 = .ok (.iload_n 2, 1) := by decide +kernel
theorem dX12_makeLayer_134 : decode cX12_makeLayer 134 = .ok (.bipush 26, 2) := by decide +kernel
theorem dX12_makeLayer_136 : decode cX12_makeLayer 136 = .ok (.if_icmp .ge 15, 3) := by decide +kernel
theorem dX12_makeLayer_139 : decode cX12_makeLayer 139 = .ok (.aload_n 0, 1) := by decide +kernel
theorem dX12_makeLayer_140 : decode cX12_makeLayer 140 = .ok (.iload_n 1, 1) := by decide +kernel
theorem dX12_makeLayer_141 : decode cX12_makeLayer 141 = .ok (.iload_n 2, 1) := by decide +kernel
theorem dX12_makeLayer_142 : decode cX12_makeLayer 142 = .ok (.iload_n 3, 1) := by decide +kernel
theorem dX12_makeLayer_143 : decode cX12_makeLayer 143 = .ok (.iload 4, 2) := by decide +kernel
theorem dX12_makeLayer_145 : decode cX12_makeLayer 145 = .ok (.invokevirtual 282, 3) := by decide +kernel
theorem dX12_makeLayer_148 : decode cX12_makeLayer 148 = .ok (.goto 14, 3) := by decide +kernel
theorem dX12_makeLayer_151 : decode cX12_makeLayer 151 = .ok (.aload_n 0, 1) := by decide +kernel
theorem dX12_makeLayer_152 : decode cX12_makeLayer 152 = .ok (.iload_n 1, 1) := by decide +kernel
theorem dX12_makeLayer_153 : decode cX12_makeLayer 153 = .ok (.iload_n 2, 1) := by decide +kernel
theorem dX12_makeLayer_154 : decode cX12_makeLayer 154 = .ok (.iload_n 3, 1) := by decide +kernel
theorem dX12_makeLayer_155 : decode cX12_makeLayer 155 = .ok (.iload 4, 2) := by decide +kernel
theorem dX12_makeLayer_157 : decode cX12_makeLayer 157 = .ok (.iload 5, 2) := by decide +kernel
theorem dX12_makeLayer_159 : decode cX12_makeLayer 159 = .ok (.invokevirtual 285, 3) := by decide +kernel
theorem dX12_makeLayer_162 : decode cX12_makeLayer 162 = .ok (.return_, 1) := by decide +kernel
def F_X12_makeLayer (N : Nat) (x0 : Nat) (x1 : Int32) (x2 : Int32) (I : MI) (L : ML) (R : MR) : Option (MI) :=
  if kd x0 = 11 ∧ x0 < NN then
  (rf R x0 23 20).bind fun a1 =>
  (ri I a1 ((3 : Int32) * x1)).bind fun v2 =>
  (ri I a1 (((3 : Int32) * x1) + (1 : Int32))).bind fun v3 =>
  (ri I a1 (((3 : Int32) * x1) + (2 : Int32))).bind fun v4 =>
  if x2 = 0 then
    bn1 (F_X12_makeUnit N x0 x1 I L R) fun I29 =>
    some (I29)
  else
    if (6 : Int32) ≤ x2 then
      if x2 < (9 : Int32) then
        bn1 (F_X12_makeLoad N x0 x1 x2 v2 v3 v4 I L R) fun I8 =>
        some (I8)
      else
        if x2 = (20 : Int32) then
          bn1 (F_X12_makeLoad N x0 x1 x2 v2 v3 v4 I L R) fun I11 =>
          some (I11)
        else
          if x2 = (21 : Int32) then
            bn1 (F_X12_makeLoad N x0 x1 x2 v2 v3 v4 I L R) fun I25 =>
            some (I25)
          else
            if (15 : Int32) ≤ x2 then
              if (20 : Int32) ≤ x2 then
                if (26 : Int32) ≤ x2 then
                  bn1 (F_X12_makeLink N x0 x1 x2 v2 v3 v4 I L R) fun I17 =>
                  some (I17)
                else
                  bn1 (F_X12_makeSource N x0 x1 x2 v2 v3 I L R) fun I19 =>
                  some (I19)
              else
                bn1 (F_X12_makeActuator N x0 x1 x2 v3 v4 I L R) fun I21 =>
                some (I21)
            else
              bn1 (F_X12_makeSensor N x0 x1 x2 v3 v4 I L R) fun I23 =>
              some (I23)
    else
      bn1 (F_X12_makeStore N x0 x1 x2 v2 v3 I L R) fun I27 =>
      some (I27)
  else none
set_option maxRecDepth 100000 in
set_option maxHeartbeats 4000000 in
theorem c_X12_makeLayer (l : Launch) (D : va_G) (cA : Nat → ClassId) (ad : Nat → Nat) (bs : Nat) (X : State → Prop) (hAd : Ax ad bs) (hX : Stb bs X) (N : Nat) (x0 : Nat) (x1 : Int32) (x2 : Int32) (I : MI) (L : ML) (R : MR) (I' : MI) (h : F_X12_makeLayer N x0 x1 x2 I L R = some (I')) : Cn l D cA ad bs X yX12_makeLayer cX12_makeLayer 6 none 4 97 [.ref (ad x0), .int x1, .int x2] I L R (none, I', L, R) := by
  refine Cn.ofV hAd hX [(0, .ref (ad x0)), (1, .int x1), (2, .int x2)] rfl (Nat.le_of_ble_eq_true rfl) (by decide) ?_
  intro G el eD ecA ead ebs eX erm eNL C0
  subst el eD ecA ead ebs eX
  unfold F_X12_makeLayer at h
  obtain ⟨c_x0, h⟩ := ite_some h
  refine V_aload_n C0 0 rfl rfl dX12_makeLayer_0 ?_
  obtain ⟨a1, qa1, h⟩ := bnd_some h
  refine V_getR C0 11 23 fl_X12_47 c_x0.2 c_x0.1 rfl (rf_at qa1) dX12_makeLayer_1 ?_
  refine V_iconst C0 (v := (3 : Int32)) (by decide) dX12_makeLayer_4 ?_
  refine V_iload_n C0 1 rfl rfl dX12_makeLayer_5 ?_
  refine V_imul C0 dX12_makeLayer_6 ?_
  obtain ⟨v2, qv2, h⟩ := bnd_some h
  refine V_ri C0 (rf_lt qa1) (rf_kd qa1) qv2 dX12_makeLayer_7 ?_
  refine V_istore_n C0 [(3, .int v2), (0, .ref (G.ad x0)), (1, .int x1), (2, .int x2)] rfl (by rw [eNL]; decide) rfl dX12_makeLayer_8 ?_
  refine V_aload_n C0 1 rfl rfl dX12_makeLayer_9 ?_
  refine V_getR C0 11 23 fl_X12_47 c_x0.2 c_x0.1 rfl (rf_at qa1) dX12_makeLayer_10 ?_
  refine V_iconst C0 (v := (3 : Int32)) (by decide) dX12_makeLayer_13 ?_
  refine V_iload_n C0 2 rfl rfl dX12_makeLayer_14 ?_
  refine V_imul C0 dX12_makeLayer_15 ?_
  refine V_iconst C0 (v := (1 : Int32)) (by decide) dX12_makeLayer_16 ?_
  refine V_iadd C0 dX12_makeLayer_17 ?_
  obtain ⟨v3, qv3, h⟩ := bnd_some h
  refine V_ri C0 (rf_lt qa1) (rf_kd qa1) qv3 dX12_makeLayer_18 ?_
  refine V_istore C0 [(4, .int v3), (3, .int v2), (0, .ref (G.ad x0)), (1, .int x1), (2, .int x2)] (by rw [eNL]; decide) rfl dX12_makeLayer_19 ?_
  refine V_aload_n C0 2 rfl rfl dX12_makeLayer_21 ?_
  refine V_getR C0 11 23 fl_X12_47 c_x0.2 c_x0.1 rfl (rf_at qa1) dX12_makeLayer_22 ?_
  refine V_iconst C0 (v := (3 : Int32)) (by decide) dX12_makeLayer_25 ?_
  refine V_iload_n C0 3 rfl rfl dX12_makeLayer_26 ?_
  refine V_imul C0 dX12_makeLayer_27 ?_
  refine V_iconst C0 (v := (2 : Int32)) (by decide) dX12_makeLayer_28 ?_
  refine V_iadd C0 dX12_makeLayer_29 ?_
  obtain ⟨v4, qv4, h⟩ := bnd_some h
  refine V_ri C0 (rf_lt qa1) (rf_kd qa1) qv4 dX12_makeLayer_30 ?_
  refine V_istore C0 [(5, .int v4), (4, .int v3), (3, .int v2), (0, .ref (G.ad x0)), (1, .int x1), (2, .int x2)] (by rw [eNL]; decide) rfl dX12_makeLayer_31 ?_
  refine V_iload_n C0 5 rfl rfl dX12_makeLayer_33 ?_
  refine V_if_ne C0 (tgt := 45) (by decide) dX12_makeLayer_34 (fun c5 => ?_) (fun c5 => ?_)
  · have h := (if_neg c5).symm.trans h
    refine V_iload_n C0 5 rfl rfl dX12_makeLayer_45 ?_
    refine V_bipush C0 (v := (6 : Int32)) (by decide) dX12_makeLayer_46 ?_
    refine V_icmp_ge C0 (tgt := 63) (by decide) dX12_makeLayer_48 (fun c6 => ?_) (fun c6 => ?_)
    · have h := (if_pos c6).symm.trans h
      refine V_iload_n C0 5 rfl rfl dX12_makeLayer_63 ?_
      refine V_bipush C0 (v := (9 : Int32)) (by decide) dX12_makeLayer_64 ?_
      refine V_icmp_lt C0 (tgt := 81) (by decide) dX12_makeLayer_66 (fun c7 => ?_) (fun c7 => ?_)
      · have h := (if_pos c7).symm.trans h
        refine V_aload_n C0 3 rfl rfl dX12_makeLayer_81 ?_
        refine V_iload_n C0 4 rfl rfl dX12_makeLayer_82 ?_
        refine V_iload_n C0 5 rfl rfl dX12_makeLayer_83 ?_
        refine V_iload_n C0 2 rfl rfl dX12_makeLayer_84 ?_
        refine V_iload C0 1 rfl dX12_makeLayer_85 ?_
        refine V_iload C0 0 rfl dX12_makeLayer_87 ?_
        obtain ⟨I8, q9, h⟩ := bn1_some h
        refine V_callV C0 (st := []) (As := [.int x1, .int x2, .int v2, .int v3, .int v4]) 11 (c_X12_makeLoad G.l G.D G.cA G.ad G.bs G.X C0.2.2.2.2.2.2.2.2.2.1 C0.2.2.2.2.2.2.2.2.2.2.2.2 N x0 x1 x2 v2 v3 v4 I L R I8 q9) lc_X12_makeLoad lk_X12_272 c_x0.2 c_x0.1 ⟨_, rfl, rfl⟩ rfl (by rw [erm]; decide) (Nat.le_of_ble_eq_true rfl) dX12_makeLayer_89 ?_
        show V G _ 92 [(5, .int v4), (4, .int v3), (3, .int v2), (0, .ref (G.ad x0)), (1, .int x1), (2, .int x2)] [] I8 L R
        refine V_goto C0 (tgt := 162) (by decide) dX12_makeLayer_92 ?_
        cases h
        exact V_vret C0 dX12_makeLayer_162
      · have h := (if_neg c7).symm.trans h
        refine V_iload_n C0 5 rfl rfl dX12_makeLayer_69 ?_
        refine V_bipush C0 (v := (20 : Int32)) (by decide) dX12_makeLayer_70 ?_
        refine V_icmp_eq C0 (tgt := 81) (by decide) dX12_makeLayer_72 (fun c10 => ?_) (fun c10 => ?_)
        · have h := (if_pos c10).symm.trans h
          refine V_aload_n C0 3 rfl rfl dX12_makeLayer_81 ?_
          refine V_iload_n C0 4 rfl rfl dX12_makeLayer_82 ?_
          refine V_iload_n C0 5 rfl rfl dX12_makeLayer_83 ?_
          refine V_iload_n C0 2 rfl rfl dX12_makeLayer_84 ?_
          refine V_iload C0 1 rfl dX12_makeLayer_85 ?_
          refine V_iload C0 0 rfl dX12_makeLayer_87 ?_
          obtain ⟨I11, q12, h⟩ := bn1_some h
          refine V_callV C0 (st := []) (As := [.int x1, .int x2, .int v2, .int v3, .int v4]) 11 (c_X12_makeLoad G.l G.D G.cA G.ad G.bs G.X C0.2.2.2.2.2.2.2.2.2.1 C0.2.2.2.2.2.2.2.2.2.2.2.2 N x0 x1 x2 v2 v3 v4 I L R I11 q12) lc_X12_makeLoad lk_X12_272 c_x0.2 c_x0.1 ⟨_, rfl, rfl⟩ rfl (by rw [erm]; decide) (Nat.le_of_ble_eq_true rfl) dX12_makeLayer_89 ?_
          show V G _ 92 [(5, .int v4), (4, .int v3), (3, .int v2), (0, .ref (G.ad x0)), (1, .int x1), (2, .int x2)] [] I11 L R
          refine V_goto C0 (tgt := 162) (by decide) dX12_makeLayer_92 ?_
          cases h
          exact V_vret C0 dX12_makeLayer_162
        · have h := (if_neg c10).symm.trans h
          refine V_iload_n C0 5 rfl rfl dX12_makeLayer_75 ?_
          refine V_bipush C0 (v := (21 : Int32)) (by decide) dX12_makeLayer_76 ?_
          refine V_icmp_ne C0 (tgt := 95) (by decide) dX12_makeLayer_78 (fun c13 => ?_) (fun c13 => ?_)
          · have h := (if_neg c13).symm.trans h
            refine V_iload_n C0 5 rfl rfl dX12_makeLayer_95 ?_
            refine V_bipush C0 (v := (15 : Int32)) (by decide) dX12_makeLayer_96 ?_
            refine V_icmp_ge C0 (tgt := 114) (by decide) dX12_makeLayer_98 (fun c14 => ?_) (fun c14 => ?_)
            · have h := (if_pos c14).symm.trans h
              refine V_iload_n C0 5 rfl rfl dX12_makeLayer_114 ?_
              refine V_bipush C0 (v := (20 : Int32)) (by decide) dX12_makeLayer_115 ?_
              refine V_icmp_ge C0 (tgt := 133) (by decide) dX12_makeLayer_117 (fun c15 => ?_) (fun c15 => ?_)
              · have h := (if_pos c15).symm.trans h
                refine V_iload_n C0 5 rfl rfl dX12_makeLayer_133 ?_
                refine V_bipush C0 (v := (26 : Int32)) (by decide) dX12_makeLayer_134 ?_
                refine V_icmp_ge C0 (tgt := 151) (by decide) dX12_makeLayer_136 (fun c16 => ?_) (fun c16 => ?_)
                · have h := (if_pos c16).symm.trans h
                  refine V_aload_n C0 3 rfl rfl dX12_makeLayer_151 ?_
                  refine V_iload_n C0 4 rfl rfl dX12_makeLayer_152 ?_
                  refine V_iload_n C0 5 rfl rfl dX12_makeLayer_153 ?_
                  refine V_iload_n C0 2 rfl rfl dX12_makeLayer_154 ?_
                  refine V_iload C0 1 rfl dX12_makeLayer_155 ?_
                  refine V_iload C0 0 rfl dX12_makeLayer_157 ?_
                  obtain ⟨I17, q18, h⟩ := bn1_some h
                  refine V_callV C0 (st := []) (As := [.int x1, .int x2, .int v2, .int v3, .int v4]) 11 (c_X12_makeLink G.l G.D G.cA G.ad G.bs G.X C0.2.2.2.2.2.2.2.2.2.1 C0.2.2.2.2.2.2.2.2.2.2.2.2 N x0 x1 x2 v2 v3 v4 I L R I17 q18) lc_X12_makeLink lk_X12_285 c_x0.2 c_x0.1 ⟨_, rfl, rfl⟩ rfl (by rw [erm]; decide) (Nat.le_of_ble_eq_true rfl) dX12_makeLayer_159 ?_
                  show V G _ 162 [(5, .int v4), (4, .int v3), (3, .int v2), (0, .ref (G.ad x0)), (1, .int x1), (2, .int x2)] [] I17 L R
                  cases h
                  exact V_vret C0 dX12_makeLayer_162
                · have h := (if_neg c16).symm.trans h
                  refine V_aload_n C0 3 rfl rfl dX12_makeLayer_139 ?_
                  refine V_iload_n C0 4 rfl rfl dX12_makeLayer_140 ?_
                  refine V_iload_n C0 5 rfl rfl dX12_makeLayer_141 ?_
                  refine V_iload_n C0 2 rfl rfl dX12_makeLayer_142 ?_
                  refine V_iload C0 1 rfl dX12_makeLayer_143 ?_
                  obtain ⟨I19, q20, h⟩ := bn1_some h
                  refine V_callV C0 (st := []) (As := [.int x1, .int x2, .int v2, .int v3]) 11 (c_X12_makeSource G.l G.D G.cA G.ad G.bs G.X C0.2.2.2.2.2.2.2.2.2.1 C0.2.2.2.2.2.2.2.2.2.2.2.2 N x0 x1 x2 v2 v3 I L R I19 q20) lc_X12_makeSource lk_X12_282 c_x0.2 c_x0.1 ⟨_, rfl, rfl⟩ rfl (by rw [erm]; decide) (Nat.le_of_ble_eq_true rfl) dX12_makeLayer_145 ?_
                  show V G _ 148 [(5, .int v4), (4, .int v3), (3, .int v2), (0, .ref (G.ad x0)), (1, .int x1), (2, .int x2)] [] I19 L R
                  refine V_goto C0 (tgt := 162) (by decide) dX12_makeLayer_148 ?_
                  cases h
                  exact V_vret C0 dX12_makeLayer_162
              · have h := (if_neg c15).symm.trans h
                refine V_aload_n C0 3 rfl rfl dX12_makeLayer_120 ?_
                refine V_iload_n C0 4 rfl rfl dX12_makeLayer_121 ?_
                refine V_iload_n C0 5 rfl rfl dX12_makeLayer_122 ?_
                refine V_iload C0 1 rfl dX12_makeLayer_123 ?_
                refine V_iload C0 0 rfl dX12_makeLayer_125 ?_
                obtain ⟨I21, q22, h⟩ := bn1_some h
                refine V_callV C0 (st := []) (As := [.int x1, .int x2, .int v3, .int v4]) 11 (c_X12_makeActuator G.l G.D G.cA G.ad G.bs G.X C0.2.2.2.2.2.2.2.2.2.1 C0.2.2.2.2.2.2.2.2.2.2.2.2 N x0 x1 x2 v3 v4 I L R I21 q22) lc_X12_makeActuator lk_X12_279 c_x0.2 c_x0.1 ⟨_, rfl, rfl⟩ rfl (by rw [erm]; decide) (Nat.le_of_ble_eq_true rfl) dX12_makeLayer_127 ?_
                show V G _ 130 [(5, .int v4), (4, .int v3), (3, .int v2), (0, .ref (G.ad x0)), (1, .int x1), (2, .int x2)] [] I21 L R
                refine V_goto C0 (tgt := 162) (by decide) dX12_makeLayer_130 ?_
                cases h
                exact V_vret C0 dX12_makeLayer_162
            · have h := (if_neg c14).symm.trans h
              refine V_aload_n C0 3 rfl rfl dX12_makeLayer_101 ?_
              refine V_iload_n C0 4 rfl rfl dX12_makeLayer_102 ?_
              refine V_iload_n C0 5 rfl rfl dX12_makeLayer_103 ?_
              refine V_iload C0 1 rfl dX12_makeLayer_104 ?_
              refine V_iload C0 0 rfl dX12_makeLayer_106 ?_
              obtain ⟨I23, q24, h⟩ := bn1_some h
              refine V_callV C0 (st := []) (As := [.int x1, .int x2, .int v3, .int v4]) 11 (c_X12_makeSensor G.l G.D G.cA G.ad G.bs G.X C0.2.2.2.2.2.2.2.2.2.1 C0.2.2.2.2.2.2.2.2.2.2.2.2 N x0 x1 x2 v3 v4 I L R I23 q24) lc_X12_makeSensor lk_X12_276 c_x0.2 c_x0.1 ⟨_, rfl, rfl⟩ rfl (by rw [erm]; decide) (Nat.le_of_ble_eq_true rfl) dX12_makeLayer_108 ?_
              show V G _ 111 [(5, .int v4), (4, .int v3), (3, .int v2), (0, .ref (G.ad x0)), (1, .int x1), (2, .int x2)] [] I23 L R
              refine V_goto C0 (tgt := 162) (by decide) dX12_makeLayer_111 ?_
              cases h
              exact V_vret C0 dX12_makeLayer_162
          · have h := (if_pos c13).symm.trans h
            refine V_aload_n C0 3 rfl rfl dX12_makeLayer_81 ?_
            refine V_iload_n C0 4 rfl rfl dX12_makeLayer_82 ?_
            refine V_iload_n C0 5 rfl rfl dX12_makeLayer_83 ?_
            refine V_iload_n C0 2 rfl rfl dX12_makeLayer_84 ?_
            refine V_iload C0 1 rfl dX12_makeLayer_85 ?_
            refine V_iload C0 0 rfl dX12_makeLayer_87 ?_
            obtain ⟨I25, q26, h⟩ := bn1_some h
            refine V_callV C0 (st := []) (As := [.int x1, .int x2, .int v2, .int v3, .int v4]) 11 (c_X12_makeLoad G.l G.D G.cA G.ad G.bs G.X C0.2.2.2.2.2.2.2.2.2.1 C0.2.2.2.2.2.2.2.2.2.2.2.2 N x0 x1 x2 v2 v3 v4 I L R I25 q26) lc_X12_makeLoad lk_X12_272 c_x0.2 c_x0.1 ⟨_, rfl, rfl⟩ rfl (by rw [erm]; decide) (Nat.le_of_ble_eq_true rfl) dX12_makeLayer_89 ?_
            show V G _ 92 [(5, .int v4), (4, .int v3), (3, .int v2), (0, .ref (G.ad x0)), (1, .int x1), (2, .int x2)] [] I25 L R
            refine V_goto C0 (tgt := 162) (by decide) dX12_makeLayer_92 ?_
            cases h
            exact V_vret C0 dX12_makeLayer_162
    · have h := (if_neg c6).symm.trans h
      refine V_aload_n C0 3 rfl rfl dX12_makeLayer_51 ?_
      refine V_iload_n C0 4 rfl rfl dX12_makeLayer_52 ?_
      refine V_iload_n C0 5 rfl rfl dX12_makeLayer_53 ?_
      refine V_iload_n C0 2 rfl rfl dX12_makeLayer_54 ?_
      refine V_iload C0 1 rfl dX12_makeLayer_55 ?_
      obtain ⟨I27, q28, h⟩ := bn1_some h
      refine V_callV C0 (st := []) (As := [.int x1, .int x2, .int v2, .int v3]) 11 (c_X12_makeStore G.l G.D G.cA G.ad G.bs G.X C0.2.2.2.2.2.2.2.2.2.1 C0.2.2.2.2.2.2.2.2.2.2.2.2 N x0 x1 x2 v2 v3 I L R I27 q28) lc_X12_makeStore lk_X12_268 c_x0.2 c_x0.1 ⟨_, rfl, rfl⟩ rfl (by rw [erm]; decide) (Nat.le_of_ble_eq_true rfl) dX12_makeLayer_57 ?_
      show V G _ 60 [(5, .int v4), (4, .int v3), (3, .int v2), (0, .ref (G.ad x0)), (1, .int x1), (2, .int x2)] [] I27 L R
      refine V_goto C0 (tgt := 162) (by decide) dX12_makeLayer_60 ?_
      cases h
      exact V_vret C0 dX12_makeLayer_162
  · have h := (if_pos c5).symm.trans h
    refine V_aload_n C0 3 rfl rfl dX12_makeLayer_37 ?_
    refine V_iload_n C0 4 rfl rfl dX12_makeLayer_38 ?_
    obtain ⟨I29, q30, h⟩ := bn1_some h
    refine V_callV C0 (st := []) (As := [.int x1]) 11 (c_X12_makeUnit G.l G.D G.cA G.ad G.bs G.X C0.2.2.2.2.2.2.2.2.2.1 C0.2.2.2.2.2.2.2.2.2.2.2.2 N x0 x1 I L R I29 q30) lc_X12_makeUnit lk_X12_265 c_x0.2 c_x0.1 ⟨_, rfl, rfl⟩ rfl (by rw [erm]; decide) (Nat.le_of_ble_eq_true rfl) dX12_makeLayer_39 ?_
    show V G _ 42 [(5, .int v4), (4, .int v3), (3, .int v2), (0, .ref (G.ad x0)), (1, .int x1), (2, .int x2)] [] I29 L R
    refine V_goto C0 (tgt := 162) (by decide) dX12_makeLayer_42 ?_
    cases h
    exact V_vret C0 dX12_makeLayer_162
theorem dX12_make_0 : decode cX12_make 0 = .ok (.iconst 0, 1) := by decide +kernel
theorem dX12_make_1 : decode cX12_make 1 = .ok (.istore_n 3, 1) := by decide +kernel
theorem dX12_make_2 : decode cX12_make 2 = .ok (.iload_n 3, 1) := by decide +kernel
theorem dX12_make_3 : decode cX12_make 3 = .ok (.bipush 65, 2) := by decide +kernel
theorem dX12_make_5 : decode cX12_make 5 = .ok (.if_icmp .ge 16, 3) := by decide +kernel
theorem dX12_make_8 : decode cX12_make 8 = .ok (.aload_n 0, 1) := by decide +kernel
theorem dX12_make_9 : decode cX12_make 9 = .ok (.iload_n 1, 1) := by decide +kernel
theorem dX12_make_10 : decode cX12_make 10 = .ok (.iload_n 3, 1) := by decide +kernel
theorem dX12_make_11 : decode cX12_make 11 = .ok (.iconst 0, 1) := by decide +kernel
theorem dX12_make_12 : decode cX12_make 12 = .ok (.invokevirtual 246, 3) := by decide +kernel
theorem dX12_make_15 : decode cX12_make 15 = .ok (.iinc 3 1, 3) := by decide +kernel
theorem dX12_make_18 : decode cX12_make 18 = .ok (.goto (-16), 3) := by decide +kernel
theorem dX12_make_21 : decode cX12_make 21 = .ok (.aload_n 0, 1) := by decide +kernel
theorem dX12_make_22 : decode cX12_make 22 = .ok (.iload_n 1, 1) := by decide +kernel
theorem dX12_make_23 : decode cX12_make 23 = .ok (.iconst 0, 1) := by decide +kernel
theorem dX12_make_24 : decode cX12_make 24 = .ok (.iload_n 2, 1) := by decide +kernel
theorem dX12_make_25 : decode cX12_make 25 = .ok (.invokevirtual 246, 3) := by decide +kernel
theorem dX12_make_28 : decode cX12_make 28 = .ok (.aload_n 0, 1) := by decide +kernel
theorem dX12_make_29 : decode cX12_make 29 = .ok (.iload_n 1, 1) := by decide +kernel
theorem dX12_make_30 : decode cX12_make 30 = .ok (.bipush 62, 2) := by decide +kernel
theorem dX12_make_32 : decode cX12_make 32 = .ok (.sipush 200, 3) := by decide +kernel
theorem dX12_make_35 : decode cX12_make 35 = .ok (.invokevirtual 246, 3) := by decide +kernel
theorem dX12_make_38 : decode cX12_make 38 = .ok (.aload_n 0, 1) := by decide +kernel
theorem dX12_make_39 : decode cX12_make 39 = .ok (.iload_n 2, 1) := by decide +kernel
theorem dX12_make_40 : decode cX12_make 40 = .ok (.iconst 2, 1) := by decide +kernel
theorem dX12_make_41 : decode cX12_make 41 = .ok (.invokevirtual 214, 3) := by decide +kernel
theorem dX12_make_44 : decode cX12_make 44 = .ok (.ifCond .eq 11, 3) := by decide +kernel
theorem dX12_make_47 : decode cX12_make 47 = .ok (.aload_n 0, 1) := by decide +kernel
theorem dX12_make_48 : decode cX12_make 48 = .ok (.iload_n 1, 1) := by decide +kernel
theorem dX12_make_49 : decode cX12_make 49 = .ok (.bipush 12, 2) := by decide +kernel
theorem dX12_make_51 : decode cX12_make 51 = .ok (.iconst 3, 1) := by decide +kernel
theorem dX12_make_52 : decode cX12_make 52 = .ok (.invokevirtual 246, 3) := by decide +kernel
theorem dX12_make_55 : decode cX12_make 55 = .ok (.iload_n 2, 1) := by decide +kernel
theorem dX12_make_56 : decode cX12_make 56 = .ok (.bipush 17, 2) := by decide +kernel
theorem dX12_make_58 : decode cX12_make 58 = .ok (.if_icmp .ne 12, 3) := by decide +kernel
theorem dX12_make_61 : decode cX12_make 61 = .ok (.aload_n 0, 1) := by decide +kernel
theorem dX12_make_62 : decode cX12_make 62 = .ok (.iload_n 1, 1) := by decide +kernel
theorem dX12_make_63 : decode cX12_make 63 = .ok (.bipush 46, 2) := by decide +kernel
theorem dX12_make_65 : decode cX12_make 65 = .ok (.bipush 7, 2) := by decide +kernel
theorem dX12_make_67 : decode cX12_make 67 = .ok (.invokevirtual 246, 3) := by decide +kernel
theorem dX12_make_70 : decode cX12_make 70 = .ok (.iload_n 2, 1) := by decide +kernel
theorem dX12_make_71 : decode cX12_make 71 = .ok (.bipush 24, 2) := by decide +kernel
theorem dX12_make_73 : decode cX12_make 73 = .ok (.if_icmp .ne 11, 3) := by decide +kernel
theorem dX12_make_76 : decode cX12_make 76 = .ok (.aload_n 0, 1) := by decide +kernel
theorem dX12_make_77 : decode cX12_make 77 = .ok (.iload_n 1, 1) := by decide +kernel
theorem dX12_make_78 : decode cX12_make 78 = .ok (.bipush 55, 2) := by decide +kernel
theorem dX12_make_80 : decode cX12_make 80 = .ok (.iconst 5, 1) := by decide +kernel
theorem dX12_make_81 : decode cX12_make 81 = .ok (.invokevirtual 246, 3) := by decide +kernel
theorem dX12_make_84 : decode cX12_make 84 = .ok (.aload_n 0, 1) := by decide +kernel
theorem dX12_make_85 : decode cX12_make 85 = .ok (.iload_n 2, 1) := by decide +kernel
theorem dX12_make_86 : decode cX12_make 86 = .ok (.invokevirtual 220, 3) := by decide +kernel
theorem dX12_make_89 : decode cX12_make 89 = .ok (.istore_n 3, 1) := by decide +kernel
theorem dX12_make_90 : decode cX12_make 90 = .ok (.iconst 0, 1) := by decide +kernel
theorem dX12_make_91 : decode cX12_make 91 = .ok (.istore 4, 2) := by decide +kernel
theorem dX12_make_93 : decode cX12_make 93 = .ok (.iload 4, 2) := by decide +kernel
theorem dX12_make_95 : decode cX12_make 95 = .ok (.iload_n 3, 1) := by decide +kernel
theorem dX12_make_96 : decode cX12_make 96 = .ok (.if_icmp .ge 23, 3) := by decide +kernel
theorem dX12_make_99 : decode cX12_make 99 = .ok (.aload_n 0, 1) := by decide +kernel
theorem dX12_make_100 : decode cX12_make 100 = .ok (.getfield 65, 3) := by decide +kernel
theorem dX12_make_103 : decode cX12_make 103 = .ok (.iload 4, 2) := by decide +kernel
theorem dX12_make_105 : decode cX12_make 105 = .ok (.aload_n 0, 1) := by decide +kernel
theorem dX12_make_106 : decode cX12_make 106 = .ok (.getfield 62, 3) := by decide +kernel
theorem dX12_make_109 : decode cX12_make 109 = .ok (.iload 4, 2) := by decide +kernel
theorem dX12_make_111 : decode cX12_make 111 = .ok (.iaload, 1) := by decide +kernel
theorem dX12_make_112 : decode cX12_make 112 = .ok (.iastore, 1) := by decide +kernel
theorem dX12_make_113 : decode cX12_make 113 = .ok (.iinc 4 1, 3) := by decide +kernel
theorem dX12_make_116 : decode cX12_make 116 = .ok (.goto (-23), 3) := by decide +kernel
theorem dX12_make_119 : decode cX12_make 119 = .ok (.iconst 0, 1) := by decide +kernel
theorem dX12_make_120 : decode cX12_make 120 = .ok (.istore 4, 2) := by decide +kernel
theorem dX12_make_122 : decode cX12_make 122 = .ok (.iload 4, 2) := by decide +kernel
theorem dX12_make_124 : decode cX12_make 124 = .ok (.iload_n 3, 1) := by decide +kernel
theorem dX12_make_125 : decode cX12_make 125 = .ok (.if_icmp .ge 21, 3) := by decide +kernel
theorem dX12_make_128 : decode cX12_make 128 = .ok (.aload_n 0, 1) := by decide +kernel
theorem dX12_make_129 : decode cX12_make 129 = .ok (.iload_n 1, 1) := by decide +kernel
theorem dX12_make_130 : decode cX12_make 130 = .ok (.aload_n 0, 1) := by decide +kernel
theorem dX12_make_131 : decode cX12_make 131 = .ok (.getfield 65, 3) := by decide +kernel
theorem dX12_make_134 : decode cX12_make 134 = .ok (.iload 4, 2) := by decide +kernel
theorem dX12_make_136 : decode cX12_make 136 = .ok (.iaload, 1) := by decide +kernel
theorem dX12_make_137 : decode cX12_make 137 = .ok (.invokevirtual 288, 3) := by decide +kernel
theorem dX12_make_140 : decode cX12_make 140 = .ok (.iinc 4 1, 3) := by decide +kernel
theorem dX12_make_143 : decode cX12_make 143 = .ok (.goto (-21), 3) := by decide +kernel
theorem dX12_make_146 : decode cX12_make 146 = .ok (.aload_n 0, 1) := by decide +kernel
theorem dX12_make_147 : decode cX12_make 147 = .ok (.iload_n 1, 1) := by decide +kernel
theorem dX12_make_148 : decode cX12_make 148 = .ok (.bipush 64, 2) := by decide +kernel
theorem dX12_make_150 : decode cX12_make 150 = .ok (.aload_n 0, 1) := by decide +kernel
theorem dX12_make_151 : decode cX12_make 151 = .ok (.iload_n 1, 1) := by decide +kernel
theorem dX12_make_152 : decode cX12_make 152 = .ok (.iconst 3, 1) := by decide +kernel
theorem dX12_make_153 : decode cX12_make 153 = .ok (.invokevirtual 250, 3) := by decide +kernel
theorem dX12_make_156 : decode cX12_make 156 = .ok (.aload_n 0, 1) := by decide +kernel
theorem dX12_make_157 : decode cX12_make 157 = .ok (.iload_n 1, 1) := by decide +kernel
theorem dX12_make_158 : decode cX12_make 158 = .ok (.bipush 6, 2) := by decide +kernel
theorem dX12_make_160 : decode cX12_make 160 = .ok (.invokevirtual 211, 3) := by decide +kernel
theorem dX12_make_163 : decode cX12_make 163 = .ok (.isub, 1) := by decide +kernel
theorem dX12_make_164 : decode cX12_make 164 = .ok (.iconst 1, 1) := by decide +kernel
theorem dX12_make_165 : decode cX12_make 165 = .ok (.iand, 1) := by decide +kernel
theorem dX12_make_166 : decode cX12_make 166 = .ok (.invokevirtual 246, 3) := by decide +kernel
theorem dX12_make_169 : decode cX12_make 169 = .ok (.return_, 1) := by decide +kernel
def LF_X12_make_2 (N : Nat) : Nat → Nat → Int32 → Int32 → Int32 → MI → ML → MR → Option (MI)
  | 0, _, _, _, _, _, _, _ => none
  | k + 1, y0, y1, y2, y3, I, L, R =>
    if (65 : Int32) ≤ y3 then
      some (I)
    else
      bn1 (F_X12_set y0 y1 y3 (0 : Int32) I L R) fun I2 =>
      wr (y3 + (1 : Int32)) fun (u4 : Int32) =>
      LF_X12_make_2 N k y0 y1 y2 u4 I2 L R
def LF_X12_make_93 (N : Nat) : Nat → Nat → Int32 → Int32 → Int32 → MI → ML → MR → Option (MI)
  | 0, _, _, _, _, _, _, _ => none
  | k + 1, y0, y1, y3, y4, I, L, R =>
    if y3 ≤ y4 then
      some (I)
    else
      (rf R y0 33 20).bind fun a35 =>
      (rf R y0 32 20).bind fun a36 =>
      (ri I a36 y4).bind fun v37 =>
      (wi I a35 y4 v37).bind fun I38 =>
      wr (y4 + (1 : Int32)) fun (u39 : Int32) =>
      LF_X12_make_93 N k y0 y1 y3 u39 I38 L R
def LF_X12_make_122 (N : Nat) : Nat → Nat → Int32 → Int32 → Int32 → MI → ML → MR → Option (MI)
  | 0, _, _, _, _, _, _, _ => none
  | k + 1, y0, y1, y3, y4, I, L, R =>
    if y3 ≤ y4 then
      some (I)
    else
      (rf R y0 33 20).bind fun a43 =>
      (ri I a43 y4).bind fun v44 =>
      bn1 (F_X12_makeLayer N y0 y1 v44 I L R) fun I45 =>
      wr (y4 + (1 : Int32)) fun (u47 : Int32) =>
      LF_X12_make_122 N k y0 y1 y3 u47 I45 L R
def F_X12_make (N : Nat) (x0 : Nat) (x1 : Int32) (x2 : Int32) (I : MI) (L : ML) (R : MR) : Option (MI) :=
  if kd x0 = 11 ∧ x0 < NN then
  bn1 (LF_X12_make_2 N N x0 x1 x2 (0 : Int32) I L R) fun z5 =>
  bn1 (F_X12_set x0 x1 (0 : Int32) x2 z5 L R) fun I7 =>
  bn1 (F_X12_set x0 x1 (62 : Int32) (200 : Int32) I7 L R) fun I9 =>
  bn1 (F_X12_has N x0 x2 (2 : Int32) I9 L R) fun b11 =>
  bn1 (
    if (b2i b11) = 0 then
      some (I9)
    else
      bn1 (F_X12_set x0 x1 (12 : Int32) (3 : Int32) I9 L R) fun I17 =>
      some (I17)
  ) fun (I13 : MI) =>
  bn1 (
    if x2 = (17 : Int32) then
      bn1 (F_X12_set x0 x1 (46 : Int32) (7 : Int32) I13 L R) fun I23 =>
      some (I23)
    else
      some (I13)
  ) fun (I19 : MI) =>
  bn1 (
    if x2 = (24 : Int32) then
      bn1 (F_X12_set x0 x1 (55 : Int32) (5 : Int32) I19 L R) fun I29 =>
      some (I29)
    else
      some (I19)
  ) fun (I25 : MI) =>
  bn2 (F_X12_findLayers N x0 x2 I25 L R) fun v31 I32 =>
  bn1 (LF_X12_make_93 N N x0 x1 v31 (0 : Int32) I32 L R) fun z40 =>
  bn1 (LF_X12_make_122 N N x0 x1 v31 (0 : Int32) z40 L R) fun z48 =>
  bn2 (F_X12_answer N x0 x1 (3 : Int32) z48 L R) fun v50 I51 =>
  bn1 (F_X12_get x0 x1 (6 : Int32) I51 L R) fun v53 =>
  bn1 (F_X12_set x0 x1 (64 : Int32) ((v50 - v53) &&& (1 : Int32)) I51 L R) fun I55 =>
  some (I55)
  else none
set_option maxRecDepth 100000 in
set_option maxHeartbeats 4000000 in
theorem lp_X12_make_2 {G : Gm} (C0 : Cx G (yX12_make.cls) cX12_make none) (eNL : G.nL = 5) (erm : G.rm = ({ frames := 5, cells := 0, slots := 0, locals := 122 } : Room)) (N : Nat) : ∀ (k : Nat) (y0 : Nat) (y1 : Int32) (y2 : Int32) (y3 : Int32) (I : MI) (L : ML) (R : MR) (z : MI) (hk0 : kd y0 = 11) (ho0 : y0 < NN), LF_X12_make_2 N k y0 y1 y2 y3 I L R = some z → ∀ f : State → Prop, V G f 21 [(0, .ref (G.ad y0)), (1, .int y1), (2, .int y2)] [] z L R → V G f 2 [(0, .ref (G.ad y0)), (1, .int y1), (2, .int y2), (3, .int y3)] [] I L R := by
  intro k
  induction k with
  | zero =>
    intro y0 y1 y2 y3 I L R q hk0 ho0 h
    exact absurd h (by simp [LF_X12_make_2])
  | succ k ih =>
    intro y0 y1 y2 y3 I L R q hk0 ho0 h f kx
    rw [LF_X12_make_2] at h
    refine V_iload_n C0 3 rfl rfl dX12_make_2 ?_
    refine V_bipush C0 (v := (65 : Int32)) (by decide) dX12_make_3 ?_
    refine V_icmp_ge C0 (tgt := 21) (by decide) dX12_make_5 (fun c1 => ?_) (fun c1 => ?_)
    · have h := (if_pos c1).symm.trans h
      cases h
      exact V_sub [0, 1, 2] rfl kx
    · have h := (if_neg c1).symm.trans h
      refine V_aload_n C0 0 rfl rfl dX12_make_8 ?_
      refine V_iload_n C0 1 rfl rfl dX12_make_9 ?_
      refine V_iload_n C0 3 rfl rfl dX12_make_10 ?_
      refine V_iconst C0 (v := (0 : Int32)) (by decide) dX12_make_11 ?_
      obtain ⟨I2, q3, h⟩ := bn1_some h
      refine V_callV C0 (st := []) (As := [.int y1, .int y3, .int (0 : Int32)]) 11 (c_X12_set G.l G.D G.cA G.ad G.bs G.X C0.2.2.2.2.2.2.2.2.2.1 C0.2.2.2.2.2.2.2.2.2.2.2.2 y0 y1 y3 (0 : Int32) I L R I2 q3) lc_X12_set lk_X12_246 ho0 hk0 ⟨_, rfl, rfl⟩ rfl (by rw [erm]; decide) (Nat.le_of_ble_eq_true rfl) dX12_make_12 ?_
      show V G _ 15 [(0, .ref (G.ad y0)), (1, .int y1), (2, .int y2), (3, .int y3)] [] I2 L R
      obtain ⟨u4, eu4, h⟩ := wr_some h
      refine V_iinc C0 3 [(3, .int u4), (0, .ref (G.ad y0)), (1, .int y1), (2, .int y2)] rfl (n := 1) (by rw [eu4]; rfl) (by rw [eNL]; decide) rfl dX12_make_15 ?_
      refine V_goto C0 (tgt := 2) (by decide) dX12_make_18 ?_
      exact V_sub [1, 2, 3, 0] rfl (ih y0 y1 y2 u4 I2 L R _ hk0 ho0 h f kx)
set_option maxRecDepth 100000 in
set_option maxHeartbeats 4000000 in
theorem lp_X12_make_93 {G : Gm} (C0 : Cx G (yX12_make.cls) cX12_make none) (eNL : G.nL = 5) (erm : G.rm = ({ frames := 5, cells := 0, slots := 0, locals := 122 } : Room)) (N : Nat) : ∀ (k : Nat) (y0 : Nat) (y1 : Int32) (y3 : Int32) (y4 : Int32) (I : MI) (L : ML) (R : MR) (z : MI) (hk0 : kd y0 = 11) (ho0 : y0 < NN), LF_X12_make_93 N k y0 y1 y3 y4 I L R = some z → ∀ f : State → Prop, V G f 119 [(0, .ref (G.ad y0)), (1, .int y1), (3, .int y3)] [] z L R → V G f 93 [(0, .ref (G.ad y0)), (1, .int y1), (3, .int y3), (4, .int y4)] [] I L R := by
  intro k
  induction k with
  | zero =>
    intro y0 y1 y3 y4 I L R q hk0 ho0 h
    exact absurd h (by simp [LF_X12_make_93])
  | succ k ih =>
    intro y0 y1 y3 y4 I L R q hk0 ho0 h f kx
    rw [LF_X12_make_93] at h
    refine V_iload C0 3 rfl dX12_make_93 ?_
    refine V_iload_n C0 2 rfl rfl dX12_make_95 ?_
    refine V_icmp_ge C0 (tgt := 119) (by decide) dX12_make_96 (fun c34 => ?_) (fun c34 => ?_)
    · have h := (if_pos c34).symm.trans h
      cases h
      exact V_sub [0, 1, 2] rfl kx
    · have h := (if_neg c34).symm.trans h
      refine V_aload_n C0 0 rfl rfl dX12_make_99 ?_
      obtain ⟨a35, qa35, h⟩ := bnd_some h
      refine V_getR C0 11 33 fl_X12_65 ho0 hk0 rfl (rf_at qa35) dX12_make_100 ?_
      refine V_iload C0 3 rfl dX12_make_103 ?_
      refine V_aload_n C0 0 rfl rfl dX12_make_105 ?_
      obtain ⟨a36, qa36, h⟩ := bnd_some h
      refine V_getR C0 11 32 fl_X12_62 ho0 hk0 rfl (rf_at qa36) dX12_make_106 ?_
      refine V_iload C0 3 rfl dX12_make_109 ?_
      obtain ⟨v37, qv37, h⟩ := bnd_some h
      refine V_ri C0 (rf_lt qa36) (rf_kd qa36) qv37 dX12_make_111 ?_
      obtain ⟨I38, qI38, h⟩ := bnd_some h
      refine V_wi C0 (rf_lt qa35) (rf_kd qa35) qI38 dX12_make_112 ?_
      obtain ⟨u39, eu39, h⟩ := wr_some h
      refine V_iinc C0 3 [(4, .int u39), (0, .ref (G.ad y0)), (1, .int y1), (3, .int y3)] rfl (n := 1) (by rw [eu39]; rfl) (by rw [eNL]; decide) rfl dX12_make_113 ?_
      refine V_goto C0 (tgt := 93) (by decide) dX12_make_116 ?_
      exact V_sub [1, 2, 3, 0] rfl (ih y0 y1 y3 u39 I38 L R _ hk0 ho0 h f kx)
set_option maxRecDepth 100000 in
set_option maxHeartbeats 4000000 in
theorem lp_X12_make_122 {G : Gm} (C0 : Cx G (yX12_make.cls) cX12_make none) (eNL : G.nL = 5) (erm : G.rm = ({ frames := 5, cells := 0, slots := 0, locals := 122 } : Room)) (N : Nat) : ∀ (k : Nat) (y0 : Nat) (y1 : Int32) (y3 : Int32) (y4 : Int32) (I : MI) (L : ML) (R : MR) (z : MI) (hk0 : kd y0 = 11) (ho0 : y0 < NN), LF_X12_make_122 N k y0 y1 y3 y4 I L R = some z → ∀ f : State → Prop, V G f 146 [(0, .ref (G.ad y0)), (1, .int y1)] [] z L R → V G f 122 [(0, .ref (G.ad y0)), (1, .int y1), (3, .int y3), (4, .int y4)] [] I L R := by
  intro k
  induction k with
  | zero =>
    intro y0 y1 y3 y4 I L R q hk0 ho0 h
    exact absurd h (by simp [LF_X12_make_122])
  | succ k ih =>
    intro y0 y1 y3 y4 I L R q hk0 ho0 h f kx
    rw [LF_X12_make_122] at h
    refine V_iload C0 3 rfl dX12_make_122 ?_
    refine V_iload_n C0 2 rfl rfl dX12_make_124 ?_
    refine V_icmp_ge C0 (tgt := 146) (by decide) dX12_make_125 (fun c42 => ?_) (fun c42 => ?_)
    · have h := (if_pos c42).symm.trans h
      cases h
      exact V_sub [0, 1] rfl kx
    · have h := (if_neg c42).symm.trans h
      refine V_aload_n C0 0 rfl rfl dX12_make_128 ?_
      refine V_iload_n C0 1 rfl rfl dX12_make_129 ?_
      refine V_aload_n C0 0 rfl rfl dX12_make_130 ?_
      obtain ⟨a43, qa43, h⟩ := bnd_some h
      refine V_getR C0 11 33 fl_X12_65 ho0 hk0 rfl (rf_at qa43) dX12_make_131 ?_
      refine V_iload C0 3 rfl dX12_make_134 ?_
      obtain ⟨v44, qv44, h⟩ := bnd_some h
      refine V_ri C0 (rf_lt qa43) (rf_kd qa43) qv44 dX12_make_136 ?_
      obtain ⟨I45, q46, h⟩ := bn1_some h
      refine V_callV C0 (st := []) (As := [.int y1, .int v44]) 11 (c_X12_makeLayer G.l G.D G.cA G.ad G.bs G.X C0.2.2.2.2.2.2.2.2.2.1 C0.2.2.2.2.2.2.2.2.2.2.2.2 N y0 y1 v44 I L R I45 q46) lc_X12_makeLayer lk_X12_288 ho0 hk0 ⟨_, rfl, rfl⟩ rfl (by rw [erm]; decide) (Nat.le_of_ble_eq_true rfl) dX12_make_137 ?_
      show V G _ 140 [(0, .ref (G.ad y0)), (1, .int y1), (3, .int y3), (4, .int y4)] [] I45 L R
      obtain ⟨u47, eu47, h⟩ := wr_some h
      refine V_iinc C0 3 [(4, .int u47), (0, .ref (G.ad y0)), (1, .int y1), (3, .int y3)] rfl (n := 1) (by rw [eu47]; rfl) (by rw [eNL]; decide) rfl dX12_make_140 ?_
      refine V_goto C0 (tgt := 122) (by decide) dX12_make_143 ?_
      exact V_sub [1, 2, 3, 0] rfl (ih y0 y1 y3 u47 I45 L R _ hk0 ho0 h f kx)
set_option maxRecDepth 100000 in
set_option maxHeartbeats 4000000 in
theorem c_X12_make (l : Launch) (D : va_G) (cA : Nat → ClassId) (ad : Nat → Nat) (bs : Nat) (X : State → Prop) (hAd : Ax ad bs) (hX : Stb bs X) (N : Nat) (x0 : Nat) (x1 : Int32) (x2 : Int32) (I : MI) (L : ML) (R : MR) (I' : MI) (h : F_X12_make N x0 x1 x2 I L R = some (I')) : Cn l D cA ad bs X yX12_make cX12_make 5 none 5 122 [.ref (ad x0), .int x1, .int x2] I L R (none, I', L, R) := by
  refine Cn.ofV hAd hX [(0, .ref (ad x0)), (1, .int x1), (2, .int x2)] rfl (Nat.le_of_ble_eq_true rfl) (by decide) ?_
  intro G el eD ecA ead ebs eX erm eNL C0
  subst el eD ecA ead ebs eX
  unfold F_X12_make at h
  obtain ⟨c_x0, h⟩ := ite_some h
  refine V_iconst C0 (v := (0 : Int32)) (by decide) dX12_make_0 ?_
  refine V_istore_n C0 [(3, .int (0 : Int32)), (0, .ref (G.ad x0)), (1, .int x1), (2, .int x2)] rfl (by rw [eNL]; decide) rfl dX12_make_1 ?_
  obtain ⟨z5, q6, h⟩ := bn1_some h
  refine V_sub [1, 2, 3, 0] rfl (lp_X12_make_2 C0 eNL erm N N x0 x1 x2 (0 : Int32) I L R _ c_x0.1 c_x0.2 q6 _ ?_)
  show V G _ 21 [(0, .ref (G.ad x0)), (1, .int x1), (2, .int x2)] [] z5 L R
  refine V_aload_n C0 0 rfl rfl dX12_make_21 ?_
  refine V_iload_n C0 1 rfl rfl dX12_make_22 ?_
  refine V_iconst C0 (v := (0 : Int32)) (by decide) dX12_make_23 ?_
  refine V_iload_n C0 2 rfl rfl dX12_make_24 ?_
  obtain ⟨I7, q8, h⟩ := bn1_some h
  refine V_callV C0 (st := []) (As := [.int x1, .int (0 : Int32), .int x2]) 11 (c_X12_set G.l G.D G.cA G.ad G.bs G.X C0.2.2.2.2.2.2.2.2.2.1 C0.2.2.2.2.2.2.2.2.2.2.2.2 x0 x1 (0 : Int32) x2 z5 L R I7 q8) lc_X12_set lk_X12_246 c_x0.2 c_x0.1 ⟨_, rfl, rfl⟩ rfl (by rw [erm]; decide) (Nat.le_of_ble_eq_true rfl) dX12_make_25 ?_
  show V G _ 28 [(0, .ref (G.ad x0)), (1, .int x1), (2, .int x2)] [] I7 L R
  refine V_aload_n C0 0 rfl rfl dX12_make_28 ?_
  refine V_iload_n C0 1 rfl rfl dX12_make_29 ?_
  refine V_bipush C0 (v := (62 : Int32)) (by decide) dX12_make_30 ?_
  refine V_sipush C0 (v := (200 : Int32)) (by decide) dX12_make_32 ?_
  obtain ⟨I9, q10, h⟩ := bn1_some h
  refine V_callV C0 (st := []) (As := [.int x1, .int (62 : Int32), .int (200 : Int32)]) 11 (c_X12_set G.l G.D G.cA G.ad G.bs G.X C0.2.2.2.2.2.2.2.2.2.1 C0.2.2.2.2.2.2.2.2.2.2.2.2 x0 x1 (62 : Int32) (200 : Int32) I7 L R I9 q10) lc_X12_set lk_X12_246 c_x0.2 c_x0.1 ⟨_, rfl, rfl⟩ rfl (by rw [erm]; decide) (Nat.le_of_ble_eq_true rfl) dX12_make_35 ?_
  show V G _ 38 [(0, .ref (G.ad x0)), (1, .int x1), (2, .int x2)] [] I9 L R
  refine V_aload_n C0 0 rfl rfl dX12_make_38 ?_
  refine V_iload_n C0 2 rfl rfl dX12_make_39 ?_
  refine V_iconst C0 (v := (2 : Int32)) (by decide) dX12_make_40 ?_
  obtain ⟨b11, q12, h⟩ := bn1_some h
  refine V_callV C0 (st := []) (As := [.int x2, .int (2 : Int32)]) 11 (c_X12_has G.l G.D G.cA G.ad G.bs G.X C0.2.2.2.2.2.2.2.2.2.1 C0.2.2.2.2.2.2.2.2.2.2.2.2 N x0 x2 (2 : Int32) I9 L R b11 q12) lc_X12_has lk_X12_214 c_x0.2 c_x0.1 ⟨_, rfl, rfl⟩ rfl (by rw [erm]; decide) (Nat.le_of_ble_eq_true rfl) dX12_make_41 ?_
  show V G _ 44 [(0, .ref (G.ad x0)), (1, .int x1), (2, .int x2)] [.int (b2i b11)] I9 L R
  obtain ⟨I13, q14, h⟩ := bn1_some h
  have k15 : V G (qf G (none, I', L, R)) 55 [(0, .ref (G.ad x0)), (1, .int x1), (2, .int x2)] [] I13 L R := by
    refine V_iload_n C0 2 rfl rfl dX12_make_55 ?_
    refine V_bipush C0 (v := (17 : Int32)) (by decide) dX12_make_56 ?_
    obtain ⟨I19, q20, h⟩ := bn1_some h
    have k21 : V G (qf G (none, I', L, R)) 70 [(0, .ref (G.ad x0)), (1, .int x1), (2, .int x2)] [] I19 L R := by
      refine V_iload_n C0 2 rfl rfl dX12_make_70 ?_
      refine V_bipush C0 (v := (24 : Int32)) (by decide) dX12_make_71 ?_
      obtain ⟨I25, q26, h⟩ := bn1_some h
      have k27 : V G (qf G (none, I', L, R)) 84 [(0, .ref (G.ad x0)), (1, .int x1), (2, .int x2)] [] I25 L R := by
        refine V_aload_n C0 0 rfl rfl dX12_make_84 ?_
        refine V_iload_n C0 2 rfl rfl dX12_make_85 ?_
        obtain ⟨v31, I32, q33, h⟩ := bn2_some h
        refine V_callV C0 (st := []) (As := [.int x2]) 11 (c_X12_findLayers G.l G.D G.cA G.ad G.bs G.X C0.2.2.2.2.2.2.2.2.2.1 C0.2.2.2.2.2.2.2.2.2.2.2.2 N x0 x2 I25 L R v31 I32 q33) lc_X12_findLayers lk_X12_220 c_x0.2 c_x0.1 ⟨_, rfl, rfl⟩ rfl (by rw [erm]; decide) (Nat.le_of_ble_eq_true rfl) dX12_make_86 ?_
        show V G _ 89 [(0, .ref (G.ad x0)), (1, .int x1), (2, .int x2)] [.int v31] I32 L R
        refine V_istore_n C0 [(3, .int v31), (0, .ref (G.ad x0)), (1, .int x1), (2, .int x2)] rfl (by rw [eNL]; decide) rfl dX12_make_89 ?_
        refine V_iconst C0 (v := (0 : Int32)) (by decide) dX12_make_90 ?_
        refine V_istore C0 [(4, .int (0 : Int32)), (3, .int v31), (0, .ref (G.ad x0)), (1, .int x1), (2, .int x2)] (by rw [eNL]; decide) rfl dX12_make_91 ?_
        obtain ⟨z40, q41, h⟩ := bn1_some h
        refine V_sub [2, 3, 1, 0] rfl (lp_X12_make_93 C0 eNL erm N N x0 x1 v31 (0 : Int32) I32 L R _ c_x0.1 c_x0.2 q41 _ ?_)
        show V G _ 119 [(0, .ref (G.ad x0)), (1, .int x1), (3, .int v31)] [] z40 L R
        refine V_iconst C0 (v := (0 : Int32)) (by decide) dX12_make_119 ?_
        refine V_istore C0 [(4, .int (0 : Int32)), (0, .ref (G.ad x0)), (1, .int x1), (3, .int v31)] (by rw [eNL]; decide) rfl dX12_make_120 ?_
        obtain ⟨z48, q49, h⟩ := bn1_some h
        refine V_sub [1, 2, 3, 0] rfl (lp_X12_make_122 C0 eNL erm N N x0 x1 v31 (0 : Int32) z40 L R _ c_x0.1 c_x0.2 q49 _ ?_)
        show V G _ 146 [(0, .ref (G.ad x0)), (1, .int x1)] [] z48 L R
        refine V_aload_n C0 0 rfl rfl dX12_make_146 ?_
        refine V_iload_n C0 1 rfl rfl dX12_make_147 ?_
        refine V_bipush C0 (v := (64 : Int32)) (by decide) dX12_make_148 ?_
        refine V_aload_n C0 0 rfl rfl dX12_make_150 ?_
        refine V_iload_n C0 1 rfl rfl dX12_make_151 ?_
        refine V_iconst C0 (v := (3 : Int32)) (by decide) dX12_make_152 ?_
        obtain ⟨v50, I51, q52, h⟩ := bn2_some h
        refine V_callV C0 (st := [.int (64 : Int32), .int x1, .ref (G.ad x0)]) (As := [.int x1, .int (3 : Int32)]) 11 (c_X12_answer G.l G.D G.cA G.ad G.bs G.X C0.2.2.2.2.2.2.2.2.2.1 C0.2.2.2.2.2.2.2.2.2.2.2.2 N x0 x1 (3 : Int32) z48 L R v50 I51 q52) lc_X12_answer lk_X12_250 c_x0.2 c_x0.1 ⟨_, rfl, rfl⟩ rfl (by rw [erm]; decide) (Nat.le_of_ble_eq_true rfl) dX12_make_153 ?_
        show V G _ 156 [(0, .ref (G.ad x0)), (1, .int x1)] [.int v50, .int (64 : Int32), .int x1, .ref (G.ad x0)] I51 L R
        refine V_aload_n C0 0 rfl rfl dX12_make_156 ?_
        refine V_iload_n C0 1 rfl rfl dX12_make_157 ?_
        refine V_bipush C0 (v := (6 : Int32)) (by decide) dX12_make_158 ?_
        obtain ⟨v53, q54, h⟩ := bn1_some h
        refine V_callV C0 (st := [.int v50, .int (64 : Int32), .int x1, .ref (G.ad x0)]) (As := [.int x1, .int (6 : Int32)]) 11 (c_X12_get G.l G.D G.cA G.ad G.bs G.X C0.2.2.2.2.2.2.2.2.2.1 C0.2.2.2.2.2.2.2.2.2.2.2.2 x0 x1 (6 : Int32) I51 L R v53 q54) lc_X12_get lk_X12_211 c_x0.2 c_x0.1 ⟨_, rfl, rfl⟩ rfl (by rw [erm]; decide) (Nat.le_of_ble_eq_true rfl) dX12_make_160 ?_
        show V G _ 163 [(0, .ref (G.ad x0)), (1, .int x1)] [.int v53, .int v50, .int (64 : Int32), .int x1, .ref (G.ad x0)] I51 L R
        refine V_isub C0 dX12_make_163 ?_
        refine V_iconst C0 (v := (1 : Int32)) (by decide) dX12_make_164 ?_
        refine V_iand C0 dX12_make_165 ?_
        obtain ⟨I55, q56, h⟩ := bn1_some h
        refine V_callV C0 (st := []) (As := [.int x1, .int (64 : Int32), .int ((v50 - v53) &&& (1 : Int32))]) 11 (c_X12_set G.l G.D G.cA G.ad G.bs G.X C0.2.2.2.2.2.2.2.2.2.1 C0.2.2.2.2.2.2.2.2.2.2.2.2 x0 x1 (64 : Int32) ((v50 - v53) &&& (1 : Int32)) I51 L R I55 q56) lc_X12_set lk_X12_246 c_x0.2 c_x0.1 ⟨_, rfl, rfl⟩ rfl (by rw [erm]; decide) (Nat.le_of_ble_eq_true rfl) dX12_make_166 ?_
        show V G _ 169 [(0, .ref (G.ad x0)), (1, .int x1)] [] I55 L R
        cases h
        exact V_vret C0 dX12_make_169
      refine V_icmp_ne C0 (tgt := 84) (by decide) dX12_make_73 (fun c28 => ?_) (fun c28 => ?_)
      · have q26 := (if_neg c28).symm.trans q26
        cases q26
        exact V_sub [0, 1, 2] rfl k27
      · have q26 := (if_pos c28).symm.trans q26
        refine V_aload_n C0 0 rfl rfl dX12_make_76 ?_
        refine V_iload_n C0 1 rfl rfl dX12_make_77 ?_
        refine V_bipush C0 (v := (55 : Int32)) (by decide) dX12_make_78 ?_
        refine V_iconst C0 (v := (5 : Int32)) (by decide) dX12_make_80 ?_
        obtain ⟨I29, q30, q26⟩ := bn1_some q26
        refine V_callV C0 (st := []) (As := [.int x1, .int (55 : Int32), .int (5 : Int32)]) 11 (c_X12_set G.l G.D G.cA G.ad G.bs G.X C0.2.2.2.2.2.2.2.2.2.1 C0.2.2.2.2.2.2.2.2.2.2.2.2 x0 x1 (55 : Int32) (5 : Int32) I19 L R I29 q30) lc_X12_set lk_X12_246 c_x0.2 c_x0.1 ⟨_, rfl, rfl⟩ rfl (by rw [erm]; decide) (Nat.le_of_ble_eq_true rfl) dX12_make_81 ?_
        show V G _ 84 [(0, .ref (G.ad x0)), (1, .int x1), (2, .int x2)] [] I29 L R
        cases q26
        exact V_sub [0, 1, 2] rfl k27
    refine V_icmp_ne C0 (tgt := 70) (by decide) dX12_make_58 (fun c22 => ?_) (fun c22 => ?_)
    · have q20 := (if_neg c22).symm.trans q20
      cases q20
      exact V_sub [0, 1, 2] rfl k21
    · have q20 := (if_pos c22).symm.trans q20
      refine V_aload_n C0 0 rfl rfl dX12_make_61 ?_
      refine V_iload_n C0 1 rfl rfl dX12_make_62 ?_
      refine V_bipush C0 (v := (46 : Int32)) (by decide) dX12_make_63 ?_
      refine V_bipush C0 (v := (7 : Int32)) (by decide) dX12_make_65 ?_
      obtain ⟨I23, q24, q20⟩ := bn1_some q20
      refine V_callV C0 (st := []) (As := [.int x1, .int (46 : Int32), .int (7 : Int32)]) 11 (c_X12_set G.l G.D G.cA G.ad G.bs G.X C0.2.2.2.2.2.2.2.2.2.1 C0.2.2.2.2.2.2.2.2.2.2.2.2 x0 x1 (46 : Int32) (7 : Int32) I13 L R I23 q24) lc_X12_set lk_X12_246 c_x0.2 c_x0.1 ⟨_, rfl, rfl⟩ rfl (by rw [erm]; decide) (Nat.le_of_ble_eq_true rfl) dX12_make_67 ?_
      show V G _ 70 [(0, .ref (G.ad x0)), (1, .int x1), (2, .int x2)] [] I23 L R
      cases q20
      exact V_sub [0, 1, 2] rfl k21
  refine V_if_eq C0 (tgt := 55) (by decide) dX12_make_44 (fun c16 => ?_) (fun c16 => ?_)
  · have q14 := (if_pos c16).symm.trans q14
    cases q14
    exact V_sub [0, 1, 2] rfl k15
  · have q14 := (if_neg c16).symm.trans q14
    refine V_aload_n C0 0 rfl rfl dX12_make_47 ?_
    refine V_iload_n C0 1 rfl rfl dX12_make_48 ?_
    refine V_bipush C0 (v := (12 : Int32)) (by decide) dX12_make_49 ?_
    refine V_iconst C0 (v := (3 : Int32)) (by decide) dX12_make_51 ?_
    obtain ⟨I17, q18, q14⟩ := bn1_some q14
    refine V_callV C0 (st := []) (As := [.int x1, .int (12 : Int32), .int (3 : Int32)]) 11 (c_X12_set G.l G.D G.cA G.ad G.bs G.X C0.2.2.2.2.2.2.2.2.2.1 C0.2.2.2.2.2.2.2.2.2.2.2.2 x0 x1 (12 : Int32) (3 : Int32) I9 L R I17 q18) lc_X12_set lk_X12_246 c_x0.2 c_x0.1 ⟨_, rfl, rfl⟩ rfl (by rw [erm]; decide) (Nat.le_of_ble_eq_true rfl) dX12_make_52 ?_
    show V G _ 55 [(0, .ref (G.ad x0)), (1, .int x1), (2, .int x2)] [] I17 L R
    cases q14
    exact V_sub [0, 1, 2] rfl k15
theorem dX12_clear_0 : decode cX12_clear 0 = .ok (.aload_n 0, 1) := by decide +kernel
theorem dX12_clear_1 : decode cX12_clear 1 = .ok (.iconst 0, 1) := by decide +kernel
theorem dX12_clear_2 : decode cX12_clear 2 = .ok (.putfield 205, 3) := by decide +kernel
theorem dX12_clear_5 : decode cX12_clear 5 = .ok (.aload_n 0, 1) := by decide +kernel
theorem dX12_clear_6 : decode cX12_clear 6 = .ok (.iconst 0, 1) := by decide +kernel
theorem dX12_clear_7 : decode cX12_clear 7 = .ok (.putfield 262, 3) := by decide +kernel
theorem dX12_clear_10 : decode cX12_clear 10 = .ok (.aload_n 0, 1) := by decide +kernel
theorem dX12_clear_11 : decode cX12_clear 11 = .ok (.iconst 0, 1) := by decide +kernel
theorem dX12_clear_12 : decode cX12_clear 12 = .ok (.putfield 256, 3) := by decide +kernel
theorem dX12_clear_15 : decode cX12_clear 15 = .ok (.aload_n 0, 1) := by decide +kernel
theorem dX12_clear_16 : decode cX12_clear 16 = .ok (.iconst 0, 1) := by decide +kernel
theorem dX12_clear_17 : decode cX12_clear 17 = .ok (.putfield 208, 3) := by decide +kernel
theorem dX12_clear_20 : decode cX12_clear 20 = .ok (.aload_n 0, 1) := by decide +kernel
theorem dX12_clear_21 : decode cX12_clear 21 = .ok (.iconst 0, 1) := by decide +kernel
theorem dX12_clear_22 : decode cX12_clear 22 = .ok (.putfield 306, 3) := by decide +kernel
theorem dX12_clear_25 : decode cX12_clear 25 = .ok (.aload_n 0, 1) := by decide +kernel
theorem dX12_clear_26 : decode cX12_clear 26 = .ok (.iconst 0, 1) := by decide +kernel
theorem dX12_clear_27 : decode cX12_clear 27 = .ok (.putfield 309, 3) := by decide +kernel
theorem dX12_clear_30 : decode cX12_clear 30 = .ok (.iconst 0, 1) := by decide +kernel
theorem dX12_clear_31 : decode cX12_clear 31 = .ok (.istore_n 1, 1) := by decide +kernel
theorem dX12_clear_32 : decode cX12_clear 32 = .ok (.iload_n 1, 1) := by decide +kernel
theorem dX12_clear_33 : decode cX12_clear 33 = .ok (.iconst 3, 1) := by decide +kernel
theorem dX12_clear_34 : decode cX12_clear 34 = .ok (.if_icmp .ge 30, 3) := by decide +kernel
theorem dX12_clear_37 : decode cX12_clear 37 = .ok (.aload_n 0, 1) := by decide +kernel
theorem dX12_clear_38 : decode cX12_clear 38 = .ok (.getfield 68, 3) := by decide +kernel
theorem dX12_clear_41 : decode cX12_clear 41 = .ok (.iload_n 1, 1) := by decide +kernel
theorem dX12_clear_42 : decode cX12_clear 42 = .ok (.iconst 0, 1) := by decide +kernel
theorem dX12_clear_43 : decode cX12_clear 43 = .ok (.iastore, 1) := by decide +kernel
theorem dX12_clear_44 : decode cX12_clear 44 = .ok (.aload_n 0, 1) := by decide +kernel
theorem dX12_clear_45 : decode cX12_clear 45 = .ok (.getfield 71, 3) := by decide +kernel
theorem dX12_clear_48 : decode cX12_clear 48 = .ok (.iload_n 1, 1) := by decide +kernel
theorem dX12_clear_49 : decode cX12_clear 49 = .ok (.iconst 0, 1) := by decide +kernel
theorem dX12_clear_50 : decode cX12_clear 50 = .ok (.iastore, 1) := by decide +kernel
theorem dX12_clear_51 : decode cX12_clear 51 = .ok (.aload_n 0, 1) := by decide +kernel
theorem dX12_clear_52 : decode cX12_clear 52 = .ok (.getfield 74, 3) := by decide +kernel
theorem dX12_clear_55 : decode cX12_clear 55 = .ok (.iload_n 1, 1) := by decide +kernel
theorem dX12_clear_56 : decode cX12_clear 56 = .ok (.iconst 0, 1) := by decide +kernel
theorem dX12_clear_57 : decode cX12_clear 57 = .ok (.iastore, 1) := by decide +kernel
theorem dX12_clear_58 : decode cX12_clear 58 = .ok (.iinc 1 1, 3) := by decide +kernel
theorem dX12_clear_61 : decode cX12_clear 61 = .ok (.goto (-29), 3) := by decide +kernel
theorem dX12_clear_64 : decode cX12_clear 64 = .ok (.aload_n 0, 1) := by decide +kernel
theorem dX12_clear_65 : decode cX12_clear 65 = .ok (.iconst 0, 1) := by decide +kernel
theorem dX12_clear_66 : decode cX12_clear 66 = .ok (.putfield 312, 3) := by decide +kernel
theorem dX12_clear_69 : decode cX12_clear 69 = .ok (.aload_n 0, 1) := by decide +kernel
theorem dX12_clear_70 : decode cX12_clear 70 = .ok (.iconst 0, 1) := by decide +kernel
theorem dX12_clear_71 : decode cX12_clear 71 = .ok (.putfield 315, 3) := by decide +kernel
theorem dX12_clear_74 : decode cX12_clear 74 = .ok (.aload_n 0, 1) := by decide +kernel
theorem dX12_clear_75 : decode cX12_clear 75 = .ok (.iconst 0, 1) := by decide +kernel
theorem dX12_clear_76 : decode cX12_clear 76 = .ok (.putfield 318, 3) := by decide +kernel
theorem dX12_clear_79 : decode cX12_clear 79 = .ok (.aload_n 0, 1) := by decide +kernel
theorem dX12_clear_80 : decode cX12_clear 80 = .ok (.iconst 0, 1) := by decide +kernel
theorem dX12_clear_81 : decode cX12_clear 81 = .ok (.putfield 321, 3) := by decide +kernel
theorem dX12_clear_84 : decode cX12_clear 84 = .ok (.aload_n 0, 1) := by decide +kernel
theorem dX12_clear_85 : decode cX12_clear 85 = .ok (.iconst 0, 1) := by decide +kernel
theorem dX12_clear_86 : decode cX12_clear 86 = .ok (.putfield 324, 3) := by decide +kernel
theorem dX12_clear_89 : decode cX12_clear 89 = .ok (.aload_n 0, 1) := by decide +kernel
theorem dX12_clear_90 : decode cX12_clear 90 = .ok (.iconst 0, 1) := by decide +kernel
theorem dX12_clear_91 : decode cX12_clear 91 = .ok (.putfield 327, 3) := by decide +kernel
theorem dX12_clear_94 : decode cX12_clear 94 = .ok (.aload_n 0, 1) := by decide +kernel
theorem dX12_clear_95 : decode cX12_clear 95 = .ok (.iconst 0, 1) := by decide +kernel
theorem dX12_clear_96 : decode cX12_clear 96 = .ok (.putfield 330, 3) := by decide +kernel
theorem dX12_clear_99 : decode cX12_clear 99 = .ok (.aload_n 0, 1) := by decide +kernel
theorem dX12_clear_100 : decode cX12_clear 100 = .ok (.iconst 0, 1) := by decide +kernel
theorem dX12_clear_101 : decode cX12_clear 101 = .ok (.putfield 333, 3) := by decide +kernel
theorem dX12_clear_104 : decode cX12_clear 104 = .ok (.aload_n 0, 1) := by decide +kernel
theorem dX12_clear_105 : decode cX12_clear 105 = .ok (.iconst 0, 1) := by decide +kernel
theorem dX12_clear_106 : decode cX12_clear 106 = .ok (.putfield 336, 3) := by decide +kernel
theorem dX12_clear_109 : decode cX12_clear 109 = .ok (.aload_n 0, 1) := by decide +kernel
theorem dX12_clear_110 : decode cX12_clear 110 = .ok (.iconst 0, 1) := by decide +kernel
theorem dX12_clear_111 : decode cX12_clear 111 = .ok (.putfield 339, 3) := by decide +kernel
theorem dX12_clear_114 : decode cX12_clear 114 = .ok (.aload_n 0, 1) := by decide +kernel
theorem dX12_clear_115 : decode cX12_clear 115 = .ok (.iconst 0, 1) := by decide +kernel
theorem dX12_clear_116 : decode cX12_clear 116 = .ok (.putfield 342, 3) := by decide +kernel
theorem dX12_clear_119 : decode cX12_clear 119 = .ok (.aload_n 0, 1) := by decide +kernel
theorem dX12_clear_120 : decode cX12_clear 120 = .ok (.iconst 0, 1) := by decide +kernel
theorem dX12_clear_121 : decode cX12_clear 121 = .ok (.putfield 345, 3) := by decide +kernel
theorem dX12_clear_124 : decode cX12_clear 124 = .ok (.return_, 1) := by decide +kernel
def LF_X12_clear_32 (N : Nat) : Nat → Nat → Int32 → MI → ML → MR → Option (MI)
  | 0, _, _, _, _, _ => none
  | k + 1, y0, y1, I, L, R =>
    if (3 : Int32) ≤ y1 then
      some (I)
    else
      (rf R y0 36 20).bind fun a8 =>
      (wi I a8 y1 (0 : Int32)).bind fun I9 =>
      (rf R y0 37 20).bind fun a10 =>
      (wi I9 a10 y1 (0 : Int32)).bind fun I11 =>
      (rf R y0 38 20).bind fun a12 =>
      (wi I11 a12 y1 (0 : Int32)).bind fun I13 =>
      wr (y1 + (1 : Int32)) fun (u14 : Int32) =>
      LF_X12_clear_32 N k y0 u14 I13 L R
def F_X12_clear (N : Nat) (x0 : Nat) (I : MI) (L : ML) (R : MR) : Option (MI) :=
  if kd x0 = 11 ∧ x0 < NN then
  wr (uI I x0 25 (0 : Int32)) fun (I1 : MI) =>
  wr (uI I1 x0 26 (0 : Int32)) fun (I2 : MI) =>
  wr (uI I2 x0 27 (0 : Int32)) fun (I3 : MI) =>
  wr (uI I3 x0 28 (0 : Int32)) fun (I4 : MI) =>
  wr (uI I4 x0 34 (0 : Int32)) fun (I5 : MI) =>
  wr (uI I5 x0 35 (0 : Int32)) fun (I6 : MI) =>
  bn1 (LF_X12_clear_32 N N x0 (0 : Int32) I6 L R) fun z15 =>
  wr (uI z15 x0 39 (0 : Int32)) fun (I17 : MI) =>
  wr (uI I17 x0 40 (0 : Int32)) fun (I18 : MI) =>
  wr (uI I18 x0 41 (0 : Int32)) fun (I19 : MI) =>
  wr (uI I19 x0 42 (0 : Int32)) fun (I20 : MI) =>
  wr (uI I20 x0 43 (0 : Int32)) fun (I21 : MI) =>
  wr (uI I21 x0 44 (0 : Int32)) fun (I22 : MI) =>
  wr (uI I22 x0 45 (0 : Int32)) fun (I23 : MI) =>
  wr (uI I23 x0 46 (0 : Int32)) fun (I24 : MI) =>
  wr (uI I24 x0 47 (0 : Int32)) fun (I25 : MI) =>
  wr (uI I25 x0 48 (0 : Int32)) fun (I26 : MI) =>
  wr (uI I26 x0 49 (0 : Int32)) fun (I27 : MI) =>
  wr (uI I27 x0 54 (0 : Int32)) fun (I28 : MI) =>
  some (I28)
  else none
set_option maxRecDepth 100000 in
set_option maxHeartbeats 4000000 in
theorem lp_X12_clear_32 {G : Gm} (C0 : Cx G (yX12_clear.cls) cX12_clear none) (eNL : G.nL = 2) (erm : G.rm = ({ frames := 0, cells := 0, slots := 0, locals := 0 } : Room)) (N : Nat) : ∀ (k : Nat) (y0 : Nat) (y1 : Int32) (I : MI) (L : ML) (R : MR) (z : MI) (hk0 : kd y0 = 11) (ho0 : y0 < NN), LF_X12_clear_32 N k y0 y1 I L R = some z → ∀ f : State → Prop, V G f 64 [(0, .ref (G.ad y0))] [] z L R → V G f 32 [(0, .ref (G.ad y0)), (1, .int y1)] [] I L R := by
  intro k
  induction k with
  | zero =>
    intro y0 y1 I L R q hk0 ho0 h
    exact absurd h (by simp [LF_X12_clear_32])
  | succ k ih =>
    intro y0 y1 I L R q hk0 ho0 h f kx
    rw [LF_X12_clear_32] at h
    refine V_iload_n C0 1 rfl rfl dX12_clear_32 ?_
    refine V_iconst C0 (v := (3 : Int32)) (by decide) dX12_clear_33 ?_
    refine V_icmp_ge C0 (tgt := 64) (by decide) dX12_clear_34 (fun c7 => ?_) (fun c7 => ?_)
    · have h := (if_pos c7).symm.trans h
      cases h
      exact V_sub [0] rfl kx
    · have h := (if_neg c7).symm.trans h
      refine V_aload_n C0 0 rfl rfl dX12_clear_37 ?_
      obtain ⟨a8, qa8, h⟩ := bnd_some h
      refine V_getR C0 11 36 fl_X12_68 ho0 hk0 rfl (rf_at qa8) dX12_clear_38 ?_
      refine V_iload_n C0 1 rfl rfl dX12_clear_41 ?_
      refine V_iconst C0 (v := (0 : Int32)) (by decide) dX12_clear_42 ?_
      obtain ⟨I9, qI9, h⟩ := bnd_some h
      refine V_wi C0 (rf_lt qa8) (rf_kd qa8) qI9 dX12_clear_43 ?_
      refine V_aload_n C0 0 rfl rfl dX12_clear_44 ?_
      obtain ⟨a10, qa10, h⟩ := bnd_some h
      refine V_getR C0 11 37 fl_X12_71 ho0 hk0 rfl (rf_at qa10) dX12_clear_45 ?_
      refine V_iload_n C0 1 rfl rfl dX12_clear_48 ?_
      refine V_iconst C0 (v := (0 : Int32)) (by decide) dX12_clear_49 ?_
      obtain ⟨I11, qI11, h⟩ := bnd_some h
      refine V_wi C0 (rf_lt qa10) (rf_kd qa10) qI11 dX12_clear_50 ?_
      refine V_aload_n C0 0 rfl rfl dX12_clear_51 ?_
      obtain ⟨a12, qa12, h⟩ := bnd_some h
      refine V_getR C0 11 38 fl_X12_74 ho0 hk0 rfl (rf_at qa12) dX12_clear_52 ?_
      refine V_iload_n C0 1 rfl rfl dX12_clear_55 ?_
      refine V_iconst C0 (v := (0 : Int32)) (by decide) dX12_clear_56 ?_
      obtain ⟨I13, qI13, h⟩ := bnd_some h
      refine V_wi C0 (rf_lt qa12) (rf_kd qa12) qI13 dX12_clear_57 ?_
      obtain ⟨u14, eu14, h⟩ := wr_some h
      refine V_iinc C0 1 [(1, .int u14), (0, .ref (G.ad y0))] rfl (n := 1) (by rw [eu14]; rfl) (by rw [eNL]; decide) rfl dX12_clear_58 ?_
      refine V_goto C0 (tgt := 32) (by decide) dX12_clear_61 ?_
      exact V_sub [1, 0] rfl (ih y0 u14 I13 L R _ hk0 ho0 h f kx)
set_option maxRecDepth 100000 in
set_option maxHeartbeats 4000000 in
theorem c_X12_clear (l : Launch) (D : va_G) (cA : Nat → ClassId) (ad : Nat → Nat) (bs : Nat) (X : State → Prop) (hAd : Ax ad bs) (hX : Stb bs X) (N : Nat) (x0 : Nat) (I : MI) (L : ML) (R : MR) (I' : MI) (h : F_X12_clear N x0 I L R = some (I')) : Cn l D cA ad bs X yX12_clear cX12_clear 2 none 0 0 [.ref (ad x0)] I L R (none, I', L, R) := by
  refine Cn.ofV hAd hX [(0, .ref (ad x0))] rfl (Nat.le_of_ble_eq_true rfl) (by decide) ?_
  intro G el eD ecA ead ebs eX erm eNL C0
  subst el eD ecA ead ebs eX
  unfold F_X12_clear at h
  obtain ⟨c_x0, h⟩ := ite_some h
  refine V_aload_n C0 0 rfl rfl dX12_clear_0 ?_
  refine V_iconst C0 (v := (0 : Int32)) (by decide) dX12_clear_1 ?_
  obtain ⟨I1, eI1, h⟩ := wr_some h
  refine V_putI C0 11 25 fp_X12_205 c_x0.2 c_x0.1 rfl dX12_clear_2 ?_
  rw [← eI1]
  refine V_aload_n C0 0 rfl rfl dX12_clear_5 ?_
  refine V_iconst C0 (v := (0 : Int32)) (by decide) dX12_clear_6 ?_
  obtain ⟨I2, eI2, h⟩ := wr_some h
  refine V_putI C0 11 26 fp_X12_262 c_x0.2 c_x0.1 rfl dX12_clear_7 ?_
  rw [← eI2]
  refine V_aload_n C0 0 rfl rfl dX12_clear_10 ?_
  refine V_iconst C0 (v := (0 : Int32)) (by decide) dX12_clear_11 ?_
  obtain ⟨I3, eI3, h⟩ := wr_some h
  refine V_putI C0 11 27 fp_X12_256 c_x0.2 c_x0.1 rfl dX12_clear_12 ?_
  rw [← eI3]
  refine V_aload_n C0 0 rfl rfl dX12_clear_15 ?_
  refine V_iconst C0 (v := (0 : Int32)) (by decide) dX12_clear_16 ?_
  obtain ⟨I4, eI4, h⟩ := wr_some h
  refine V_putI C0 11 28 fp_X12_208 c_x0.2 c_x0.1 rfl dX12_clear_17 ?_
  rw [← eI4]
  refine V_aload_n C0 0 rfl rfl dX12_clear_20 ?_
  refine V_iconst C0 (v := (0 : Int32)) (by decide) dX12_clear_21 ?_
  obtain ⟨I5, eI5, h⟩ := wr_some h
  refine V_putI C0 11 34 fp_X12_306 c_x0.2 c_x0.1 rfl dX12_clear_22 ?_
  rw [← eI5]
  refine V_aload_n C0 0 rfl rfl dX12_clear_25 ?_
  refine V_iconst C0 (v := (0 : Int32)) (by decide) dX12_clear_26 ?_
  obtain ⟨I6, eI6, h⟩ := wr_some h
  refine V_putI C0 11 35 fp_X12_309 c_x0.2 c_x0.1 rfl dX12_clear_27 ?_
  rw [← eI6]
  refine V_iconst C0 (v := (0 : Int32)) (by decide) dX12_clear_30 ?_
  refine V_istore_n C0 [(1, .int (0 : Int32)), (0, .ref (G.ad x0))] rfl (by rw [eNL]; decide) rfl dX12_clear_31 ?_
  obtain ⟨z15, q16, h⟩ := bn1_some h
  refine V_sub [1, 0] rfl (lp_X12_clear_32 C0 eNL erm N N x0 (0 : Int32) I6 L R _ c_x0.1 c_x0.2 q16 _ ?_)
  show V G _ 64 [(0, .ref (G.ad x0))] [] z15 L R
  refine V_aload_n C0 0 rfl rfl dX12_clear_64 ?_
  refine V_iconst C0 (v := (0 : Int32)) (by decide) dX12_clear_65 ?_
  obtain ⟨I17, eI17, h⟩ := wr_some h
  refine V_putI C0 11 39 fp_X12_312 c_x0.2 c_x0.1 rfl dX12_clear_66 ?_
  rw [← eI17]
  refine V_aload_n C0 0 rfl rfl dX12_clear_69 ?_
  refine V_iconst C0 (v := (0 : Int32)) (by decide) dX12_clear_70 ?_
  obtain ⟨I18, eI18, h⟩ := wr_some h
  refine V_putI C0 11 40 fp_X12_315 c_x0.2 c_x0.1 rfl dX12_clear_71 ?_
  rw [← eI18]
  refine V_aload_n C0 0 rfl rfl dX12_clear_74 ?_
  refine V_iconst C0 (v := (0 : Int32)) (by decide) dX12_clear_75 ?_
  obtain ⟨I19, eI19, h⟩ := wr_some h
  refine V_putI C0 11 41 fp_X12_318 c_x0.2 c_x0.1 rfl dX12_clear_76 ?_
  rw [← eI19]
  refine V_aload_n C0 0 rfl rfl dX12_clear_79 ?_
  refine V_iconst C0 (v := (0 : Int32)) (by decide) dX12_clear_80 ?_
  obtain ⟨I20, eI20, h⟩ := wr_some h
  refine V_putI C0 11 42 fp_X12_321 c_x0.2 c_x0.1 rfl dX12_clear_81 ?_
  rw [← eI20]
  refine V_aload_n C0 0 rfl rfl dX12_clear_84 ?_
  refine V_iconst C0 (v := (0 : Int32)) (by decide) dX12_clear_85 ?_
  obtain ⟨I21, eI21, h⟩ := wr_some h
  refine V_putI C0 11 43 fp_X12_324 c_x0.2 c_x0.1 rfl dX12_clear_86 ?_
  rw [← eI21]
  refine V_aload_n C0 0 rfl rfl dX12_clear_89 ?_
  refine V_iconst C0 (v := (0 : Int32)) (by decide) dX12_clear_90 ?_
  obtain ⟨I22, eI22, h⟩ := wr_some h
  refine V_putI C0 11 44 fp_X12_327 c_x0.2 c_x0.1 rfl dX12_clear_91 ?_
  rw [← eI22]
  refine V_aload_n C0 0 rfl rfl dX12_clear_94 ?_
  refine V_iconst C0 (v := (0 : Int32)) (by decide) dX12_clear_95 ?_
  obtain ⟨I23, eI23, h⟩ := wr_some h
  refine V_putI C0 11 45 fp_X12_330 c_x0.2 c_x0.1 rfl dX12_clear_96 ?_
  rw [← eI23]
  refine V_aload_n C0 0 rfl rfl dX12_clear_99 ?_
  refine V_iconst C0 (v := (0 : Int32)) (by decide) dX12_clear_100 ?_
  obtain ⟨I24, eI24, h⟩ := wr_some h
  refine V_putI C0 11 46 fp_X12_333 c_x0.2 c_x0.1 rfl dX12_clear_101 ?_
  rw [← eI24]
  refine V_aload_n C0 0 rfl rfl dX12_clear_104 ?_
  refine V_iconst C0 (v := (0 : Int32)) (by decide) dX12_clear_105 ?_
  obtain ⟨I25, eI25, h⟩ := wr_some h
  refine V_putI C0 11 47 fp_X12_336 c_x0.2 c_x0.1 rfl dX12_clear_106 ?_
  rw [← eI25]
  refine V_aload_n C0 0 rfl rfl dX12_clear_109 ?_
  refine V_iconst C0 (v := (0 : Int32)) (by decide) dX12_clear_110 ?_
  obtain ⟨I26, eI26, h⟩ := wr_some h
  refine V_putI C0 11 48 fp_X12_339 c_x0.2 c_x0.1 rfl dX12_clear_111 ?_
  rw [← eI26]
  refine V_aload_n C0 0 rfl rfl dX12_clear_114 ?_
  refine V_iconst C0 (v := (0 : Int32)) (by decide) dX12_clear_115 ?_
  obtain ⟨I27, eI27, h⟩ := wr_some h
  refine V_putI C0 11 49 fp_X12_342 c_x0.2 c_x0.1 rfl dX12_clear_116 ?_
  rw [← eI27]
  refine V_aload_n C0 0 rfl rfl dX12_clear_119 ?_
  refine V_iconst C0 (v := (0 : Int32)) (by decide) dX12_clear_120 ?_
  obtain ⟨I28, eI28, h⟩ := wr_some h
  refine V_putI C0 11 54 fp_X12_345 c_x0.2 c_x0.1 rfl dX12_clear_121 ?_
  rw [← eI28]
  cases h
  exact V_vret C0 dX12_clear_124
theorem dX12_load_0 : decode cX12_load 0 = .ok (.aload_n 0, 1) := by decide +kernel
theorem dX12_load_1 : decode cX12_load 1 = .ok (.iconst 0, 1) := by decide +kernel
theorem dX12_load_2 : decode cX12_load 2 = .ok (.putfield 112, 3) := by decide +kernel
theorem dX12_load_5 : decode cX12_load 5 = .ok (.aload_n 0, 1) := by decide +kernel
theorem dX12_load_6 : decode cX12_load 6 = .ok (.iload_n 1, 1) := by decide +kernel
theorem dX12_load_7 : decode cX12_load 7 = .ok (.invokevirtual 291, 3) := by decide +kernel
theorem dX12_load_10 : decode cX12_load 10 = .ok (.ifCond .ne 5, 3) := by decide +kernel
theorem dX12_load_13 : decode cX12_load 13 = .ok (.iconst 0, 1) := by decide +kernel
theorem dX12_load_14 : decode cX12_load 14 = .ok (.ireturn, 1) := by decide +kernel
theorem dX12_load_15 : decode cX12_load 15 = .ok (.aload_n 0, 1) := by decide +kernel
theorem dX12_load_16 : decode cX12_load 16 = .ok (.iconst 0, 1) := by decide +kernel
theorem dX12_load_17 : decode cX12_load 17 = .ok (.putfield 168, 3) := by decide +kernel
theorem dX12_load_20 : decode cX12_load 20 = .ok (.iconst 1, 1) := by decide +kernel
theorem dX12_load_21 : decode cX12_load 21 = .ok (.istore_n 2, 1) := by decide +kernel
theorem dX12_load_22 : decode cX12_load 22 = .ok (.iload_n 2, 1) := by decide +kernel
theorem dX12_load_23 : decode cX12_load 23 = .ok (.ifCond .eq 11, 3) := by decide +kernel
theorem dX12_load_26 : decode cX12_load 26 = .ok (.aload_n 0, 1) := by decide +kernel
theorem dX12_load_27 : decode cX12_load 27 = .ok (.invokevirtual 294, 3) := by decide +kernel
theorem dX12_load_30 : decode cX12_load 30 = .ok (.istore_n 2, 1) := by decide +kernel
theorem dX12_load_31 : decode cX12_load 31 = .ok (.goto (-9), 3) := by decide +kernel
theorem dX12_load_34 : decode cX12_load 34 = .ok (.aload_n 0, 1) := by decide +kernel
theorem dX12_load_35 : decode cX12_load 35 = .ok (.getfield 128, 3) := by decide +kernel
theorem dX12_load_38 : decode cX12_load 38 = .ok (.ifCond .le 5, 3) := by decide +kernel
theorem dX12_load_41 : decode cX12_load 41 = .ok (.iconst (-1), 1) := by decide +kernel
theorem dX12_load_42 : decode cX12_load 42 = .ok (.ireturn, 1) := by decide +kernel
theorem dX12_load_43 : decode cX12_load 43 = .ok (.aload_n 0, 1) := by decide +kernel
theorem dX12_load_44 : decode cX12_load 44 = .ok (.aload_n 0, 1) := by decide +kernel
theorem dX12_load_45 : decode cX12_load 45 = .ok (.getfield 168, 3) := by decide +kernel
theorem dX12_load_48 : decode cX12_load 48 = .ok (.putfield 297, 3) := by decide +kernel
theorem dX12_load_51 : decode cX12_load 51 = .ok (.iconst 0, 1) := by decide +kernel
theorem dX12_load_52 : decode cX12_load 52 = .ok (.istore_n 3, 1) := by decide +kernel
theorem dX12_load_53 : decode cX12_load 53 = .ok (.iload_n 3, 1) := by decide +kernel
theorem dX12_load_54 : decode cX12_load 54 = .ok (.sipush 160, 3) := by decide +kernel
theorem dX12_load_57 : decode cX12_load 57 = .ok (.if_icmp .ge 21, 3) := by decide +kernel
theorem dX12_load_60 : decode cX12_load 60 = .ok (.aload_n 0, 1) := by decide +kernel
theorem dX12_load_61 : decode cX12_load 61 = .ok (.getfield 44, 3) := by decide +kernel
theorem dX12_load_64 : decode cX12_load 64 = .ok (.iload_n 3, 1) := by decide +kernel
theorem dX12_load_65 : decode cX12_load 65 = .ok (.aload_n 0, 1) := by decide +kernel
theorem dX12_load_66 : decode cX12_load 66 = .ok (.getfield 38, 3) := by decide +kernel
theorem dX12_load_69 : decode cX12_load 69 = .ok (.iload_n 3, 1) := by decide +kernel
theorem dX12_load_70 : decode cX12_load 70 = .ok (.iaload, 1) := by decide +kernel
theorem dX12_load_71 : decode cX12_load 71 = .ok (.iastore, 1) := by decide +kernel
theorem dX12_load_72 : decode cX12_load 72 = .ok (.iinc 3 1, 3) := by decide +kernel
theorem dX12_load_75 : decode cX12_load 75 = .ok (.goto (-22), 3) := by decide +kernel
theorem dX12_load_78 : decode cX12_load 78 = .ok (.iconst 0, 1) := by decide +kernel
theorem dX12_load_79 : decode cX12_load 79 = .ok (.istore_n 3, 1) := by decide +kernel
theorem dX12_load_80 : decode cX12_load 80 = .ok (.iload_n 3, 1) := by decide +kernel
theorem dX12_load_81 : decode cX12_load 81 = .ok (.bipush 60, 2) := by decide +kernel
theorem dX12_load_83 : decode cX12_load 83 = .ok (.if_icmp .ge 21, 3) := by decide +kernel
theorem dX12_load_86 : decode cX12_load 86 = .ok (.aload_n 0, 1) := by decide +kernel
theorem dX12_load_87 : decode cX12_load 87 = .ok (.getfield 47, 3) := by decide +kernel
theorem dX12_load_90 : decode cX12_load 90 = .ok (.iload_n 3, 1) := by decide +kernel
theorem dX12_load_91 : decode cX12_load 91 = .ok (.aload_n 0, 1) := by decide +kernel
theorem dX12_load_92 : decode cX12_load 92 = .ok (.getfield 41, 3) := by decide +kernel
theorem dX12_load_95 : decode cX12_load 95 = .ok (.iload_n 3, 1) := by decide +kernel
theorem dX12_load_96 : decode cX12_load 96 = .ok (.iaload, 1) := by decide +kernel
theorem dX12_load_97 : decode cX12_load 97 = .ok (.iastore, 1) := by decide +kernel
theorem dX12_load_98 : decode cX12_load 98 = .ok (.iinc 3 1, 3) := by decide +kernel
theorem dX12_load_101 : decode cX12_load 101 = .ok (.goto (-21), 3) := by decide +kernel
theorem dX12_load_104 : decode cX12_load 104 = .ok (.aload_n 0, 1) := by decide +kernel
theorem dX12_load_105 : decode cX12_load 105 = .ok (.invokevirtual 300, 3) := by decide +kernel
theorem dX12_load_108 : decode cX12_load 108 = .ok (.iconst 0, 1) := by decide +kernel
theorem dX12_load_109 : decode cX12_load 109 = .ok (.istore_n 3, 1) := by decide +kernel
theorem dX12_load_110 : decode cX12_load 110 = .ok (.iload_n 3, 1) := by decide +kernel
theorem dX12_load_111 : decode cX12_load 111 = .ok (.aload_n 0, 1) := by decide +kernel
theorem dX12_load_112 : decode cX12_load 112 = .ok (.getfield 297, 3) := by decide +kernel
theorem dX12_load_115 : decode cX12_load 115 = .ok (.if_icmp .ge 20, 3) := by decide +kernel
theorem dX12_load_118 : decode cX12_load 118 = .ok (.aload_n 0, 1) := by decide +kernel
theorem dX12_load_119 : decode cX12_load 119 = .ok (.iload_n 3, 1) := by decide +kernel
theorem dX12_load_120 : decode cX12_load 120 = .ok (.aload_n 0, 1) := by decide +kernel
theorem dX12_load_121 : decode cX12_load 121 = .ok (.getfield 35, 3) := by decide +kernel
theorem dX12_load_124 : decode cX12_load 124 = .ok (.iload_n 3, 1) := by decide +kernel
theorem dX12_load_125 : decode cX12_load 125 = .ok (.iaload, 1) := by decide +kernel
theorem dX12_load_126 : decode cX12_load 126 = .ok (.invokevirtual 303, 3) := by decide +kernel
theorem dX12_load_129 : decode cX12_load 129 = .ok (.iinc 3 1, 3) := by decide +kernel
theorem dX12_load_132 : decode cX12_load 132 = .ok (.goto (-22), 3) := by decide +kernel
theorem dX12_load_135 : decode cX12_load 135 = .ok (.aload_n 0, 1) := by decide +kernel
theorem dX12_load_136 : decode cX12_load 136 = .ok (.getfield 297, 3) := by decide +kernel
theorem dX12_load_139 : decode cX12_load 139 = .ok (.ireturn, 1) := by decide +kernel
def LF_X12_load_22 (N : Nat) : Nat → Nat → Int32 → MI → ML → MR → Option (MI)
  | 0, _, _, _, _, _ => none
  | k + 1, y0, y2, I, L, R =>
    if y2 = 0 then
      some (I)
    else
      bn2 (F_X12_readUnit N y0 I L R) fun b8 I9 =>
      wr (b2i b8) fun (u11 : Int32) =>
      LF_X12_load_22 N k y0 u11 I9 L R
def LF_X12_load_53 (N : Nat) : Nat → Nat → Int32 → MI → ML → MR → Option (MI)
  | 0, _, _, _, _, _ => none
  | k + 1, y0, y3, I, L, R =>
    if (160 : Int32) ≤ y3 then
      some (I)
    else
      (rf R y0 22 20).bind fun a17 =>
      (rf R y0 19 20).bind fun a18 =>
      (ri I a18 y3).bind fun v19 =>
      (wi I a17 y3 v19).bind fun I20 =>
      wr (y3 + (1 : Int32)) fun (u21 : Int32) =>
      LF_X12_load_53 N k y0 u21 I20 L R
def LF_X12_load_80 (N : Nat) : Nat → Nat → Int32 → MI → ML → MR → Option (MI)
  | 0, _, _, _, _, _ => none
  | k + 1, y0, y3, I, L, R =>
    if (60 : Int32) ≤ y3 then
      some (I)
    else
      (rf R y0 23 20).bind fun a25 =>
      (rf R y0 20 20).bind fun a26 =>
      (ri I a26 y3).bind fun v27 =>
      (wi I a25 y3 v27).bind fun I28 =>
      wr (y3 + (1 : Int32)) fun (u29 : Int32) =>
      LF_X12_load_80 N k y0 u29 I28 L R
def LF_X12_load_110 (N : Nat) : Nat → Nat → Int32 → MI → ML → MR → Option (MI)
  | 0, _, _, _, _, _ => none
  | k + 1, y0, y3, I, L, R =>
    if (I y0 21) ≤ y3 then
      some (I)
    else
      (rf R y0 18 20).bind fun a35 =>
      (ri I a35 y3).bind fun v36 =>
      bn1 (F_X12_make N y0 y3 v36 I L R) fun I37 =>
      wr (y3 + (1 : Int32)) fun (u39 : Int32) =>
      LF_X12_load_110 N k y0 u39 I37 L R
def F_X12_load (N : Nat) (x0 : Nat) (x1 : Int32) (I : MI) (L : ML) (R : MR) : Option (Int32 × MI) :=
  if kd x0 = 11 ∧ x0 < NN then
  wr (uI I x0 5 (0 : Int32)) fun (I1 : MI) =>
  bn2 (F_X12_begins N x0 x1 I1 L R) fun b2 I3 =>
  if (b2i b2) = 0 then
    some ((0 : Int32), I3)
  else
    wr (uI I3 x0 17 (0 : Int32)) fun (I6 : MI) =>
    bn1 (LF_X12_load_22 N N x0 (1 : Int32) I6 L R) fun z12 =>
    if (z12 x0 15) ≤ 0 then
      wr (uI z12 x0 21 (z12 x0 17)) fun (I15 : MI) =>
      bn1 (LF_X12_load_53 N N x0 (0 : Int32) I15 L R) fun z22 =>
      bn1 (LF_X12_load_80 N N x0 (0 : Int32) z22 L R) fun z30 =>
      bn1 (F_X12_clear N x0 z30 L R) fun I32 =>
      bn1 (LF_X12_load_110 N N x0 (0 : Int32) I32 L R) fun z40 =>
      some ((z40 x0 21), z40)
    else
      some ((-1 : Int32), z12)
  else none
set_option maxRecDepth 100000 in
set_option maxHeartbeats 4000000 in
theorem lp_X12_load_22 {G : Gm} (C0 : Cx G (yX12_load.cls) cX12_load (some .int)) (eNL : G.nL = 4) (erm : G.rm = ({ frames := 6, cells := 0, slots := 0, locals := 146 } : Room)) (N : Nat) : ∀ (k : Nat) (y0 : Nat) (y2 : Int32) (I : MI) (L : ML) (R : MR) (z : MI) (hk0 : kd y0 = 11) (ho0 : y0 < NN), LF_X12_load_22 N k y0 y2 I L R = some z → ∀ f : State → Prop, V G f 34 [(0, .ref (G.ad y0))] [] z L R → V G f 22 [(0, .ref (G.ad y0)), (2, .int y2)] [] I L R := by
  intro k
  induction k with
  | zero =>
    intro y0 y2 I L R q hk0 ho0 h
    exact absurd h (by simp [LF_X12_load_22])
  | succ k ih =>
    intro y0 y2 I L R q hk0 ho0 h f kx
    rw [LF_X12_load_22] at h
    refine V_iload_n C0 1 rfl rfl dX12_load_22 ?_
    refine V_if_eq C0 (tgt := 34) (by decide) dX12_load_23 (fun c7 => ?_) (fun c7 => ?_)
    · have h := (if_pos c7).symm.trans h
      cases h
      exact V_sub [0] rfl kx
    · have h := (if_neg c7).symm.trans h
      refine V_aload_n C0 0 rfl rfl dX12_load_26 ?_
      obtain ⟨b8, I9, q10, h⟩ := bn2_some h
      refine V_callV C0 (st := []) (As := []) 11 (c_X12_readUnit G.l G.D G.cA G.ad G.bs G.X C0.2.2.2.2.2.2.2.2.2.1 C0.2.2.2.2.2.2.2.2.2.2.2.2 N y0 I L R b8 I9 q10) lc_X12_readUnit lk_X12_294 ho0 hk0 ⟨_, rfl, rfl⟩ rfl (by rw [erm]; decide) (Nat.le_of_ble_eq_true rfl) dX12_load_27 ?_
      show V G _ 30 [(0, .ref (G.ad y0)), (2, .int y2)] [.int (b2i b8)] I9 L R
      obtain ⟨u11, eu11, h⟩ := wr_some h
      rw [← eu11]
      refine V_istore_n C0 [(2, .int u11), (0, .ref (G.ad y0))] rfl (by rw [eNL]; decide) rfl dX12_load_30 ?_
      refine V_goto C0 (tgt := 22) (by decide) dX12_load_31 ?_
      exact V_sub [1, 0] rfl (ih y0 u11 I9 L R _ hk0 ho0 h f kx)
set_option maxRecDepth 100000 in
set_option maxHeartbeats 4000000 in
theorem lp_X12_load_53 {G : Gm} (C0 : Cx G (yX12_load.cls) cX12_load (some .int)) (eNL : G.nL = 4) (erm : G.rm = ({ frames := 6, cells := 0, slots := 0, locals := 146 } : Room)) (N : Nat) : ∀ (k : Nat) (y0 : Nat) (y3 : Int32) (I : MI) (L : ML) (R : MR) (z : MI) (hk0 : kd y0 = 11) (ho0 : y0 < NN), LF_X12_load_53 N k y0 y3 I L R = some z → ∀ f : State → Prop, V G f 78 [(0, .ref (G.ad y0))] [] z L R → V G f 53 [(0, .ref (G.ad y0)), (3, .int y3)] [] I L R := by
  intro k
  induction k with
  | zero =>
    intro y0 y3 I L R q hk0 ho0 h
    exact absurd h (by simp [LF_X12_load_53])
  | succ k ih =>
    intro y0 y3 I L R q hk0 ho0 h f kx
    rw [LF_X12_load_53] at h
    refine V_iload_n C0 1 rfl rfl dX12_load_53 ?_
    refine V_sipush C0 (v := (160 : Int32)) (by decide) dX12_load_54 ?_
    refine V_icmp_ge C0 (tgt := 78) (by decide) dX12_load_57 (fun c16 => ?_) (fun c16 => ?_)
    · have h := (if_pos c16).symm.trans h
      cases h
      exact V_sub [0] rfl kx
    · have h := (if_neg c16).symm.trans h
      refine V_aload_n C0 0 rfl rfl dX12_load_60 ?_
      obtain ⟨a17, qa17, h⟩ := bnd_some h
      refine V_getR C0 11 22 fl_X12_44 ho0 hk0 rfl (rf_at qa17) dX12_load_61 ?_
      refine V_iload_n C0 1 rfl rfl dX12_load_64 ?_
      refine V_aload_n C0 0 rfl rfl dX12_load_65 ?_
      obtain ⟨a18, qa18, h⟩ := bnd_some h
      refine V_getR C0 11 19 fl_X12_38 ho0 hk0 rfl (rf_at qa18) dX12_load_66 ?_
      refine V_iload_n C0 1 rfl rfl dX12_load_69 ?_
      obtain ⟨v19, qv19, h⟩ := bnd_some h
      refine V_ri C0 (rf_lt qa18) (rf_kd qa18) qv19 dX12_load_70 ?_
      obtain ⟨I20, qI20, h⟩ := bnd_some h
      refine V_wi C0 (rf_lt qa17) (rf_kd qa17) qI20 dX12_load_71 ?_
      obtain ⟨u21, eu21, h⟩ := wr_some h
      refine V_iinc C0 1 [(3, .int u21), (0, .ref (G.ad y0))] rfl (n := 1) (by rw [eu21]; rfl) (by rw [eNL]; decide) rfl dX12_load_72 ?_
      refine V_goto C0 (tgt := 53) (by decide) dX12_load_75 ?_
      exact V_sub [1, 0] rfl (ih y0 u21 I20 L R _ hk0 ho0 h f kx)
set_option maxRecDepth 100000 in
set_option maxHeartbeats 4000000 in
theorem lp_X12_load_80 {G : Gm} (C0 : Cx G (yX12_load.cls) cX12_load (some .int)) (eNL : G.nL = 4) (erm : G.rm = ({ frames := 6, cells := 0, slots := 0, locals := 146 } : Room)) (N : Nat) : ∀ (k : Nat) (y0 : Nat) (y3 : Int32) (I : MI) (L : ML) (R : MR) (z : MI) (hk0 : kd y0 = 11) (ho0 : y0 < NN), LF_X12_load_80 N k y0 y3 I L R = some z → ∀ f : State → Prop, V G f 104 [(0, .ref (G.ad y0))] [] z L R → V G f 80 [(0, .ref (G.ad y0)), (3, .int y3)] [] I L R := by
  intro k
  induction k with
  | zero =>
    intro y0 y3 I L R q hk0 ho0 h
    exact absurd h (by simp [LF_X12_load_80])
  | succ k ih =>
    intro y0 y3 I L R q hk0 ho0 h f kx
    rw [LF_X12_load_80] at h
    refine V_iload_n C0 1 rfl rfl dX12_load_80 ?_
    refine V_bipush C0 (v := (60 : Int32)) (by decide) dX12_load_81 ?_
    refine V_icmp_ge C0 (tgt := 104) (by decide) dX12_load_83 (fun c24 => ?_) (fun c24 => ?_)
    · have h := (if_pos c24).symm.trans h
      cases h
      exact V_sub [0] rfl kx
    · have h := (if_neg c24).symm.trans h
      refine V_aload_n C0 0 rfl rfl dX12_load_86 ?_
      obtain ⟨a25, qa25, h⟩ := bnd_some h
      refine V_getR C0 11 23 fl_X12_47 ho0 hk0 rfl (rf_at qa25) dX12_load_87 ?_
      refine V_iload_n C0 1 rfl rfl dX12_load_90 ?_
      refine V_aload_n C0 0 rfl rfl dX12_load_91 ?_
      obtain ⟨a26, qa26, h⟩ := bnd_some h
      refine V_getR C0 11 20 fl_X12_41 ho0 hk0 rfl (rf_at qa26) dX12_load_92 ?_
      refine V_iload_n C0 1 rfl rfl dX12_load_95 ?_
      obtain ⟨v27, qv27, h⟩ := bnd_some h
      refine V_ri C0 (rf_lt qa26) (rf_kd qa26) qv27 dX12_load_96 ?_
      obtain ⟨I28, qI28, h⟩ := bnd_some h
      refine V_wi C0 (rf_lt qa25) (rf_kd qa25) qI28 dX12_load_97 ?_
      obtain ⟨u29, eu29, h⟩ := wr_some h
      refine V_iinc C0 1 [(3, .int u29), (0, .ref (G.ad y0))] rfl (n := 1) (by rw [eu29]; rfl) (by rw [eNL]; decide) rfl dX12_load_98 ?_
      refine V_goto C0 (tgt := 80) (by decide) dX12_load_101 ?_
      exact V_sub [1, 0] rfl (ih y0 u29 I28 L R _ hk0 ho0 h f kx)
set_option maxRecDepth 100000 in
set_option maxHeartbeats 4000000 in
theorem lp_X12_load_110 {G : Gm} (C0 : Cx G (yX12_load.cls) cX12_load (some .int)) (eNL : G.nL = 4) (erm : G.rm = ({ frames := 6, cells := 0, slots := 0, locals := 146 } : Room)) (N : Nat) : ∀ (k : Nat) (y0 : Nat) (y3 : Int32) (I : MI) (L : ML) (R : MR) (z : MI) (hk0 : kd y0 = 11) (ho0 : y0 < NN), LF_X12_load_110 N k y0 y3 I L R = some z → ∀ f : State → Prop, V G f 135 [(0, .ref (G.ad y0))] [] z L R → V G f 110 [(0, .ref (G.ad y0)), (3, .int y3)] [] I L R := by
  intro k
  induction k with
  | zero =>
    intro y0 y3 I L R q hk0 ho0 h
    exact absurd h (by simp [LF_X12_load_110])
  | succ k ih =>
    intro y0 y3 I L R q hk0 ho0 h f kx
    rw [LF_X12_load_110] at h
    refine V_iload_n C0 1 rfl rfl dX12_load_110 ?_
    refine V_aload_n C0 0 rfl rfl dX12_load_111 ?_
    refine V_getI C0 11 21 fl_X12_297 ho0 hk0 rfl dX12_load_112 ?_
    refine V_icmp_ge C0 (tgt := 135) (by decide) dX12_load_115 (fun c34 => ?_) (fun c34 => ?_)
    · have h := (if_pos c34).symm.trans h
      cases h
      exact V_sub [0] rfl kx
    · have h := (if_neg c34).symm.trans h
      refine V_aload_n C0 0 rfl rfl dX12_load_118 ?_
      refine V_iload_n C0 1 rfl rfl dX12_load_119 ?_
      refine V_aload_n C0 0 rfl rfl dX12_load_120 ?_
      obtain ⟨a35, qa35, h⟩ := bnd_some h
      refine V_getR C0 11 18 fl_X12_35 ho0 hk0 rfl (rf_at qa35) dX12_load_121 ?_
      refine V_iload_n C0 1 rfl rfl dX12_load_124 ?_
      obtain ⟨v36, qv36, h⟩ := bnd_some h
      refine V_ri C0 (rf_lt qa35) (rf_kd qa35) qv36 dX12_load_125 ?_
      obtain ⟨I37, q38, h⟩ := bn1_some h
      refine V_callV C0 (st := []) (As := [.int y3, .int v36]) 11 (c_X12_make G.l G.D G.cA G.ad G.bs G.X C0.2.2.2.2.2.2.2.2.2.1 C0.2.2.2.2.2.2.2.2.2.2.2.2 N y0 y3 v36 I L R I37 q38) lc_X12_make lk_X12_303 ho0 hk0 ⟨_, rfl, rfl⟩ rfl (by rw [erm]; decide) (Nat.le_of_ble_eq_true rfl) dX12_load_126 ?_
      show V G _ 129 [(0, .ref (G.ad y0)), (3, .int y3)] [] I37 L R
      obtain ⟨u39, eu39, h⟩ := wr_some h
      refine V_iinc C0 1 [(3, .int u39), (0, .ref (G.ad y0))] rfl (n := 1) (by rw [eu39]; rfl) (by rw [eNL]; decide) rfl dX12_load_129 ?_
      refine V_goto C0 (tgt := 110) (by decide) dX12_load_132 ?_
      exact V_sub [1, 0] rfl (ih y0 u39 I37 L R _ hk0 ho0 h f kx)
set_option maxRecDepth 100000 in
set_option maxHeartbeats 4000000 in
theorem c_X12_load (l : Launch) (D : va_G) (cA : Nat → ClassId) (ad : Nat → Nat) (bs : Nat) (X : State → Prop) (hAd : Ax ad bs) (hX : Stb bs X) (N : Nat) (x0 : Nat) (x1 : Int32) (I : MI) (L : ML) (R : MR) (r : Int32) (I' : MI) (h : F_X12_load N x0 x1 I L R = some (r, I')) : Cn l D cA ad bs X yX12_load cX12_load 4 (some .int) 6 146 [.ref (ad x0), .int x1] I L R (some (.int r), I', L, R) := by
  refine Cn.ofV hAd hX [(0, .ref (ad x0)), (1, .int x1)] rfl (Nat.le_of_ble_eq_true rfl) (by decide) ?_
  intro G el eD ecA ead ebs eX erm eNL C0
  subst el eD ecA ead ebs eX
  unfold F_X12_load at h
  obtain ⟨c_x0, h⟩ := ite_some h
  refine V_aload_n C0 0 rfl rfl dX12_load_0 ?_
  refine V_iconst C0 (v := (0 : Int32)) (by decide) dX12_load_1 ?_
  obtain ⟨I1, eI1, h⟩ := wr_some h
  refine V_putI C0 11 5 fp_X12_112 c_x0.2 c_x0.1 rfl dX12_load_2 ?_
  rw [← eI1]
  refine V_aload_n C0 0 rfl rfl dX12_load_5 ?_
  refine V_iload_n C0 1 rfl rfl dX12_load_6 ?_
  obtain ⟨b2, I3, q4, h⟩ := bn2_some h
  refine V_callV C0 (st := []) (As := [.int x1]) 11 (c_X12_begins G.l G.D G.cA G.ad G.bs G.X C0.2.2.2.2.2.2.2.2.2.1 C0.2.2.2.2.2.2.2.2.2.2.2.2 N x0 x1 I1 L R b2 I3 q4) lc_X12_begins lk_X12_291 c_x0.2 c_x0.1 ⟨_, rfl, rfl⟩ rfl (by rw [erm]; decide) (Nat.le_of_ble_eq_true rfl) dX12_load_7 ?_
  show V G _ 10 [(0, .ref (G.ad x0)), (1, .int x1)] [.int (b2i b2)] I3 L R
  refine V_if_ne C0 (tgt := 15) (by decide) dX12_load_10 (fun c5 => ?_) (fun c5 => ?_)
  · have h := (if_neg c5).symm.trans h
    refine V_aload_n C0 0 rfl rfl dX12_load_15 ?_
    refine V_iconst C0 (v := (0 : Int32)) (by decide) dX12_load_16 ?_
    obtain ⟨I6, eI6, h⟩ := wr_some h
    refine V_putI C0 11 17 fp_X12_168 c_x0.2 c_x0.1 rfl dX12_load_17 ?_
    rw [← eI6]
    refine V_iconst C0 (v := (1 : Int32)) (by decide) dX12_load_20 ?_
    refine V_istore_n C0 [(2, .int (1 : Int32)), (0, .ref (G.ad x0)), (1, .int x1)] rfl (by rw [eNL]; decide) rfl dX12_load_21 ?_
    obtain ⟨z12, q13, h⟩ := bn1_some h
    refine V_sub [1, 0] rfl (lp_X12_load_22 C0 eNL erm N N x0 (1 : Int32) I6 L R _ c_x0.1 c_x0.2 q13 _ ?_)
    show V G _ 34 [(0, .ref (G.ad x0))] [] z12 L R
    refine V_aload_n C0 0 rfl rfl dX12_load_34 ?_
    refine V_getI C0 11 15 fl_X12_128 c_x0.2 c_x0.1 rfl dX12_load_35 ?_
    refine V_if_le C0 (tgt := 43) (by decide) dX12_load_38 (fun c14 => ?_) (fun c14 => ?_)
    · have h := (if_pos c14).symm.trans h
      refine V_aload_n C0 0 rfl rfl dX12_load_43 ?_
      refine V_aload_n C0 0 rfl rfl dX12_load_44 ?_
      refine V_getI C0 11 17 fl_X12_168 c_x0.2 c_x0.1 rfl dX12_load_45 ?_
      obtain ⟨I15, eI15, h⟩ := wr_some h
      refine V_putI C0 11 21 fp_X12_297 c_x0.2 c_x0.1 rfl dX12_load_48 ?_
      rw [← eI15]
      refine V_iconst C0 (v := (0 : Int32)) (by decide) dX12_load_51 ?_
      refine V_istore_n C0 [(3, .int (0 : Int32)), (0, .ref (G.ad x0))] rfl (by rw [eNL]; decide) rfl dX12_load_52 ?_
      obtain ⟨z22, q23, h⟩ := bn1_some h
      refine V_sub [1, 0] rfl (lp_X12_load_53 C0 eNL erm N N x0 (0 : Int32) I15 L R _ c_x0.1 c_x0.2 q23 _ ?_)
      show V G _ 78 [(0, .ref (G.ad x0))] [] z22 L R
      refine V_iconst C0 (v := (0 : Int32)) (by decide) dX12_load_78 ?_
      refine V_istore_n C0 [(3, .int (0 : Int32)), (0, .ref (G.ad x0))] rfl (by rw [eNL]; decide) rfl dX12_load_79 ?_
      obtain ⟨z30, q31, h⟩ := bn1_some h
      refine V_sub [1, 0] rfl (lp_X12_load_80 C0 eNL erm N N x0 (0 : Int32) z22 L R _ c_x0.1 c_x0.2 q31 _ ?_)
      show V G _ 104 [(0, .ref (G.ad x0))] [] z30 L R
      refine V_aload_n C0 0 rfl rfl dX12_load_104 ?_
      obtain ⟨I32, q33, h⟩ := bn1_some h
      refine V_callV C0 (st := []) (As := []) 11 (c_X12_clear G.l G.D G.cA G.ad G.bs G.X C0.2.2.2.2.2.2.2.2.2.1 C0.2.2.2.2.2.2.2.2.2.2.2.2 N x0 z30 L R I32 q33) lc_X12_clear lk_X12_300 c_x0.2 c_x0.1 ⟨_, rfl, rfl⟩ rfl (by rw [erm]; decide) (Nat.le_of_ble_eq_true rfl) dX12_load_105 ?_
      show V G _ 108 [(0, .ref (G.ad x0))] [] I32 L R
      refine V_iconst C0 (v := (0 : Int32)) (by decide) dX12_load_108 ?_
      refine V_istore_n C0 [(3, .int (0 : Int32)), (0, .ref (G.ad x0))] rfl (by rw [eNL]; decide) rfl dX12_load_109 ?_
      obtain ⟨z40, q41, h⟩ := bn1_some h
      refine V_sub [1, 0] rfl (lp_X12_load_110 C0 eNL erm N N x0 (0 : Int32) I32 L R _ c_x0.1 c_x0.2 q41 _ ?_)
      show V G _ 135 [(0, .ref (G.ad x0))] [] z40 L R
      refine V_aload_n C0 0 rfl rfl dX12_load_135 ?_
      refine V_getI C0 11 21 fl_X12_297 c_x0.2 c_x0.1 rfl dX12_load_136 ?_
      cases h
      exact V_iret C0 dX12_load_139
    · have h := (if_neg c14).symm.trans h
      refine V_iconst C0 (v := (-1 : Int32)) (by decide) dX12_load_41 ?_
      cases h
      exact V_iret C0 dX12_load_42
  · have h := (if_pos c5).symm.trans h
    refine V_iconst C0 (v := (0 : Int32)) (by decide) dX12_load_13 ?_
    cases h
    exact V_iret C0 dX12_load_14
