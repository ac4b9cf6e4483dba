theorem dX12_next_0 : decode cX12_next 0 = .ok (.aload_n 0, 1) := by decide +kernel
theorem dX12_next_1 : decode cX12_next 1 = .ok (.getfield 128, 3) := by decide +kernel
theorem dX12_next_4 : decode cX12_next 4 = .ok (.ifCond .le 5, 3) := by decide +kernel
theorem dX12_next_7 : decode cX12_next 7 = .ok (.iconst 0, 1) := by decide +kernel
theorem dX12_next_8 : decode cX12_next 8 = .ok (.ireturn, 1) := by decide +kernel
theorem dX12_next_9 : decode cX12_next 9 = .ok (.aload_n 0, 1) := by decide +kernel
theorem dX12_next_10 : decode cX12_next 10 = .ok (.aload_n 0, 1) := by decide +kernel
theorem dX12_next_11 : decode cX12_next 11 = .ok (.getfield 125, 3) := by decide +kernel
theorem dX12_next_14 : decode cX12_next 14 = .ok (.invokevirtual 131, 3) := by decide +kernel
theorem dX12_next_17 : decode cX12_next 17 = .ok (.bipush 32, 2) := by decide +kernel
theorem dX12_next_19 : decode cX12_next 19 = .ok (.if_icmp .eq 16, 3) := by decide +kernel
theorem dX12_next_22 : decode cX12_next 22 = .ok (.aload_n 0, 1) := by decide +kernel
theorem dX12_next_23 : decode cX12_next 23 = .ok (.aload_n 0, 1) := by decide +kernel
theorem dX12_next_24 : decode cX12_next 24 = .ok (.getfield 125, 3) := by decide +kernel
theorem dX12_next_27 : decode cX12_next 27 = .ok (.invokevirtual 131, 3) := by decide +kernel
theorem dX12_next_30 : decode cX12_next 30 = .ok (.bipush 10, 2) := by decide +kernel
theorem dX12_next_32 : decode cX12_next 32 = .ok (.if_icmp .ne 16, 3) := by decide +kernel
theorem dX12_next_35 : decode cX12_next 35 = .ok (.aload_n 0, 1) := by decide +kernel
theorem dX12_next_36 : decode cX12_next 36 = .ok (.dup, 1) := by decide +kernel
theorem dX12_next_37 : decode cX12_next 37 = .ok (.getfield 125, 3) := by decide +kernel
theorem dX12_next_40 : decode cX12_next 40 = .ok (.iconst 1, 1) := by decide +kernel
theorem dX12_next_41 : decode cX12_next 41 = .ok (.iadd, 1) := by decide +kernel
theorem dX12_next_42 : decode cX12_next 42 = .ok (.putfield 125, 3) := by decide +kernel
theorem dX12_next_45 : decode cX12_next 45 = .ok (.goto (-36), 3) := by decide +kernel
theorem dX12_next_48 : decode cX12_next 48 = .ok (.aload_n 0, 1) := by decide +kernel
theorem dX12_next_49 : decode cX12_next 49 = .ok (.aload_n 0, 1) := by decide +kernel
theorem dX12_next_50 : decode cX12_next 50 = .ok (.getfield 125, 3) := by decide +kernel
theorem dX12_next_53 : decode cX12_next 53 = .ok (.putfield 135, 3) := by decide +kernel
theorem dX12_next_56 : decode cX12_next 56 = .ok (.aload_n 0, 1) := by decide +kernel
theorem dX12_next_57 : decode cX12_next 57 = .ok (.aload_n 0, 1) := by decide +kernel
theorem dX12_next_58 : decode cX12_next 58 = .ok (.getfield 125, 3) := by decide +kernel
theorem dX12_next_61 : decode cX12_next 61 = .ok (.invokevirtual 131, 3) := by decide +kernel
theorem dX12_next_64 : decode cX12_next 64 = .ok (.istore_n 1, 1) := by decide +kernel
theorem dX12_next_65 : decode cX12_next 65 = .ok (.iload_n 1, 1) := by decide +kernel
theorem dX12_next_66 : decode cX12_next 66 = .ok (.iconst (-1), 1) := by decide +kernel
theorem dX12_next_67 : decode cX12_next 67 = .ok (.if_icmp .ne 11, 3) := by decide +kernel
theorem dX12_next_70 : decode cX12_next 70 = .ok (.aload_n 0, 1) := by decide +kernel
theorem dX12_next_71 : decode cX12_next 71 = .ok (.iconst 0, 1) := by decide +kernel
theorem dX12_next_72 : decode cX12_next 72 = .ok (.putfield 138, 3) := by decide +kernel
theorem dX12_next_75 : decode cX12_next 75 = .ok (.goto 87, 3) := by decide +kernel
theorem dX12_next_78 : decode cX12_next 78 = .ok (.iload_n 1, 1) := by decide +kernel
theorem dX12_next_79 : decode cX12_next 79 = .ok (.invokestatic 141, 3) := by decide +kernel
theorem dX12_next_82 : decode cX12_next 82 = .ok (.ifCond .eq 10, 3) := by decide +kernel
theorem dX12_next_85 : decode cX12_next 85 = .ok (.aload_n 0, 1) := by decide +kernel
theorem dX12_next_86 : decode cX12_next 86 = .ok (.invokevirtual 145, 3) := by decide +kernel
theorem dX12_next_89 : decode cX12_next 89 = .ok (.goto 73, 3) := by decide +kernel
theorem dX12_next_92 : decode cX12_next 92 = .ok (.iload_n 1, 1) := by decide +kernel
theorem dX12_next_93 : decode cX12_next 93 = .ok (.invokestatic 148, 3) := by decide +kernel
theorem dX12_next_96 : decode cX12_next 96 = .ok (.ifCond .ne 9, 3) := by decide +kernel
theorem dX12_next_99 : decode cX12_next 99 = .ok (.iload_n 1, 1) := by decide +kernel
theorem dX12_next_100 : decode cX12_next 100 = .ok (.bipush 45, 2) := by decide +kernel
theorem dX12_next_102 : decode cX12_next 102 = .ok (.if_icmp .ne 10, 3) := by decide +kernel
theorem dX12_next_105 : decode cX12_next 105 = .ok (.aload_n 0, 1) := by decide +kernel
theorem dX12_next_106 : decode cX12_next 106 = .ok (.invokevirtual 151, 3) := by decide +kernel
theorem dX12_next_109 : decode cX12_next 109 = .ok (.goto 53, 3) := by decide +kernel
theorem dX12_next_112 : decode cX12_next 112 = .ok (.iload_n 1, 1) := by decide +kernel
theorem dX12_next_113 : decode cX12_next 113 = .ok (.bipush 59, 2) := by decide +kernel
theorem dX12_next_115 : decode cX12_next 115 = .ok (.if_icmp .eq 15, 3) := by decide +kernel
theorem dX12_next_118 : decode cX12_next 118 = .ok (.iload_n 1, 1) := by decide +kernel
theorem dX12_next_119 : decode cX12_next 119 = .ok (.bipush 60, 2) := by decide +kernel
theorem dX12_next_121 : decode cX12_next 121 = .ok (.if_icmp .eq 9, 3) := by decide +kernel
theorem dX12_next_124 : decode cX12_next 124 = .ok (.iload_n 1, 1) := by decide +kernel
theorem dX12_next_125 : decode cX12_next 125 = .ok (.bipush 62, 2) := by decide +kernel
theorem dX12_next_127 : decode cX12_next 127 = .ok (.if_icmp .ne 26, 3) := by decide +kernel
theorem dX12_next_130 : decode cX12_next 130 = .ok (.aload_n 0, 1) := by decide +kernel
theorem dX12_next_131 : decode cX12_next 131 = .ok (.iconst 3, 1) := by decide +kernel
theorem dX12_next_132 : decode cX12_next 132 = .ok (.putfield 138, 3) := by decide +kernel
theorem dX12_next_135 : decode cX12_next 135 = .ok (.aload_n 0, 1) := by decide +kernel
theorem dX12_next_136 : decode cX12_next 136 = .ok (.iload_n 1, 1) := by decide +kernel
theorem dX12_next_137 : decode cX12_next 137 = .ok (.putfield 154, 3) := by decide +kernel
theorem dX12_next_140 : decode cX12_next 140 = .ok (.aload_n 0, 1) := by decide +kernel
theorem dX12_next_141 : decode cX12_next 141 = .ok (.dup, 1) := by decide +kernel
theorem dX12_next_142 : decode cX12_next 142 = .ok (.getfield 125, 3) := by decide +kernel
theorem dX12_next_145 : decode cX12_next 145 = .ok (.iconst 1, 1) := by decide +kernel
theorem dX12_next_146 : decode cX12_next 146 = .ok (.iadd, 1) := by decide +kernel
theorem dX12_next_147 : decode cX12_next 147 = .ok (.putfield 125, 3) := by decide +kernel
theorem dX12_next_150 : decode cX12_next 150 = .ok (.goto 12, 3) := by decide +kernel
theorem dX12_next_153 : decode cX12_next 153 = .ok (.aload_n 0, 1) := by decide +kernel
theorem dX12_next_154 : decode cX12_next 154 = .ok (.iconst 1, 1) := by decide +kernel
theorem dX12_next_155 : decode cX12_next 155 = .ok (.aload_n 0, 1) := by decide +kernel
theorem dX12_next_156 : decode cX12_next 156 = .ok (.getfield 125, 3) := by decide +kernel
theorem dX12_next_159 : decode cX12_next 159 = .ok (.invokevirtual 157, 3) := by decide +kernel
theorem dX12_next_162 : decode cX12_next 162 = .ok (.aload_n 0, 1) := by decide +kernel
theorem dX12_next_163 : decode cX12_next 163 = .ok (.getfield 128, 3) := by decide +kernel
theorem dX12_next_166 : decode cX12_next 166 = .ok (.ifCond .ne 7, 3) := by decide +kernel
theorem dX12_next_169 : decode cX12_next 169 = .ok (.iconst 1, 1) := by decide +kernel
theorem dX12_next_170 : decode cX12_next 170 = .ok (.goto 4, 3) := by decide +kernel
theorem dX12_next_173 : decode cX12_next 173 = .ok (.iconst 0, 1) := by decide +kernel
theorem dX12_next_174 : decode cX12_next 174 = .ok (.ireturn, 1) := by decide +kernel
def LF_X12_next_9 (N : Nat) : Nat → Nat → MI → ML → MR → Option (MI)
  | 0, _, _, _, _ => none
  | k + 1, y0, I, L, R =>
    bn1 (F_X12_byteAt y0 (I y0 10) I L R) fun v2 =>
    if v2 = (32 : Int32) then
      wr (uI I y0 10 ((I y0 10) + (1 : Int32))) fun (I5 : MI) =>
      LF_X12_next_9 N k y0 I5 L R
    else
      bn1 (F_X12_byteAt y0 (I y0 10) I L R) fun v6 =>
      if v6 = (10 : Int32) then
        wr (uI I y0 10 ((I y0 10) + (1 : Int32))) fun (I9 : MI) =>
        LF_X12_next_9 N k y0 I9 L R
      else
        some (I)
def F_X12_next (N : Nat) (x0 : Nat) (I : MI) (L : ML) (R : MR) : Option (Bool × MI) :=
  if kd x0 = 11 ∧ x0 < NN then
  if (I x0 15) ≤ 0 then
    bn1 (LF_X12_next_9 N N x0 I L R) fun z10 =>
    wr (uI z10 x0 12 (z10 x0 10)) fun (I12 : MI) =>
    bn1 (F_X12_byteAt x0 (I12 x0 10) I12 L R) fun v13 =>
    bn1 (
      if v13 = (-1 : Int32) then
        wr (uI I12 x0 11 (0 : Int32)) fun (I64 : MI) =>
        some (I64)
      else
        bn1 (F_X12_isLetter v13 I12 L R) fun b19 =>
        bn1 (
          if (b2i b19) = 0 then
            bn1 (F_X12_isDigit v13 I12 L R) fun b25 =>
            bn1 (
              if (b2i b25) = 0 then
                bn1 (
                  if v13 = (45 : Int32) then
                    bn1 (F_X12_takeNumber N x0 I12 L R) fun I60 =>
                    some (I60)
                  else
                    bn1 (
                      if v13 = (59 : Int32) then
                        wr (uI I12 x0 11 (3 : Int32)) fun (I41 : MI) =>
                        wr (uI I41 x0 14 v13) fun (I42 : MI) =>
                        wr (uI I42 x0 10 ((I42 x0 10) + (1 : Int32))) fun (I43 : MI) =>
                        some (I43)
                      else
                        bn1 (
                          if v13 = (60 : Int32) then
                            wr (uI I12 x0 11 (3 : Int32)) fun (I48 : MI) =>
                            wr (uI I48 x0 14 v13) fun (I49 : MI) =>
                            wr (uI I49 x0 10 ((I49 x0 10) + (1 : Int32))) fun (I50 : MI) =>
                            some (I50)
                          else
                            bn1 (
                              if v13 = (62 : Int32) then
                                wr (uI I12 x0 11 (3 : Int32)) fun (I57 : MI) =>
                                wr (uI I57 x0 14 v13) fun (I58 : MI) =>
                                wr (uI I58 x0 10 ((I58 x0 10) + (1 : Int32))) fun (I59 : MI) =>
                                some (I59)
                              else
                                bn1 (F_X12_wrong x0 (1 : Int32) (I12 x0 10) I12 L R) fun I55 =>
                                some (I55)
                            ) fun (I51 : MI) =>
                            some (I51)
                        ) fun (I44 : MI) =>
                        some (I44)
                    ) fun (I37 : MI) =>
                    some (I37)
                ) fun (I33 : MI) =>
                some (I33)
              else
                bn1 (F_X12_takeNumber N x0 I12 L R) fun I31 =>
                some (I31)
            ) fun (I27 : MI) =>
            some (I27)
          else
            bn1 (F_X12_takeWord N x0 I12 L R) fun I62 =>
            some (I62)
        ) fun (I21 : MI) =>
        some (I21)
    ) fun (I15 : MI) =>
    if (I15 x0 15) = 0 then
      some (true, I15)
    else
      some (false, I15)
  else
    some (false, I)
  else none
set_option maxRecDepth 100000 in
set_option maxHeartbeats 4000000 in
theorem lp_X12_next_9 {G : Gm} (C0 : Cx G (yX12_next.cls) cX12_next (some .boolean)) (eNL : G.nL = 2) (erm : G.rm = ({ frames := 2, cells := 0, slots := 0, locals := 44 } : Room)) (N : Nat) : ∀ (k : Nat) (y0 : Nat) (I : MI) (L : ML) (R : MR) (z : MI) (hk0 : kd y0 = 11) (ho0 : y0 < NN), LF_X12_next_9 N k y0 I L R = some z → ∀ f : State → Prop, V G f 48 [(0, .ref (G.ad y0))] [] z L R → V G f 9 [(0, .ref (G.ad y0))] [] I L R := by
  intro k
  induction k with
  | zero =>
    intro y0 I L R q hk0 ho0 h
    exact absurd h (by simp [LF_X12_next_9])
  | succ k ih =>
    intro y0 I L R q hk0 ho0 h f kx
    rw [LF_X12_next_9] at h
    refine V_aload_n C0 0 rfl rfl dX12_next_9 ?_
    refine V_aload_n C0 0 rfl rfl dX12_next_10 ?_
    refine V_getI C0 11 10 fl_X12_125 ho0 hk0 rfl dX12_next_11 ?_
    obtain ⟨v2, q3, h⟩ := bn1_some h
    refine V_callV C0 (st := []) (As := [.int (I y0 10)]) 11 (c_X12_byteAt G.l G.D G.cA G.ad G.bs G.X C0.2.2.2.2.2.2.2.2.2.1 C0.2.2.2.2.2.2.2.2.2.2.2.2 y0 (I y0 10) I L R v2 q3) lc_X12_byteAt lk_X12_131 ho0 hk0 ⟨_, rfl, rfl⟩ rfl (by rw [erm]; decide) (Nat.le_of_ble_eq_true rfl) dX12_next_14 ?_
    show V G _ 17 [(0, .ref (G.ad y0))] [.int v2] I L R
    refine V_bipush C0 (v := (32 : Int32)) (by decide) dX12_next_17 ?_
    refine V_icmp_eq C0 (tgt := 35) (by decide) dX12_next_19 (fun c4 => ?_) (fun c4 => ?_)
    · have h := (if_pos c4).symm.trans h
      refine V_aload_n C0 0 rfl rfl dX12_next_35 ?_
      refine V_dup C0 rfl dX12_next_36 ?_
      refine V_getI C0 11 10 fl_X12_125 ho0 hk0 rfl dX12_next_37 ?_
      refine V_iconst C0 (v := (1 : Int32)) (by decide) dX12_next_40 ?_
      refine V_iadd C0 dX12_next_41 ?_
      obtain ⟨I5, eI5, h⟩ := wr_some h
      refine V_putI C0 11 10 fp_X12_125 ho0 hk0 rfl dX12_next_42 ?_
      rw [← eI5]
      refine V_goto C0 (tgt := 9) (by decide) dX12_next_45 ?_
      exact V_sub [0] rfl (ih y0 I5 L R _ hk0 ho0 h f kx)
    · have h := (if_neg c4).symm.trans h
      refine V_aload_n C0 0 rfl rfl dX12_next_22 ?_
      refine V_aload_n C0 0 rfl rfl dX12_next_23 ?_
      refine V_getI C0 11 10 fl_X12_125 ho0 hk0 rfl dX12_next_24 ?_
      obtain ⟨v6, q7, h⟩ := bn1_some h
      refine V_callV C0 (st := []) (As := [.int (I y0 10)]) 11 (c_X12_byteAt G.l G.D G.cA G.ad G.bs G.X C0.2.2.2.2.2.2.2.2.2.1 C0.2.2.2.2.2.2.2.2.2.2.2.2 y0 (I y0 10) I L R v6 q7) lc_X12_byteAt lk_X12_131 ho0 hk0 ⟨_, rfl, rfl⟩ rfl (by rw [erm]; decide) (Nat.le_of_ble_eq_true rfl) dX12_next_27 ?_
      show V G _ 30 [(0, .ref (G.ad y0))] [.int v6] I L R
      refine V_bipush C0 (v := (10 : Int32)) (by decide) dX12_next_30 ?_
      refine V_icmp_ne C0 (tgt := 48) (by decide) dX12_next_32 (fun c8 => ?_) (fun c8 => ?_)
      · have h := (if_neg c8).symm.trans h
        cases h
        exact V_sub [0] rfl kx
      · have h := (if_pos c8).symm.trans h
        refine V_aload_n C0 0 rfl rfl dX12_next_35 ?_
        refine V_dup C0 rfl dX12_next_36 ?_
        refine V_getI C0 11 10 fl_X12_125 ho0 hk0 rfl dX12_next_37 ?_
        refine V_iconst C0 (v := (1 : Int32)) (by decide) dX12_next_40 ?_
        refine V_iadd C0 dX12_next_41 ?_
        obtain ⟨I9, eI9, h⟩ := wr_some h
        refine V_putI C0 11 10 fp_X12_125 ho0 hk0 rfl dX12_next_42 ?_
        rw [← eI9]
        refine V_goto C0 (tgt := 9) (by decide) dX12_next_45 ?_
        exact V_sub [0] rfl (ih y0 I9 L R _ hk0 ho0 h f kx)
set_option maxRecDepth 100000 in
set_option maxHeartbeats 4000000 in
theorem c_X12_next (l : Launch) (D : va_G) (cA : Nat → ClassId) (ad : Nat → Nat) (bs : Nat) (X : State → Prop) (hAd : Ax ad bs) (hX : Stb bs X) (N : Nat) (x0 : Nat) (I : MI) (L : ML) (R : MR) (r : Bool) (I' : MI) (h : F_X12_next N x0 I L R = some (r, I')) : Cn l D cA ad bs X yX12_next cX12_next 2 (some .boolean) 2 44 [.ref (ad x0)] I L R (some (.int (b2i r)), I', L, R) := by
  refine Cn.ofV hAd hX [(0, .ref (ad x0))] rfl (Nat.le_of_ble_eq_true rfl) (by decide) ?_
  intro G el eD ecA ead ebs eX erm eNL C0
  subst el eD ecA ead ebs eX
  unfold F_X12_next at h
  obtain ⟨c_x0, h⟩ := ite_some h
  refine V_aload_n C0 0 rfl rfl dX12_next_0 ?_
  refine V_getI C0 11 15 fl_X12_128 c_x0.2 c_x0.1 rfl dX12_next_1 ?_
  refine V_if_le C0 (tgt := 9) (by decide) dX12_next_4 (fun c1 => ?_) (fun c1 => ?_)
  · have h := (if_pos c1).symm.trans h
    obtain ⟨z10, q11, h⟩ := bn1_some h
    refine V_sub [0] rfl (lp_X12_next_9 C0 eNL erm N N x0 I L R _ c_x0.1 c_x0.2 q11 _ ?_)
    show V G _ 48 [(0, .ref (G.ad x0))] [] z10 L R
    refine V_aload_n C0 0 rfl rfl dX12_next_48 ?_
    refine V_aload_n C0 0 rfl rfl dX12_next_49 ?_
    refine V_getI C0 11 10 fl_X12_125 c_x0.2 c_x0.1 rfl dX12_next_50 ?_
    obtain ⟨I12, eI12, h⟩ := wr_some h
    refine V_putI C0 11 12 fp_X12_135 c_x0.2 c_x0.1 rfl dX12_next_53 ?_
    rw [← eI12]
    refine V_aload_n C0 0 rfl rfl dX12_next_56 ?_
    refine V_aload_n C0 0 rfl rfl dX12_next_57 ?_
    refine V_getI C0 11 10 fl_X12_125 c_x0.2 c_x0.1 rfl dX12_next_58 ?_
    obtain ⟨v13, q14, h⟩ := bn1_some h
    refine V_callV C0 (st := []) (As := [.int (I12 x0 10)]) 11 (c_X12_byteAt G.l G.D G.cA G.ad G.bs G.X C0.2.2.2.2.2.2.2.2.2.1 C0.2.2.2.2.2.2.2.2.2.2.2.2 x0 (I12 x0 10) I12 L R v13 q14) lc_X12_byteAt lk_X12_131 c_x0.2 c_x0.1 ⟨_, rfl, rfl⟩ rfl (by rw [erm]; decide) (Nat.le_of_ble_eq_true rfl) dX12_next_61 ?_
    show V G _ 64 [(0, .ref (G.ad x0))] [.int v13] I12 L R
    refine V_istore_n C0 [(1, .int v13), (0, .ref (G.ad x0))] rfl (by rw [eNL]; decide) rfl dX12_next_64 ?_
    refine V_iload_n C0 0 rfl rfl dX12_next_65 ?_
    refine V_iconst C0 (v := (-1 : Int32)) (by decide) dX12_next_66 ?_
    obtain ⟨I15, q16, h⟩ := bn1_some h
    have k17 : V G (qf G (some (.int (b2i r)), I', L, R)) 162 [(0, .ref (G.ad x0))] [] I15 L R := by
      refine V_aload_n C0 0 rfl rfl dX12_next_162 ?_
      refine V_getI C0 11 15 fl_X12_128 c_x0.2 c_x0.1 rfl dX12_next_163 ?_
      refine V_if_ne C0 (tgt := 173) (by decide) dX12_next_166 (fun c65 => ?_) (fun c65 => ?_)
      · have h := (if_neg c65).symm.trans h
        refine V_iconst C0 (v := (0 : Int32)) (by decide) dX12_next_173 ?_
        cases h
        exact V_zret C0 (by decide) dX12_next_174
      · have h := (if_pos c65).symm.trans h
        refine V_iconst C0 (v := (1 : Int32)) (by decide) dX12_next_169 ?_
        refine V_goto C0 (tgt := 174) (by decide) dX12_next_170 ?_
        cases h
        exact V_zret C0 (by decide) dX12_next_174
    refine V_icmp_ne C0 (tgt := 78) (by decide) dX12_next_67 (fun c18 => ?_) (fun c18 => ?_)
    · have q16 := (if_neg c18).symm.trans q16
      refine V_iload_n C0 0 rfl rfl dX12_next_78 ?_
      obtain ⟨b19, q20, q16⟩ := bn1_some q16
      refine V_callS C0 (st := []) (As := [.int v13]) (c_X12_isLetter G.l G.D G.cA G.ad G.bs G.X C0.2.2.2.2.2.2.2.2.2.1 C0.2.2.2.2.2.2.2.2.2.2.2.2 v13 I12 L R b19 q20) lc_X12_isLetter lk_X12_141 rfl (by rw [erm]; decide) (Nat.le_of_ble_eq_true rfl) dX12_next_79 ?_
      show V G _ 82 [(1, .int v13), (0, .ref (G.ad x0))] [.int (b2i b19)] I12 L R
      obtain ⟨I21, q22, q16⟩ := bn1_some q16
      have k23 : V G (qf G (some (.int (b2i r)), I', L, R)) 162 [(0, .ref (G.ad x0))] [] I21 L R := by
        cases q16
        exact V_sub [0] rfl k17
      refine V_if_eq C0 (tgt := 92) (by decide) dX12_next_82 (fun c24 => ?_) (fun c24 => ?_)
      · have q22 := (if_pos c24).symm.trans q22
        refine V_iload_n C0 0 rfl rfl dX12_next_92 ?_
        obtain ⟨b25, q26, q22⟩ := bn1_some q22
        refine V_callS C0 (st := []) (As := [.int v13]) (c_X12_isDigit G.l G.D G.cA G.ad G.bs G.X C0.2.2.2.2.2.2.2.2.2.1 C0.2.2.2.2.2.2.2.2.2.2.2.2 v13 I12 L R b25 q26) lc_X12_isDigit lk_X12_148 rfl (by rw [erm]; decide) (Nat.le_of_ble_eq_true rfl) dX12_next_93 ?_
        show V G _ 96 [(1, .int v13), (0, .ref (G.ad x0))] [.int (b2i b25)] I12 L R
        obtain ⟨I27, q28, q22⟩ := bn1_some q22
        have k29 : V G (qf G (some (.int (b2i r)), I', L, R)) 162 [(0, .ref (G.ad x0))] [] I27 L R := by
          cases q22
          exact V_sub [0] rfl k23
        refine V_if_ne C0 (tgt := 105) (by decide) dX12_next_96 (fun c30 => ?_) (fun c30 => ?_)
        · have q28 := (if_neg c30).symm.trans q28
          refine V_aload_n C0 1 rfl rfl dX12_next_105 ?_
          obtain ⟨I31, q32, q28⟩ := bn1_some q28
          refine V_callV C0 (st := []) (As := []) 11 (c_X12_takeNumber G.l G.D G.cA G.ad G.bs G.X C0.2.2.2.2.2.2.2.2.2.1 C0.2.2.2.2.2.2.2.2.2.2.2.2 N x0 I12 L R I31 q32) lc_X12_takeNumber lk_X12_151 c_x0.2 c_x0.1 ⟨_, rfl, rfl⟩ rfl (by rw [erm]; decide) (Nat.le_of_ble_eq_true rfl) dX12_next_106 ?_
          show V G _ 109 [(1, .int v13), (0, .ref (G.ad x0))] [] I31 L R
          refine V_goto C0 (tgt := 162) (by decide) dX12_next_109 ?_
          cases q28
          exact V_sub [1] rfl k29
        · have q28 := (if_pos c30).symm.trans q28
          refine V_iload_n C0 0 rfl rfl dX12_next_99 ?_
          refine V_bipush C0 (v := (45 : Int32)) (by decide) dX12_next_100 ?_
          obtain ⟨I33, q34, q28⟩ := bn1_some q28
          have k35 : V G (qf G (some (.int (b2i r)), I', L, R)) 162 [(0, .ref (G.ad x0))] [] I33 L R := by
            cases q28
            exact V_sub [0] rfl k29
          refine V_icmp_ne C0 (tgt := 112) (by decide) dX12_next_102 (fun c36 => ?_) (fun c36 => ?_)
          · have q34 := (if_neg c36).symm.trans q34
            refine V_iload_n C0 0 rfl rfl dX12_next_112 ?_
            refine V_bipush C0 (v := (59 : Int32)) (by decide) dX12_next_113 ?_
            obtain ⟨I37, q38, q34⟩ := bn1_some q34
            have k39 : V G (qf G (some (.int (b2i r)), I', L, R)) 162 [(0, .ref (G.ad x0))] [] I37 L R := by
              cases q34
              exact V_sub [0] rfl k35
            refine V_icmp_eq C0 (tgt := 130) (by decide) dX12_next_115 (fun c40 => ?_) (fun c40 => ?_)
            · have q38 := (if_pos c40).symm.trans q38
              refine V_aload_n C0 1 rfl rfl dX12_next_130 ?_
              refine V_iconst C0 (v := (3 : Int32)) (by decide) dX12_next_131 ?_
              obtain ⟨I41, eI41, q38⟩ := wr_some q38
              refine V_putI C0 11 11 fp_X12_138 c_x0.2 c_x0.1 rfl dX12_next_132 ?_
              rw [← eI41]
              refine V_aload_n C0 1 rfl rfl dX12_next_135 ?_
              refine V_iload_n C0 0 rfl rfl dX12_next_136 ?_
              obtain ⟨I42, eI42, q38⟩ := wr_some q38
              refine V_putI C0 11 14 fp_X12_154 c_x0.2 c_x0.1 rfl dX12_next_137 ?_
              rw [← eI42]
              refine V_aload_n C0 1 rfl rfl dX12_next_140 ?_
              refine V_dup C0 rfl dX12_next_141 ?_
              refine V_getI C0 11 10 fl_X12_125 c_x0.2 c_x0.1 rfl dX12_next_142 ?_
              refine V_iconst C0 (v := (1 : Int32)) (by decide) dX12_next_145 ?_
              refine V_iadd C0 dX12_next_146 ?_
              obtain ⟨I43, eI43, q38⟩ := wr_some q38
              refine V_putI C0 11 10 fp_X12_125 c_x0.2 c_x0.1 rfl dX12_next_147 ?_
              rw [← eI43]
              refine V_goto C0 (tgt := 162) (by decide) dX12_next_150 ?_
              cases q38
              exact V_sub [1] rfl k39
            · have q38 := (if_neg c40).symm.trans q38
              refine V_iload_n C0 0 rfl rfl dX12_next_118 ?_
              refine V_bipush C0 (v := (60 : Int32)) (by decide) dX12_next_119 ?_
              obtain ⟨I44, q45, q38⟩ := bn1_some q38
              have k46 : V G (qf G (some (.int (b2i r)), I', L, R)) 162 [(0, .ref (G.ad x0))] [] I44 L R := by
                cases q38
                exact V_sub [0] rfl k39
              refine V_icmp_eq C0 (tgt := 130) (by decide) dX12_next_121 (fun c47 => ?_) (fun c47 => ?_)
              · have q45 := (if_pos c47).symm.trans q45
                refine V_aload_n C0 1 rfl rfl dX12_next_130 ?_
                refine V_iconst C0 (v := (3 : Int32)) (by decide) dX12_next_131 ?_
                obtain ⟨I48, eI48, q45⟩ := wr_some q45
                refine V_putI C0 11 11 fp_X12_138 c_x0.2 c_x0.1 rfl dX12_next_132 ?_
                rw [← eI48]
                refine V_aload_n C0 1 rfl rfl dX12_next_135 ?_
                refine V_iload_n C0 0 rfl rfl dX12_next_136 ?_
                obtain ⟨I49, eI49, q45⟩ := wr_some q45
                refine V_putI C0 11 14 fp_X12_154 c_x0.2 c_x0.1 rfl dX12_next_137 ?_
                rw [← eI49]
                refine V_aload_n C0 1 rfl rfl dX12_next_140 ?_
                refine V_dup C0 rfl dX12_next_141 ?_
                refine V_getI C0 11 10 fl_X12_125 c_x0.2 c_x0.1 rfl dX12_next_142 ?_
                refine V_iconst C0 (v := (1 : Int32)) (by decide) dX12_next_145 ?_
                refine V_iadd C0 dX12_next_146 ?_
                obtain ⟨I50, eI50, q45⟩ := wr_some q45
                refine V_putI C0 11 10 fp_X12_125 c_x0.2 c_x0.1 rfl dX12_next_147 ?_
                rw [← eI50]
                refine V_goto C0 (tgt := 162) (by decide) dX12_next_150 ?_
                cases q45
                exact V_sub [1] rfl k46
              · have q45 := (if_neg c47).symm.trans q45
                refine V_iload_n C0 0 rfl rfl dX12_next_124 ?_
                refine V_bipush C0 (v := (62 : Int32)) (by decide) dX12_next_125 ?_
                obtain ⟨I51, q52, q45⟩ := bn1_some q45
                have k53 : V G (qf G (some (.int (b2i r)), I', L, R)) 162 [(0, .ref (G.ad x0))] [] I51 L R := by
                  cases q45
                  exact V_sub [0] rfl k46
                refine V_icmp_ne C0 (tgt := 153) (by decide) dX12_next_127 (fun c54 => ?_) (fun c54 => ?_)
                · have q52 := (if_neg c54).symm.trans q52
                  refine V_aload_n C0 1 rfl rfl dX12_next_153 ?_
                  refine V_iconst C0 (v := (1 : Int32)) (by decide) dX12_next_154 ?_
                  refine V_aload_n C0 1 rfl rfl dX12_next_155 ?_
                  refine V_getI C0 11 10 fl_X12_125 c_x0.2 c_x0.1 rfl dX12_next_156 ?_
                  obtain ⟨I55, q56, q52⟩ := bn1_some q52
                  refine V_callV C0 (st := []) (As := [.int (1 : Int32), .int (I12 x0 10)]) 11 (c_X12_wrong G.l G.D G.cA G.ad G.bs G.X C0.2.2.2.2.2.2.2.2.2.1 C0.2.2.2.2.2.2.2.2.2.2.2.2 x0 (1 : Int32) (I12 x0 10) I12 L R I55 q56) lc_X12_wrong lk_X12_157 c_x0.2 c_x0.1 ⟨_, rfl, rfl⟩ rfl (by rw [erm]; decide) (Nat.le_of_ble_eq_true rfl) dX12_next_159 ?_
                  show V G _ 162 [(1, .int v13), (0, .ref (G.ad x0))] [] I55 L R
                  cases q52
                  exact V_sub [1] rfl k53
                · have q52 := (if_pos c54).symm.trans q52
                  refine V_aload_n C0 1 rfl rfl dX12_next_130 ?_
                  refine V_iconst C0 (v := (3 : Int32)) (by decide) dX12_next_131 ?_
                  obtain ⟨I57, eI57, q52⟩ := wr_some q52
                  refine V_putI C0 11 11 fp_X12_138 c_x0.2 c_x0.1 rfl dX12_next_132 ?_
                  rw [← eI57]
                  refine V_aload_n C0 1 rfl rfl dX12_next_135 ?_
                  refine V_iload_n C0 0 rfl rfl dX12_next_136 ?_
                  obtain ⟨I58, eI58, q52⟩ := wr_some q52
                  refine V_putI C0 11 14 fp_X12_154 c_x0.2 c_x0.1 rfl dX12_next_137 ?_
                  rw [← eI58]
                  refine V_aload_n C0 1 rfl rfl dX12_next_140 ?_
                  refine V_dup C0 rfl dX12_next_141 ?_
                  refine V_getI C0 11 10 fl_X12_125 c_x0.2 c_x0.1 rfl dX12_next_142 ?_
                  refine V_iconst C0 (v := (1 : Int32)) (by decide) dX12_next_145 ?_
                  refine V_iadd C0 dX12_next_146 ?_
                  obtain ⟨I59, eI59, q52⟩ := wr_some q52
                  refine V_putI C0 11 10 fp_X12_125 c_x0.2 c_x0.1 rfl dX12_next_147 ?_
                  rw [← eI59]
                  refine V_goto C0 (tgt := 162) (by decide) dX12_next_150 ?_
                  cases q52
                  exact V_sub [1] rfl k53
          · have q34 := (if_pos c36).symm.trans q34
            refine V_aload_n C0 1 rfl rfl dX12_next_105 ?_
            obtain ⟨I60, q61, q34⟩ := bn1_some q34
            refine V_callV C0 (st := []) (As := []) 11 (c_X12_takeNumber G.l G.D G.cA G.ad G.bs G.X C0.2.2.2.2.2.2.2.2.2.1 C0.2.2.2.2.2.2.2.2.2.2.2.2 N x0 I12 L R I60 q61) lc_X12_takeNumber lk_X12_151 c_x0.2 c_x0.1 ⟨_, rfl, rfl⟩ rfl (by rw [erm]; decide) (Nat.le_of_ble_eq_true rfl) dX12_next_106 ?_
            show V G _ 109 [(1, .int v13), (0, .ref (G.ad x0))] [] I60 L R
            refine V_goto C0 (tgt := 162) (by decide) dX12_next_109 ?_
            cases q34
            exact V_sub [1] rfl k35
      · have q22 := (if_neg c24).symm.trans q22
        refine V_aload_n C0 1 rfl rfl dX12_next_85 ?_
        obtain ⟨I62, q63, q22⟩ := bn1_some q22
        refine V_callV C0 (st := []) (As := []) 11 (c_X12_takeWord G.l G.D G.cA G.ad G.bs G.X C0.2.2.2.2.2.2.2.2.2.1 C0.2.2.2.2.2.2.2.2.2.2.2.2 N x0 I12 L R I62 q63) lc_X12_takeWord lk_X12_145 c_x0.2 c_x0.1 ⟨_, rfl, rfl⟩ rfl (by rw [erm]; decide) (Nat.le_of_ble_eq_true rfl) dX12_next_86 ?_
        show V G _ 89 [(1, .int v13), (0, .ref (G.ad x0))] [] I62 L R
        refine V_goto C0 (tgt := 162) (by decide) dX12_next_89 ?_
        cases q22
        exact V_sub [1] rfl k23
    · have q16 := (if_pos c18).symm.trans q16
      refine V_aload_n C0 1 rfl rfl dX12_next_70 ?_
      refine V_iconst C0 (v := (0 : Int32)) (by decide) dX12_next_71 ?_
      obtain ⟨I64, eI64, q16⟩ := wr_some q16
      refine V_putI C0 11 11 fp_X12_138 c_x0.2 c_x0.1 rfl dX12_next_72 ?_
      rw [← eI64]
      refine V_goto C0 (tgt := 162) (by decide) dX12_next_75 ?_
      cases q16
      exact V_sub [1] rfl k17
  · have h := (if_neg c1).symm.trans h
    refine V_iconst C0 (v := (0 : Int32)) (by decide) dX12_next_7 ?_
    cases h
    exact V_zret C0 (by decide) dX12_next_8
theorem dX12_wordOf_0 : decode cX12_wordOf 0 = .ok (.iconst 0, 1) := by decide +kernel
theorem dX12_wordOf_1 : decode cX12_wordOf 1 = .ok (.istore 4, 2) := by decide +kernel
theorem dX12_wordOf_3 : decode cX12_wordOf 3 = .ok (.iconst 0, 1) := by decide +kernel
theorem dX12_wordOf_4 : decode cX12_wordOf 4 = .ok (.istore 5, 2) := by decide +kernel
theorem dX12_wordOf_6 : decode cX12_wordOf 6 = .ok (.iload 5, 2) := by decide +kernel
theorem dX12_wordOf_8 : decode cX12_wordOf 8 = .ok (.iload_n 3, 1) := by decide +kernel
theorem dX12_wordOf_9 : decode cX12_wordOf 9 = .ok (.if_icmp .ge 117, 3) := by decide +kernel
theorem dX12_wordOf_12 : decode cX12_wordOf 12 = .ok (.iconst 0, 1) := by decide +kernel
theorem dX12_wordOf_13 : decode cX12_wordOf 13 = .ok (.istore 6, 2) := by decide +kernel
theorem dX12_wordOf_15 : decode cX12_wordOf 15 = .ok (.aload_n 1, 1) := by decide +kernel
theorem dX12_wordOf_16 : decode cX12_wordOf 16 = .ok (.iload 4, 2) := by decide +kernel
theorem dX12_wordOf_18 : decode cX12_wordOf 18 = .ok (.iload 6, 2) := by decide +kernel
theorem dX12_wordOf_20 : decode cX12_wordOf 20 = .ok (.iadd, 1) := by decide +kernel
theorem dX12_wordOf_21 : decode cX12_wordOf 21 = .ok (.iaload, 1) := by decide +kernel
theorem dX12_wordOf_22 : decode cX12_wordOf 22 = .ok (.ifCond .eq 9, 3) := by decide +kernel
theorem dX12_wordOf_25 : decode cX12_wordOf 25 = .ok (.iinc 6 1, 3) := by decide +kernel
theorem dX12_wordOf_28 : decode cX12_wordOf 28 = .ok (.goto (-13), 3) := by decide +kernel
theorem dX12_wordOf_31 : decode cX12_wordOf 31 = .ok (.iload 6, 2) := by decide +kernel
theorem dX12_wordOf_33 : decode cX12_wordOf 33 = .ok (.aload_n 0, 1) := by decide +kernel
theorem dX12_wordOf_34 : decode cX12_wordOf 34 = .ok (.getfield 161, 3) := by decide +kernel
theorem dX12_wordOf_37 : decode cX12_wordOf 37 = .ok (.if_icmp .ne 7, 3) := by decide +kernel
theorem dX12_wordOf_40 : decode cX12_wordOf 40 = .ok (.iconst 1, 1) := by decide +kernel
theorem dX12_wordOf_41 : decode cX12_wordOf 41 = .ok (.goto 4, 3) := by decide +kernel
theorem dX12_wordOf_44 : decode cX12_wordOf 44 = .ok (.iconst 0, 1) := by decide +kernel
theorem dX12_wordOf_45 : decode cX12_wordOf 45 = .ok (.istore 7, 2) := by decide +kernel
theorem dX12_wordOf_47 : decode cX12_wordOf 47 = .ok (.iconst 0, 1) := by decide +kernel
theorem dX12_wordOf_48 : decode cX12_wordOf 48 = .ok (.istore 8, 2) := by decide +kernel
theorem dX12_wordOf_50 : decode cX12_wordOf 50 = .ok (.iload 8, 2) := by decide +kernel
theorem dX12_wordOf_52 : decode cX12_wordOf 52 = .ok (.iload 6, 2) := by decide +kernel
theorem dX12_wordOf_54 : decode cX12_wordOf 54 = .ok (.if_icmp .ge 43, 3) := by decide +kernel
theorem dX12_wordOf_57 : decode cX12_wordOf 57 = .ok (.iload 7, 2) := by decide +kernel
theorem dX12_wordOf_59 : decode cX12_wordOf 59 = .ok (.ifCond .eq 38, 3) := by decide +kernel
theorem dX12_wordOf_62 : decode cX12_wordOf 62 = .ok (.aload_n 0, 1) := by decide +kernel
theorem dX12_wordOf_63 : decode cX12_wordOf 63 = .ok (.getfield 28, 3) := by decide +kernel
theorem dX12_wordOf_66 : decode cX12_wordOf 66 = .ok (.aload_n 0, 1) := by decide +kernel
theorem dX12_wordOf_67 : decode cX12_wordOf 67 = .ok (.getfield 135, 3) := by decide +kernel
theorem dX12_wordOf_70 : decode cX12_wordOf 70 = .ok (.iload 8, 2) := by decide +kernel
theorem dX12_wordOf_72 : decode cX12_wordOf 72 = .ok (.iadd, 1) := by decide +kernel
theorem dX12_wordOf_73 : decode cX12_wordOf 73 = .ok (.iaload, 1) := by decide +kernel
theorem dX12_wordOf_74 : decode cX12_wordOf 74 = .ok (.aload_n 1, 1) := by decide +kernel
theorem dX12_wordOf_75 : decode cX12_wordOf 75 = .ok (.iload 4, 2) := by decide +kernel
theorem dX12_wordOf_77 : decode cX12_wordOf 77 = .ok (.iload 8, 2) := by decide +kernel
theorem dX12_wordOf_79 : decode cX12_wordOf 79 = .ok (.iadd, 1) := by decide +kernel
theorem dX12_wordOf_80 : decode cX12_wordOf 80 = .ok (.iaload, 1) := by decide +kernel
theorem dX12_wordOf_81 : decode cX12_wordOf 81 = .ok (.if_icmp .ne 7, 3) := by decide +kernel
theorem dX12_wordOf_84 : decode cX12_wordOf 84 = .ok (.iconst 1, 1) := by decide +kernel
theorem dX12_wordOf_85 : decode cX12_wordOf 85 = .ok (.goto 4, 3) := by decide +kernel
theorem dX12_wordOf_88 : decode cX12_wordOf 88 = .ok (.iconst 0, 1) := by decide +kernel
theorem dX12_wordOf_89 : decode cX12_wordOf 89 = .ok (.istore 7, 2) := by decide +kernel
theorem dX12_wordOf_91 : decode cX12_wordOf 91 = .ok (.iinc 8 1, 3) := by decide +kernel
theorem dX12_wordOf_94 : decode cX12_wordOf 94 = .ok (.goto (-44), 3) := by decide +kernel
theorem dX12_wordOf_97 : decode cX12_wordOf 97 = .ok (.iload 7, 2) := by decide +kernel
theorem dX12_wordOf_99 : decode cX12_wordOf 99 = .ok (.ifCond .eq 12, 3) := by decide +kernel
theorem dX12_wordOf_102 : decode cX12_wordOf 102 = .ok (.iload 5, 2) := by decide +kernel
theorem dX12_wordOf_104 : decode cX12_wordOf 104 = .ok (.iload_n 2, 1) := by decide +kernel
theorem dX12_wordOf_105 : decode cX12_wordOf 105 = .ok (.if_icmp .lt 6, 3) := by decide +kernel
theorem dX12_wordOf_108 : decode cX12_wordOf 108 = .ok (.iload 5, 2) := by decide +kernel
theorem dX12_wordOf_110 : decode cX12_wordOf 110 = .ok (.ireturn, 1) := by decide +kernel
theorem dX12_wordOf_111 : decode cX12_wordOf 111 = .ok (.iload 4, 2) := by decide +kernel
theorem dX12_wordOf_113 : decode cX12_wordOf 113 = .ok (.iload 6, 2) := by decide +kernel
theorem dX12_wordOf_115 : decode cX12_wordOf 115 = .ok (.iconst 1, 1) := by decide +kernel
theorem dX12_wordOf_116 : decode cX12_wordOf 116 = .ok (.iadd, 1) := by decide +kernel
theorem dX12_wordOf_117 : decode cX12_wordOf 117 = .ok (.iadd, 1) := by decide +kernel
theorem dX12_wordOf_118 : decode cX12_wordOf 118 = .ok (.istore 4, 2) := by decide +kernel
theorem dX12_wordOf_120 : decode cX12_wordOf 120 = .ok (.iinc 5 1, 3) := by decide +kernel
theorem dX12_wordOf_123 : decode cX12_wordOf 123 = .ok (.goto (-117), 3) := by decide +kernel
theorem dX12_wordOf_126 : decode cX12_wordOf 126 = .ok (.iconst (-1), 1) := by decide +kernel
theorem dX12_wordOf_127 : decode cX12_wordOf 127 = .ok (.ireturn, 1) := by decide +kernel
def LF_X12_wordOf_15 (N : Nat) : Nat → Nat → Nat → Int32 → Int32 → Int32 → Int32 → Int32 → MI → ML → MR → Option (Int32)
  | 0, _, _, _, _, _, _, _, _, _, _ => none
  | k + 1, y0, y1, y2, y3, y4, y5, y6, I, L, R =>
    (ri I y1 (y4 + y6)).bind fun v2 =>
    if v2 = 0 then
      some (y6)
    else
      wr (y6 + (1 : Int32)) fun (u4 : Int32) =>
      LF_X12_wordOf_15 N k y0 y1 y2 y3 y4 y5 u4 I L R
def LF_X12_wordOf_50 (N : Nat) : Nat → Nat → Nat → Int32 → Int32 → Int32 → Int32 → Int32 → Int32 → Int32 → MI → ML → MR → Option (Int32)
  | 0, _, _, _, _, _, _, _, _, _, _, _, _ => none
  | k + 1, y0, y1, y2, y3, y4, y5, y6, y7, y8, I, L, R =>
    if y6 ≤ y8 then
      some (y7)
    else
      if y7 = 0 then
        some (y7)
      else
        (rf R y0 8 20).bind fun a13 =>
        (ri I a13 ((I y0 12) + y8)).bind fun v14 =>
        (ri I y1 (y4 + y8)).bind fun v15 =>
        bn1 (
          if v14 = v15 then
            some ((1 : Int32))
          else
            some ((0 : Int32))
        ) fun (s16 : Int32) =>
        wr (y8 + (1 : Int32)) fun (u20 : Int32) =>
        LF_X12_wordOf_50 N k y0 y1 y2 y3 y4 y5 y6 s16 u20 I L R
def LF_X12_wordOf_6 (N : Nat) : Nat → Nat → Nat → Int32 → Int32 → Int32 → Int32 → MI → ML → MR → Option (Sum (Int32) (Unit))
  | 0, _, _, _, _, _, _, _, _, _ => none
  | k + 1, y0, y1, y2, y3, y4, y5, I, L, R =>
    if y3 ≤ y5 then
      some (.inr ())
    else
      bn1 (LF_X12_wordOf_15 N N y0 y1 y2 y3 y4 y5 (0 : Int32) I L R) fun z5 =>
      bn1 (
        if z5 = (I y0 13) then
          some ((1 : Int32))
        else
          some ((0 : Int32))
      ) fun (s7 : Int32) =>
      bn1 (LF_X12_wordOf_50 N N y0 y1 y2 y3 y4 y5 z5 s7 (0 : Int32) I L R) fun z21 =>
      if z21 = 0 then
        wr (y4 + (z5 + (1 : Int32))) fun (u24 : Int32) =>
        wr (y5 + (1 : Int32)) fun (u25 : Int32) =>
        LF_X12_wordOf_6 N k y0 y1 y2 y3 u24 u25 I L R
      else
        if y5 < y2 then
          wr (y4 + (z5 + (1 : Int32))) fun (u27 : Int32) =>
          wr (y5 + (1 : Int32)) fun (u28 : Int32) =>
          LF_X12_wordOf_6 N k y0 y1 y2 y3 u27 u28 I L R
        else
          some (.inl (y5))
def F_X12_wordOf (N : Nat) (x0 : Nat) (x1 : Nat) (x2 : Int32) (x3 : Int32) (I : MI) (L : ML) (R : MR) : Option (Int32) :=
  if kd x0 = 11 ∧ x0 < NN then
  if kd x1 = 20 ∧ x1 < NN then
  bsm (LF_X12_wordOf_6 N N x0 x1 x2 x3 (0 : Int32) (0 : Int32) I L R) (fun z29 => some z29) fun z29 =>
  some ((-1 : Int32))
  else none
  else none
set_option maxRecDepth 100000 in
set_option maxHeartbeats 4000000 in
theorem lp_X12_wordOf_15 {G : Gm} (C0 : Cx G (yX12_wordOf.cls) cX12_wordOf (some .int)) (eNL : G.nL = 9) (erm : G.rm = ({ frames := 0, cells := 0, slots := 0, locals := 0 } : Room)) (N : Nat) : ∀ (k : Nat) (y0 : Nat) (y1 : Nat) (y2 : Int32) (y3 : Int32) (y4 : Int32) (y5 : Int32) (y6 : Int32) (I : MI) (L : ML) (R : MR) (z : Int32) (hk0 : kd y0 = 11) (ho0 : y0 < NN) (hk1 : kd y1 = 20) (ho1 : y1 < NN), LF_X12_wordOf_15 N k y0 y1 y2 y3 y4 y5 y6 I L R = some z → ∀ f : State → Prop, V G f 31 [(0, .ref (G.ad y0)), (1, .ref (G.ad y1)), (2, .int y2), (3, .int y3), (4, .int y4), (5, .int y5), (6, .int z)] [] I L R → V G f 15 [(0, .ref (G.ad y0)), (1, .ref (G.ad y1)), (2, .int y2), (3, .int y3), (4, .int y4), (5, .int y5), (6, .int y6)] [] I L R := by
  intro k
  induction k with
  | zero =>
    intro y0 y1 y2 y3 y4 y5 y6 I L R q hk0 ho0 hk1 ho1 h
    exact absurd h (by simp [LF_X12_wordOf_15])
  | succ k ih =>
    intro y0 y1 y2 y3 y4 y5 y6 I L R q hk0 ho0 hk1 ho1 h f kx
    rw [LF_X12_wordOf_15] at h
    refine V_aload_n C0 1 rfl rfl dX12_wordOf_15 ?_
    refine V_iload C0 4 rfl dX12_wordOf_16 ?_
    refine V_iload C0 6 rfl dX12_wordOf_18 ?_
    refine V_iadd C0 dX12_wordOf_20 ?_
    obtain ⟨v2, qv2, h⟩ := bnd_some h
    refine V_ri C0 ho1 hk1 qv2 dX12_wordOf_21 ?_
    refine V_if_eq C0 (tgt := 31) (by decide) dX12_wordOf_22 (fun c3 => ?_) (fun c3 => ?_)
    · have h := (if_pos c3).symm.trans h
      cases h
      exact V_sub [0, 1, 2, 3, 4, 5, 6] rfl kx
    · have h := (if_neg c3).symm.trans h
      obtain ⟨u4, eu4, h⟩ := wr_some h
      refine V_iinc C0 6 [(6, .int u4), (0, .ref (G.ad y0)), (1, .ref (G.ad y1)), (2, .int y2), (3, .int y3), (4, .int y4), (5, .int y5)] rfl (n := 1) (by rw [eu4]; rfl) (by rw [eNL]; decide) rfl dX12_wordOf_25 ?_
      refine V_goto C0 (tgt := 15) (by decide) dX12_wordOf_28 ?_
      exact V_sub [1, 2, 3, 4, 5, 6, 0] rfl (ih y0 y1 y2 y3 y4 y5 u4 I L R _ hk0 ho0 hk1 ho1 h f kx)
set_option maxRecDepth 100000 in
set_option maxHeartbeats 4000000 in
theorem lp_X12_wordOf_50 {G : Gm} (C0 : Cx G (yX12_wordOf.cls) cX12_wordOf (some .int)) (eNL : G.nL = 9) (erm : G.rm = ({ frames := 0, cells := 0, slots := 0, locals := 0 } : Room)) (N : Nat) : ∀ (k : Nat) (y0 : Nat) (y1 : Nat) (y2 : Int32) (y3 : Int32) (y4 : Int32) (y5 : Int32) (y6 : Int32) (y7 : Int32) (y8 : Int32) (I : MI) (L : ML) (R : MR) (z : Int32) (hk0 : kd y0 = 11) (ho0 : y0 < NN) (hk1 : kd y1 = 20) (ho1 : y1 < NN), LF_X12_wordOf_50 N k y0 y1 y2 y3 y4 y5 y6 y7 y8 I L R = some z → ∀ f : State → Prop, V G f 97 [(0, .ref (G.ad y0)), (1, .ref (G.ad y1)), (2, .int y2), (3, .int y3), (4, .int y4), (5, .int y5), (6, .int y6), (7, .int z)] [] I L R → V G f 50 [(0, .ref (G.ad y0)), (1, .ref (G.ad y1)), (2, .int y2), (3, .int y3), (4, .int y4), (5, .int y5), (6, .int y6), (7, .int y7), (8, .int y8)] [] I L R := by
  intro k
  induction k with
  | zero =>
    intro y0 y1 y2 y3 y4 y5 y6 y7 y8 I L R q hk0 ho0 hk1 ho1 h
    exact absurd h (by simp [LF_X12_wordOf_50])
  | succ k ih =>
    intro y0 y1 y2 y3 y4 y5 y6 y7 y8 I L R q hk0 ho0 hk1 ho1 h f kx
    rw [LF_X12_wordOf_50] at h
    refine V_iload C0 8 rfl dX12_wordOf_50 ?_
    refine V_iload C0 6 rfl dX12_wordOf_52 ?_
    refine V_icmp_ge C0 (tgt := 97) (by decide) dX12_wordOf_54 (fun c11 => ?_) (fun c11 => ?_)
    · have h := (if_pos c11).symm.trans h
      cases h
      exact V_sub [0, 1, 2, 3, 4, 5, 6, 7] rfl kx
    · have h := (if_neg c11).symm.trans h
      refine V_iload C0 7 rfl dX12_wordOf_57 ?_
      refine V_if_eq C0 (tgt := 97) (by decide) dX12_wordOf_59 (fun c12 => ?_) (fun c12 => ?_)
      · have h := (if_pos c12).symm.trans h
        cases h
        exact V_sub [0, 1, 2, 3, 4, 5, 6, 7] rfl kx
      · have h := (if_neg c12).symm.trans h
        refine V_aload_n C0 0 rfl rfl dX12_wordOf_62 ?_
        obtain ⟨a13, qa13, h⟩ := bnd_some h
        refine V_getR C0 11 8 fl_X12_28 ho0 hk0 rfl (rf_at qa13) dX12_wordOf_63 ?_
        refine V_aload_n C0 0 rfl rfl dX12_wordOf_66 ?_
        refine V_getI C0 11 12 fl_X12_135 ho0 hk0 rfl dX12_wordOf_67 ?_
        refine V_iload C0 8 rfl dX12_wordOf_70 ?_
        refine V_iadd C0 dX12_wordOf_72 ?_
        obtain ⟨v14, qv14, h⟩ := bnd_some h
        refine V_ri C0 (rf_lt qa13) (rf_kd qa13) qv14 dX12_wordOf_73 ?_
        refine V_aload_n C0 1 rfl rfl dX12_wordOf_74 ?_
        refine V_iload C0 4 rfl dX12_wordOf_75 ?_
        refine V_iload C0 8 rfl dX12_wordOf_77 ?_
        refine V_iadd C0 dX12_wordOf_79 ?_
        obtain ⟨v15, qv15, h⟩ := bnd_some h
        refine V_ri C0 ho1 hk1 qv15 dX12_wordOf_80 ?_
        obtain ⟨s16, q17, h⟩ := bn1_some h
        have k18 : V G f 89 [(0, .ref (G.ad y0)), (1, .ref (G.ad y1)), (2, .int y2), (3, .int y3), (4, .int y4), (5, .int y5), (6, .int y6), (8, .int y8)] [.int s16] I L R := by
          refine V_istore C0 [(7, .int s16), (0, .ref (G.ad y0)), (1, .ref (G.ad y1)), (2, .int y2), (3, .int y3), (4, .int y4), (5, .int y5), (6, .int y6), (8, .int y8)] (by rw [eNL]; decide) rfl dX12_wordOf_89 ?_
          obtain ⟨u20, eu20, h⟩ := wr_some h
          refine V_iinc C0 8 [(8, .int u20), (7, .int s16), (0, .ref (G.ad y0)), (1, .ref (G.ad y1)), (2, .int y2), (3, .int y3), (4, .int y4), (5, .int y5), (6, .int y6)] rfl (n := 1) (by rw [eu20]; rfl) (by rw [eNL]; decide) rfl dX12_wordOf_91 ?_
          refine V_goto C0 (tgt := 50) (by decide) dX12_wordOf_94 ?_
          exact V_sub [2, 3, 4, 5, 6, 7, 8, 1, 0] rfl (ih y0 y1 y2 y3 y4 y5 y6 s16 u20 I L R _ hk0 ho0 hk1 ho1 h f kx)
        refine V_icmp_ne C0 (tgt := 88) (by decide) dX12_wordOf_81 (fun c19 => ?_) (fun c19 => ?_)
        · have q17 := (if_neg c19).symm.trans q17
          refine V_iconst C0 (v := (0 : Int32)) (by decide) dX12_wordOf_88 ?_
          cases q17
          exact V_sub [0, 1, 2, 3, 4, 5, 6, 8] rfl k18
        · have q17 := (if_pos c19).symm.trans q17
          refine V_iconst C0 (v := (1 : Int32)) (by decide) dX12_wordOf_84 ?_
          refine V_goto C0 (tgt := 89) (by decide) dX12_wordOf_85 ?_
          cases q17
          exact V_sub [0, 1, 2, 3, 4, 5, 6, 8] rfl k18
set_option maxRecDepth 100000 in
set_option maxHeartbeats 4000000 in
theorem lp_X12_wordOf_6 {G : Gm} (C0 : Cx G (yX12_wordOf.cls) cX12_wordOf (some .int)) (eNL : G.nL = 9) (erm : G.rm = ({ frames := 0, cells := 0, slots := 0, locals := 0 } : Room)) (N : Nat) : ∀ (k : Nat) (y0 : Nat) (y1 : Nat) (y2 : Int32) (y3 : Int32) (y4 : Int32) (y5 : Int32) (I : MI) (L : ML) (R : MR) (q : Sum (Int32) (Unit)) (hk0 : kd y0 = 11) (ho0 : y0 < NN) (hk1 : kd y1 = 20) (ho1 : y1 < NN), LF_X12_wordOf_6 N k y0 y1 y2 y3 y4 y5 I L R = some q → ∀ f : State → Prop, (∀ w, q = .inl w → f = qf G (some (.int w), I, L, R)) → (∀ z, q = .inr z → V G f 126 [] [] I L R) → V G f 6 [(0, .ref (G.ad y0)), (1, .ref (G.ad y1)), (2, .int y2), (3, .int y3), (4, .int y4), (5, .int y5)] [] I L R := by
  intro k
  induction k with
  | zero =>
    intro y0 y1 y2 y3 y4 y5 I L R q hk0 ho0 hk1 ho1 h
    exact absurd h (by simp [LF_X12_wordOf_6])
  | succ k ih =>
    intro y0 y1 y2 y3 y4 y5 I L R q hk0 ho0 hk1 ho1 h f kr kx
    rw [LF_X12_wordOf_6] at h
    refine V_iload C0 5 rfl dX12_wordOf_6 ?_
    refine V_iload_n C0 3 rfl rfl dX12_wordOf_8 ?_
    refine V_icmp_ge C0 (tgt := 126) (by decide) dX12_wordOf_9 (fun c1 => ?_) (fun c1 => ?_)
    · have h := (if_pos c1).symm.trans h
      cases h
      exact V_sub [] rfl (kx _ rfl)
    · have h := (if_neg c1).symm.trans h
      refine V_iconst C0 (v := (0 : Int32)) (by decide) dX12_wordOf_12 ?_
      refine V_istore C0 [(6, .int (0 : Int32)), (0, .ref (G.ad y0)), (1, .ref (G.ad y1)), (2, .int y2), (3, .int y3), (4, .int y4), (5, .int y5)] (by rw [eNL]; decide) rfl dX12_wordOf_13 ?_
      obtain ⟨z5, q6, h⟩ := bn1_some h
      refine V_sub [1, 2, 3, 4, 5, 6, 0] rfl (lp_X12_wordOf_15 C0 eNL erm N N y0 y1 y2 y3 y4 y5 (0 : Int32) I L R _ hk0 ho0 hk1 ho1 q6 _ ?_)
      show V G _ 31 [(0, .ref (G.ad y0)), (1, .ref (G.ad y1)), (2, .int y2), (3, .int y3), (4, .int y4), (5, .int y5), (6, .int z5)] [] I L R
      refine V_iload C0 6 rfl dX12_wordOf_31 ?_
      refine V_aload_n C0 0 rfl rfl dX12_wordOf_33 ?_
      refine V_getI C0 11 13 fl_X12_161 ho0 hk0 rfl dX12_wordOf_34 ?_
      obtain ⟨s7, q8, h⟩ := bn1_some h
      have k9 : V G f 45 [(0, .ref (G.ad y0)), (1, .ref (G.ad y1)), (2, .int y2), (3, .int y3), (4, .int y4), (5, .int y5), (6, .int z5)] [.int s7] I L R := by
        refine V_istore C0 [(7, .int s7), (0, .ref (G.ad y0)), (1, .ref (G.ad y1)), (2, .int y2), (3, .int y3), (4, .int y4), (5, .int y5), (6, .int z5)] (by rw [eNL]; decide) rfl dX12_wordOf_45 ?_
        refine V_iconst C0 (v := (0 : Int32)) (by decide) dX12_wordOf_47 ?_
        refine V_istore C0 [(8, .int (0 : Int32)), (7, .int s7), (0, .ref (G.ad y0)), (1, .ref (G.ad y1)), (2, .int y2), (3, .int y3), (4, .int y4), (5, .int y5), (6, .int z5)] (by rw [eNL]; decide) rfl dX12_wordOf_48 ?_
        obtain ⟨z21, q22, h⟩ := bn1_some h
        refine V_sub [2, 3, 4, 5, 6, 7, 8, 1, 0] rfl (lp_X12_wordOf_50 C0 eNL erm N N y0 y1 y2 y3 y4 y5 z5 s7 (0 : Int32) I L R _ hk0 ho0 hk1 ho1 q22 _ ?_)
        show V G _ 97 [(0, .ref (G.ad y0)), (1, .ref (G.ad y1)), (2, .int y2), (3, .int y3), (4, .int y4), (5, .int y5), (6, .int z5), (7, .int z21)] [] I L R
        refine V_iload C0 7 rfl dX12_wordOf_97 ?_
        refine V_if_eq C0 (tgt := 111) (by decide) dX12_wordOf_99 (fun c23 => ?_) (fun c23 => ?_)
        · have h := (if_pos c23).symm.trans h
          refine V_iload C0 4 rfl dX12_wordOf_111 ?_
          refine V_iload C0 6 rfl dX12_wordOf_113 ?_
          refine V_iconst C0 (v := (1 : Int32)) (by decide) dX12_wordOf_115 ?_
          refine V_iadd C0 dX12_wordOf_116 ?_
          refine V_iadd C0 dX12_wordOf_117 ?_
          obtain ⟨u24, eu24, h⟩ := wr_some h
          rw [← eu24]
          refine V_istore C0 [(4, .int u24), (0, .ref (G.ad y0)), (1, .ref (G.ad y1)), (2, .int y2), (3, .int y3), (5, .int y5), (6, .int z5), (7, .int z21)] (by rw [eNL]; decide) rfl dX12_wordOf_118 ?_
          obtain ⟨u25, eu25, h⟩ := wr_some h
          refine V_iinc C0 5 [(5, .int u25), (4, .int u24), (0, .ref (G.ad y0)), (1, .ref (G.ad y1)), (2, .int y2), (3, .int y3), (6, .int z5), (7, .int z21)] rfl (n := 1) (by rw [eu25]; rfl) (by rw [eNL]; decide) rfl dX12_wordOf_120 ?_
          refine V_goto C0 (tgt := 6) (by decide) dX12_wordOf_123 ?_
          exact V_sub [2, 3, 4, 5, 1, 0] rfl (ih y0 y1 y2 y3 u24 u25 I L R _ hk0 ho0 hk1 ho1 h f kr kx)
        · have h := (if_neg c23).symm.trans h
          refine V_iload C0 5 rfl dX12_wordOf_102 ?_
          refine V_iload_n C0 2 rfl rfl dX12_wordOf_104 ?_
          refine V_icmp_lt C0 (tgt := 111) (by decide) dX12_wordOf_105 (fun c26 => ?_) (fun c26 => ?_)
          · have h := (if_pos c26).symm.trans h
            refine V_iload C0 4 rfl dX12_wordOf_111 ?_
            refine V_iload C0 6 rfl dX12_wordOf_113 ?_
            refine V_iconst C0 (v := (1 : Int32)) (by decide) dX12_wordOf_115 ?_
            refine V_iadd C0 dX12_wordOf_116 ?_
            refine V_iadd C0 dX12_wordOf_117 ?_
            obtain ⟨u27, eu27, h⟩ := wr_some h
            rw [← eu27]
            refine V_istore C0 [(4, .int u27), (0, .ref (G.ad y0)), (1, .ref (G.ad y1)), (2, .int y2), (3, .int y3), (5, .int y5), (6, .int z5), (7, .int z21)] (by rw [eNL]; decide) rfl dX12_wordOf_118 ?_
            obtain ⟨u28, eu28, h⟩ := wr_some h
            refine V_iinc C0 5 [(5, .int u28), (4, .int u27), (0, .ref (G.ad y0)), (1, .ref (G.ad y1)), (2, .int y2), (3, .int y3), (6, .int z5), (7, .int z21)] rfl (n := 1) (by rw [eu28]; rfl) (by rw [eNL]; decide) rfl dX12_wordOf_120 ?_
            refine V_goto C0 (tgt := 6) (by decide) dX12_wordOf_123 ?_
            exact V_sub [2, 3, 4, 5, 1, 0] rfl (ih y0 y1 y2 y3 u27 u28 I L R _ hk0 ho0 hk1 ho1 h f kr kx)
          · have h := (if_neg c26).symm.trans h
            refine V_iload C0 5 rfl dX12_wordOf_108 ?_
            cases h
            rw [kr _ rfl]
            exact V_iret C0 dX12_wordOf_110
      refine V_icmp_ne C0 (tgt := 44) (by decide) dX12_wordOf_37 (fun c10 => ?_) (fun c10 => ?_)
      · have q8 := (if_neg c10).symm.trans q8
        refine V_iconst C0 (v := (0 : Int32)) (by decide) dX12_wordOf_44 ?_
        cases q8
        exact V_sub [0, 1, 2, 3, 4, 5, 6] rfl k9
      · have q8 := (if_pos c10).symm.trans q8
        refine V_iconst C0 (v := (1 : Int32)) (by decide) dX12_wordOf_40 ?_
        refine V_goto C0 (tgt := 45) (by decide) dX12_wordOf_41 ?_
        cases q8
        exact V_sub [0, 1, 2, 3, 4, 5, 6] rfl k9
set_option maxRecDepth 100000 in
set_option maxHeartbeats 4000000 in
theorem c_X12_wordOf (l : Launch) (D : va_G) (cA : Nat → ClassId) (ad : Nat → Nat) (bs : Nat) (X : State → Prop) (hAd : Ax ad bs) (hX : Stb bs X) (N : Nat) (x0 : Nat) (x1 : Nat) (x2 : Int32) (x3 : Int32) (I : MI) (L : ML) (R : MR) (r : Int32) (h : F_X12_wordOf N x0 x1 x2 x3 I L R = some (r)) : Cn l D cA ad bs X yX12_wordOf cX12_wordOf 9 (some .int) 0 0 [.ref (ad x0), .ref (ad x1), .int x2, .int x3] I L R (some (.int r), I, L, R) := by
  refine Cn.ofV hAd hX [(0, .ref (ad x0)), (1, .ref (ad x1)), (2, .int x2), (3, .int x3)] rfl (Nat.le_of_ble_eq_true rfl) (by decide) ?_
  intro G el eD ecA ead ebs eX erm eNL C0
  subst el eD ecA ead ebs eX
  unfold F_X12_wordOf at h
  obtain ⟨c_x0, h⟩ := ite_some h
  obtain ⟨c_x1, h⟩ := ite_some h
  refine V_iconst C0 (v := (0 : Int32)) (by decide) dX12_wordOf_0 ?_
  refine V_istore C0 [(4, .int (0 : Int32)), (0, .ref (G.ad x0)), (1, .ref (G.ad x1)), (2, .int x2), (3, .int x3)] (by rw [eNL]; decide) rfl dX12_wordOf_1 ?_
  refine V_iconst C0 (v := (0 : Int32)) (by decide) dX12_wordOf_3 ?_
  refine V_istore C0 [(5, .int (0 : Int32)), (4, .int (0 : Int32)), (0, .ref (G.ad x0)), (1, .ref (G.ad x1)), (2, .int x2), (3, .int x3)] (by rw [eNL]; decide) rfl dX12_wordOf_4 ?_
  rcases bsm_some h with ⟨z29, q30, h⟩ | ⟨z29, q30, h⟩
  · refine V_sub [2, 3, 4, 5, 1, 0] rfl (lp_X12_wordOf_6 C0 eNL erm N N x0 x1 x2 x3 (0 : Int32) (0 : Int32) I L R _ c_x0.1 c_x0.2 c_x1.1 c_x1.2 q30 _ (fun w e => ?_) (fun _ e => by cases e))
    cases e
    cases h
    rfl
  · refine V_sub [2, 3, 4, 5, 1, 0] rfl (lp_X12_wordOf_6 C0 eNL erm N N x0 x1 x2 x3 (0 : Int32) (0 : Int32) I L R _ c_x0.1 c_x0.2 c_x1.1 c_x1.2 q30 _ (fun _ e => by cases e) (fun w e => ?_))
    cases e
    show V G _ 126 [] [] I L R
    refine V_iconst C0 (v := (-1 : Int32)) (by decide) dX12_wordOf_126 ?_
    cases h
    exact V_iret C0 dX12_wordOf_127
theorem dX12_number_0 : decode cX12_number 0 = .ok (.aload_n 0, 1) := by decide +kernel
theorem dX12_number_1 : decode cX12_number 1 = .ok (.invokevirtual 164, 3) := by decide +kernel
theorem dX12_number_4 : decode cX12_number 4 = .ok (.ifCond .ne 5, 3) := by decide +kernel
theorem dX12_number_7 : decode cX12_number 7 = .ok (.iconst 0, 1) := by decide +kernel
theorem dX12_number_8 : decode cX12_number 8 = .ok (.ireturn, 1) := by decide +kernel
theorem dX12_number_9 : decode cX12_number 9 = .ok (.aload_n 0, 1) := by decide +kernel
theorem dX12_number_10 : decode cX12_number 10 = .ok (.getfield 138, 3) := by decide +kernel
theorem dX12_number_13 : decode cX12_number 13 = .ok (.iconst 2, 1) := by decide +kernel
theorem dX12_number_14 : decode cX12_number 14 = .ok (.if_icmp .eq 15, 3) := by decide +kernel
theorem dX12_number_17 : decode cX12_number 17 = .ok (.aload_n 0, 1) := by decide +kernel
theorem dX12_number_18 : decode cX12_number 18 = .ok (.iconst 2, 1) := by decide +kernel
theorem dX12_number_19 : decode cX12_number 19 = .ok (.aload_n 0, 1) := by decide +kernel
theorem dX12_number_20 : decode cX12_number 20 = .ok (.getfield 135, 3) := by decide +kernel
theorem dX12_number_23 : decode cX12_number 23 = .ok (.invokevirtual 157, 3) := by decide +kernel
theorem dX12_number_26 : decode cX12_number 26 = .ok (.goto 28, 3) := by decide +kernel
theorem dX12_number_29 : decode cX12_number 29 = .ok (.aload_n 0, 1) := by decide +kernel
theorem dX12_number_30 : decode cX12_number 30 = .ok (.getfield 154, 3) := by decide +kernel
theorem dX12_number_33 : decode cX12_number 33 = .ok (.iload_n 1, 1) := by decide +kernel
theorem dX12_number_34 : decode cX12_number 34 = .ok (.if_icmp .lt 11, 3) := by decide +kernel
theorem dX12_number_37 : decode cX12_number 37 = .ok (.aload_n 0, 1) := by decide +kernel
theorem dX12_number_38 : decode cX12_number 38 = .ok (.getfield 154, 3) := by decide +kernel
theorem dX12_number_41 : decode cX12_number 41 = .ok (.iload_n 2, 1) := by decide +kernel
theorem dX12_number_42 : decode cX12_number 42 = .ok (.if_icmp .le 12, 3) := by decide +kernel
theorem dX12_number_45 : decode cX12_number 45 = .ok (.aload_n 0, 1) := by decide +kernel
theorem dX12_number_46 : decode cX12_number 46 = .ok (.iconst 5, 1) := by decide +kernel
theorem dX12_number_47 : decode cX12_number 47 = .ok (.aload_n 0, 1) := by decide +kernel
theorem dX12_number_48 : decode cX12_number 48 = .ok (.getfield 135, 3) := by decide +kernel
theorem dX12_number_51 : decode cX12_number 51 = .ok (.invokevirtual 157, 3) := by decide +kernel
theorem dX12_number_54 : decode cX12_number 54 = .ok (.aload_n 0, 1) := by decide +kernel
theorem dX12_number_55 : decode cX12_number 55 = .ok (.getfield 154, 3) := by decide +kernel
theorem dX12_number_58 : decode cX12_number 58 = .ok (.ireturn, 1) := by decide +kernel
def F_X12_number (N : Nat) (x0 : Nat) (x1 : Int32) (x2 : Int32) (I : MI) (L : ML) (R : MR) : Option (Int32 × MI) :=
  if kd x0 = 11 ∧ x0 < NN then
  bn2 (F_X12_next N x0 I L R) fun b1 I2 =>
  if (b2i b1) = 0 then
    some ((0 : Int32), I2)
  else
    bn1 (
      if (I2 x0 11) = (2 : Int32) then
        bn1 (
          if (I2 x0 14) < x1 then
            bn1 (F_X12_wrong x0 (5 : Int32) (I2 x0 12) I2 L R) fun I13 =>
            some (I13)
          else
            bn1 (
              if (I2 x0 14) ≤ x2 then
                some (I2)
              else
                bn1 (F_X12_wrong x0 (5 : Int32) (I2 x0 12) I2 L R) fun I19 =>
                some (I19)
            ) fun (I15 : MI) =>
            some (I15)
        ) fun (I9 : MI) =>
        some (I9)
      else
        bn1 (F_X12_wrong x0 (2 : Int32) (I2 x0 12) I2 L R) fun I21 =>
        some (I21)
    ) fun (I5 : MI) =>
    some ((I5 x0 14), I5)
  else none
set_option maxRecDepth 100000 in
set_option maxHeartbeats 4000000 in
theorem c_X12_number (l : Launch) (D : va_G) (cA : Nat → ClassId) (ad : Nat → Nat) (bs : Nat) (X : State → Prop) (hAd : Ax ad bs) (hX : Stb bs X) (N : Nat) (x0 : Nat) (x1 : Int32) (x2 : Int32) (I : MI) (L : ML) (R : MR) (r : Int32) (I' : MI) (h : F_X12_number N x0 x1 x2 I L R = some (r, I')) : Cn l D cA ad bs X yX12_number cX12_number 3 (some .int) 3 65 [.ref (ad x0), .int x1, .int x2] I L R (some (.int r), I', L, R) := by
  refine Cn.ofV hAd hX [(0, .ref (ad x0)), (1, .int x1), (2, .int x2)] rfl (Nat.le_of_ble_eq_true rfl) (by decide) ?_
  intro G el eD ecA ead ebs eX erm eNL C0
  subst el eD ecA ead ebs eX
  unfold F_X12_number at h
  obtain ⟨c_x0, h⟩ := ite_some h
  refine V_aload_n C0 0 rfl rfl dX12_number_0 ?_
  obtain ⟨b1, I2, q3, h⟩ := bn2_some h
  refine V_callV C0 (st := []) (As := []) 11 (c_X12_next G.l G.D G.cA G.ad G.bs G.X C0.2.2.2.2.2.2.2.2.2.1 C0.2.2.2.2.2.2.2.2.2.2.2.2 N x0 I L R b1 I2 q3) lc_X12_next lk_X12_164 c_x0.2 c_x0.1 ⟨_, rfl, rfl⟩ rfl (by rw [erm]; decide) (Nat.le_of_ble_eq_true rfl) dX12_number_1 ?_
  show V G _ 4 [(0, .ref (G.ad x0)), (1, .int x1), (2, .int x2)] [.int (b2i b1)] I2 L R
  refine V_if_ne C0 (tgt := 9) (by decide) dX12_number_4 (fun c4 => ?_) (fun c4 => ?_)
  · have h := (if_neg c4).symm.trans h
    refine V_aload_n C0 0 rfl rfl dX12_number_9 ?_
    refine V_getI C0 11 11 fl_X12_138 c_x0.2 c_x0.1 rfl dX12_number_10 ?_
    refine V_iconst C0 (v := (2 : Int32)) (by decide) dX12_number_13 ?_
    obtain ⟨I5, q6, h⟩ := bn1_some h
    have k7 : V G (qf G (some (.int r), I', L, R)) 54 [(0, .ref (G.ad x0))] [] I5 L R := by
      refine V_aload_n C0 0 rfl rfl dX12_number_54 ?_
      refine V_getI C0 11 14 fl_X12_154 c_x0.2 c_x0.1 rfl dX12_number_55 ?_
      cases h
      exact V_iret C0 dX12_number_58
    refine V_icmp_eq C0 (tgt := 29) (by decide) dX12_number_14 (fun c8 => ?_) (fun c8 => ?_)
    · have q6 := (if_pos c8).symm.trans q6
      refine V_aload_n C0 0 rfl rfl dX12_number_29 ?_
      refine V_getI C0 11 14 fl_X12_154 c_x0.2 c_x0.1 rfl dX12_number_30 ?_
      refine V_iload_n C0 1 rfl rfl dX12_number_33 ?_
      obtain ⟨I9, q10, q6⟩ := bn1_some q6
      have k11 : V G (qf G (some (.int r), I', L, R)) 54 [(0, .ref (G.ad x0))] [] I9 L R := by
        cases q6
        exact V_sub [0] rfl k7
      refine V_icmp_lt C0 (tgt := 45) (by decide) dX12_number_34 (fun c12 => ?_) (fun c12 => ?_)
      · have q10 := (if_pos c12).symm.trans q10
        refine V_aload_n C0 0 rfl rfl dX12_number_45 ?_
        refine V_iconst C0 (v := (5 : Int32)) (by decide) dX12_number_46 ?_
        refine V_aload_n C0 0 rfl rfl dX12_number_47 ?_
        refine V_getI C0 11 12 fl_X12_135 c_x0.2 c_x0.1 rfl dX12_number_48 ?_
        obtain ⟨I13, q14, q10⟩ := bn1_some q10
        refine V_callV C0 (st := []) (As := [.int (5 : Int32), .int (I2 x0 12)]) 11 (c_X12_wrong G.l G.D G.cA G.ad G.bs G.X C0.2.2.2.2.2.2.2.2.2.1 C0.2.2.2.2.2.2.2.2.2.2.2.2 x0 (5 : Int32) (I2 x0 12) I2 L R I13 q14) lc_X12_wrong lk_X12_157 c_x0.2 c_x0.1 ⟨_, rfl, rfl⟩ rfl (by rw [erm]; decide) (Nat.le_of_ble_eq_true rfl) dX12_number_51 ?_
        show V G _ 54 [(0, .ref (G.ad x0)), (1, .int x1), (2, .int x2)] [] I13 L R
        cases q10
        exact V_sub [0] rfl k11
      · have q10 := (if_neg c12).symm.trans q10
        refine V_aload_n C0 0 rfl rfl dX12_number_37 ?_
        refine V_getI C0 11 14 fl_X12_154 c_x0.2 c_x0.1 rfl dX12_number_38 ?_
        refine V_iload_n C0 2 rfl rfl dX12_number_41 ?_
        obtain ⟨I15, q16, q10⟩ := bn1_some q10
        have k17 : V G (qf G (some (.int r), I', L, R)) 54 [(0, .ref (G.ad x0))] [] I15 L R := by
          cases q10
          exact V_sub [0] rfl k11
        refine V_icmp_le C0 (tgt := 54) (by decide) dX12_number_42 (fun c18 => ?_) (fun c18 => ?_)
        · have q16 := (if_pos c18).symm.trans q16
          cases q16
          exact V_sub [0] rfl k17
        · have q16 := (if_neg c18).symm.trans q16
          refine V_aload_n C0 0 rfl rfl dX12_number_45 ?_
          refine V_iconst C0 (v := (5 : Int32)) (by decide) dX12_number_46 ?_
          refine V_aload_n C0 0 rfl rfl dX12_number_47 ?_
          refine V_getI C0 11 12 fl_X12_135 c_x0.2 c_x0.1 rfl dX12_number_48 ?_
          obtain ⟨I19, q20, q16⟩ := bn1_some q16
          refine V_callV C0 (st := []) (As := [.int (5 : Int32), .int (I2 x0 12)]) 11 (c_X12_wrong G.l G.D G.cA G.ad G.bs G.X C0.2.2.2.2.2.2.2.2.2.1 C0.2.2.2.2.2.2.2.2.2.2.2.2 x0 (5 : Int32) (I2 x0 12) I2 L R I19 q20) lc_X12_wrong lk_X12_157 c_x0.2 c_x0.1 ⟨_, rfl, rfl⟩ rfl (by rw [erm]; decide) (Nat.le_of_ble_eq_true rfl) dX12_number_51 ?_
          show V G _ 54 [(0, .ref (G.ad x0)), (1, .int x1), (2, .int x2)] [] I19 L R
          cases q16
          exact V_sub [0] rfl k17
    · have q6 := (if_neg c8).symm.trans q6
      refine V_aload_n C0 0 rfl rfl dX12_number_17 ?_
      refine V_iconst C0 (v := (2 : Int32)) (by decide) dX12_number_18 ?_
      refine V_aload_n C0 0 rfl rfl dX12_number_19 ?_
      refine V_getI C0 11 12 fl_X12_135 c_x0.2 c_x0.1 rfl dX12_number_20 ?_
      obtain ⟨I21, q22, q6⟩ := bn1_some q6
      refine V_callV C0 (st := []) (As := [.int (2 : Int32), .int (I2 x0 12)]) 11 (c_X12_wrong G.l G.D G.cA G.ad G.bs G.X C0.2.2.2.2.2.2.2.2.2.1 C0.2.2.2.2.2.2.2.2.2.2.2.2 x0 (2 : Int32) (I2 x0 12) I2 L R I21 q22) lc_X12_wrong lk_X12_157 c_x0.2 c_x0.1 ⟨_, rfl, rfl⟩ rfl (by rw [erm]; decide) (Nat.le_of_ble_eq_true rfl) dX12_number_23 ?_
      show V G _ 26 [(0, .ref (G.ad x0)), (1, .int x1), (2, .int x2)] [] I21 L R
      refine V_goto C0 (tgt := 54) (by decide) dX12_number_26 ?_
      cases q6
      exact V_sub [0] rfl k7
  · have h := (if_pos c4).symm.trans h
    refine V_iconst C0 (v := (0 : Int32)) (by decide) dX12_number_7 ?_
    cases h
    exact V_iret C0 dX12_number_8
theorem dX12_sign_0 : decode cX12_sign 0 = .ok (.aload_n 0, 1) := by decide +kernel
theorem dX12_sign_1 : decode cX12_sign 1 = .ok (.invokevirtual 164, 3) := by decide +kernel
theorem dX12_sign_4 : decode cX12_sign 4 = .ok (.ifCond .eq 28, 3) := by decide +kernel
theorem dX12_sign_7 : decode cX12_sign 7 = .ok (.aload_n 0, 1) := by decide +kernel
theorem dX12_sign_8 : decode cX12_sign 8 = .ok (.getfield 138, 3) := by decide +kernel
theorem dX12_sign_11 : decode cX12_sign 11 = .ok (.iconst 3, 1) := by decide +kernel
theorem dX12_sign_12 : decode cX12_sign 12 = .ok (.if_icmp .ne 11, 3) := by decide +kernel
theorem dX12_sign_15 : decode cX12_sign 15 = .ok (.aload_n 0, 1) := by decide +kernel
theorem dX12_sign_16 : decode cX12_sign 16 = .ok (.getfield 154, 3) := by decide +kernel
theorem dX12_sign_19 : decode cX12_sign 19 = .ok (.iload_n 1, 1) := by decide +kernel
theorem dX12_sign_20 : decode cX12_sign 20 = .ok (.if_icmp .eq 12, 3) := by decide +kernel
theorem dX12_sign_23 : decode cX12_sign 23 = .ok (.aload_n 0, 1) := by decide +kernel
theorem dX12_sign_24 : decode cX12_sign 24 = .ok (.iconst 2, 1) := by decide +kernel
theorem dX12_sign_25 : decode cX12_sign 25 = .ok (.aload_n 0, 1) := by decide +kernel
theorem dX12_sign_26 : decode cX12_sign 26 = .ok (.getfield 135, 3) := by decide +kernel
theorem dX12_sign_29 : decode cX12_sign 29 = .ok (.invokevirtual 157, 3) := by decide +kernel
theorem dX12_sign_32 : decode cX12_sign 32 = .ok (.return_, 1) := by decide +kernel
def F_X12_sign (N : Nat) (x0 : Nat) (x1 : Int32) (I : MI) (L : ML) (R : MR) : Option (MI) :=
  if kd x0 = 11 ∧ x0 < NN then
  bn2 (F_X12_next N x0 I L R) fun b1 I2 =>
  if (b2i b1) = 0 then
    some (I2)
  else
    if (I2 x0 11) = (3 : Int32) then
      if (I2 x0 14) = x1 then
        some (I2)
      else
        bn1 (F_X12_wrong x0 (2 : Int32) (I2 x0 12) I2 L R) fun I9 =>
        some (I9)
    else
      bn1 (F_X12_wrong x0 (2 : Int32) (I2 x0 12) I2 L R) fun I6 =>
      some (I6)
  else none
set_option maxRecDepth 100000 in
set_option maxHeartbeats 4000000 in
theorem c_X12_sign (l : Launch) (D : va_G) (cA : Nat → ClassId) (ad : Nat → Nat) (bs : Nat) (X : State → Prop) (hAd : Ax ad bs) (hX : Stb bs X) (N : Nat) (x0 : Nat) (x1 : Int32) (I : MI) (L : ML) (R : MR) (I' : MI) (h : F_X12_sign N x0 x1 I L R = some (I')) : Cn l D cA ad bs X yX12_sign cX12_sign 2 none 3 65 [.ref (ad x0), .int x1] I L R (none, I', L, R) := by
  refine Cn.ofV hAd hX [(0, .ref (ad x0)), (1, .int x1)] rfl (Nat.le_of_ble_eq_true rfl) (by decide) ?_
  intro G el eD ecA ead ebs eX erm eNL C0
  subst el eD ecA ead ebs eX
  unfold F_X12_sign at h
  obtain ⟨c_x0, h⟩ := ite_some h
  refine V_aload_n C0 0 rfl rfl dX12_sign_0 ?_
  obtain ⟨b1, I2, q3, h⟩ := bn2_some h
  refine V_callV C0 (st := []) (As := []) 11 (c_X12_next G.l G.D G.cA G.ad G.bs G.X C0.2.2.2.2.2.2.2.2.2.1 C0.2.2.2.2.2.2.2.2.2.2.2.2 N x0 I L R b1 I2 q3) lc_X12_next lk_X12_164 c_x0.2 c_x0.1 ⟨_, rfl, rfl⟩ rfl (by rw [erm]; decide) (Nat.le_of_ble_eq_true rfl) dX12_sign_1 ?_
  show V G _ 4 [(0, .ref (G.ad x0)), (1, .int x1)] [.int (b2i b1)] I2 L R
  refine V_if_eq C0 (tgt := 32) (by decide) dX12_sign_4 (fun c4 => ?_) (fun c4 => ?_)
  · have h := (if_pos c4).symm.trans h
    cases h
    exact V_vret C0 dX12_sign_32
  · have h := (if_neg c4).symm.trans h
    refine V_aload_n C0 0 rfl rfl dX12_sign_7 ?_
    refine V_getI C0 11 11 fl_X12_138 c_x0.2 c_x0.1 rfl dX12_sign_8 ?_
    refine V_iconst C0 (v := (3 : Int32)) (by decide) dX12_sign_11 ?_
    refine V_icmp_ne C0 (tgt := 23) (by decide) dX12_sign_12 (fun c5 => ?_) (fun c5 => ?_)
    · have h := (if_neg c5).symm.trans h
      refine V_aload_n C0 0 rfl rfl dX12_sign_23 ?_
      refine V_iconst C0 (v := (2 : Int32)) (by decide) dX12_sign_24 ?_
      refine V_aload_n C0 0 rfl rfl dX12_sign_25 ?_
      refine V_getI C0 11 12 fl_X12_135 c_x0.2 c_x0.1 rfl dX12_sign_26 ?_
      obtain ⟨I6, q7, h⟩ := bn1_some h
      refine V_callV C0 (st := []) (As := [.int (2 : Int32), .int (I2 x0 12)]) 11 (c_X12_wrong G.l G.D G.cA G.ad G.bs G.X C0.2.2.2.2.2.2.2.2.2.1 C0.2.2.2.2.2.2.2.2.2.2.2.2 x0 (2 : Int32) (I2 x0 12) I2 L R I6 q7) lc_X12_wrong lk_X12_157 c_x0.2 c_x0.1 ⟨_, rfl, rfl⟩ rfl (by rw [erm]; decide) (Nat.le_of_ble_eq_true rfl) dX12_sign_29 ?_
      show V G _ 32 [(0, .ref (G.ad x0)), (1, .int x1)] [] I6 L R
      cases h
      exact V_vret C0 dX12_sign_32
    · have h := (if_pos c5).symm.trans h
      refine V_aload_n C0 0 rfl rfl dX12_sign_15 ?_
      refine V_getI C0 11 14 fl_X12_154 c_x0.2 c_x0.1 rfl dX12_sign_16 ?_
      refine V_iload_n C0 1 rfl rfl dX12_sign_19 ?_
      refine V_icmp_eq C0 (tgt := 32) (by decide) dX12_sign_20 (fun c8 => ?_) (fun c8 => ?_)
      · have h := (if_pos c8).symm.trans h
        cases h
        exact V_vret C0 dX12_sign_32
      · have h := (if_neg c8).symm.trans h
        refine V_aload_n C0 0 rfl rfl dX12_sign_23 ?_
        refine V_iconst C0 (v := (2 : Int32)) (by decide) dX12_sign_24 ?_
        refine V_aload_n C0 0 rfl rfl dX12_sign_25 ?_
        refine V_getI C0 11 12 fl_X12_135 c_x0.2 c_x0.1 rfl dX12_sign_26 ?_
        obtain ⟨I9, q10, h⟩ := bn1_some h
        refine V_callV C0 (st := []) (As := [.int (2 : Int32), .int (I2 x0 12)]) 11 (c_X12_wrong G.l G.D G.cA G.ad G.bs G.X C0.2.2.2.2.2.2.2.2.2.1 C0.2.2.2.2.2.2.2.2.2.2.2.2 x0 (2 : Int32) (I2 x0 12) I2 L R I9 q10) lc_X12_wrong lk_X12_157 c_x0.2 c_x0.1 ⟨_, rfl, rfl⟩ rfl (by rw [erm]; decide) (Nat.le_of_ble_eq_true rfl) dX12_sign_29 ?_
        show V G _ 32 [(0, .ref (G.ad x0)), (1, .int x1)] [] I9 L R
        cases h
        exact V_vret C0 dX12_sign_32
theorem dX12_many_0 : decode cX12_many 0 = .ok (.iload_n 0, 1) := by decide +kernel
theorem dX12_many_1 : decode cX12_many 1 = .ok (.tableswitch 127 2 28 #[123, 127, 123, 123, 127, 123, 125, 127, 125, 125, 127, 125, 125, 127, 127, 127, 125, 125, 127, 127, 127, 127, 127, 127, 127, 127, 125], 123) := by decide +kernel
theorem dX12_many_124 : decode cX12_many 124 = .ok (.iconst 1, 1) := by decide +kernel
theorem dX12_many_125 : decode cX12_many 125 = .ok (.ireturn, 1) := by decide +kernel
theorem dX12_many_126 : decode cX12_many 126 = .ok (.iconst 3, 1) := by decide +kernel
theorem dX12_many_127 : decode cX12_many 127 = .ok (.ireturn, 1) := by decide +kernel
theorem dX12_many_128 : decode cX12_many 128 = .ok (.iconst 2, 1) := by decide +kernel
theorem dX12_many_129 : decode cX12_many 129 = .ok (.ireturn, 1) := by decide +kernel
def F_X12_many (x0 : Int32) (I : MI) (L : ML) (R : MR) : Option (Int32) :=
  if x0 = (2 : Int32) then
    some ((1 : Int32))
  else
    if x0 = (4 : Int32) then
      some ((1 : Int32))
    else
      if x0 = (5 : Int32) then
        some ((1 : Int32))
      else
        if x0 = (7 : Int32) then
          some ((1 : Int32))
        else
          if x0 = (8 : Int32) then
            some ((3 : Int32))
          else
            if x0 = (10 : Int32) then
              some ((3 : Int32))
            else
              if x0 = (11 : Int32) then
                some ((3 : Int32))
              else
                if x0 = (13 : Int32) then
                  some ((3 : Int32))
                else
                  if x0 = (14 : Int32) then
                    some ((3 : Int32))
                  else
                    if x0 = (18 : Int32) then
                      some ((3 : Int32))
                    else
                      if x0 = (19 : Int32) then
                        some ((3 : Int32))
                      else
                        if x0 = (28 : Int32) then
                          some ((3 : Int32))
                        else
                          some ((2 : Int32))
set_option maxRecDepth 100000 in
set_option maxHeartbeats 4000000 in
theorem c_X12_many (l : Launch) (D : va_G) (cA : Nat → ClassId) (ad : Nat → Nat) (bs : Nat) (X : State → Prop) (hAd : Ax ad bs) (hX : Stb bs X) (x0 : Int32) (I : MI) (L : ML) (R : MR) (r : Int32) (h : F_X12_many x0 I L R = some (r)) : Cn l D cA ad bs X yX12_many cX12_many 1 (some .int) 0 0 [.int x0] I L R (some (.int r), I, L, R) := by
  refine Cn.ofV hAd hX [(0, .int x0)] rfl (Nat.le_of_ble_eq_true rfl) (by decide) ?_
  intro G el eD ecA ead ebs eX erm eNL C0
  subst el eD ecA ead ebs eX
  unfold F_X12_many at h
  refine V_iload_n C0 0 rfl rfl dX12_many_0 ?_
  have nd1 := nd_0 x0
  by_cases c2 : x0 = (2 : Int32)
  · have h := (if_pos c2).symm.trans h
    refine V_tableC C0 (tgt := 124) (v := (2 : Int32)) c2 (by decide) (by decide) dX12_many_1 ?_
    refine V_iconst C0 (v := (1 : Int32)) (by decide) dX12_many_124 ?_
    cases h
    exact V_iret C0 dX12_many_125
  · have h := (if_neg c2).symm.trans h
    have nd1 := nd_add nd1 c2
    by_cases c3 : x0 = (4 : Int32)
    · have h := (if_pos c3).symm.trans h
      refine V_tableC C0 (tgt := 124) (v := (4 : Int32)) c3 (by decide) (by decide) dX12_many_1 ?_
      refine V_iconst C0 (v := (1 : Int32)) (by decide) dX12_many_124 ?_
      cases h
      exact V_iret C0 dX12_many_125
    · have h := (if_neg c3).symm.trans h
      have nd1 := nd_add nd1 c3
      by_cases c4 : x0 = (5 : Int32)
      · have h := (if_pos c4).symm.trans h
        refine V_tableC C0 (tgt := 124) (v := (5 : Int32)) c4 (by decide) (by decide) dX12_many_1 ?_
        refine V_iconst C0 (v := (1 : Int32)) (by decide) dX12_many_124 ?_
        cases h
        exact V_iret C0 dX12_many_125
      · have h := (if_neg c4).symm.trans h
        have nd1 := nd_add nd1 c4
        by_cases c5 : x0 = (7 : Int32)
        · have h := (if_pos c5).symm.trans h
          refine V_tableC C0 (tgt := 124) (v := (7 : Int32)) c5 (by decide) (by decide) dX12_many_1 ?_
          refine V_iconst C0 (v := (1 : Int32)) (by decide) dX12_many_124 ?_
          cases h
          exact V_iret C0 dX12_many_125
        · have h := (if_neg c5).symm.trans h
          have nd1 := nd_add nd1 c5
          by_cases c6 : x0 = (8 : Int32)
          · have h := (if_pos c6).symm.trans h
            refine V_tableC C0 (tgt := 126) (v := (8 : Int32)) c6 (by decide) (by decide) dX12_many_1 ?_
            refine V_iconst C0 (v := (3 : Int32)) (by decide) dX12_many_126 ?_
            cases h
            exact V_iret C0 dX12_many_127
          · have h := (if_neg c6).symm.trans h
            have nd1 := nd_add nd1 c6
            by_cases c7 : x0 = (10 : Int32)
            · have h := (if_pos c7).symm.trans h
              refine V_tableC C0 (tgt := 126) (v := (10 : Int32)) c7 (by decide) (by decide) dX12_many_1 ?_
              refine V_iconst C0 (v := (3 : Int32)) (by decide) dX12_many_126 ?_
              cases h
              exact V_iret C0 dX12_many_127
            · have h := (if_neg c7).symm.trans h
              have nd1 := nd_add nd1 c7
              by_cases c8 : x0 = (11 : Int32)
              · have h := (if_pos c8).symm.trans h
                refine V_tableC C0 (tgt := 126) (v := (11 : Int32)) c8 (by decide) (by decide) dX12_many_1 ?_
                refine V_iconst C0 (v := (3 : Int32)) (by decide) dX12_many_126 ?_
                cases h
                exact V_iret C0 dX12_many_127
              · have h := (if_neg c8).symm.trans h
                have nd1 := nd_add nd1 c8
                by_cases c9 : x0 = (13 : Int32)
                · have h := (if_pos c9).symm.trans h
                  refine V_tableC C0 (tgt := 126) (v := (13 : Int32)) c9 (by decide) (by decide) dX12_many_1 ?_
                  refine V_iconst C0 (v := (3 : Int32)) (by decide) dX12_many_126 ?_
                  cases h
                  exact V_iret C0 dX12_many_127
                · have h := (if_neg c9).symm.trans h
                  have nd1 := nd_add nd1 c9
                  by_cases c10 : x0 = (14 : Int32)
                  · have h := (if_pos c10).symm.trans h
                    refine V_tableC C0 (tgt := 126) (v := (14 : Int32)) c10 (by decide) (by decide) dX12_many_1 ?_
                    refine V_iconst C0 (v := (3 : Int32)) (by decide) dX12_many_126 ?_
                    cases h
                    exact V_iret C0 dX12_many_127
                  · have h := (if_neg c10).symm.trans h
                    have nd1 := nd_add nd1 c10
                    by_cases c11 : x0 = (18 : Int32)
                    · have h := (if_pos c11).symm.trans h
                      refine V_tableC C0 (tgt := 126) (v := (18 : Int32)) c11 (by decide) (by decide) dX12_many_1 ?_
                      refine V_iconst C0 (v := (3 : Int32)) (by decide) dX12_many_126 ?_
                      cases h
                      exact V_iret C0 dX12_many_127
                    · have h := (if_neg c11).symm.trans h
                      have nd1 := nd_add nd1 c11
                      by_cases c12 : x0 = (19 : Int32)
                      · have h := (if_pos c12).symm.trans h
                        refine V_tableC C0 (tgt := 126) (v := (19 : Int32)) c12 (by decide) (by decide) dX12_many_1 ?_
                        refine V_iconst C0 (v := (3 : Int32)) (by decide) dX12_many_126 ?_
                        cases h
                        exact V_iret C0 dX12_many_127
                      · have h := (if_neg c12).symm.trans h
                        have nd1 := nd_add nd1 c12
                        by_cases c13 : x0 = (28 : Int32)
                        · have h := (if_pos c13).symm.trans h
                          refine V_tableC C0 (tgt := 126) (v := (28 : Int32)) c13 (by decide) (by decide) dX12_many_1 ?_
                          refine V_iconst C0 (v := (3 : Int32)) (by decide) dX12_many_126 ?_
                          cases h
                          exact V_iret C0 dX12_many_127
                        · have h := (if_neg c13).symm.trans h
                          have nd1 := nd_add nd1 c13
                          refine V_tableN C0 (tgt := 128) nd1 (by decide) (by decide) dX12_many_1 ?_
                          refine V_iconst C0 (v := (2 : Int32)) (by decide) dX12_many_128 ?_
                          cases h
                          exact V_iret C0 dX12_many_129
theorem dX12_isNew_0 : decode cX12_isNew 0 = .ok (.iload_n 1, 1) := by decide +kernel
theorem dX12_isNew_1 : decode cX12_isNew 1 = .ok (.ifCond .lt 30, 3) := by decide +kernel
theorem dX12_isNew_4 : decode cX12_isNew 4 = .ok (.iload_n 1, 1) := by decide +kernel
theorem dX12_isNew_5 : decode cX12_isNew 5 = .ok (.aload_n 0, 1) := by decide +kernel
theorem dX12_isNew_6 : decode cX12_isNew 6 = .ok (.getfield 168, 3) := by decide +kernel
theorem dX12_isNew_9 : decode cX12_isNew 9 = .ok (.if_icmp .ge 22, 3) := by decide +kernel
theorem dX12_isNew_12 : decode cX12_isNew 12 = .ok (.iload_n 2, 1) := by decide +kernel
theorem dX12_isNew_13 : decode cX12_isNew 13 = .ok (.iconst (-1), 1) := by decide +kernel
theorem dX12_isNew_14 : decode cX12_isNew 14 = .ok (.if_icmp .eq 13, 3) := by decide +kernel
theorem dX12_isNew_17 : decode cX12_isNew 17 = .ok (.aload_n 0, 1) := by decide +kernel
theorem dX12_isNew_18 : decode cX12_isNew 18 = .ok (.getfield 35, 3) := by decide +kernel
theorem dX12_isNew_21 : decode cX12_isNew 21 = .ok (.iload_n 1, 1) := by decide +kernel
theorem dX12_isNew_22 : decode cX12_isNew 22 = .ok (.iaload, 1) := by decide +kernel
theorem dX12_isNew_23 : decode cX12_isNew 23 = .ok (.iload_n 2, 1) := by decide +kernel
theorem dX12_isNew_24 : decode cX12_isNew 24 = .ok (.if_icmp .ne 7, 3) := by decide +kernel
theorem dX12_isNew_27 : decode cX12_isNew 27 = .ok (.iconst 1, 1) := by decide +kernel
theorem dX12_isNew_28 : decode cX12_isNew 28 = .ok (.goto 4, 3) := by decide +kernel
theorem dX12_isNew_31 : decode cX12_isNew 31 = .ok (.iconst 0, 1) := by decide +kernel
theorem dX12_isNew_32 : decode cX12_isNew 32 = .ok (.ireturn, 1) := by decide +kernel
def F_X12_isNew (x0 : Nat) (x1 : Int32) (x2 : Int32) (I : MI) (L : ML) (R : MR) : Option (Bool) :=
  if kd x0 = 11 ∧ x0 < NN then
  if x1 < 0 then
    some (false)
  else
    if (I x0 17) ≤ x1 then
      some (false)
    else
      if x2 = (-1 : Int32) then
        some (true)
      else
        (rf R x0 18 20).bind fun a4 =>
        (ri I a4 x1).bind fun v5 =>
        if v5 = x2 then
          some (true)
        else
          some (false)
  else none
set_option maxRecDepth 100000 in
set_option maxHeartbeats 4000000 in
theorem c_X12_isNew (l : Launch) (D : va_G) (cA : Nat → ClassId) (ad : Nat → Nat) (bs : Nat) (X : State → Prop) (hAd : Ax ad bs) (hX : Stb bs X) (x0 : Nat) (x1 : Int32) (x2 : Int32) (I : MI) (L : ML) (R : MR) (r : Bool) (h : F_X12_isNew x0 x1 x2 I L R = some (r)) : Cn l D cA ad bs X yX12_isNew cX12_isNew 3 (some .boolean) 0 0 [.ref (ad x0), .int x1, .int x2] I L R (some (.int (b2i r)), I, L, R) := by
  refine Cn.ofV hAd hX [(0, .ref (ad x0)), (1, .int x1), (2, .int x2)] rfl (Nat.le_of_ble_eq_true rfl) (by decide) ?_
  intro G el eD ecA ead ebs eX erm eNL C0
  subst el eD ecA ead ebs eX
  unfold F_X12_isNew at h
  obtain ⟨c_x0, h⟩ := ite_some h
  refine V_iload_n C0 1 rfl rfl dX12_isNew_0 ?_
  refine V_if_lt C0 (tgt := 31) (by decide) dX12_isNew_1 (fun c1 => ?_) (fun c1 => ?_)
  · have h := (if_pos c1).symm.trans h
    refine V_iconst C0 (v := (0 : Int32)) (by decide) dX12_isNew_31 ?_
    cases h
    exact V_zret C0 (by decide) dX12_isNew_32
  · have h := (if_neg c1).symm.trans h
    refine V_iload_n C0 1 rfl rfl dX12_isNew_4 ?_
    refine V_aload_n C0 0 rfl rfl dX12_isNew_5 ?_
    refine V_getI C0 11 17 fl_X12_168 c_x0.2 c_x0.1 rfl dX12_isNew_6 ?_
    refine V_icmp_ge C0 (tgt := 31) (by decide) dX12_isNew_9 (fun c2 => ?_) (fun c2 => ?_)
    · have h := (if_pos c2).symm.trans h
      refine V_iconst C0 (v := (0 : Int32)) (by decide) dX12_isNew_31 ?_
      cases h
      exact V_zret C0 (by decide) dX12_isNew_32
    · have h := (if_neg c2).symm.trans h
      refine V_iload_n C0 2 rfl rfl dX12_isNew_12 ?_
      refine V_iconst C0 (v := (-1 : Int32)) (by decide) dX12_isNew_13 ?_
      refine V_icmp_eq C0 (tgt := 27) (by decide) dX12_isNew_14 (fun c3 => ?_) (fun c3 => ?_)
      · have h := (if_pos c3).symm.trans h
        refine V_iconst C0 (v := (1 : Int32)) (by decide) dX12_isNew_27 ?_
        refine V_goto C0 (tgt := 32) (by decide) dX12_isNew_28 ?_
        cases h
        exact V_zret C0 (by decide) dX12_isNew_32
      · have h := (if_neg c3).symm.trans h
        refine V_aload_n C0 0 rfl rfl dX12_isNew_17 ?_
        obtain ⟨a4, qa4, h⟩ := bnd_some h
        refine V_getR C0 11 18 fl_X12_35 c_x0.2 c_x0.1 rfl (rf_at qa4) dX12_isNew_18 ?_
        refine V_iload_n C0 1 rfl rfl dX12_isNew_21 ?_
        obtain ⟨v5, qv5, h⟩ := bnd_some h
        refine V_ri C0 (rf_lt qa4) (rf_kd qa4) qv5 dX12_isNew_22 ?_
        refine V_iload_n C0 2 rfl rfl dX12_isNew_23 ?_
        refine V_icmp_ne C0 (tgt := 31) (by decide) dX12_isNew_24 (fun c6 => ?_) (fun c6 => ?_)
        · have h := (if_neg c6).symm.trans h
          refine V_iconst C0 (v := (0 : Int32)) (by decide) dX12_isNew_31 ?_
          cases h
          exact V_zret C0 (by decide) dX12_isNew_32
        · have h := (if_pos c6).symm.trans h
          refine V_iconst C0 (v := (1 : Int32)) (by decide) dX12_isNew_27 ?_
          refine V_goto C0 (tgt := 32) (by decide) dX12_isNew_28 ?_
          cases h
          exact V_zret C0 (by decide) dX12_isNew_32
theorem dX12_in_0 : decode cX12_in 0 = .ok (.iload_n 0, 1) := by decide +kernel
theorem dX12_in_1 : decode cX12_in 1 = .ok (.iload_n 1, 1) := by decide +kernel
theorem dX12_in_2 : decode cX12_in 2 = .ok (.if_icmp .lt 12, 3) := by decide +kernel
theorem dX12_in_5 : decode cX12_in 5 = .ok (.iload_n 0, 1) := by decide +kernel
theorem dX12_in_6 : decode cX12_in 6 = .ok (.iload_n 2, 1) := by decide +kernel
theorem dX12_in_7 : decode cX12_in 7 = .ok (.if_icmp .gt 7, 3) := by decide +kernel
theorem dX12_in_10 : decode cX12_in 10 = .ok (.iconst 1, 1) := by decide +kernel
theorem dX12_in_11 : decode cX12_in 11 = .ok (.goto 4, 3) := by decide +kernel
theorem dX12_in_14 : decode cX12_in 14 = .ok (.iconst 0, 1) := by decide +kernel
theorem dX12_in_15 : decode cX12_in 15 = .ok (.ireturn, 1) := by decide +kernel
def F_X12_in (x0 : Int32) (x1 : Int32) (x2 : Int32) (I : MI) (L : ML) (R : MR) : Option (Bool) :=
  if x0 < x1 then
    some (false)
  else
    if x2 < x0 then
      some (false)
    else
      some (true)
set_option maxRecDepth 100000 in
set_option maxHeartbeats 4000000 in
theorem c_X12_in (l : Launch) (D : va_G) (cA : Nat → ClassId) (ad : Nat → Nat) (bs : Nat) (X : State → Prop) (hAd : Ax ad bs) (hX : Stb bs X) (x0 : Int32) (x1 : Int32) (x2 : Int32) (I : MI) (L : ML) (R : MR) (r : Bool) (h : F_X12_in x0 x1 x2 I L R = some (r)) : Cn l D cA ad bs X yX12_in cX12_in 3 (some .boolean) 0 0 [.int x0, .int x1, .int x2] I L R (some (.int (b2i r)), I, L, R) := by
  refine Cn.ofV hAd hX [(0, .int x0), (1, .int x1), (2, .int x2)] rfl (Nat.le_of_ble_eq_true rfl) (by decide) ?_
  intro G el eD ecA ead ebs eX erm eNL C0
  subst el eD ecA ead ebs eX
  unfold F_X12_in at h
  refine V_iload_n C0 0 rfl rfl dX12_in_0 ?_
  refine V_iload_n C0 1 rfl rfl dX12_in_1 ?_
  refine V_icmp_lt C0 (tgt := 14) (by decide) dX12_in_2 (fun c1 => ?_) (fun c1 => ?_)
  · have h := (if_pos c1).symm.trans h
    refine V_iconst C0 (v := (0 : Int32)) (by decide) dX12_in_14 ?_
    cases h
    exact V_zret C0 (by decide) dX12_in_15
  · have h := (if_neg c1).symm.trans h
    refine V_iload_n C0 0 rfl rfl dX12_in_5 ?_
    refine V_iload_n C0 2 rfl rfl dX12_in_6 ?_
    refine V_icmp_gt C0 (tgt := 14) (by decide) dX12_in_7 (fun c2 => ?_) (fun c2 => ?_)
    · have h := (if_pos c2).symm.trans h
      refine V_iconst C0 (v := (0 : Int32)) (by decide) dX12_in_14 ?_
      cases h
      exact V_zret C0 (by decide) dX12_in_15
    · have h := (if_neg c2).symm.trans h
      refine V_iconst C0 (v := (1 : Int32)) (by decide) dX12_in_10 ?_
      refine V_goto C0 (tgt := 15) (by decide) dX12_in_11 ?_
      cases h
      exact V_zret C0 (by decide) dX12_in_15
theorem dX12_fitsLoad_0 : decode cX12_fitsLoad 0 = .ok (.iload_n 1, 1) := by decide +kernel
theorem dX12_fitsLoad_1 : decode cX12_fitsLoad 1 = .ok (.tableswitch 199 8 21 #[71, 199, 96, 96, 118, 126, 148, 199, 199, 199, 170, 170, 191, 191], 71) := by decide +kernel
theorem dX12_fitsLoad_72 : decode cX12_fitsLoad 72 = .ok (.iload_n 2, 1) := by decide +kernel
theorem dX12_fitsLoad_73 : decode cX12_fitsLoad 73 = .ok (.iconst 1, 1) := by decide +kernel
theorem dX12_fitsLoad_74 : decode cX12_fitsLoad 74 = .ok (.if_icmp .ne 12, 3) := by decide +kernel
theorem dX12_fitsLoad_77 : decode cX12_fitsLoad 77 = .ok (.aload_n 0, 1) := by decide +kernel
theorem dX12_fitsLoad_78 : decode cX12_fitsLoad 78 = .ok (.iload_n 3, 1) := by decide +kernel
theorem dX12_fitsLoad_79 : decode cX12_fitsLoad 79 = .ok (.iconst (-1), 1) := by decide +kernel
theorem dX12_fitsLoad_80 : decode cX12_fitsLoad 80 = .ok (.invokevirtual 175, 3) := by decide +kernel
theorem dX12_fitsLoad_83 : decode cX12_fitsLoad 83 = .ok (.goto 13, 3) := by decide +kernel
theorem dX12_fitsLoad_86 : decode cX12_fitsLoad 86 = .ok (.iload_n 3, 1) := by decide +kernel
theorem dX12_fitsLoad_87 : decode cX12_fitsLoad 87 = .ok (.sipush (-300), 3) := by decide +kernel
theorem dX12_fitsLoad_90 : decode cX12_fitsLoad 90 = .ok (.sipush 900, 3) := by decide +kernel
theorem dX12_fitsLoad_93 : decode cX12_fitsLoad 93 = .ok (.invokestatic 171, 3) := by decide +kernel
theorem dX12_fitsLoad_96 : decode cX12_fitsLoad 96 = .ok (.ireturn, 1) := by decide +kernel
theorem dX12_fitsLoad_97 : decode cX12_fitsLoad 97 = .ok (.iload_n 2, 1) := by decide +kernel
theorem dX12_fitsLoad_98 : decode cX12_fitsLoad 98 = .ok (.iconst 1, 1) := by decide +kernel
theorem dX12_fitsLoad_99 : decode cX12_fitsLoad 99 = .ok (.if_icmp .ne 13, 3) := by decide +kernel
theorem dX12_fitsLoad_102 : decode cX12_fitsLoad 102 = .ok (.iload_n 3, 1) := by decide +kernel
theorem dX12_fitsLoad_103 : decode cX12_fitsLoad 103 = .ok (.iconst 1, 1) := by decide +kernel
theorem dX12_fitsLoad_104 : decode cX12_fitsLoad 104 = .ok (.bipush 50, 2) := by decide +kernel
theorem dX12_fitsLoad_106 : decode cX12_fitsLoad 106 = .ok (.invokestatic 171, 3) := by decide +kernel
theorem dX12_fitsLoad_109 : decode cX12_fitsLoad 109 = .ok (.goto 9, 3) := by decide +kernel
theorem dX12_fitsLoad_112 : decode cX12_fitsLoad 112 = .ok (.iload_n 3, 1) := by decide +kernel
theorem dX12_fitsLoad_113 : decode cX12_fitsLoad 113 = .ok (.iconst 0, 1) := by decide +kernel
theorem dX12_fitsLoad_114 : decode cX12_fitsLoad 114 = .ok (.iconst 2, 1) := by decide +kernel
theorem dX12_fitsLoad_115 : decode cX12_fitsLoad 115 = .ok (.invokestatic 171, 3) := by decide +kernel
theorem dX12_fitsLoad_118 : decode cX12_fitsLoad 118 = .ok (.ireturn, 1) := by decide +kernel
theorem dX12_fitsLoad_119 : decode cX12_fitsLoad 119 = .ok (.iload_n 3, 1) := by decide +kernel
theorem dX12_fitsLoad_120 : decode cX12_fitsLoad 120 = .ok (.iconst 1, 1) := by decide +kernel
theorem dX12_fitsLoad_121 : decode cX12_fitsLoad 121 = .ok (.bipush 50, 2) := by decide +kernel
theorem dX12_fitsLoad_123 : decode cX12_fitsLoad 123 = .ok (.invokestatic 171, 3) := by decide +kernel
theorem dX12_fitsLoad_126 : decode cX12_fitsLoad 126 = .ok (.ireturn, 1) := by decide +kernel
theorem dX12_fitsLoad_127 : decode cX12_fitsLoad 127 = .ok (.iload_n 2, 1) := by decide +kernel
theorem dX12_fitsLoad_128 : decode cX12_fitsLoad 128 = .ok (.iconst 1, 1) := by decide +kernel
theorem dX12_fitsLoad_129 : decode cX12_fitsLoad 129 = .ok (.if_icmp .ne 13, 3) := by decide +kernel
theorem dX12_fitsLoad_132 : decode cX12_fitsLoad 132 = .ok (.iload_n 3, 1) := by decide +kernel
theorem dX12_fitsLoad_133 : decode cX12_fitsLoad 133 = .ok (.iconst 1, 1) := by decide +kernel
theorem dX12_fitsLoad_134 : decode cX12_fitsLoad 134 = .ok (.bipush 50, 2) := by decide +kernel
theorem dX12_fitsLoad_136 : decode cX12_fitsLoad 136 = .ok (.invokestatic 171, 3) := by decide +kernel
theorem dX12_fitsLoad_139 : decode cX12_fitsLoad 139 = .ok (.goto 9, 3) := by decide +kernel
theorem dX12_fitsLoad_142 : decode cX12_fitsLoad 142 = .ok (.aload_n 0, 1) := by decide +kernel
theorem dX12_fitsLoad_143 : decode cX12_fitsLoad 143 = .ok (.iload_n 3, 1) := by decide +kernel
theorem dX12_fitsLoad_144 : decode cX12_fitsLoad 144 = .ok (.iconst (-1), 1) := by decide +kernel
theorem dX12_fitsLoad_145 : decode cX12_fitsLoad 145 = .ok (.invokevirtual 175, 3) := by decide +kernel
theorem dX12_fitsLoad_148 : decode cX12_fitsLoad 148 = .ok (.ireturn, 1) := by decide +kernel
theorem dX12_fitsLoad_149 : decode cX12_fitsLoad 149 = .ok (.iload_n 2, 1) := by decide +kernel
theorem dX12_fitsLoad_150 : decode cX12_fitsLoad 150 = .ok (.iconst 1, 1) := by decide +kernel
theorem dX12_fitsLoad_151 : decode cX12_fitsLoad 151 = .ok (.if_icmp .ne 13, 3) := by decide +kernel
theorem dX12_fitsLoad_154 : decode cX12_fitsLoad 154 = .ok (.iload_n 3, 1) := by decide +kernel
theorem dX12_fitsLoad_155 : decode cX12_fitsLoad 155 = .ok (.iconst 1, 1) := by decide +kernel
theorem dX12_fitsLoad_156 : decode cX12_fitsLoad 156 = .ok (.bipush 50, 2) := by decide +kernel
theorem dX12_fitsLoad_158 : decode cX12_fitsLoad 158 = .ok (.invokestatic 171, 3) := by decide +kernel
theorem dX12_fitsLoad_161 : decode cX12_fitsLoad 161 = .ok (.goto 9, 3) := by decide +kernel
theorem dX12_fitsLoad_164 : decode cX12_fitsLoad 164 = .ok (.aload_n 0, 1) := by decide +kernel
theorem dX12_fitsLoad_165 : decode cX12_fitsLoad 165 = .ok (.iload_n 3, 1) := by decide +kernel
theorem dX12_fitsLoad_166 : decode cX12_fitsLoad 166 = .ok (.iconst 5, 1) := by decide +kernel
theorem dX12_fitsLoad_167 : decode cX12_fitsLoad 167 = .ok (.invokevirtual 175, 3) := by decide +kernel
theorem dX12_fitsLoad_170 : decode cX12_fitsLoad 170 = .ok (.ireturn, 1) := by decide +kernel
theorem dX12_fitsLoad_171 : decode cX12_fitsLoad 171 = .ok (.iload_n 2, 1) := by decide +kernel
theorem dX12_fitsLoad_172 : decode cX12_fitsLoad 172 = .ok (.iconst 1, 1) := by decide +kernel
theorem dX12_fitsLoad_173 : decode cX12_fitsLoad 173 = .ok (.if_icmp .ne 12, 3) := by decide +kernel
theorem dX12_fitsLoad_176 : decode cX12_fitsLoad 176 = .ok (.iload_n 3, 1) := by decide +kernel
theorem dX12_fitsLoad_177 : decode cX12_fitsLoad 177 = .ok (.iconst 0, 1) := by decide +kernel
theorem dX12_fitsLoad_178 : decode cX12_fitsLoad 178 = .ok (.iconst 2, 1) := by decide +kernel
theorem dX12_fitsLoad_179 : decode cX12_fitsLoad 179 = .ok (.invokestatic 171, 3) := by decide +kernel
theorem dX12_fitsLoad_182 : decode cX12_fitsLoad 182 = .ok (.goto 9, 3) := by decide +kernel
theorem dX12_fitsLoad_185 : decode cX12_fitsLoad 185 = .ok (.aload_n 0, 1) := by decide +kernel
theorem dX12_fitsLoad_186 : decode cX12_fitsLoad 186 = .ok (.iload_n 3, 1) := by decide +kernel
theorem dX12_fitsLoad_187 : decode cX12_fitsLoad 187 = .ok (.iconst 4, 1) := by decide +kernel
theorem dX12_fitsLoad_188 : decode cX12_fitsLoad 188 = .ok (.invokevirtual 175, 3) := by decide +kernel
theorem dX12_fitsLoad_191 : decode cX12_fitsLoad 191 = .ok (.ireturn, 1) := by decide +kernel
theorem dX12_fitsLoad_192 : decode cX12_fitsLoad 192 = .ok (.iload_n 3, 1) := by decide +kernel
theorem dX12_fitsLoad_193 : decode cX12_fitsLoad 193 = .ok (.iconst 1, 1) := by decide +kernel
theorem dX12_fitsLoad_194 : decode cX12_fitsLoad 194 = .ok (.bipush 40, 2) := by decide +kernel
theorem dX12_fitsLoad_196 : decode cX12_fitsLoad 196 = .ok (.invokestatic 171, 3) := by decide +kernel
theorem dX12_fitsLoad_199 : decode cX12_fitsLoad 199 = .ok (.ireturn, 1) := by decide +kernel
theorem dX12_fitsLoad_200 : decode cX12_fitsLoad 200 = .ok (.iload_n 3, 1) := by decide +kernel
theorem dX12_fitsLoad_201 : decode cX12_fitsLoad 201 = .ok (.iconst 0, 1) := by decide +kernel
theorem dX12_fitsLoad_202 : decode cX12_fitsLoad 202 = .ok (.iconst 2, 1) := by decide +kernel
theorem dX12_fitsLoad_203 : decode cX12_fitsLoad 203 = .ok (.invokestatic 171, 3) := by decide +kernel
theorem dX12_fitsLoad_206 : decode cX12_fitsLoad 206 = .ok (.ireturn, 1) := by decide +kernel
def F_X12_fitsLoad (x0 : Nat) (x1 : Int32) (x2 : Int32) (x3 : Int32) (I : MI) (L : ML) (R : MR) : Option (Bool) :=
  if kd x0 = 11 ∧ x0 < NN then
  if x1 = (8 : Int32) then
    if x2 = (1 : Int32) then
      bn1 (F_X12_isNew x0 x3 (-1 : Int32) I L R) fun b6 =>
      some (b6)
    else
      bn1 (F_X12_in x3 (-300 : Int32) (900 : Int32) I L R) fun b4 =>
      some (b4)
  else
    if x1 = (10 : Int32) then
      if x2 = (1 : Int32) then
        bn1 (F_X12_in x3 (1 : Int32) (50 : Int32) I L R) fun b12 =>
        some (b12)
      else
        bn1 (F_X12_in x3 (0 : Int32) (2 : Int32) I L R) fun b10 =>
        some (b10)
    else
      if x1 = (11 : Int32) then
        if x2 = (1 : Int32) then
          bn1 (F_X12_in x3 (1 : Int32) (50 : Int32) I L R) fun b18 =>
          some (b18)
        else
          bn1 (F_X12_in x3 (0 : Int32) (2 : Int32) I L R) fun b16 =>
          some (b16)
      else
        if x1 = (12 : Int32) then
          bn1 (F_X12_in x3 (1 : Int32) (50 : Int32) I L R) fun b21 =>
          some (b21)
        else
          if x1 = (13 : Int32) then
            if x2 = (1 : Int32) then
              bn1 (F_X12_in x3 (1 : Int32) (50 : Int32) I L R) fun b27 =>
              some (b27)
            else
              bn1 (F_X12_isNew x0 x3 (-1 : Int32) I L R) fun b25 =>
              some (b25)
          else
            if x1 = (14 : Int32) then
              if x2 = (1 : Int32) then
                bn1 (F_X12_in x3 (1 : Int32) (50 : Int32) I L R) fun b33 =>
                some (b33)
              else
                bn1 (F_X12_isNew x0 x3 (5 : Int32) I L R) fun b31 =>
                some (b31)
            else
              if x1 = (18 : Int32) then
                if x2 = (1 : Int32) then
                  bn1 (F_X12_in x3 (0 : Int32) (2 : Int32) I L R) fun b39 =>
                  some (b39)
                else
                  bn1 (F_X12_isNew x0 x3 (4 : Int32) I L R) fun b37 =>
                  some (b37)
              else
                if x1 = (19 : Int32) then
                  if x2 = (1 : Int32) then
                    bn1 (F_X12_in x3 (0 : Int32) (2 : Int32) I L R) fun b45 =>
                    some (b45)
                  else
                    bn1 (F_X12_isNew x0 x3 (4 : Int32) I L R) fun b43 =>
                    some (b43)
                else
                  if x1 = (20 : Int32) then
                    bn1 (F_X12_in x3 (1 : Int32) (40 : Int32) I L R) fun b48 =>
                    some (b48)
                  else
                    if x1 = (21 : Int32) then
                      bn1 (F_X12_in x3 (1 : Int32) (40 : Int32) I L R) fun b51 =>
                      some (b51)
                    else
                      bn1 (F_X12_in x3 (0 : Int32) (2 : Int32) I L R) fun b53 =>
                      some (b53)
  else none
set_option maxRecDepth 100000 in
set_option maxHeartbeats 4000000 in
theorem c_X12_fitsLoad (l : Launch) (D : va_G) (cA : Nat → ClassId) (ad : Nat → Nat) (bs : Nat) (X : State → Prop) (hAd : Ax ad bs) (hX : Stb bs X) (x0 : Nat) (x1 : Int32) (x2 : Int32) (x3 : Int32) (I : MI) (L : ML) (R : MR) (r : Bool) (h : F_X12_fitsLoad x0 x1 x2 x3 I L R = some (r)) : Cn l D cA ad bs X yX12_fitsLoad cX12_fitsLoad 4 (some .boolean) 1 22 [.ref (ad x0), .int x1, .int x2, .int x3] I L R (some (.int (b2i r)), I, L, R) := by
  refine Cn.ofV hAd hX [(0, .ref (ad x0)), (1, .int x1), (2, .int x2), (3, .int x3)] rfl (Nat.le_of_ble_eq_true rfl) (by decide) ?_
  intro G el eD ecA ead ebs eX erm eNL C0
  subst el eD ecA ead ebs eX
  unfold F_X12_fitsLoad at h
  obtain ⟨c_x0, h⟩ := ite_some h
  refine V_iload_n C0 1 rfl rfl dX12_fitsLoad_0 ?_
  have nd1 := nd_0 x1
  by_cases c2 : x1 = (8 : Int32)
  · have h := (if_pos c2).symm.trans h
    refine V_tableC C0 (tgt := 72) (v := (8 : Int32)) c2 (by decide) (by decide) dX12_fitsLoad_1 ?_
    refine V_iload_n C0 2 rfl rfl dX12_fitsLoad_72 ?_
    refine V_iconst C0 (v := (1 : Int32)) (by decide) dX12_fitsLoad_73 ?_
    refine V_icmp_ne C0 (tgt := 86) (by decide) dX12_fitsLoad_74 (fun c3 => ?_) (fun c3 => ?_)
    · have h := (if_neg c3).symm.trans h
      refine V_iload_n C0 3 rfl rfl dX12_fitsLoad_86 ?_
      refine V_sipush C0 (v := (-300 : Int32)) (by decide) dX12_fitsLoad_87 ?_
      refine V_sipush C0 (v := (900 : Int32)) (by decide) dX12_fitsLoad_90 ?_
      obtain ⟨b4, q5, h⟩ := bn1_some h
      refine V_callS C0 (st := []) (As := [.int x3, .int (-300 : Int32), .int (900 : Int32)]) (c_X12_in G.l G.D G.cA G.ad G.bs G.X C0.2.2.2.2.2.2.2.2.2.1 C0.2.2.2.2.2.2.2.2.2.2.2.2 x3 (-300 : Int32) (900 : Int32) I L R b4 q5) lc_X12_in lk_X12_171 rfl (by rw [erm]; decide) (Nat.le_of_ble_eq_true rfl) dX12_fitsLoad_93 ?_
      show V G _ 96 [(0, .ref (G.ad x0)), (1, .int x1), (2, .int x2), (3, .int x3)] [.int (b2i b4)] I L R
      cases h
      exact V_zret C0 (b2i01 _) dX12_fitsLoad_96
    · have h := (if_pos c3).symm.trans h
      refine V_aload_n C0 0 rfl rfl dX12_fitsLoad_77 ?_
      refine V_iload_n C0 3 rfl rfl dX12_fitsLoad_78 ?_
      refine V_iconst C0 (v := (-1 : Int32)) (by decide) dX12_fitsLoad_79 ?_
      obtain ⟨b6, q7, h⟩ := bn1_some h
      refine V_callV C0 (st := []) (As := [.int x3, .int (-1 : Int32)]) 11 (c_X12_isNew G.l G.D G.cA G.ad G.bs G.X C0.2.2.2.2.2.2.2.2.2.1 C0.2.2.2.2.2.2.2.2.2.2.2.2 x0 x3 (-1 : Int32) I L R b6 q7) lc_X12_isNew lk_X12_175 c_x0.2 c_x0.1 ⟨_, rfl, rfl⟩ rfl (by rw [erm]; decide) (Nat.le_of_ble_eq_true rfl) dX12_fitsLoad_80 ?_
      show V G _ 83 [(0, .ref (G.ad x0)), (1, .int x1), (2, .int x2), (3, .int x3)] [.int (b2i b6)] I L R
      refine V_goto C0 (tgt := 96) (by decide) dX12_fitsLoad_83 ?_
      cases h
      exact V_zret C0 (b2i01 _) dX12_fitsLoad_96
  · have h := (if_neg c2).symm.trans h
    have nd1 := nd_add nd1 c2
    by_cases c8 : x1 = (10 : Int32)
    · have h := (if_pos c8).symm.trans h
      refine V_tableC C0 (tgt := 97) (v := (10 : Int32)) c8 (by decide) (by decide) dX12_fitsLoad_1 ?_
      refine V_iload_n C0 2 rfl rfl dX12_fitsLoad_97 ?_
      refine V_iconst C0 (v := (1 : Int32)) (by decide) dX12_fitsLoad_98 ?_
      refine V_icmp_ne C0 (tgt := 112) (by decide) dX12_fitsLoad_99 (fun c9 => ?_) (fun c9 => ?_)
      · have h := (if_neg c9).symm.trans h
        refine V_iload_n C0 3 rfl rfl dX12_fitsLoad_112 ?_
        refine V_iconst C0 (v := (0 : Int32)) (by decide) dX12_fitsLoad_113 ?_
        refine V_iconst C0 (v := (2 : Int32)) (by decide) dX12_fitsLoad_114 ?_
        obtain ⟨b10, q11, h⟩ := bn1_some h
        refine V_callS C0 (st := []) (As := [.int x3, .int (0 : Int32), .int (2 : Int32)]) (c_X12_in G.l G.D G.cA G.ad G.bs G.X C0.2.2.2.2.2.2.2.2.2.1 C0.2.2.2.2.2.2.2.2.2.2.2.2 x3 (0 : Int32) (2 : Int32) I L R b10 q11) lc_X12_in lk_X12_171 rfl (by rw [erm]; decide) (Nat.le_of_ble_eq_true rfl) dX12_fitsLoad_115 ?_
        show V G _ 118 [(0, .ref (G.ad x0)), (1, .int x1), (2, .int x2), (3, .int x3)] [.int (b2i b10)] I L R
        cases h
        exact V_zret C0 (b2i01 _) dX12_fitsLoad_118
      · have h := (if_pos c9).symm.trans h
        refine V_iload_n C0 3 rfl rfl dX12_fitsLoad_102 ?_
        refine V_iconst C0 (v := (1 : Int32)) (by decide) dX12_fitsLoad_103 ?_
        refine V_bipush C0 (v := (50 : Int32)) (by decide) dX12_fitsLoad_104 ?_
        obtain ⟨b12, q13, h⟩ := bn1_some h
        refine V_callS C0 (st := []) (As := [.int x3, .int (1 : Int32), .int (50 : Int32)]) (c_X12_in G.l G.D G.cA G.ad G.bs G.X C0.2.2.2.2.2.2.2.2.2.1 C0.2.2.2.2.2.2.2.2.2.2.2.2 x3 (1 : Int32) (50 : Int32) I L R b12 q13) lc_X12_in lk_X12_171 rfl (by rw [erm]; decide) (Nat.le_of_ble_eq_true rfl) dX12_fitsLoad_106 ?_
        show V G _ 109 [(0, .ref (G.ad x0)), (1, .int x1), (2, .int x2), (3, .int x3)] [.int (b2i b12)] I L R
        refine V_goto C0 (tgt := 118) (by decide) dX12_fitsLoad_109 ?_
        cases h
        exact V_zret C0 (b2i01 _) dX12_fitsLoad_118
    · have h := (if_neg c8).symm.trans h
      have nd1 := nd_add nd1 c8
      by_cases c14 : x1 = (11 : Int32)
      · have h := (if_pos c14).symm.trans h
        refine V_tableC C0 (tgt := 97) (v := (11 : Int32)) c14 (by decide) (by decide) dX12_fitsLoad_1 ?_
        refine V_iload_n C0 2 rfl rfl dX12_fitsLoad_97 ?_
        refine V_iconst C0 (v := (1 : Int32)) (by decide) dX12_fitsLoad_98 ?_
        refine V_icmp_ne C0 (tgt := 112) (by decide) dX12_fitsLoad_99 (fun c15 => ?_) (fun c15 => ?_)
        · have h := (if_neg c15).symm.trans h
          refine V_iload_n C0 3 rfl rfl dX12_fitsLoad_112 ?_
          refine V_iconst C0 (v := (0 : Int32)) (by decide) dX12_fitsLoad_113 ?_
          refine V_iconst C0 (v := (2 : Int32)) (by decide) dX12_fitsLoad_114 ?_
          obtain ⟨b16, q17, h⟩ := bn1_some h
          refine V_callS C0 (st := []) (As := [.int x3, .int (0 : Int32), .int (2 : Int32)]) (c_X12_in G.l G.D G.cA G.ad G.bs G.X C0.2.2.2.2.2.2.2.2.2.1 C0.2.2.2.2.2.2.2.2.2.2.2.2 x3 (0 : Int32) (2 : Int32) I L R b16 q17) lc_X12_in lk_X12_171 rfl (by rw [erm]; decide) (Nat.le_of_ble_eq_true rfl) dX12_fitsLoad_115 ?_
          show V G _ 118 [(0, .ref (G.ad x0)), (1, .int x1), (2, .int x2), (3, .int x3)] [.int (b2i b16)] I L R
          cases h
          exact V_zret C0 (b2i01 _) dX12_fitsLoad_118
        · have h := (if_pos c15).symm.trans h
          refine V_iload_n C0 3 rfl rfl dX12_fitsLoad_102 ?_
          refine V_iconst C0 (v := (1 : Int32)) (by decide) dX12_fitsLoad_103 ?_
          refine V_bipush C0 (v := (50 : Int32)) (by decide) dX12_fitsLoad_104 ?_
          obtain ⟨b18, q19, h⟩ := bn1_some h
          refine V_callS C0 (st := []) (As := [.int x3, .int (1 : Int32), .int (50 : Int32)]) (c_X12_in G.l G.D G.cA G.ad G.bs G.X C0.2.2.2.2.2.2.2.2.2.1 C0.2.2.2.2.2.2.2.2.2.2.2.2 x3 (1 : Int32) (50 : Int32) I L R b18 q19) lc_X12_in lk_X12_171 rfl (by rw [erm]; decide) (Nat.le_of_ble_eq_true rfl) dX12_fitsLoad_106 ?_
          show V G _ 109 [(0, .ref (G.ad x0)), (1, .int x1), (2, .int x2), (3, .int x3)] [.int (b2i b18)] I L R
          refine V_goto C0 (tgt := 118) (by decide) dX12_fitsLoad_109 ?_
          cases h
          exact V_zret C0 (b2i01 _) dX12_fitsLoad_118
      · have h := (if_neg c14).symm.trans h
        have nd1 := nd_add nd1 c14
        by_cases c20 : x1 = (12 : Int32)
        · have h := (if_pos c20).symm.trans h
          refine V_tableC C0 (tgt := 119) (v := (12 : Int32)) c20 (by decide) (by decide) dX12_fitsLoad_1 ?_
          refine V_iload_n C0 3 rfl rfl dX12_fitsLoad_119 ?_
          refine V_iconst C0 (v := (1 : Int32)) (by decide) dX12_fitsLoad_120 ?_
          refine V_bipush C0 (v := (50 : Int32)) (by decide) dX12_fitsLoad_121 ?_
          obtain ⟨b21, q22, h⟩ := bn1_some h
          refine V_callS C0 (st := []) (As := [.int x3, .int (1 : Int32), .int (50 : Int32)]) (c_X12_in G.l G.D G.cA G.ad G.bs G.X C0.2.2.2.2.2.2.2.2.2.1 C0.2.2.2.2.2.2.2.2.2.2.2.2 x3 (1 : Int32) (50 : Int32) I L R b21 q22) lc_X12_in lk_X12_171 rfl (by rw [erm]; decide) (Nat.le_of_ble_eq_true rfl) dX12_fitsLoad_123 ?_
          show V G _ 126 [(0, .ref (G.ad x0)), (1, .int x1), (2, .int x2), (3, .int x3)] [.int (b2i b21)] I L R
          cases h
          exact V_zret C0 (b2i01 _) dX12_fitsLoad_126
        · have h := (if_neg c20).symm.trans h
          have nd1 := nd_add nd1 c20
          by_cases c23 : x1 = (13 : Int32)
          · have h := (if_pos c23).symm.trans h
            refine V_tableC C0 (tgt := 127) (v := (13 : Int32)) c23 (by decide) (by decide) dX12_fitsLoad_1 ?_
            refine V_iload_n C0 2 rfl rfl dX12_fitsLoad_127 ?_
            refine V_iconst C0 (v := (1 : Int32)) (by decide) dX12_fitsLoad_128 ?_
            refine V_icmp_ne C0 (tgt := 142) (by decide) dX12_fitsLoad_129 (fun c24 => ?_) (fun c24 => ?_)
            · have h := (if_neg c24).symm.trans h
              refine V_aload_n C0 0 rfl rfl dX12_fitsLoad_142 ?_
              refine V_iload_n C0 3 rfl rfl dX12_fitsLoad_143 ?_
              refine V_iconst C0 (v := (-1 : Int32)) (by decide) dX12_fitsLoad_144 ?_
              obtain ⟨b25, q26, h⟩ := bn1_some h
              refine V_callV C0 (st := []) (As := [.int x3, .int (-1 : Int32)]) 11 (c_X12_isNew G.l G.D G.cA G.ad G.bs G.X C0.2.2.2.2.2.2.2.2.2.1 C0.2.2.2.2.2.2.2.2.2.2.2.2 x0 x3 (-1 : Int32) I L R b25 q26) lc_X12_isNew lk_X12_175 c_x0.2 c_x0.1 ⟨_, rfl, rfl⟩ rfl (by rw [erm]; decide) (Nat.le_of_ble_eq_true rfl) dX12_fitsLoad_145 ?_
              show V G _ 148 [(0, .ref (G.ad x0)), (1, .int x1), (2, .int x2), (3, .int x3)] [.int (b2i b25)] I L R
              cases h
              exact V_zret C0 (b2i01 _) dX12_fitsLoad_148
            · have h := (if_pos c24).symm.trans h
              refine V_iload_n C0 3 rfl rfl dX12_fitsLoad_132 ?_
              refine V_iconst C0 (v := (1 : Int32)) (by decide) dX12_fitsLoad_133 ?_
              refine V_bipush C0 (v := (50 : Int32)) (by decide) dX12_fitsLoad_134 ?_
              obtain ⟨b27, q28, h⟩ := bn1_some h
              refine V_callS C0 (st := []) (As := [.int x3, .int (1 : Int32), .int (50 : Int32)]) (c_X12_in G.l G.D G.cA G.ad G.bs G.X C0.2.2.2.2.2.2.2.2.2.1 C0.2.2.2.2.2.2.2.2.2.2.2.2 x3 (1 : Int32) (50 : Int32) I L R b27 q28) lc_X12_in lk_X12_171 rfl (by rw [erm]; decide) (Nat.le_of_ble_eq_true rfl) dX12_fitsLoad_136 ?_
              show V G _ 139 [(0, .ref (G.ad x0)), (1, .int x1), (2, .int x2), (3, .int x3)] [.int (b2i b27)] I L R
              refine V_goto C0 (tgt := 148) (by decide) dX12_fitsLoad_139 ?_
              cases h
              exact V_zret C0 (b2i01 _) dX12_fitsLoad_148
          · have h := (if_neg c23).symm.trans h
            have nd1 := nd_add nd1 c23
            by_cases c29 : x1 = (14 : Int32)
            · have h := (if_pos c29).symm.trans h
              refine V_tableC C0 (tgt := 149) (v := (14 : Int32)) c29 (by decide) (by decide) dX12_fitsLoad_1 ?_
              refine V_iload_n C0 2 rfl rfl dX12_fitsLoad_149 ?_
              refine V_iconst C0 (v := (1 : Int32)) (by decide) dX12_fitsLoad_150 ?_
              refine V_icmp_ne C0 (tgt := 164) (by decide) dX12_fitsLoad_151 (fun c30 => ?_) (fun c30 => ?_)
              · have h := (if_neg c30).symm.trans h
                refine V_aload_n C0 0 rfl rfl dX12_fitsLoad_164 ?_
                refine V_iload_n C0 3 rfl rfl dX12_fitsLoad_165 ?_
                refine V_iconst C0 (v := (5 : Int32)) (by decide) dX12_fitsLoad_166 ?_
                obtain ⟨b31, q32, h⟩ := bn1_some h
                refine V_callV C0 (st := []) (As := [.int x3, .int (5 : Int32)]) 11 (c_X12_isNew G.l G.D G.cA G.ad G.bs G.X C0.2.2.2.2.2.2.2.2.2.1 C0.2.2.2.2.2.2.2.2.2.2.2.2 x0 x3 (5 : Int32) I L R b31 q32) lc_X12_isNew lk_X12_175 c_x0.2 c_x0.1 ⟨_, rfl, rfl⟩ rfl (by rw [erm]; decide) (Nat.le_of_ble_eq_true rfl) dX12_fitsLoad_167 ?_
                show V G _ 170 [(0, .ref (G.ad x0)), (1, .int x1), (2, .int x2), (3, .int x3)] [.int (b2i b31)] I L R
                cases h
                exact V_zret C0 (b2i01 _) dX12_fitsLoad_170
              · have h := (if_pos c30).symm.trans h
                refine V_iload_n C0 3 rfl rfl dX12_fitsLoad_154 ?_
                refine V_iconst C0 (v := (1 : Int32)) (by decide) dX12_fitsLoad_155 ?_
                refine V_bipush C0 (v := (50 : Int32)) (by decide) dX12_fitsLoad_156 ?_
                obtain ⟨b33, q34, h⟩ := bn1_some h
                refine V_callS C0 (st := []) (As := [.int x3, .int (1 : Int32), .int (50 : Int32)]) (c_X12_in G.l G.D G.cA G.ad G.bs G.X C0.2.2.2.2.2.2.2.2.2.1 C0.2.2.2.2.2.2.2.2.2.2.2.2 x3 (1 : Int32) (50 : Int32) I L R b33 q34) lc_X12_in lk_X12_171 rfl (by rw [erm]; decide) (Nat.le_of_ble_eq_true rfl) dX12_fitsLoad_158 ?_
                show V G _ 161 [(0, .ref (G.ad x0)), (1, .int x1), (2, .int x2), (3, .int x3)] [.int (b2i b33)] I L R
                refine V_goto C0 (tgt := 170) (by decide) dX12_fitsLoad_161 ?_
                cases h
                exact V_zret C0 (b2i01 _) dX12_fitsLoad_170
            · have h := (if_neg c29).symm.trans h
              have nd1 := nd_add nd1 c29
              by_cases c35 : x1 = (18 : Int32)
              · have h := (if_pos c35).symm.trans h
                refine V_tableC C0 (tgt := 171) (v := (18 : Int32)) c35 (by decide) (by decide) dX12_fitsLoad_1 ?_
                refine V_iload_n C0 2 rfl rfl dX12_fitsLoad_171 ?_
                refine V_iconst C0 (v := (1 : Int32)) (by decide) dX12_fitsLoad_172 ?_
                refine V_icmp_ne C0 (tgt := 185) (by decide) dX12_fitsLoad_173 (fun c36 => ?_) (fun c36 => ?_)
                · have h := (if_neg c36).symm.trans h
                  refine V_aload_n C0 0 rfl rfl dX12_fitsLoad_185 ?_
                  refine V_iload_n C0 3 rfl rfl dX12_fitsLoad_186 ?_
                  refine V_iconst C0 (v := (4 : Int32)) (by decide) dX12_fitsLoad_187 ?_
                  obtain ⟨b37, q38, h⟩ := bn1_some h
                  refine V_callV C0 (st := []) (As := [.int x3, .int (4 : Int32)]) 11 (c_X12_isNew G.l G.D G.cA G.ad G.bs G.X C0.2.2.2.2.2.2.2.2.2.1 C0.2.2.2.2.2.2.2.2.2.2.2.2 x0 x3 (4 : Int32) I L R b37 q38) lc_X12_isNew lk_X12_175 c_x0.2 c_x0.1 ⟨_, rfl, rfl⟩ rfl (by rw [erm]; decide) (Nat.le_of_ble_eq_true rfl) dX12_fitsLoad_188 ?_
                  show V G _ 191 [(0, .ref (G.ad x0)), (1, .int x1), (2, .int x2), (3, .int x3)] [.int (b2i b37)] I L R
                  cases h
                  exact V_zret C0 (b2i01 _) dX12_fitsLoad_191
                · have h := (if_pos c36).symm.trans h
                  refine V_iload_n C0 3 rfl rfl dX12_fitsLoad_176 ?_
                  refine V_iconst C0 (v := (0 : Int32)) (by decide) dX12_fitsLoad_177 ?_
                  refine V_iconst C0 (v := (2 : Int32)) (by decide) dX12_fitsLoad_178 ?_
                  obtain ⟨b39, q40, h⟩ := bn1_some h
                  refine V_callS C0 (st := []) (As := [.int x3, .int (0 : Int32), .int (2 : Int32)]) (c_X12_in G.l G.D G.cA G.ad G.bs G.X C0.2.2.2.2.2.2.2.2.2.1 C0.2.2.2.2.2.2.2.2.2.2.2.2 x3 (0 : Int32) (2 : Int32) I L R b39 q40) lc_X12_in lk_X12_171 rfl (by rw [erm]; decide) (Nat.le_of_ble_eq_true rfl) dX12_fitsLoad_179 ?_
                  show V G _ 182 [(0, .ref (G.ad x0)), (1, .int x1), (2, .int x2), (3, .int x3)] [.int (b2i b39)] I L R
                  refine V_goto C0 (tgt := 191) (by decide) dX12_fitsLoad_182 ?_
                  cases h
                  exact V_zret C0 (b2i01 _) dX12_fitsLoad_191
              · have h := (if_neg c35).symm.trans h
                have nd1 := nd_add nd1 c35
                by_cases c41 : x1 = (19 : Int32)
                · have h := (if_pos c41).symm.trans h
                  refine V_tableC C0 (tgt := 171) (v := (19 : Int32)) c41 (by decide) (by decide) dX12_fitsLoad_1 ?_
                  refine V_iload_n C0 2 rfl rfl dX12_fitsLoad_171 ?_
                  refine V_iconst C0 (v := (1 : Int32)) (by decide) dX12_fitsLoad_172 ?_
                  refine V_icmp_ne C0 (tgt := 185) (by decide) dX12_fitsLoad_173 (fun c42 => ?_) (fun c42 => ?_)
                  · have h := (if_neg c42).symm.trans h
                    refine V_aload_n C0 0 rfl rfl dX12_fitsLoad_185 ?_
                    refine V_iload_n C0 3 rfl rfl dX12_fitsLoad_186 ?_
                    refine V_iconst C0 (v := (4 : Int32)) (by decide) dX12_fitsLoad_187 ?_
                    obtain ⟨b43, q44, h⟩ := bn1_some h
                    refine V_callV C0 (st := []) (As := [.int x3, .int (4 : Int32)]) 11 (c_X12_isNew G.l G.D G.cA G.ad G.bs G.X C0.2.2.2.2.2.2.2.2.2.1 C0.2.2.2.2.2.2.2.2.2.2.2.2 x0 x3 (4 : Int32) I L R b43 q44) lc_X12_isNew lk_X12_175 c_x0.2 c_x0.1 ⟨_, rfl, rfl⟩ rfl (by rw [erm]; decide) (Nat.le_of_ble_eq_true rfl) dX12_fitsLoad_188 ?_
                    show V G _ 191 [(0, .ref (G.ad x0)), (1, .int x1), (2, .int x2), (3, .int x3)] [.int (b2i b43)] I L R
                    cases h
                    exact V_zret C0 (b2i01 _) dX12_fitsLoad_191
                  · have h := (if_pos c42).symm.trans h
                    refine V_iload_n C0 3 rfl rfl dX12_fitsLoad_176 ?_
                    refine V_iconst C0 (v := (0 : Int32)) (by decide) dX12_fitsLoad_177 ?_
                    refine V_iconst C0 (v := (2 : Int32)) (by decide) dX12_fitsLoad_178 ?_
                    obtain ⟨b45, q46, h⟩ := bn1_some h
                    refine V_callS C0 (st := []) (As := [.int x3, .int (0 : Int32), .int (2 : Int32)]) (c_X12_in G.l G.D G.cA G.ad G.bs G.X C0.2.2.2.2.2.2.2.2.2.1 C0.2.2.2.2.2.2.2.2.2.2.2.2 x3 (0 : Int32) (2 : Int32) I L R b45 q46) lc_X12_in lk_X12_171 rfl (by rw [erm]; decide) (Nat.le_of_ble_eq_true rfl) dX12_fitsLoad_179 ?_
                    show V G _ 182 [(0, .ref (G.ad x0)), (1, .int x1), (2, .int x2), (3, .int x3)] [.int (b2i b45)] I L R
                    refine V_goto C0 (tgt := 191) (by decide) dX12_fitsLoad_182 ?_
                    cases h
                    exact V_zret C0 (b2i01 _) dX12_fitsLoad_191
                · have h := (if_neg c41).symm.trans h
                  have nd1 := nd_add nd1 c41
                  by_cases c47 : x1 = (20 : Int32)
                  · have h := (if_pos c47).symm.trans h
                    refine V_tableC C0 (tgt := 192) (v := (20 : Int32)) c47 (by decide) (by decide) dX12_fitsLoad_1 ?_
                    refine V_iload_n C0 3 rfl rfl dX12_fitsLoad_192 ?_
                    refine V_iconst C0 (v := (1 : Int32)) (by decide) dX12_fitsLoad_193 ?_
                    refine V_bipush C0 (v := (40 : Int32)) (by decide) dX12_fitsLoad_194 ?_
                    obtain ⟨b48, q49, h⟩ := bn1_some h
                    refine V_callS C0 (st := []) (As := [.int x3, .int (1 : Int32), .int (40 : Int32)]) (c_X12_in G.l G.D G.cA G.ad G.bs G.X C0.2.2.2.2.2.2.2.2.2.1 C0.2.2.2.2.2.2.2.2.2.2.2.2 x3 (1 : Int32) (40 : Int32) I L R b48 q49) lc_X12_in lk_X12_171 rfl (by rw [erm]; decide) (Nat.le_of_ble_eq_true rfl) dX12_fitsLoad_196 ?_
                    show V G _ 199 [(0, .ref (G.ad x0)), (1, .int x1), (2, .int x2), (3, .int x3)] [.int (b2i b48)] I L R
                    cases h
                    exact V_zret C0 (b2i01 _) dX12_fitsLoad_199
                  · have h := (if_neg c47).symm.trans h
                    have nd1 := nd_add nd1 c47
                    by_cases c50 : x1 = (21 : Int32)
                    · have h := (if_pos c50).symm.trans h
                      refine V_tableC C0 (tgt := 192) (v := (21 : Int32)) c50 (by decide) (by decide) dX12_fitsLoad_1 ?_
                      refine V_iload_n C0 3 rfl rfl dX12_fitsLoad_192 ?_
                      refine V_iconst C0 (v := (1 : Int32)) (by decide) dX12_fitsLoad_193 ?_
                      refine V_bipush C0 (v := (40 : Int32)) (by decide) dX12_fitsLoad_194 ?_
                      obtain ⟨b51, q52, h⟩ := bn1_some h
                      refine V_callS C0 (st := []) (As := [.int x3, .int (1 : Int32), .int (40 : Int32)]) (c_X12_in G.l G.D G.cA G.ad G.bs G.X C0.2.2.2.2.2.2.2.2.2.1 C0.2.2.2.2.2.2.2.2.2.2.2.2 x3 (1 : Int32) (40 : Int32) I L R b51 q52) lc_X12_in lk_X12_171 rfl (by rw [erm]; decide) (Nat.le_of_ble_eq_true rfl) dX12_fitsLoad_196 ?_
                      show V G _ 199 [(0, .ref (G.ad x0)), (1, .int x1), (2, .int x2), (3, .int x3)] [.int (b2i b51)] I L R
                      cases h
                      exact V_zret C0 (b2i01 _) dX12_fitsLoad_199
                    · have h := (if_neg c50).symm.trans h
                      have nd1 := nd_add nd1 c50
                      refine V_tableN C0 (tgt := 200) nd1 (by decide) (by decide) dX12_fitsLoad_1 ?_
                      refine V_iload_n C0 3 rfl rfl dX12_fitsLoad_200 ?_
                      refine V_iconst C0 (v := (0 : Int32)) (by decide) dX12_fitsLoad_201 ?_
                      refine V_iconst C0 (v := (2 : Int32)) (by decide) dX12_fitsLoad_202 ?_
                      obtain ⟨b53, q54, h⟩ := bn1_some h
                      refine V_callS C0 (st := []) (As := [.int x3, .int (0 : Int32), .int (2 : Int32)]) (c_X12_in G.l G.D G.cA G.ad G.bs G.X C0.2.2.2.2.2.2.2.2.2.1 C0.2.2.2.2.2.2.2.2.2.2.2.2 x3 (0 : Int32) (2 : Int32) I L R b53 q54) lc_X12_in lk_X12_171 rfl (by rw [erm]; decide) (Nat.le_of_ble_eq_true rfl) dX12_fitsLoad_203 ?_
                      show V G _ 206 [(0, .ref (G.ad x0)), (1, .int x1), (2, .int x2), (3, .int x3)] [.int (b2i b53)] I L R
                      cases h
                      exact V_zret C0 (b2i01 _) dX12_fitsLoad_206
theorem dX12_fits_0 : decode cX12_fits 0 = .ok (.iload_n 1, 1) := by decide +kernel
theorem dX12_fits_1 : decode cX12_fits 1 = .ok (.tableswitch 233 2 28 #[123, 132, 123, 150, 233, 233, 233, 233, 233, 233, 233, 233, 233, 233, 233, 233, 233, 233, 233, 233, 233, 160, 160, 182, 233, 204, 211], 123) := by decide +kernel
theorem dX12_fits_124 : decode cX12_fits 124 = .ok (.iload_n 3, 1) := by decide +kernel
theorem dX12_fits_125 : decode cX12_fits 125 = .ok (.iconst 1, 1) := by decide +kernel
theorem dX12_fits_126 : decode cX12_fits 126 = .ok (.sipush 2000, 3) := by decide +kernel
theorem dX12_fits_129 : decode cX12_fits 129 = .ok (.invokestatic 171, 3) := by decide +kernel
theorem dX12_fits_132 : decode cX12_fits 132 = .ok (.ireturn, 1) := by decide +kernel
theorem dX12_fits_133 : decode cX12_fits 133 = .ok (.iload_n 3, 1) := by decide +kernel
theorem dX12_fits_134 : decode cX12_fits 134 = .ok (.iconst 1, 1) := by decide +kernel
theorem dX12_fits_135 : decode cX12_fits 135 = .ok (.iload_n 2, 1) := by decide +kernel
theorem dX12_fits_136 : decode cX12_fits 136 = .ok (.ifCond .ne 9, 3) := by decide +kernel
theorem dX12_fits_139 : decode cX12_fits 139 = .ok (.sipush 2000, 3) := by decide +kernel
theorem dX12_fits_142 : decode cX12_fits 142 = .ok (.goto 5, 3) := by decide +kernel
theorem dX12_fits_145 : decode cX12_fits 145 = .ok (.bipush 8, 2) := by decide +kernel
theorem dX12_fits_147 : decode cX12_fits 147 = .ok (.invokestatic 171, 3) := by decide +kernel
theorem dX12_fits_150 : decode cX12_fits 150 = .ok (.ireturn, 1) := by decide +kernel
theorem dX12_fits_151 : decode cX12_fits 151 = .ok (.iload_n 3, 1) := by decide +kernel
theorem dX12_fits_152 : decode cX12_fits 152 = .ok (.bipush 20, 2) := by decide +kernel
theorem dX12_fits_154 : decode cX12_fits 154 = .ok (.sipush 2000, 3) := by decide +kernel
theorem dX12_fits_157 : decode cX12_fits 157 = .ok (.invokestatic 171, 3) := by decide +kernel
theorem dX12_fits_160 : decode cX12_fits 160 = .ok (.ireturn, 1) := by decide +kernel
theorem dX12_fits_161 : decode cX12_fits 161 = .ok (.iload_n 2, 1) := by decide +kernel
theorem dX12_fits_162 : decode cX12_fits 162 = .ok (.ifCond .ne 14, 3) := by decide +kernel
theorem dX12_fits_165 : decode cX12_fits 165 = .ok (.iload_n 3, 1) := by decide +kernel
theorem dX12_fits_166 : decode cX12_fits 166 = .ok (.iconst 1, 1) := by decide +kernel
theorem dX12_fits_167 : decode cX12_fits 167 = .ok (.sipush 200, 3) := by decide +kernel
theorem dX12_fits_170 : decode cX12_fits 170 = .ok (.invokestatic 171, 3) := by decide +kernel
theorem dX12_fits_173 : decode cX12_fits 173 = .ok (.goto 9, 3) := by decide +kernel
theorem dX12_fits_176 : decode cX12_fits 176 = .ok (.iload_n 3, 1) := by decide +kernel
theorem dX12_fits_177 : decode cX12_fits 177 = .ok (.iconst 0, 1) := by decide +kernel
theorem dX12_fits_178 : decode cX12_fits 178 = .ok (.iconst 3, 1) := by decide +kernel
theorem dX12_fits_179 : decode cX12_fits 179 = .ok (.invokestatic 171, 3) := by decide +kernel
theorem dX12_fits_182 : decode cX12_fits 182 = .ok (.ireturn, 1) := by decide +kernel
theorem dX12_fits_183 : decode cX12_fits 183 = .ok (.iload_n 2, 1) := by decide +kernel
theorem dX12_fits_184 : decode cX12_fits 184 = .ok (.ifCond .ne 14, 3) := by decide +kernel
theorem dX12_fits_187 : decode cX12_fits 187 = .ok (.iload_n 3, 1) := by decide +kernel
theorem dX12_fits_188 : decode cX12_fits 188 = .ok (.iconst 1, 1) := by decide +kernel
theorem dX12_fits_189 : decode cX12_fits 189 = .ok (.sipush 200, 3) := by decide +kernel
theorem dX12_fits_192 : decode cX12_fits 192 = .ok (.invokestatic 171, 3) := by decide +kernel
theorem dX12_fits_195 : decode cX12_fits 195 = .ok (.goto 9, 3) := by decide +kernel
theorem dX12_fits_198 : decode cX12_fits 198 = .ok (.aload_n 0, 1) := by decide +kernel
theorem dX12_fits_199 : decode cX12_fits 199 = .ok (.iload_n 3, 1) := by decide +kernel
theorem dX12_fits_200 : decode cX12_fits 200 = .ok (.iconst 4, 1) := by decide +kernel
theorem dX12_fits_201 : decode cX12_fits 201 = .ok (.invokevirtual 175, 3) := by decide +kernel
theorem dX12_fits_204 : decode cX12_fits 204 = .ok (.ireturn, 1) := by decide +kernel
theorem dX12_fits_205 : decode cX12_fits 205 = .ok (.aload_n 0, 1) := by decide +kernel
theorem dX12_fits_206 : decode cX12_fits 206 = .ok (.iload_n 3, 1) := by decide +kernel
theorem dX12_fits_207 : decode cX12_fits 207 = .ok (.iconst (-1), 1) := by decide +kernel
theorem dX12_fits_208 : decode cX12_fits 208 = .ok (.invokevirtual 175, 3) := by decide +kernel
theorem dX12_fits_211 : decode cX12_fits 211 = .ok (.ireturn, 1) := by decide +kernel
theorem dX12_fits_212 : decode cX12_fits 212 = .ok (.iload_n 2, 1) := by decide +kernel
theorem dX12_fits_213 : decode cX12_fits 213 = .ok (.iconst 2, 1) := by decide +kernel
theorem dX12_fits_214 : decode cX12_fits 214 = .ok (.if_icmp .ne 13, 3) := by decide +kernel
theorem dX12_fits_217 : decode cX12_fits 217 = .ok (.iload_n 3, 1) := by decide +kernel
theorem dX12_fits_218 : decode cX12_fits 218 = .ok (.iconst 1, 1) := by decide +kernel
theorem dX12_fits_219 : decode cX12_fits 219 = .ok (.bipush 9, 2) := by decide +kernel
theorem dX12_fits_221 : decode cX12_fits 221 = .ok (.invokestatic 171, 3) := by decide +kernel
theorem dX12_fits_224 : decode cX12_fits 224 = .ok (.goto 9, 3) := by decide +kernel
theorem dX12_fits_227 : decode cX12_fits 227 = .ok (.aload_n 0, 1) := by decide +kernel
theorem dX12_fits_228 : decode cX12_fits 228 = .ok (.iload_n 3, 1) := by decide +kernel
theorem dX12_fits_229 : decode cX12_fits 229 = .ok (.iconst 4, 1) := by decide +kernel
theorem dX12_fits_230 : decode cX12_fits 230 = .ok (.invokevirtual 175, 3) := by decide +kernel
theorem dX12_fits_233 : decode cX12_fits 233 = .ok (.ireturn, 1) := by decide +kernel
theorem dX12_fits_234 : decode cX12_fits 234 = .ok (.iload_n 2, 1) := by decide +kernel
theorem dX12_fits_235 : decode cX12_fits 235 = .ok (.ifCond .ne 13, 3) := by decide +kernel
theorem dX12_fits_238 : decode cX12_fits 238 = .ok (.iload_n 3, 1) := by decide +kernel
theorem dX12_fits_239 : decode cX12_fits 239 = .ok (.iconst 1, 1) := by decide +kernel
theorem dX12_fits_240 : decode cX12_fits 240 = .ok (.bipush 50, 2) := by decide +kernel
theorem dX12_fits_242 : decode cX12_fits 242 = .ok (.invokestatic 171, 3) := by decide +kernel
theorem dX12_fits_245 : decode cX12_fits 245 = .ok (.goto 10, 3) := by decide +kernel
theorem dX12_fits_248 : decode cX12_fits 248 = .ok (.aload_n 0, 1) := by decide +kernel
theorem dX12_fits_249 : decode cX12_fits 249 = .ok (.iload_n 1, 1) := by decide +kernel
theorem dX12_fits_250 : decode cX12_fits 250 = .ok (.iload_n 2, 1) := by decide +kernel
theorem dX12_fits_251 : decode cX12_fits 251 = .ok (.iload_n 3, 1) := by decide +kernel
theorem dX12_fits_252 : decode cX12_fits 252 = .ok (.invokevirtual 179, 3) := by decide +kernel
theorem dX12_fits_255 : decode cX12_fits 255 = .ok (.ireturn, 1) := by decide +kernel
def F_X12_fits (x0 : Nat) (x1 : Int32) (x2 : Int32) (x3 : Int32) (I : MI) (L : ML) (R : MR) : Option (Bool) :=
  if kd x0 = 11 ∧ x0 < NN then
  if x1 = (2 : Int32) then
    bn1 (F_X12_in x3 (1 : Int32) (2000 : Int32) I L R) fun b3 =>
    some (b3)
  else
    if x1 = (3 : Int32) then
      bn1 (
        if x2 = 0 then
          some ((2000 : Int32))
        else
          some ((8 : Int32))
      ) fun (s6 : Int32) =>
      bn1 (F_X12_in x3 (1 : Int32) s6 I L R) fun b10 =>
      some (b10)
    else
      if x1 = (4 : Int32) then
        bn1 (F_X12_in x3 (1 : Int32) (2000 : Int32) I L R) fun b13 =>
        some (b13)
      else
        if x1 = (5 : Int32) then
          bn1 (F_X12_in x3 (20 : Int32) (2000 : Int32) I L R) fun b16 =>
          some (b16)
        else
          if x1 = (23 : Int32) then
            if x2 = 0 then
              bn1 (F_X12_in x3 (1 : Int32) (200 : Int32) I L R) fun b22 =>
              some (b22)
            else
              bn1 (F_X12_in x3 (0 : Int32) (3 : Int32) I L R) fun b20 =>
              some (b20)
          else
            if x1 = (24 : Int32) then
              if x2 = 0 then
                bn1 (F_X12_in x3 (1 : Int32) (200 : Int32) I L R) fun b28 =>
                some (b28)
              else
                bn1 (F_X12_in x3 (0 : Int32) (3 : Int32) I L R) fun b26 =>
                some (b26)
            else
              if x1 = (25 : Int32) then
                if x2 = 0 then
                  bn1 (F_X12_in x3 (1 : Int32) (200 : Int32) I L R) fun b34 =>
                  some (b34)
                else
                  bn1 (F_X12_isNew x0 x3 (4 : Int32) I L R) fun b32 =>
                  some (b32)
              else
                if x1 = (27 : Int32) then
                  bn1 (F_X12_isNew x0 x3 (-1 : Int32) I L R) fun b37 =>
                  some (b37)
                else
                  if x1 = (28 : Int32) then
                    if x2 = (2 : Int32) then
                      bn1 (F_X12_in x3 (1 : Int32) (9 : Int32) I L R) fun b43 =>
                      some (b43)
                    else
                      bn1 (F_X12_isNew x0 x3 (4 : Int32) I L R) fun b41 =>
                      some (b41)
                  else
                    if x2 = 0 then
                      bn1 (F_X12_in x3 (1 : Int32) (50 : Int32) I L R) fun b48 =>
                      some (b48)
                    else
                      bn1 (F_X12_fitsLoad x0 x1 x2 x3 I L R) fun b46 =>
                      some (b46)
  else none
set_option maxRecDepth 100000 in
set_option maxHeartbeats 4000000 in
theorem c_X12_fits (l : Launch) (D : va_G) (cA : Nat → ClassId) (ad : Nat → Nat) (bs : Nat) (X : State → Prop) (hAd : Ax ad bs) (hX : Stb bs X) (x0 : Nat) (x1 : Int32) (x2 : Int32) (x3 : Int32) (I : MI) (L : ML) (R : MR) (r : Bool) (h : F_X12_fits x0 x1 x2 x3 I L R = some (r)) : Cn l D cA ad bs X yX12_fits cX12_fits 4 (some .boolean) 2 45 [.ref (ad x0), .int x1, .int x2, .int x3] I L R (some (.int (b2i r)), I, L, R) := by
  refine Cn.ofV hAd hX [(0, .ref (ad x0)), (1, .int x1), (2, .int x2), (3, .int x3)] rfl (Nat.le_of_ble_eq_true rfl) (by decide) ?_
  intro G el eD ecA ead ebs eX erm eNL C0
  subst el eD ecA ead ebs eX
  unfold F_X12_fits at h
  obtain ⟨c_x0, h⟩ := ite_some h
  refine V_iload_n C0 1 rfl rfl dX12_fits_0 ?_
  have nd1 := nd_0 x1
  by_cases c2 : x1 = (2 : Int32)
  · have h := (if_pos c2).symm.trans h
    refine V_tableC C0 (tgt := 124) (v := (2 : Int32)) c2 (by decide) (by decide) dX12_fits_1 ?_
    refine V_iload_n C0 3 rfl rfl dX12_fits_124 ?_
    refine V_iconst C0 (v := (1 : Int32)) (by decide) dX12_fits_125 ?_
    refine V_sipush C0 (v := (2000 : Int32)) (by decide) dX12_fits_126 ?_
    obtain ⟨b3, q4, h⟩ := bn1_some h
    refine V_callS C0 (st := []) (As := [.int x3, .int (1 : Int32), .int (2000 : Int32)]) (c_X12_in G.l G.D G.cA G.ad G.bs G.X C0.2.2.2.2.2.2.2.2.2.1 C0.2.2.2.2.2.2.2.2.2.2.2.2 x3 (1 : Int32) (2000 : Int32) I L R b3 q4) lc_X12_in lk_X12_171 rfl (by rw [erm]; decide) (Nat.le_of_ble_eq_true rfl) dX12_fits_129 ?_
    show V G _ 132 [(0, .ref (G.ad x0)), (1, .int x1), (2, .int x2), (3, .int x3)] [.int (b2i b3)] I L R
    cases h
    exact V_zret C0 (b2i01 _) dX12_fits_132
  · have h := (if_neg c2).symm.trans h
    have nd1 := nd_add nd1 c2
    by_cases c5 : x1 = (3 : Int32)
    · have h := (if_pos c5).symm.trans h
      refine V_tableC C0 (tgt := 133) (v := (3 : Int32)) c5 (by decide) (by decide) dX12_fits_1 ?_
      refine V_iload_n C0 3 rfl rfl dX12_fits_133 ?_
      refine V_iconst C0 (v := (1 : Int32)) (by decide) dX12_fits_134 ?_
      refine V_iload_n C0 2 rfl rfl dX12_fits_135 ?_
      obtain ⟨s6, q7, h⟩ := bn1_some h
      have k8 : V G (qf G (some (.int (b2i r)), I, L, R)) 147 [] [.int s6, .int (1 : Int32), .int x3] I L R := by
        obtain ⟨b10, q11, h⟩ := bn1_some h
        refine V_callS C0 (st := []) (As := [.int x3, .int (1 : Int32), .int s6]) (c_X12_in G.l G.D G.cA G.ad G.bs G.X C0.2.2.2.2.2.2.2.2.2.1 C0.2.2.2.2.2.2.2.2.2.2.2.2 x3 (1 : Int32) s6 I L R b10 q11) lc_X12_in lk_X12_171 rfl (by rw [erm]; decide) (Nat.le_of_ble_eq_true rfl) dX12_fits_147 ?_
        show V G _ 150 [] [.int (b2i b10)] I L R
        cases h
        exact V_zret C0 (b2i01 _) dX12_fits_150
      refine V_if_ne C0 (tgt := 145) (by decide) dX12_fits_136 (fun c9 => ?_) (fun c9 => ?_)
      · have q7 := (if_neg c9).symm.trans q7
        refine V_bipush C0 (v := (8 : Int32)) (by decide) dX12_fits_145 ?_
        cases q7
        exact V_sub [] rfl k8
      · have q7 := (if_pos c9).symm.trans q7
        refine V_sipush C0 (v := (2000 : Int32)) (by decide) dX12_fits_139 ?_
        refine V_goto C0 (tgt := 147) (by decide) dX12_fits_142 ?_
        cases q7
        exact V_sub [] rfl k8
    · have h := (if_neg c5).symm.trans h
      have nd1 := nd_add nd1 c5
      by_cases c12 : x1 = (4 : Int32)
      · have h := (if_pos c12).symm.trans h
        refine V_tableC C0 (tgt := 124) (v := (4 : Int32)) c12 (by decide) (by decide) dX12_fits_1 ?_
        refine V_iload_n C0 3 rfl rfl dX12_fits_124 ?_
        refine V_iconst C0 (v := (1 : Int32)) (by decide) dX12_fits_125 ?_
        refine V_sipush C0 (v := (2000 : Int32)) (by decide) dX12_fits_126 ?_
        obtain ⟨b13, q14, h⟩ := bn1_some h
        refine V_callS C0 (st := []) (As := [.int x3, .int (1 : Int32), .int (2000 : Int32)]) (c_X12_in G.l G.D G.cA G.ad G.bs G.X C0.2.2.2.2.2.2.2.2.2.1 C0.2.2.2.2.2.2.2.2.2.2.2.2 x3 (1 : Int32) (2000 : Int32) I L R b13 q14) lc_X12_in lk_X12_171 rfl (by rw [erm]; decide) (Nat.le_of_ble_eq_true rfl) dX12_fits_129 ?_
        show V G _ 132 [(0, .ref (G.ad x0)), (1, .int x1), (2, .int x2), (3, .int x3)] [.int (b2i b13)] I L R
        cases h
        exact V_zret C0 (b2i01 _) dX12_fits_132
      · have h := (if_neg c12).symm.trans h
        have nd1 := nd_add nd1 c12
        by_cases c15 : x1 = (5 : Int32)
        · have h := (if_pos c15).symm.trans h
          refine V_tableC C0 (tgt := 151) (v := (5 : Int32)) c15 (by decide) (by decide) dX12_fits_1 ?_
          refine V_iload_n C0 3 rfl rfl dX12_fits_151 ?_
          refine V_bipush C0 (v := (20 : Int32)) (by decide) dX12_fits_152 ?_
          refine V_sipush C0 (v := (2000 : Int32)) (by decide) dX12_fits_154 ?_
          obtain ⟨b16, q17, h⟩ := bn1_some h
          refine V_callS C0 (st := []) (As := [.int x3, .int (20 : Int32), .int (2000 : Int32)]) (c_X12_in G.l G.D G.cA G.ad G.bs G.X C0.2.2.2.2.2.2.2.2.2.1 C0.2.2.2.2.2.2.2.2.2.2.2.2 x3 (20 : Int32) (2000 : Int32) I L R b16 q17) lc_X12_in lk_X12_171 rfl (by rw [erm]; decide) (Nat.le_of_ble_eq_true rfl) dX12_fits_157 ?_
          show V G _ 160 [(0, .ref (G.ad x0)), (1, .int x1), (2, .int x2), (3, .int x3)] [.int (b2i b16)] I L R
          cases h
          exact V_zret C0 (b2i01 _) dX12_fits_160
        · have h := (if_neg c15).symm.trans h
          have nd1 := nd_add nd1 c15
          by_cases c18 : x1 = (23 : Int32)
          · have h := (if_pos c18).symm.trans h
            refine V_tableC C0 (tgt := 161) (v := (23 : Int32)) c18 (by decide) (by decide) dX12_fits_1 ?_
            refine V_iload_n C0 2 rfl rfl dX12_fits_161 ?_
            refine V_if_ne C0 (tgt := 176) (by decide) dX12_fits_162 (fun c19 => ?_) (fun c19 => ?_)
            · have h := (if_neg c19).symm.trans h
              refine V_iload_n C0 3 rfl rfl dX12_fits_176 ?_
              refine V_iconst C0 (v := (0 : Int32)) (by decide) dX12_fits_177 ?_
              refine V_iconst C0 (v := (3 : Int32)) (by decide) dX12_fits_178 ?_
              obtain ⟨b20, q21, h⟩ := bn1_some h
              refine V_callS C0 (st := []) (As := [.int x3, .int (0 : Int32), .int (3 : Int32)]) (c_X12_in G.l G.D G.cA G.ad G.bs G.X C0.2.2.2.2.2.2.2.2.2.1 C0.2.2.2.2.2.2.2.2.2.2.2.2 x3 (0 : Int32) (3 : Int32) I L R b20 q21) lc_X12_in lk_X12_171 rfl (by rw [erm]; decide) (Nat.le_of_ble_eq_true rfl) dX12_fits_179 ?_
              show V G _ 182 [(0, .ref (G.ad x0)), (1, .int x1), (2, .int x2), (3, .int x3)] [.int (b2i b20)] I L R
              cases h
              exact V_zret C0 (b2i01 _) dX12_fits_182
            · have h := (if_pos c19).symm.trans h
              refine V_iload_n C0 3 rfl rfl dX12_fits_165 ?_
              refine V_iconst C0 (v := (1 : Int32)) (by decide) dX12_fits_166 ?_
              refine V_sipush C0 (v := (200 : Int32)) (by decide) dX12_fits_167 ?_
              obtain ⟨b22, q23, h⟩ := bn1_some h
              refine V_callS C0 (st := []) (As := [.int x3, .int (1 : Int32), .int (200 : Int32)]) (c_X12_in G.l G.D G.cA G.ad G.bs G.X C0.2.2.2.2.2.2.2.2.2.1 C0.2.2.2.2.2.2.2.2.2.2.2.2 x3 (1 : Int32) (200 : Int32) I L R b22 q23) lc_X12_in lk_X12_171 rfl (by rw [erm]; decide) (Nat.le_of_ble_eq_true rfl) dX12_fits_170 ?_
              show V G _ 173 [(0, .ref (G.ad x0)), (1, .int x1), (2, .int x2), (3, .int x3)] [.int (b2i b22)] I L R
              refine V_goto C0 (tgt := 182) (by decide) dX12_fits_173 ?_
              cases h
              exact V_zret C0 (b2i01 _) dX12_fits_182
          · have h := (if_neg c18).symm.trans h
            have nd1 := nd_add nd1 c18
            by_cases c24 : x1 = (24 : Int32)
            · have h := (if_pos c24).symm.trans h
              refine V_tableC C0 (tgt := 161) (v := (24 : Int32)) c24 (by decide) (by decide) dX12_fits_1 ?_
              refine V_iload_n C0 2 rfl rfl dX12_fits_161 ?_
              refine V_if_ne C0 (tgt := 176) (by decide) dX12_fits_162 (fun c25 => ?_) (fun c25 => ?_)
              · have h := (if_neg c25).symm.trans h
                refine V_iload_n C0 3 rfl rfl dX12_fits_176 ?_
                refine V_iconst C0 (v := (0 : Int32)) (by decide) dX12_fits_177 ?_
                refine V_iconst C0 (v := (3 : Int32)) (by decide) dX12_fits_178 ?_
                obtain ⟨b26, q27, h⟩ := bn1_some h
                refine V_callS C0 (st := []) (As := [.int x3, .int (0 : Int32), .int (3 : Int32)]) (c_X12_in G.l G.D G.cA G.ad G.bs G.X C0.2.2.2.2.2.2.2.2.2.1 C0.2.2.2.2.2.2.2.2.2.2.2.2 x3 (0 : Int32) (3 : Int32) I L R b26 q27) lc_X12_in lk_X12_171 rfl (by rw [erm]; decide) (Nat.le_of_ble_eq_true rfl) dX12_fits_179 ?_
                show V G _ 182 [(0, .ref (G.ad x0)), (1, .int x1), (2, .int x2), (3, .int x3)] [.int (b2i b26)] I L R
                cases h
                exact V_zret C0 (b2i01 _) dX12_fits_182
              · have h := (if_pos c25).symm.trans h
                refine V_iload_n C0 3 rfl rfl dX12_fits_165 ?_
                refine V_iconst C0 (v := (1 : Int32)) (by decide) dX12_fits_166 ?_
                refine V_sipush C0 (v := (200 : Int32)) (by decide) dX12_fits_167 ?_
                obtain ⟨b28, q29, h⟩ := bn1_some h
                refine V_callS C0 (st := []) (As := [.int x3, .int (1 : Int32), .int (200 : Int32)]) (c_X12_in G.l G.D G.cA G.ad G.bs G.X C0.2.2.2.2.2.2.2.2.2.1 C0.2.2.2.2.2.2.2.2.2.2.2.2 x3 (1 : Int32) (200 : Int32) I L R b28 q29) lc_X12_in lk_X12_171 rfl (by rw [erm]; decide) (Nat.le_of_ble_eq_true rfl) dX12_fits_170 ?_
                show V G _ 173 [(0, .ref (G.ad x0)), (1, .int x1), (2, .int x2), (3, .int x3)] [.int (b2i b28)] I L R
                refine V_goto C0 (tgt := 182) (by decide) dX12_fits_173 ?_
                cases h
                exact V_zret C0 (b2i01 _) dX12_fits_182
            · have h := (if_neg c24).symm.trans h
              have nd1 := nd_add nd1 c24
              by_cases c30 : x1 = (25 : Int32)
              · have h := (if_pos c30).symm.trans h
                refine V_tableC C0 (tgt := 183) (v := (25 : Int32)) c30 (by decide) (by decide) dX12_fits_1 ?_
                refine V_iload_n C0 2 rfl rfl dX12_fits_183 ?_
                refine V_if_ne C0 (tgt := 198) (by decide) dX12_fits_184 (fun c31 => ?_) (fun c31 => ?_)
                · have h := (if_neg c31).symm.trans h
                  refine V_aload_n C0 0 rfl rfl dX12_fits_198 ?_
                  refine V_iload_n C0 3 rfl rfl dX12_fits_199 ?_
                  refine V_iconst C0 (v := (4 : Int32)) (by decide) dX12_fits_200 ?_
                  obtain ⟨b32, q33, h⟩ := bn1_some h
                  refine V_callV C0 (st := []) (As := [.int x3, .int (4 : Int32)]) 11 (c_X12_isNew G.l G.D G.cA G.ad G.bs G.X C0.2.2.2.2.2.2.2.2.2.1 C0.2.2.2.2.2.2.2.2.2.2.2.2 x0 x3 (4 : Int32) I L R b32 q33) lc_X12_isNew lk_X12_175 c_x0.2 c_x0.1 ⟨_, rfl, rfl⟩ rfl (by rw [erm]; decide) (Nat.le_of_ble_eq_true rfl) dX12_fits_201 ?_
                  show V G _ 204 [(0, .ref (G.ad x0)), (1, .int x1), (2, .int x2), (3, .int x3)] [.int (b2i b32)] I L R
                  cases h
                  exact V_zret C0 (b2i01 _) dX12_fits_204
                · have h := (if_pos c31).symm.trans h
                  refine V_iload_n C0 3 rfl rfl dX12_fits_187 ?_
                  refine V_iconst C0 (v := (1 : Int32)) (by decide) dX12_fits_188 ?_
                  refine V_sipush C0 (v := (200 : Int32)) (by decide) dX12_fits_189 ?_
                  obtain ⟨b34, q35, h⟩ := bn1_some h
                  refine V_callS C0 (st := []) (As := [.int x3, .int (1 : Int32), .int (200 : Int32)]) (c_X12_in G.l G.D G.cA G.ad G.bs G.X C0.2.2.2.2.2.2.2.2.2.1 C0.2.2.2.2.2.2.2.2.2.2.2.2 x3 (1 : Int32) (200 : Int32) I L R b34 q35) lc_X12_in lk_X12_171 rfl (by rw [erm]; decide) (Nat.le_of_ble_eq_true rfl) dX12_fits_192 ?_
                  show V G _ 195 [(0, .ref (G.ad x0)), (1, .int x1), (2, .int x2), (3, .int x3)] [.int (b2i b34)] I L R
                  refine V_goto C0 (tgt := 204) (by decide) dX12_fits_195 ?_
                  cases h
                  exact V_zret C0 (b2i01 _) dX12_fits_204
              · have h := (if_neg c30).symm.trans h
                have nd1 := nd_add nd1 c30
                by_cases c36 : x1 = (27 : Int32)
                · have h := (if_pos c36).symm.trans h
                  refine V_tableC C0 (tgt := 205) (v := (27 : Int32)) c36 (by decide) (by decide) dX12_fits_1 ?_
                  refine V_aload_n C0 0 rfl rfl dX12_fits_205 ?_
                  refine V_iload_n C0 3 rfl rfl dX12_fits_206 ?_
                  refine V_iconst C0 (v := (-1 : Int32)) (by decide) dX12_fits_207 ?_
                  obtain ⟨b37, q38, h⟩ := bn1_some h
                  refine V_callV C0 (st := []) (As := [.int x3, .int (-1 : Int32)]) 11 (c_X12_isNew G.l G.D G.cA G.ad G.bs G.X C0.2.2.2.2.2.2.2.2.2.1 C0.2.2.2.2.2.2.2.2.2.2.2.2 x0 x3 (-1 : Int32) I L R b37 q38) lc_X12_isNew lk_X12_175 c_x0.2 c_x0.1 ⟨_, rfl, rfl⟩ rfl (by rw [erm]; decide) (Nat.le_of_ble_eq_true rfl) dX12_fits_208 ?_
                  show V G _ 211 [(0, .ref (G.ad x0)), (1, .int x1), (2, .int x2), (3, .int x3)] [.int (b2i b37)] I L R
                  cases h
                  exact V_zret C0 (b2i01 _) dX12_fits_211
                · have h := (if_neg c36).symm.trans h
                  have nd1 := nd_add nd1 c36
                  by_cases c39 : x1 = (28 : Int32)
                  · have h := (if_pos c39).symm.trans h
                    refine V_tableC C0 (tgt := 212) (v := (28 : Int32)) c39 (by decide) (by decide) dX12_fits_1 ?_
                    refine V_iload_n C0 2 rfl rfl dX12_fits_212 ?_
                    refine V_iconst C0 (v := (2 : Int32)) (by decide) dX12_fits_213 ?_
                    refine V_icmp_ne C0 (tgt := 227) (by decide) dX12_fits_214 (fun c40 => ?_) (fun c40 => ?_)
                    · have h := (if_neg c40).symm.trans h
                      refine V_aload_n C0 0 rfl rfl dX12_fits_227 ?_
                      refine V_iload_n C0 3 rfl rfl dX12_fits_228 ?_
                      refine V_iconst C0 (v := (4 : Int32)) (by decide) dX12_fits_229 ?_
                      obtain ⟨b41, q42, h⟩ := bn1_some h
                      refine V_callV C0 (st := []) (As := [.int x3, .int (4 : Int32)]) 11 (c_X12_isNew G.l G.D G.cA G.ad G.bs G.X C0.2.2.2.2.2.2.2.2.2.1 C0.2.2.2.2.2.2.2.2.2.2.2.2 x0 x3 (4 : Int32) I L R b41 q42) lc_X12_isNew lk_X12_175 c_x0.2 c_x0.1 ⟨_, rfl, rfl⟩ rfl (by rw [erm]; decide) (Nat.le_of_ble_eq_true rfl) dX12_fits_230 ?_
                      show V G _ 233 [(0, .ref (G.ad x0)), (1, .int x1), (2, .int x2), (3, .int x3)] [.int (b2i b41)] I L R
                      cases h
                      exact V_zret C0 (b2i01 _) dX12_fits_233
                    · have h := (if_pos c40).symm.trans h
                      refine V_iload_n C0 3 rfl rfl dX12_fits_217 ?_
                      refine V_iconst C0 (v := (1 : Int32)) (by decide) dX12_fits_218 ?_
                      refine V_bipush C0 (v := (9 : Int32)) (by decide) dX12_fits_219 ?_
                      obtain ⟨b43, q44, h⟩ := bn1_some h
                      refine V_callS C0 (st := []) (As := [.int x3, .int (1 : Int32), .int (9 : Int32)]) (c_X12_in G.l G.D G.cA G.ad G.bs G.X C0.2.2.2.2.2.2.2.2.2.1 C0.2.2.2.2.2.2.2.2.2.2.2.2 x3 (1 : Int32) (9 : Int32) I L R b43 q44) lc_X12_in lk_X12_171 rfl (by rw [erm]; decide) (Nat.le_of_ble_eq_true rfl) dX12_fits_221 ?_
                      show V G _ 224 [(0, .ref (G.ad x0)), (1, .int x1), (2, .int x2), (3, .int x3)] [.int (b2i b43)] I L R
                      refine V_goto C0 (tgt := 233) (by decide) dX12_fits_224 ?_
                      cases h
                      exact V_zret C0 (b2i01 _) dX12_fits_233
                  · have h := (if_neg c39).symm.trans h
                    have nd1 := nd_add nd1 c39
                    refine V_tableN C0 (tgt := 234) nd1 (by decide) (by decide) dX12_fits_1 ?_
                    refine V_iload_n C0 2 rfl rfl dX12_fits_234 ?_
                    refine V_if_ne C0 (tgt := 248) (by decide) dX12_fits_235 (fun c45 => ?_) (fun c45 => ?_)
                    · have h := (if_neg c45).symm.trans h
                      refine V_aload_n C0 0 rfl rfl dX12_fits_248 ?_
                      refine V_iload_n C0 1 rfl rfl dX12_fits_249 ?_
                      refine V_iload_n C0 2 rfl rfl dX12_fits_250 ?_
                      refine V_iload_n C0 3 rfl rfl dX12_fits_251 ?_
                      obtain ⟨b46, q47, h⟩ := bn1_some h
                      refine V_callV C0 (st := []) (As := [.int x1, .int x2, .int x3]) 11 (c_X12_fitsLoad G.l G.D G.cA G.ad G.bs G.X C0.2.2.2.2.2.2.2.2.2.1 C0.2.2.2.2.2.2.2.2.2.2.2.2 x0 x1 x2 x3 I L R b46 q47) lc_X12_fitsLoad lk_X12_179 c_x0.2 c_x0.1 ⟨_, rfl, rfl⟩ rfl (by rw [erm]; decide) (Nat.le_of_ble_eq_true rfl) dX12_fits_252 ?_
                      show V G _ 255 [(0, .ref (G.ad x0)), (1, .int x1), (2, .int x2), (3, .int x3)] [.int (b2i b46)] I L R
                      cases h
                      exact V_zret C0 (b2i01 _) dX12_fits_255
                    · have h := (if_pos c45).symm.trans h
                      refine V_iload_n C0 3 rfl rfl dX12_fits_238 ?_
                      refine V_iconst C0 (v := (1 : Int32)) (by decide) dX12_fits_239 ?_
                      refine V_bipush C0 (v := (50 : Int32)) (by decide) dX12_fits_240 ?_
                      obtain ⟨b48, q49, h⟩ := bn1_some h
                      refine V_callS C0 (st := []) (As := [.int x3, .int (1 : Int32), .int (50 : Int32)]) (c_X12_in G.l G.D G.cA G.ad G.bs G.X C0.2.2.2.2.2.2.2.2.2.1 C0.2.2.2.2.2.2.2.2.2.2.2.2 x3 (1 : Int32) (50 : Int32) I L R b48 q49) lc_X12_in lk_X12_171 rfl (by rw [erm]; decide) (Nat.le_of_ble_eq_true rfl) dX12_fits_242 ?_
                      show V G _ 245 [(0, .ref (G.ad x0)), (1, .int x1), (2, .int x2), (3, .int x3)] [.int (b2i b48)] I L R
                      refine V_goto C0 (tgt := 255) (by decide) dX12_fits_245 ?_
                      cases h
                      exact V_zret C0 (b2i01 _) dX12_fits_255
theorem dX12_named_0 : decode cX12_named 0 = .ok (.iconst (-1), 1) := by decide +kernel
theorem dX12_named_1 : decode cX12_named 1 = .ok (.istore_n 3, 1) := by decide +kernel
theorem dX12_named_2 : decode cX12_named 2 = .ok (.iconst 0, 1) := by decide +kernel
theorem dX12_named_3 : decode cX12_named 3 = .ok (.istore 4, 2) := by decide +kernel
theorem dX12_named_5 : decode cX12_named 5 = .ok (.iload 4, 2) := by decide +kernel
theorem dX12_named_7 : decode cX12_named 7 = .ok (.iload_n 2, 1) := by decide +kernel
theorem dX12_named_8 : decode cX12_named 8 = .ok (.if_icmp .ge 90, 3) := by decide +kernel
theorem dX12_named_11 : decode cX12_named 11 = .ok (.iconst 1, 1) := by decide +kernel
theorem dX12_named_12 : decode cX12_named 12 = .ok (.istore 5, 2) := by decide +kernel
theorem dX12_named_14 : decode cX12_named 14 = .ok (.iconst 0, 1) := by decide +kernel
theorem dX12_named_15 : decode cX12_named 15 = .ok (.istore 6, 2) := by decide +kernel
theorem dX12_named_17 : decode cX12_named 17 = .ok (.iload 6, 2) := by decide +kernel
theorem dX12_named_19 : decode cX12_named 19 = .ok (.bipush 8, 2) := by decide +kernel
theorem dX12_named_21 : decode cX12_named 21 = .ok (.if_icmp .ge 59, 3) := by decide +kernel
theorem dX12_named_24 : decode cX12_named 24 = .ok (.iload 5, 2) := by decide +kernel
theorem dX12_named_26 : decode cX12_named 26 = .ok (.ifCond .eq 45, 3) := by decide +kernel
theorem dX12_named_29 : decode cX12_named 29 = .ok (.aload_n 1, 1) := by decide +kernel
theorem dX12_named_30 : decode cX12_named 30 = .ok (.bipush 8, 2) := by decide +kernel
theorem dX12_named_32 : decode cX12_named 32 = .ok (.iload 4, 2) := by decide +kernel
theorem dX12_named_34 : decode cX12_named 34 = .ok (.imul, 1) := by decide +kernel
theorem dX12_named_35 : decode cX12_named 35 = .ok (.iload 6, 2) := by decide +kernel
theorem dX12_named_37 : decode cX12_named 37 = .ok (.iadd, 1) := by decide +kernel
theorem dX12_named_38 : decode cX12_named 38 = .ok (.iaload, 1) := by decide +kernel
theorem dX12_named_39 : decode cX12_named 39 = .ok (.iload 6, 2) := by decide +kernel
theorem dX12_named_41 : decode cX12_named 41 = .ok (.aload_n 0, 1) := by decide +kernel
theorem dX12_named_42 : decode cX12_named 42 = .ok (.getfield 161, 3) := by decide +kernel
theorem dX12_named_45 : decode cX12_named 45 = .ok (.if_icmp .ge 18, 3) := by decide +kernel
theorem dX12_named_48 : decode cX12_named 48 = .ok (.aload_n 0, 1) := by decide +kernel
theorem dX12_named_49 : decode cX12_named 49 = .ok (.getfield 28, 3) := by decide +kernel
theorem dX12_named_52 : decode cX12_named 52 = .ok (.aload_n 0, 1) := by decide +kernel
theorem dX12_named_53 : decode cX12_named 53 = .ok (.getfield 135, 3) := by decide +kernel
theorem dX12_named_56 : decode cX12_named 56 = .ok (.iload 6, 2) := by decide +kernel
theorem dX12_named_58 : decode cX12_named 58 = .ok (.iadd, 1) := by decide +kernel
theorem dX12_named_59 : decode cX12_named 59 = .ok (.iaload, 1) := by decide +kernel
theorem dX12_named_60 : decode cX12_named 60 = .ok (.goto 4, 3) := by decide +kernel
theorem dX12_named_63 : decode cX12_named 63 = .ok (.iconst 0, 1) := by decide +kernel
theorem dX12_named_64 : decode cX12_named 64 = .ok (.if_icmp .ne 7, 3) := by decide +kernel
theorem dX12_named_67 : decode cX12_named 67 = .ok (.iconst 1, 1) := by decide +kernel
theorem dX12_named_68 : decode cX12_named 68 = .ok (.goto 4, 3) := by decide +kernel
theorem dX12_named_71 : decode cX12_named 71 = .ok (.iconst 0, 1) := by decide +kernel
theorem dX12_named_72 : decode cX12_named 72 = .ok (.istore 5, 2) := by decide +kernel
theorem dX12_named_74 : decode cX12_named 74 = .ok (.iinc 6 1, 3) := by decide +kernel
theorem dX12_named_77 : decode cX12_named 77 = .ok (.goto (-60), 3) := by decide +kernel
theorem dX12_named_80 : decode cX12_named 80 = .ok (.iload 5, 2) := by decide +kernel
theorem dX12_named_82 : decode cX12_named 82 = .ok (.ifCond .eq 8, 3) := by decide +kernel
theorem dX12_named_85 : decode cX12_named 85 = .ok (.iload 4, 2) := by decide +kernel
theorem dX12_named_87 : decode cX12_named 87 = .ok (.goto 4, 3) := by decide +kernel
theorem dX12_named_90 : decode cX12_named 90 = .ok (.iload_n 3, 1) := by decide +kernel
theorem dX12_named_91 : decode cX12_named 91 = .ok (.istore_n 3, 1) := by decide +kernel
theorem dX12_named_92 : decode cX12_named 92 = .ok (.iinc 4 1, 3) := by decide +kernel
theorem dX12_named_95 : decode cX12_named 95 = .ok (.goto (-90), 3) := by decide +kernel
theorem dX12_named_98 : decode cX12_named 98 = .ok (.iload_n 3, 1) := by decide +kernel
theorem dX12_named_99 : decode cX12_named 99 = .ok (.ireturn, 1) := by decide +kernel
def LF_X12_named_17 (N : Nat) : Nat → Nat → Nat → Int32 → Int32 → Int32 → Int32 → Int32 → MI → ML → MR → Option (Int32)
  | 0, _, _, _, _, _, _, _, _, _, _ => none
  | k + 1, y0, y1, y2, y3, y4, y5, y6, I, L, R =>
    if (8 : Int32) ≤ y6 then
      some (y5)
    else
      bn1 (
        if y5 = 0 then
          some ((0 : Int32))
        else
          (ri I y1 (((8 : Int32) * y4) + y6)).bind fun v7 =>
          bn1 (
            if (I y0 13) ≤ y6 then
              some ((0 : Int32))
            else
              (rf R y0 8 20).bind fun a12 =>
              (ri I a12 ((I y0 12) + y6)).bind fun v13 =>
              some (v13)
          ) fun (s8 : Int32) =>
          bn1 (
            if v7 = s8 then
              some ((1 : Int32))
            else
              some ((0 : Int32))
          ) fun (s14 : Int32) =>
          some (s14)
      ) fun (s3 : Int32) =>
      wr (y6 + (1 : Int32)) fun (u18 : Int32) =>
      LF_X12_named_17 N k y0 y1 y2 y3 y4 s3 u18 I L R
def LF_X12_named_5 (N : Nat) : Nat → Nat → Nat → Int32 → Int32 → Int32 → MI → ML → MR → Option (Int32)
  | 0, _, _, _, _, _, _, _, _ => none
  | k + 1, y0, y1, y2, y3, y4, I, L, R =>
    if y2 ≤ y4 then
      some (y3)
    else
      bn1 (LF_X12_named_17 N N y0 y1 y2 y3 y4 (1 : Int32) (0 : Int32) I L R) fun z19 =>
      bn1 (
        if z19 = 0 then
          some (y3)
        else
          some (y4)
      ) fun (s21 : Int32) =>
      wr (y4 + (1 : Int32)) fun (u25 : Int32) =>
      LF_X12_named_5 N k y0 y1 y2 s21 u25 I L R
def F_X12_named (N : Nat) (x0 : Nat) (x1 : Nat) (x2 : Int32) (I : MI) (L : ML) (R : MR) : Option (Int32) :=
  if kd x0 = 11 ∧ x0 < NN then
  if kd x1 = 20 ∧ x1 < NN then
  bn1 (LF_X12_named_5 N N x0 x1 x2 (-1 : Int32) (0 : Int32) I L R) fun z26 =>
  some (z26)
  else none
  else none
set_option maxRecDepth 100000 in
set_option maxHeartbeats 4000000 in
theorem lp_X12_named_17 {G : Gm} (C0 : Cx G (yX12_named.cls) cX12_named (some .int)) (eNL : G.nL = 7) (erm : G.rm = ({ frames := 0, cells := 0, slots := 0, locals := 0 } : Room)) (N : Nat) : ∀ (k : Nat) (y0 : Nat) (y1 : Nat) (y2 : Int32) (y3 : Int32) (y4 : Int32) (y5 : Int32) (y6 : Int32) (I : MI) (L : ML) (R : MR) (z : Int32) (hk0 : kd y0 = 11) (ho0 : y0 < NN) (hk1 : kd y1 = 20) (ho1 : y1 < NN), LF_X12_named_17 N k y0 y1 y2 y3 y4 y5 y6 I L R = some z → ∀ f : State → Prop, V G f 80 [(0, .ref (G.ad y0)), (1, .ref (G.ad y1)), (2, .int y2), (3, .int y3), (4, .int y4), (5, .int z)] [] I L R → V G f 17 [(0, .ref (G.ad y0)), (1, .ref (G.ad y1)), (2, .int y2), (3, .int y3), (4, .int y4), (5, .int y5), (6, .int y6)] [] I L R := by
  intro k
  induction k with
  | zero =>
    intro y0 y1 y2 y3 y4 y5 y6 I L R q hk0 ho0 hk1 ho1 h
    exact absurd h (by simp [LF_X12_named_17])
  | succ k ih =>
    intro y0 y1 y2 y3 y4 y5 y6 I L R q hk0 ho0 hk1 ho1 h f kx
    rw [LF_X12_named_17] at h
    refine V_iload C0 6 rfl dX12_named_17 ?_
    refine V_bipush C0 (v := (8 : Int32)) (by decide) dX12_named_19 ?_
    refine V_icmp_ge C0 (tgt := 80) (by decide) dX12_named_21 (fun c2 => ?_) (fun c2 => ?_)
    · have h := (if_pos c2).symm.trans h
      cases h
      exact V_sub [0, 1, 2, 3, 4, 5] rfl kx
    · have h := (if_neg c2).symm.trans h
      refine V_iload C0 5 rfl dX12_named_24 ?_
      obtain ⟨s3, q4, h⟩ := bn1_some h
      have k5 : V G f 72 [(0, .ref (G.ad y0)), (1, .ref (G.ad y1)), (2, .int y2), (3, .int y3), (4, .int y4), (6, .int y6)] [.int s3] I L R := by
        refine V_istore C0 [(5, .int s3), (0, .ref (G.ad y0)), (1, .ref (G.ad y1)), (2, .int y2), (3, .int y3), (4, .int y4), (6, .int y6)] (by rw [eNL]; decide) rfl dX12_named_72 ?_
        obtain ⟨u18, eu18, h⟩ := wr_some h
        refine V_iinc C0 6 [(6, .int u18), (5, .int s3), (0, .ref (G.ad y0)), (1, .ref (G.ad y1)), (2, .int y2), (3, .int y3), (4, .int y4)] rfl (n := 1) (by rw [eu18]; rfl) (by rw [eNL]; decide) rfl dX12_named_74 ?_
        refine V_goto C0 (tgt := 17) (by decide) dX12_named_77 ?_
        exact V_sub [2, 3, 4, 5, 6, 1, 0] rfl (ih y0 y1 y2 y3 y4 s3 u18 I L R _ hk0 ho0 hk1 ho1 h f kx)
      refine V_if_eq C0 (tgt := 71) (by decide) dX12_named_26 (fun c6 => ?_) (fun c6 => ?_)
      · have q4 := (if_pos c6).symm.trans q4
        refine V_iconst C0 (v := (0 : Int32)) (by decide) dX12_named_71 ?_
        cases q4
        exact V_sub [0, 1, 2, 3, 4, 6] rfl k5
      · have q4 := (if_neg c6).symm.trans q4
        refine V_aload_n C0 1 rfl rfl dX12_named_29 ?_
        refine V_bipush C0 (v := (8 : Int32)) (by decide) dX12_named_30 ?_
        refine V_iload C0 4 rfl dX12_named_32 ?_
        refine V_imul C0 dX12_named_34 ?_
        refine V_iload C0 6 rfl dX12_named_35 ?_
        refine V_iadd C0 dX12_named_37 ?_
        obtain ⟨v7, qv7, q4⟩ := bnd_some q4
        refine V_ri C0 ho1 hk1 qv7 dX12_named_38 ?_
        refine V_iload C0 6 rfl dX12_named_39 ?_
        refine V_aload_n C0 0 rfl rfl dX12_named_41 ?_
        refine V_getI C0 11 13 fl_X12_161 ho0 hk0 rfl dX12_named_42 ?_
        obtain ⟨s8, q9, q4⟩ := bn1_some q4
        have k10 : V G f 64 [(0, .ref (G.ad y0)), (1, .ref (G.ad y1)), (2, .int y2), (3, .int y3), (4, .int y4), (6, .int y6)] [.int s8, .int v7] I L R := by
          obtain ⟨s14, q15, q4⟩ := bn1_some q4
          have k16 : V G f 72 [(0, .ref (G.ad y0)), (1, .ref (G.ad y1)), (2, .int y2), (3, .int y3), (4, .int y4), (6, .int y6)] [.int s14] I L R := by
            cases q4
            exact V_sub [0, 1, 2, 3, 4, 5] rfl k5
          refine V_icmp_ne C0 (tgt := 71) (by decide) dX12_named_64 (fun c17 => ?_) (fun c17 => ?_)
          · have q15 := (if_neg c17).symm.trans q15
            refine V_iconst C0 (v := (0 : Int32)) (by decide) dX12_named_71 ?_
            cases q15
            exact V_sub [0, 1, 2, 3, 4, 5] rfl k16
          · have q15 := (if_pos c17).symm.trans q15
            refine V_iconst C0 (v := (1 : Int32)) (by decide) dX12_named_67 ?_
            refine V_goto C0 (tgt := 72) (by decide) dX12_named_68 ?_
            cases q15
            exact V_sub [0, 1, 2, 3, 4, 5] rfl k16
        refine V_icmp_ge C0 (tgt := 63) (by decide) dX12_named_45 (fun c11 => ?_) (fun c11 => ?_)
        · have q9 := (if_pos c11).symm.trans q9
          refine V_iconst C0 (v := (0 : Int32)) (by decide) dX12_named_63 ?_
          cases q9
          exact V_sub [0, 1, 2, 3, 4, 6] rfl k10
        · have q9 := (if_neg c11).symm.trans q9
          refine V_aload_n C0 0 rfl rfl dX12_named_48 ?_
          obtain ⟨a12, qa12, q9⟩ := bnd_some q9
          refine V_getR C0 11 8 fl_X12_28 ho0 hk0 rfl (rf_at qa12) dX12_named_49 ?_
          refine V_aload_n C0 0 rfl rfl dX12_named_52 ?_
          refine V_getI C0 11 12 fl_X12_135 ho0 hk0 rfl dX12_named_53 ?_
          refine V_iload C0 6 rfl dX12_named_56 ?_
          refine V_iadd C0 dX12_named_58 ?_
          obtain ⟨v13, qv13, q9⟩ := bnd_some q9
          refine V_ri C0 (rf_lt qa12) (rf_kd qa12) qv13 dX12_named_59 ?_
          refine V_goto C0 (tgt := 64) (by decide) dX12_named_60 ?_
          cases q9
          exact V_sub [0, 1, 2, 3, 4, 6] rfl k10
set_option maxRecDepth 100000 in
set_option maxHeartbeats 4000000 in
theorem lp_X12_named_5 {G : Gm} (C0 : Cx G (yX12_named.cls) cX12_named (some .int)) (eNL : G.nL = 7) (erm : G.rm = ({ frames := 0, cells := 0, slots := 0, locals := 0 } : Room)) (N : Nat) : ∀ (k : Nat) (y0 : Nat) (y1 : Nat) (y2 : Int32) (y3 : Int32) (y4 : Int32) (I : MI) (L : ML) (R : MR) (z : Int32) (hk0 : kd y0 = 11) (ho0 : y0 < NN) (hk1 : kd y1 = 20) (ho1 : y1 < NN), LF_X12_named_5 N k y0 y1 y2 y3 y4 I L R = some z → ∀ f : State → Prop, V G f 98 [(3, .int z)] [] I L R → V G f 5 [(0, .ref (G.ad y0)), (1, .ref (G.ad y1)), (2, .int y2), (3, .int y3), (4, .int y4)] [] I L R := by
  intro k
  induction k with
  | zero =>
    intro y0 y1 y2 y3 y4 I L R q hk0 ho0 hk1 ho1 h
    exact absurd h (by simp [LF_X12_named_5])
  | succ k ih =>
    intro y0 y1 y2 y3 y4 I L R q hk0 ho0 hk1 ho1 h f kx
    rw [LF_X12_named_5] at h
    refine V_iload C0 4 rfl dX12_named_5 ?_
    refine V_iload_n C0 2 rfl rfl dX12_named_7 ?_
    refine V_icmp_ge C0 (tgt := 98) (by decide) dX12_named_8 (fun c1 => ?_) (fun c1 => ?_)
    · have h := (if_pos c1).symm.trans h
      cases h
      exact V_sub [3] rfl kx
    · have h := (if_neg c1).symm.trans h
      refine V_iconst C0 (v := (1 : Int32)) (by decide) dX12_named_11 ?_
      refine V_istore C0 [(5, .int (1 : Int32)), (0, .ref (G.ad y0)), (1, .ref (G.ad y1)), (2, .int y2), (3, .int y3), (4, .int y4)] (by rw [eNL]; decide) rfl dX12_named_12 ?_
      refine V_iconst C0 (v := (0 : Int32)) (by decide) dX12_named_14 ?_
      refine V_istore C0 [(6, .int (0 : Int32)), (5, .int (1 : Int32)), (0, .ref (G.ad y0)), (1, .ref (G.ad y1)), (2, .int y2), (3, .int y3), (4, .int y4)] (by rw [eNL]; decide) rfl dX12_named_15 ?_
      obtain ⟨z19, q20, h⟩ := bn1_some h
      refine V_sub [2, 3, 4, 5, 6, 1, 0] rfl (lp_X12_named_17 C0 eNL erm N N y0 y1 y2 y3 y4 (1 : Int32) (0 : Int32) I L R _ hk0 ho0 hk1 ho1 q20 _ ?_)
      show V G _ 80 [(0, .ref (G.ad y0)), (1, .ref (G.ad y1)), (2, .int y2), (3, .int y3), (4, .int y4), (5, .int z19)] [] I L R
      refine V_iload C0 5 rfl dX12_named_80 ?_
      obtain ⟨s21, q22, h⟩ := bn1_some h
      have k23 : V G f 91 [(0, .ref (G.ad y0)), (1, .ref (G.ad y1)), (2, .int y2), (4, .int y4)] [.int s21] I L R := by
        refine V_istore_n C0 [(3, .int s21), (0, .ref (G.ad y0)), (1, .ref (G.ad y1)), (2, .int y2), (4, .int y4)] rfl (by rw [eNL]; decide) rfl dX12_named_91 ?_
        obtain ⟨u25, eu25, h⟩ := wr_some h
        refine V_iinc C0 4 [(4, .int u25), (3, .int s21), (0, .ref (G.ad y0)), (1, .ref (G.ad y1)), (2, .int y2)] rfl (n := 1) (by rw [eu25]; rfl) (by rw [eNL]; decide) rfl dX12_named_92 ?_
        refine V_goto C0 (tgt := 5) (by decide) dX12_named_95 ?_
        exact V_sub [2, 3, 4, 1, 0] rfl (ih y0 y1 y2 s21 u25 I L R _ hk0 ho0 hk1 ho1 h f kx)
      refine V_if_eq C0 (tgt := 90) (by decide) dX12_named_82 (fun c24 => ?_) (fun c24 => ?_)
      · have q22 := (if_pos c24).symm.trans q22
        refine V_iload_n C0 3 rfl rfl dX12_named_90 ?_
        cases q22
        exact V_sub [0, 1, 2, 4] rfl k23
      · have q22 := (if_neg c24).symm.trans q22
        refine V_iload C0 4 rfl dX12_named_85 ?_
        refine V_goto C0 (tgt := 91) (by decide) dX12_named_87 ?_
        cases q22
        exact V_sub [0, 1, 2, 4] rfl k23
set_option maxRecDepth 100000 in
set_option maxHeartbeats 4000000 in
theorem c_X12_named (l : Launch) (D : va_G) (cA : Nat → ClassId) (ad : Nat → Nat) (bs : Nat) (X : State → Prop) (hAd : Ax ad bs) (hX : Stb bs X) (N : Nat) (x0 : Nat) (x1 : Nat) (x2 : Int32) (I : MI) (L : ML) (R : MR) (r : Int32) (h : F_X12_named N x0 x1 x2 I L R = some (r)) : Cn l D cA ad bs X yX12_named cX12_named 7 (some .int) 0 0 [.ref (ad x0), .ref (ad x1), .int x2] I L R (some (.int r), I, L, R) := by
  refine Cn.ofV hAd hX [(0, .ref (ad x0)), (1, .ref (ad x1)), (2, .int x2)] rfl (Nat.le_of_ble_eq_true rfl) (by decide) ?_
  intro G el eD ecA ead ebs eX erm eNL C0
  subst el eD ecA ead ebs eX
  unfold F_X12_named at h
  obtain ⟨c_x0, h⟩ := ite_some h
  obtain ⟨c_x1, h⟩ := ite_some h
  refine V_iconst C0 (v := (-1 : Int32)) (by decide) dX12_named_0 ?_
  refine V_istore_n C0 [(3, .int (-1 : Int32)), (0, .ref (G.ad x0)), (1, .ref (G.ad x1)), (2, .int x2)] rfl (by rw [eNL]; decide) rfl dX12_named_1 ?_
  refine V_iconst C0 (v := (0 : Int32)) (by decide) dX12_named_2 ?_
  refine V_istore C0 [(4, .int (0 : Int32)), (3, .int (-1 : Int32)), (0, .ref (G.ad x0)), (1, .ref (G.ad x1)), (2, .int x2)] (by rw [eNL]; decide) rfl dX12_named_3 ?_
  obtain ⟨z26, q27, h⟩ := bn1_some h
  refine V_sub [2, 3, 4, 1, 0] rfl (lp_X12_named_5 C0 eNL erm N N x0 x1 x2 (-1 : Int32) (0 : Int32) I L R _ c_x0.1 c_x0.2 c_x1.1 c_x1.2 q27 _ ?_)
  show V G _ 98 [(3, .int z26)] [] I L R
  refine V_iload_n C0 0 rfl rfl dX12_named_98 ?_
  cases h
  exact V_iret C0 dX12_named_99
theorem dX12_readUnit_0 : decode cX12_readUnit 0 = .ok (.aload_n 0, 1) := by decide +kernel
theorem dX12_readUnit_1 : decode cX12_readUnit 1 = .ok (.invokevirtual 164, 3) := by decide +kernel
theorem dX12_readUnit_4 : decode cX12_readUnit 4 = .ok (.ifCond .eq 10, 3) := by decide +kernel
theorem dX12_readUnit_7 : decode cX12_readUnit 7 = .ok (.aload_n 0, 1) := by decide +kernel
theorem dX12_readUnit_8 : decode cX12_readUnit 8 = .ok (.getfield 138, 3) := by decide +kernel
theorem dX12_readUnit_11 : decode cX12_readUnit 11 = .ok (.ifCond .ne 5, 3) := by decide +kernel
theorem dX12_readUnit_14 : decode cX12_readUnit 14 = .ok (.iconst 0, 1) := by decide +kernel
theorem dX12_readUnit_15 : decode cX12_readUnit 15 = .ok (.ireturn, 1) := by decide +kernel
theorem dX12_readUnit_16 : decode cX12_readUnit 16 = .ok (.aload_n 0, 1) := by decide +kernel
theorem dX12_readUnit_17 : decode cX12_readUnit 17 = .ok (.getfield 138, 3) := by decide +kernel
theorem dX12_readUnit_20 : decode cX12_readUnit 20 = .ok (.iconst 1, 1) := by decide +kernel
theorem dX12_readUnit_21 : decode cX12_readUnit 21 = .ok (.if_icmp .ne 17, 3) := by decide +kernel
theorem dX12_readUnit_24 : decode cX12_readUnit 24 = .ok (.aload_n 0, 1) := by decide +kernel
theorem dX12_readUnit_25 : decode cX12_readUnit 25 = .ok (.aload_n 0, 1) := by decide +kernel
theorem dX12_readUnit_26 : decode cX12_readUnit 26 = .ok (.getfield 16, 3) := by decide +kernel
theorem dX12_readUnit_29 : decode cX12_readUnit 29 = .ok (.iconst 0, 1) := by decide +kernel
theorem dX12_readUnit_30 : decode cX12_readUnit 30 = .ok (.bipush 22, 2) := by decide +kernel
theorem dX12_readUnit_32 : decode cX12_readUnit 32 = .ok (.invokevirtual 182, 3) := by decide +kernel
theorem dX12_readUnit_35 : decode cX12_readUnit 35 = .ok (.goto 4, 3) := by decide +kernel
theorem dX12_readUnit_38 : decode cX12_readUnit 38 = .ok (.iconst (-1), 1) := by decide +kernel
theorem dX12_readUnit_39 : decode cX12_readUnit 39 = .ok (.istore_n 1, 1) := by decide +kernel
theorem dX12_readUnit_40 : decode cX12_readUnit 40 = .ok (.iload_n 1, 1) := by decide +kernel
theorem dX12_readUnit_41 : decode cX12_readUnit 41 = .ok (.iconst (-1), 1) := by decide +kernel
theorem dX12_readUnit_42 : decode cX12_readUnit 42 = .ok (.if_icmp .eq 12, 3) := by decide +kernel
theorem dX12_readUnit_45 : decode cX12_readUnit 45 = .ok (.aload_n 0, 1) := by decide +kernel
theorem dX12_readUnit_46 : decode cX12_readUnit 46 = .ok (.getfield 168, 3) := by decide +kernel
theorem dX12_readUnit_49 : decode cX12_readUnit 49 = .ok (.bipush 20, 2) := by decide +kernel
theorem dX12_readUnit_51 : decode cX12_readUnit 51 = .ok (.if_icmp .ne 23, 3) := by decide +kernel
theorem dX12_readUnit_54 : decode cX12_readUnit 54 = .ok (.aload_n 0, 1) := by decide +kernel
theorem dX12_readUnit_55 : decode cX12_readUnit 55 = .ok (.iload_n 1, 1) := by decide +kernel
theorem dX12_readUnit_56 : decode cX12_readUnit 56 = .ok (.iconst (-1), 1) := by decide +kernel
theorem dX12_readUnit_57 : decode cX12_readUnit 57 = .ok (.if_icmp .ne 7, 3) := by decide +kernel
theorem dX12_readUnit_60 : decode cX12_readUnit 60 = .ok (.iconst 2, 1) := by decide +kernel
theorem dX12_readUnit_61 : decode cX12_readUnit 61 = .ok (.goto 4, 3) := by decide +kernel
theorem dX12_readUnit_64 : decode cX12_readUnit 64 = .ok (.iconst 4, 1) := by decide +kernel
theorem dX12_readUnit_65 : decode cX12_readUnit 65 = .ok (.aload_n 0, 1) := by decide +kernel
theorem dX12_readUnit_66 : decode cX12_readUnit 66 = .ok (.getfield 135, 3) := by decide +kernel
theorem dX12_readUnit_69 : decode cX12_readUnit 69 = .ok (.invokevirtual 157, 3) := by decide +kernel
theorem dX12_readUnit_72 : decode cX12_readUnit 72 = .ok (.iconst 0, 1) := by decide +kernel
theorem dX12_readUnit_73 : decode cX12_readUnit 73 = .ok (.ireturn, 1) := by decide +kernel
theorem dX12_readUnit_74 : decode cX12_readUnit 74 = .ok (.aload_n 0, 1) := by decide +kernel
theorem dX12_readUnit_75 : decode cX12_readUnit 75 = .ok (.getfield 168, 3) := by decide +kernel
theorem dX12_readUnit_78 : decode cX12_readUnit 78 = .ok (.istore_n 2, 1) := by decide +kernel
theorem dX12_readUnit_79 : decode cX12_readUnit 79 = .ok (.aload_n 0, 1) := by decide +kernel
theorem dX12_readUnit_80 : decode cX12_readUnit 80 = .ok (.getfield 35, 3) := by decide +kernel
theorem dX12_readUnit_83 : decode cX12_readUnit 83 = .ok (.iload_n 2, 1) := by decide +kernel
theorem dX12_readUnit_84 : decode cX12_readUnit 84 = .ok (.aload_n 0, 1) := by decide +kernel
theorem dX12_readUnit_85 : decode cX12_readUnit 85 = .ok (.getfield 19, 3) := by decide +kernel
theorem dX12_readUnit_88 : decode cX12_readUnit 88 = .ok (.iload_n 1, 1) := by decide +kernel
theorem dX12_readUnit_89 : decode cX12_readUnit 89 = .ok (.iaload, 1) := by decide +kernel
theorem dX12_readUnit_90 : decode cX12_readUnit 90 = .ok (.iastore, 1) := by decide +kernel
theorem dX12_readUnit_91 : decode cX12_readUnit 91 = .ok (.aload_n 0, 1) := by decide +kernel
theorem dX12_readUnit_92 : decode cX12_readUnit 92 = .ok (.invokevirtual 164, 3) := by decide +kernel
theorem dX12_readUnit_95 : decode cX12_readUnit 95 = .ok (.ifCond .ne 5, 3) := by decide +kernel
theorem dX12_readUnit_98 : decode cX12_readUnit 98 = .ok (.iconst 0, 1) := by decide +kernel
theorem dX12_readUnit_99 : decode cX12_readUnit 99 = .ok (.ireturn, 1) := by decide +kernel
theorem dX12_readUnit_100 : decode cX12_readUnit 100 = .ok (.aload_n 0, 1) := by decide +kernel
theorem dX12_readUnit_101 : decode cX12_readUnit 101 = .ok (.getfield 138, 3) := by decide +kernel
theorem dX12_readUnit_104 : decode cX12_readUnit 104 = .ok (.iconst 1, 1) := by decide +kernel
theorem dX12_readUnit_105 : decode cX12_readUnit 105 = .ok (.if_icmp .eq 15, 3) := by decide +kernel
theorem dX12_readUnit_108 : decode cX12_readUnit 108 = .ok (.aload_n 0, 1) := by decide +kernel
theorem dX12_readUnit_109 : decode cX12_readUnit 109 = .ok (.iconst 2, 1) := by decide +kernel
theorem dX12_readUnit_110 : decode cX12_readUnit 110 = .ok (.aload_n 0, 1) := by decide +kernel
theorem dX12_readUnit_111 : decode cX12_readUnit 111 = .ok (.getfield 135, 3) := by decide +kernel
theorem dX12_readUnit_114 : decode cX12_readUnit 114 = .ok (.invokevirtual 157, 3) := by decide +kernel
theorem dX12_readUnit_117 : decode cX12_readUnit 117 = .ok (.goto 25, 3) := by decide +kernel
theorem dX12_readUnit_120 : decode cX12_readUnit 120 = .ok (.aload_n 0, 1) := by decide +kernel
theorem dX12_readUnit_121 : decode cX12_readUnit 121 = .ok (.aload_n 0, 1) := by decide +kernel
theorem dX12_readUnit_122 : decode cX12_readUnit 122 = .ok (.getfield 38, 3) := by decide +kernel
theorem dX12_readUnit_125 : decode cX12_readUnit 125 = .ok (.iload_n 2, 1) := by decide +kernel
theorem dX12_readUnit_126 : decode cX12_readUnit 126 = .ok (.invokevirtual 186, 3) := by decide +kernel
theorem dX12_readUnit_129 : decode cX12_readUnit 129 = .ok (.iconst (-1), 1) := by decide +kernel
theorem dX12_readUnit_130 : decode cX12_readUnit 130 = .ok (.if_icmp .eq 12, 3) := by decide +kernel
theorem dX12_readUnit_133 : decode cX12_readUnit 133 = .ok (.aload_n 0, 1) := by decide +kernel
theorem dX12_readUnit_134 : decode cX12_readUnit 134 = .ok (.iconst 3, 1) := by decide +kernel
theorem dX12_readUnit_135 : decode cX12_readUnit 135 = .ok (.aload_n 0, 1) := by decide +kernel
theorem dX12_readUnit_136 : decode cX12_readUnit 136 = .ok (.getfield 135, 3) := by decide +kernel
theorem dX12_readUnit_139 : decode cX12_readUnit 139 = .ok (.invokevirtual 157, 3) := by decide +kernel
theorem dX12_readUnit_142 : decode cX12_readUnit 142 = .ok (.iconst 0, 1) := by decide +kernel
theorem dX12_readUnit_143 : decode cX12_readUnit 143 = .ok (.istore_n 3, 1) := by decide +kernel
theorem dX12_readUnit_144 : decode cX12_readUnit 144 = .ok (.iload_n 3, 1) := by decide +kernel
theorem dX12_readUnit_145 : decode cX12_readUnit 145 = .ok (.bipush 8, 2) := by decide +kernel
theorem dX12_readUnit_147 : decode cX12_readUnit 147 = .ok (.if_icmp .ge 50, 3) := by decide +kernel
theorem dX12_readUnit_150 : decode cX12_readUnit 150 = .ok (.aload_n 0, 1) := by decide +kernel
theorem dX12_readUnit_151 : decode cX12_readUnit 151 = .ok (.getfield 128, 3) := by decide +kernel
theorem dX12_readUnit_154 : decode cX12_readUnit 154 = .ok (.ifCond .ne 43, 3) := by decide +kernel
theorem dX12_readUnit_157 : decode cX12_readUnit 157 = .ok (.aload_n 0, 1) := by decide +kernel
theorem dX12_readUnit_158 : decode cX12_readUnit 158 = .ok (.getfield 38, 3) := by decide +kernel
theorem dX12_readUnit_161 : decode cX12_readUnit 161 = .ok (.bipush 8, 2) := by decide +kernel
theorem dX12_readUnit_163 : decode cX12_readUnit 163 = .ok (.iload_n 2, 1) := by decide +kernel
theorem dX12_readUnit_164 : decode cX12_readUnit 164 = .ok (.imul, 1) := by decide +kernel
theorem dX12_readUnit_165 : decode cX12_readUnit 165 = .ok (.iload_n 3, 1) := by decide +kernel
theorem dX12_readUnit_166 : decode cX12_readUnit 166 = .ok (.iadd, 1) := by decide +kernel
theorem dX12_readUnit_167 : decode cX12_readUnit 167 = .ok (.iload_n 3, 1) := by decide +kernel
theorem dX12_readUnit_168 : decode cX12_readUnit 168 = .ok (.aload_n 0, 1) := by decide +kernel
theorem dX12_readUnit_169 : decode cX12_readUnit 169 = .ok (.getfield 161, 3) := by decide +kernel
theorem dX12_readUnit_172 : decode cX12_readUnit 172 = .ok (.if_icmp .ge 17, 3) := by decide +kernel
theorem dX12_readUnit_175 : decode cX12_readUnit 175 = .ok (.aload_n 0, 1) := by decide +kernel
theorem dX12_readUnit_176 : decode cX12_readUnit 176 = .ok (.getfield 28, 3) := by decide +kernel
theorem dX12_readUnit_179 : decode cX12_readUnit 179 = .ok (.aload_n 0, 1) := by decide +kernel
theorem dX12_readUnit_180 : decode cX12_readUnit 180 = .ok (.getfield 135, 3) := by decide +kernel
theorem dX12_readUnit_183 : decode cX12_readUnit 183 = .ok (.iload_n 3, 1) := by decide +kernel
theorem dX12_readUnit_184 : decode cX12_readUnit 184 = .ok (.iadd, 1) := by decide +kernel
theorem dX12_readUnit_185 : decode cX12_readUnit 185 = .ok (.iaload, 1) := by decide +kernel
theorem dX12_readUnit_186 : decode cX12_readUnit 186 = .ok (.goto 4, 3) := by decide +kernel
theorem dX12_readUnit_189 : decode cX12_readUnit 189 = .ok (.iconst 0, 1) := by decide +kernel
theorem dX12_readUnit_190 : decode cX12_readUnit 190 = .ok (.iastore, 1) := by decide +kernel
theorem dX12_readUnit_191 : decode cX12_readUnit 191 = .ok (.iinc 3 1, 3) := by decide +kernel
theorem dX12_readUnit_194 : decode cX12_readUnit 194 = .ok (.goto (-50), 3) := by decide +kernel
theorem dX12_readUnit_197 : decode cX12_readUnit 197 = .ok (.iconst 0, 1) := by decide +kernel
theorem dX12_readUnit_198 : decode cX12_readUnit 198 = .ok (.istore_n 3, 1) := by decide +kernel
theorem dX12_readUnit_199 : decode cX12_readUnit 199 = .ok (.iload_n 3, 1) := by decide +kernel
theorem dX12_readUnit_200 : decode cX12_readUnit 200 = .ok (.aload_n 0, 1) := by decide +kernel
theorem dX12_readUnit_201 : decode cX12_readUnit 201 = .ok (.getfield 35, 3) := by decide +kernel
theorem dX12_readUnit_204 : decode cX12_readUnit 204 = .ok (.iload_n 2, 1) := by decide +kernel
theorem dX12_readUnit_205 : decode cX12_readUnit 205 = .ok (.iaload, 1) := by decide +kernel
theorem dX12_readUnit_206 : decode cX12_readUnit 206 = .ok (.invokestatic 190, 3) := by decide +kernel
theorem dX12_readUnit_209 : decode cX12_readUnit 209 = .ok (.if_icmp .ge 68, 3) := by decide +kernel
theorem dX12_readUnit_212 : decode cX12_readUnit 212 = .ok (.aload_n 0, 1) := by decide +kernel
theorem dX12_readUnit_213 : decode cX12_readUnit 213 = .ok (.getfield 128, 3) := by decide +kernel
theorem dX12_readUnit_216 : decode cX12_readUnit 216 = .ok (.ifCond .ne 61, 3) := by decide +kernel
theorem dX12_readUnit_219 : decode cX12_readUnit 219 = .ok (.aload_n 0, 1) := by decide +kernel
theorem dX12_readUnit_220 : decode cX12_readUnit 220 = .ok (.getfield 41, 3) := by decide +kernel
theorem dX12_readUnit_223 : decode cX12_readUnit 223 = .ok (.iconst 3, 1) := by decide +kernel
theorem dX12_readUnit_224 : decode cX12_readUnit 224 = .ok (.iload_n 2, 1) := by decide +kernel
theorem dX12_readUnit_225 : decode cX12_readUnit 225 = .ok (.imul, 1) := by decide +kernel
theorem dX12_readUnit_226 : decode cX12_readUnit 226 = .ok (.iload_n 3, 1) := by decide +kernel
theorem dX12_readUnit_227 : decode cX12_readUnit 227 = .ok (.iadd, 1) := by decide +kernel
theorem dX12_readUnit_228 : decode cX12_readUnit 228 = .ok (.aload_n 0, 1) := by decide +kernel
theorem dX12_readUnit_229 : decode cX12_readUnit 229 = .ok (.ldc 193, 2) := by decide +kernel
theorem dX12_readUnit_231 : decode cX12_readUnit 231 = .ok (.ldc 194, 2) := by decide +kernel
theorem dX12_readUnit_233 : decode cX12_readUnit 233 = .ok (.invokevirtual 195, 3) := by decide +kernel
theorem dX12_readUnit_236 : decode cX12_readUnit 236 = .ok (.iastore, 1) := by decide +kernel
theorem dX12_readUnit_237 : decode cX12_readUnit 237 = .ok (.aload_n 0, 1) := by decide +kernel
theorem dX12_readUnit_238 : decode cX12_readUnit 238 = .ok (.getfield 128, 3) := by decide +kernel
theorem dX12_readUnit_241 : decode cX12_readUnit 241 = .ok (.ifCond .ne 30, 3) := by decide +kernel
theorem dX12_readUnit_244 : decode cX12_readUnit 244 = .ok (.aload_n 0, 1) := by decide +kernel
theorem dX12_readUnit_245 : decode cX12_readUnit 245 = .ok (.aload_n 0, 1) := by decide +kernel
theorem dX12_readUnit_246 : decode cX12_readUnit 246 = .ok (.getfield 35, 3) := by decide +kernel
theorem dX12_readUnit_249 : decode cX12_readUnit 249 = .ok (.iload_n 2, 1) := by decide +kernel
theorem dX12_readUnit_250 : decode cX12_readUnit 250 = .ok (.iaload, 1) := by decide +kernel
theorem dX12_readUnit_251 : decode cX12_readUnit 251 = .ok (.iload_n 3, 1) := by decide +kernel
theorem dX12_readUnit_252 : decode cX12_readUnit 252 = .ok (.aload_n 0, 1) := by decide +kernel
theorem dX12_readUnit_253 : decode cX12_readUnit 253 = .ok (.getfield 154, 3) := by decide +kernel
theorem dX12_readUnit_256 : decode cX12_readUnit 256 = .ok (.invokevirtual 198, 3) := by decide +kernel
theorem dX12_readUnit_259 : decode cX12_readUnit 259 = .ok (.ifCond .ne 12, 3) := by decide +kernel
theorem dX12_readUnit_262 : decode cX12_readUnit 262 = .ok (.aload_n 0, 1) := by decide +kernel
theorem dX12_readUnit_263 : decode cX12_readUnit 263 = .ok (.iconst 5, 1) := by decide +kernel
theorem dX12_readUnit_264 : decode cX12_readUnit 264 = .ok (.aload_n 0, 1) := by decide +kernel
theorem dX12_readUnit_265 : decode cX12_readUnit 265 = .ok (.getfield 135, 3) := by decide +kernel
theorem dX12_readUnit_268 : decode cX12_readUnit 268 = .ok (.invokevirtual 157, 3) := by decide +kernel
theorem dX12_readUnit_271 : decode cX12_readUnit 271 = .ok (.iinc 3 1, 3) := by decide +kernel
theorem dX12_readUnit_274 : decode cX12_readUnit 274 = .ok (.goto (-75), 3) := by decide +kernel
theorem dX12_readUnit_277 : decode cX12_readUnit 277 = .ok (.aload_n 0, 1) := by decide +kernel
theorem dX12_readUnit_278 : decode cX12_readUnit 278 = .ok (.bipush 59, 2) := by decide +kernel
theorem dX12_readUnit_280 : decode cX12_readUnit 280 = .ok (.invokevirtual 201, 3) := by decide +kernel
theorem dX12_readUnit_283 : decode cX12_readUnit 283 = .ok (.aload_n 0, 1) := by decide +kernel
theorem dX12_readUnit_284 : decode cX12_readUnit 284 = .ok (.dup, 1) := by decide +kernel
theorem dX12_readUnit_285 : decode cX12_readUnit 285 = .ok (.getfield 168, 3) := by decide +kernel
theorem dX12_readUnit_288 : decode cX12_readUnit 288 = .ok (.iconst 1, 1) := by decide +kernel
theorem dX12_readUnit_289 : decode cX12_readUnit 289 = .ok (.iadd, 1) := by decide +kernel
theorem dX12_readUnit_290 : decode cX12_readUnit 290 = .ok (.putfield 168, 3) := by decide +kernel
theorem dX12_readUnit_293 : decode cX12_readUnit 293 = .ok (.aload_n 0, 1) := by decide +kernel
theorem dX12_readUnit_294 : decode cX12_readUnit 294 = .ok (.getfield 128, 3) := by decide +kernel
theorem dX12_readUnit_297 : decode cX12_readUnit 297 = .ok (.ifCond .ne 7, 3) := by decide +kernel
theorem dX12_readUnit_300 : decode cX12_readUnit 300 = .ok (.iconst 1, 1) := by decide +kernel
theorem dX12_readUnit_301 : decode cX12_readUnit 301 = .ok (.goto 4, 3) := by decide +kernel
theorem dX12_readUnit_304 : decode cX12_readUnit 304 = .ok (.iconst 0, 1) := by decide +kernel
theorem dX12_readUnit_305 : decode cX12_readUnit 305 = .ok (.ireturn, 1) := by decide +kernel
def LF_X12_readUnit_144 (N : Nat) : Nat → Nat → Int32 → Int32 → MI → ML → MR → Option (MI)
  | 0, _, _, _, _, _, _ => none
  | k + 1, y0, y2, y3, I, L, R =>
    if (8 : Int32) ≤ y3 then
      some (I)
    else
      if (I y0 15) = 0 then
        (rf R y0 19 20).bind fun a47 =>
        bn1 (
          if (I y0 13) ≤ y3 then
            some ((0 : Int32))
          else
            (rf R y0 8 20).bind fun a52 =>
            (ri I a52 ((I y0 12) + y3)).bind fun v53 =>
            some (v53)
        ) fun (s48 : Int32) =>
        (wi I a47 (((8 : Int32) * y2) + y3) s48).bind fun I54 =>
        wr (y3 + (1 : Int32)) fun (u55 : Int32) =>
        LF_X12_readUnit_144 N k y0 y2 u55 I54 L R
      else
        some (I)
def LF_X12_readUnit_199 (N : Nat) : Nat → Nat → Int32 → Int32 → MI → ML → MR → Option (MI)
  | 0, _, _, _, _, _, _ => none
  | k + 1, y0, y2, y3, I, L, R =>
    (rf R y0 18 20).bind fun a58 =>
    (ri I a58 y2).bind fun v59 =>
    bn1 (F_X12_many v59 I L R) fun v60 =>
    if v60 ≤ y3 then
      some (I)
    else
      if (I y0 15) = 0 then
        (rf R y0 20 20).bind fun a64 =>
        bn2 (F_X12_number N y0 (-99999 : Int32) (99999 : Int32) I L R) fun v65 I66 =>
        (wi I66 a64 (((3 : Int32) * y2) + y3) v65).bind fun I68 =>
        bn1 (
          if (I68 y0 15) = 0 then
            (ri I68 a58 y2).bind fun v73 =>
            bn1 (F_X12_fits y0 v73 y3 (I68 y0 14) I68 L R) fun b74 =>
            bn1 (
              if (b2i b74) = 0 then
                bn1 (F_X12_wrong y0 (5 : Int32) (I68 y0 12) I68 L R) fun I80 =>
                some (I80)
              else
                some (I68)
            ) fun (I76 : MI) =>
            some (I76)
          else
            some (I68)
        ) fun (I69 : MI) =>
        wr (y3 + (1 : Int32)) fun (u82 : Int32) =>
        LF_X12_readUnit_199 N k y0 y2 u82 I69 L R
      else
        some (I)
def F_X12_readUnit (N : Nat) (x0 : Nat) (I : MI) (L : ML) (R : MR) : Option (Bool × MI) :=
  if kd x0 = 11 ∧ x0 < NN then
  bn2 (F_X12_next N x0 I L R) fun b1 I2 =>
  if (b2i b1) = 0 then
    some (false, I2)
  else
    if (I2 x0 11) = 0 then
      some (false, I2)
    else
      bn1 (
        if (I2 x0 11) = (1 : Int32) then
          (rf R x0 2 20).bind fun a10 =>
          bn1 (F_X12_wordOf N x0 a10 (0 : Int32) (22 : Int32) I2 L R) fun v11 =>
          some (v11)
        else
          some ((-1 : Int32))
      ) fun (s6 : Int32) =>
      if s6 = (-1 : Int32) then
        bn1 (
          if s6 = (-1 : Int32) then
            some ((2 : Int32))
          else
            some ((4 : Int32))
        ) fun (s14 : Int32) =>
        bn1 (F_X12_wrong x0 s14 (I2 x0 12) I2 L R) fun I18 =>
        some (false, I18)
      else
        if (I2 x0 17) = (20 : Int32) then
          bn1 (
            if s6 = (-1 : Int32) then
              some ((2 : Int32))
            else
              some ((4 : Int32))
          ) fun (s89 : Int32) =>
          bn1 (F_X12_wrong x0 s89 (I2 x0 12) I2 L R) fun I93 =>
          some (false, I93)
        else
          wr (I2 x0 17) fun (u21 : Int32) =>
          (rf R x0 18 20).bind fun a22 =>
          (rf R x0 3 20).bind fun a23 =>
          (ri I2 a23 s6).bind fun v24 =>
          (wi I2 a22 u21 v24).bind fun I25 =>
          bn2 (F_X12_next N x0 I25 L R) fun b26 I27 =>
          if (b2i b26) = 0 then
            some (false, I27)
          else
            bn1 (
              if (I27 x0 11) = (1 : Int32) then
                (rf R x0 19 20).bind fun a34 =>
                bn1 (F_X12_named N x0 a34 u21 I27 L R) fun v35 =>
                bn1 (
                  if v35 = (-1 : Int32) then
                    some (I27)
                  else
                    bn1 (F_X12_wrong x0 (3 : Int32) (I27 x0 12) I27 L R) fun I41 =>
                    some (I41)
                ) fun (I37 : MI) =>
                some (I37)
              else
                bn1 (F_X12_wrong x0 (2 : Int32) (I27 x0 12) I27 L R) fun I43 =>
                some (I43)
            ) fun (I30 : MI) =>
            bn1 (LF_X12_readUnit_144 N N x0 u21 (0 : Int32) I30 L R) fun z56 =>
            bn1 (LF_X12_readUnit_199 N N x0 u21 (0 : Int32) z56 L R) fun z83 =>
            bn1 (F_X12_sign N x0 (59 : Int32) z83 L R) fun I85 =>
            wr (uI I85 x0 17 ((I85 x0 17) + (1 : Int32))) fun (I87 : MI) =>
            if (I87 x0 15) = 0 then
              some (true, I87)
            else
              some (false, I87)
  else none
set_option maxRecDepth 100000 in
set_option maxHeartbeats 4000000 in
theorem lp_X12_readUnit_144 {G : Gm} (C0 : Cx G (yX12_readUnit.cls) cX12_readUnit (some .boolean)) (eNL : G.nL = 4) (erm : G.rm = ({ frames := 4, cells := 0, slots := 0, locals := 87 } : Room)) (N : Nat) : ∀ (k : Nat) (y0 : Nat) (y2 : Int32) (y3 : Int32) (I : MI) (L : ML) (R : MR) (z : MI) (hk0 : kd y0 = 11) (ho0 : y0 < NN), LF_X12_readUnit_144 N k y0 y2 y3 I L R = some z → ∀ f : State → Prop, V G f 197 [(0, .ref (G.ad y0)), (2, .int y2)] [] z L R → V G f 144 [(0, .ref (G.ad y0)), (2, .int y2), (3, .int y3)] [] I L R := by
  intro k
  induction k with
  | zero =>
    intro y0 y2 y3 I L R q hk0 ho0 h
    exact absurd h (by simp [LF_X12_readUnit_144])
  | succ k ih =>
    intro y0 y2 y3 I L R q hk0 ho0 h f kx
    rw [LF_X12_readUnit_144] at h
    refine V_iload_n C0 2 rfl rfl dX12_readUnit_144 ?_
    refine V_bipush C0 (v := (8 : Int32)) (by decide) dX12_readUnit_145 ?_
    refine V_icmp_ge C0 (tgt := 197) (by decide) dX12_readUnit_147 (fun c45 => ?_) (fun c45 => ?_)
    · have h := (if_pos c45).symm.trans h
      cases h
      exact V_sub [0, 1] rfl kx
    · have h := (if_neg c45).symm.trans h
      refine V_aload_n C0 0 rfl rfl dX12_readUnit_150 ?_
      refine V_getI C0 11 15 fl_X12_128 ho0 hk0 rfl dX12_readUnit_151 ?_
      refine V_if_ne C0 (tgt := 197) (by decide) dX12_readUnit_154 (fun c46 => ?_) (fun c46 => ?_)
      · have h := (if_neg c46).symm.trans h
        cases h
        exact V_sub [0, 1] rfl kx
      · have h := (if_pos c46).symm.trans h
        refine V_aload_n C0 0 rfl rfl dX12_readUnit_157 ?_
        obtain ⟨a47, qa47, h⟩ := bnd_some h
        refine V_getR C0 11 19 fl_X12_38 ho0 hk0 rfl (rf_at qa47) dX12_readUnit_158 ?_
        refine V_bipush C0 (v := (8 : Int32)) (by decide) dX12_readUnit_161 ?_
        refine V_iload_n C0 1 rfl rfl dX12_readUnit_163 ?_
        refine V_imul C0 dX12_readUnit_164 ?_
        refine V_iload_n C0 2 rfl rfl dX12_readUnit_165 ?_
        refine V_iadd C0 dX12_readUnit_166 ?_
        refine V_iload_n C0 2 rfl rfl dX12_readUnit_167 ?_
        refine V_aload_n C0 0 rfl rfl dX12_readUnit_168 ?_
        refine V_getI C0 11 13 fl_X12_161 ho0 hk0 rfl dX12_readUnit_169 ?_
        obtain ⟨s48, q49, h⟩ := bn1_some h
        have k50 : V G f 190 [(0, .ref (G.ad y0)), (2, .int y2), (3, .int y3)] [.int s48, .int (((8 : Int32) * y2) + y3), .ref (G.ad a47)] I L R := by
          obtain ⟨I54, qI54, h⟩ := bnd_some h
          refine V_wi C0 (rf_lt qa47) (rf_kd qa47) qI54 dX12_readUnit_190 ?_
          obtain ⟨u55, eu55, h⟩ := wr_some h
          refine V_iinc C0 2 [(3, .int u55), (0, .ref (G.ad y0)), (2, .int y2)] rfl (n := 1) (by rw [eu55]; rfl) (by rw [eNL]; decide) rfl dX12_readUnit_191 ?_
          refine V_goto C0 (tgt := 144) (by decide) dX12_readUnit_194 ?_
          exact V_sub [1, 2, 0] rfl (ih y0 y2 u55 I54 L R _ hk0 ho0 h f kx)
        refine V_icmp_ge C0 (tgt := 189) (by decide) dX12_readUnit_172 (fun c51 => ?_) (fun c51 => ?_)
        · have q49 := (if_pos c51).symm.trans q49
          refine V_iconst C0 (v := (0 : Int32)) (by decide) dX12_readUnit_189 ?_
          cases q49
          exact V_sub [0, 1, 2] rfl k50
        · have q49 := (if_neg c51).symm.trans q49
          refine V_aload_n C0 0 rfl rfl dX12_readUnit_175 ?_
          obtain ⟨a52, qa52, q49⟩ := bnd_some q49
          refine V_getR C0 11 8 fl_X12_28 ho0 hk0 rfl (rf_at qa52) dX12_readUnit_176 ?_
          refine V_aload_n C0 0 rfl rfl dX12_readUnit_179 ?_
          refine V_getI C0 11 12 fl_X12_135 ho0 hk0 rfl dX12_readUnit_180 ?_
          refine V_iload_n C0 2 rfl rfl dX12_readUnit_183 ?_
          refine V_iadd C0 dX12_readUnit_184 ?_
          obtain ⟨v53, qv53, q49⟩ := bnd_some q49
          refine V_ri C0 (rf_lt qa52) (rf_kd qa52) qv53 dX12_readUnit_185 ?_
          refine V_goto C0 (tgt := 190) (by decide) dX12_readUnit_186 ?_
          cases q49
          exact V_sub [0, 1, 2] rfl k50
set_option maxRecDepth 100000 in
set_option maxHeartbeats 4000000 in
theorem lp_X12_readUnit_199 {G : Gm} (C0 : Cx G (yX12_readUnit.cls) cX12_readUnit (some .boolean)) (eNL : G.nL = 4) (erm : G.rm = ({ frames := 4, cells := 0, slots := 0, locals := 87 } : Room)) (N : Nat) : ∀ (k : Nat) (y0 : Nat) (y2 : Int32) (y3 : Int32) (I : MI) (L : ML) (R : MR) (z : MI) (hk0 : kd y0 = 11) (ho0 : y0 < NN), LF_X12_readUnit_199 N k y0 y2 y3 I L R = some z → ∀ f : State → Prop, V G f 277 [(0, .ref (G.ad y0))] [] z L R → V G f 199 [(0, .ref (G.ad y0)), (2, .int y2), (3, .int y3)] [] I L R := by
  intro k
  induction k with
  | zero =>
    intro y0 y2 y3 I L R q hk0 ho0 h
    exact absurd h (by simp [LF_X12_readUnit_199])
  | succ k ih =>
    intro y0 y2 y3 I L R q hk0 ho0 h f kx
    rw [LF_X12_readUnit_199] at h
    refine V_iload_n C0 2 rfl rfl dX12_readUnit_199 ?_
    refine V_aload_n C0 0 rfl rfl dX12_readUnit_200 ?_
    obtain ⟨a58, qa58, h⟩ := bnd_some h
    refine V_getR C0 11 18 fl_X12_35 ho0 hk0 rfl (rf_at qa58) dX12_readUnit_201 ?_
    refine V_iload_n C0 1 rfl rfl dX12_readUnit_204 ?_
    obtain ⟨v59, qv59, h⟩ := bnd_some h
    refine V_ri C0 (rf_lt qa58) (rf_kd qa58) qv59 dX12_readUnit_205 ?_
    obtain ⟨v60, q61, h⟩ := bn1_some h
    refine V_callS C0 (st := [.int y3]) (As := [.int v59]) (c_X12_many G.l G.D G.cA G.ad G.bs G.X C0.2.2.2.2.2.2.2.2.2.1 C0.2.2.2.2.2.2.2.2.2.2.2.2 v59 I L R v60 q61) lc_X12_many lk_X12_190 rfl (by rw [erm]; decide) (Nat.le_of_ble_eq_true rfl) dX12_readUnit_206 ?_
    show V G _ 209 [(0, .ref (G.ad y0)), (2, .int y2), (3, .int y3)] [.int v60, .int y3] I L R
    refine V_icmp_ge C0 (tgt := 277) (by decide) dX12_readUnit_209 (fun c62 => ?_) (fun c62 => ?_)
    · have h := (if_pos c62).symm.trans h
      cases h
      exact V_sub [0] rfl kx
    · have h := (if_neg c62).symm.trans h
      refine V_aload_n C0 0 rfl rfl dX12_readUnit_212 ?_
      refine V_getI C0 11 15 fl_X12_128 ho0 hk0 rfl dX12_readUnit_213 ?_
      refine V_if_ne C0 (tgt := 277) (by decide) dX12_readUnit_216 (fun c63 => ?_) (fun c63 => ?_)
      · have h := (if_neg c63).symm.trans h
        cases h
        exact V_sub [0] rfl kx
      · have h := (if_pos c63).symm.trans h
        refine V_aload_n C0 0 rfl rfl dX12_readUnit_219 ?_
        obtain ⟨a64, qa64, h⟩ := bnd_some h
        refine V_getR C0 11 20 fl_X12_41 ho0 hk0 rfl (rf_at qa64) dX12_readUnit_220 ?_
        refine V_iconst C0 (v := (3 : Int32)) (by decide) dX12_readUnit_223 ?_
        refine V_iload_n C0 1 rfl rfl dX12_readUnit_224 ?_
        refine V_imul C0 dX12_readUnit_225 ?_
        refine V_iload_n C0 2 rfl rfl dX12_readUnit_226 ?_
        refine V_iadd C0 dX12_readUnit_227 ?_
        refine V_aload_n C0 0 rfl rfl dX12_readUnit_228 ?_
        refine V_ldc C0 (v := (-99999 : Int32)) (gW_in _ (tb_8 _ (List.mem_of_getElem? (i := 79) rfl)) rfl) dX12_readUnit_229 ?_
        refine V_ldc C0 (v := (99999 : Int32)) (gW_in _ (tb_8 _ (List.mem_of_getElem? (i := 80) rfl)) rfl) dX12_readUnit_231 ?_
        obtain ⟨v65, I66, q67, h⟩ := bn2_some h
        refine V_callV C0 (st := [.int (((3 : Int32) * y2) + y3), .ref (G.ad a64)]) (As := [.int (-99999 : Int32), .int (99999 : Int32)]) 11 (c_X12_number G.l G.D G.cA G.ad G.bs G.X C0.2.2.2.2.2.2.2.2.2.1 C0.2.2.2.2.2.2.2.2.2.2.2.2 N y0 (-99999 : Int32) (99999 : Int32) I L R v65 I66 q67) lc_X12_number lk_X12_195 ho0 hk0 ⟨_, rfl, rfl⟩ rfl (by rw [erm]; decide) (Nat.le_of_ble_eq_true rfl) dX12_readUnit_233 ?_
        show V G _ 236 [(0, .ref (G.ad y0)), (2, .int y2), (3, .int y3)] [.int v65, .int (((3 : Int32) * y2) + y3), .ref (G.ad a64)] I66 L R
        obtain ⟨I68, qI68, h⟩ := bnd_some h
        refine V_wi C0 (rf_lt qa64) (rf_kd qa64) qI68 dX12_readUnit_236 ?_
        refine V_aload_n C0 0 rfl rfl dX12_readUnit_237 ?_
        refine V_getI C0 11 15 fl_X12_128 ho0 hk0 rfl dX12_readUnit_238 ?_
        obtain ⟨I69, q70, h⟩ := bn1_some h
        have k71 : V G f 271 [(0, .ref (G.ad y0)), (2, .int y2), (3, .int y3)] [] I69 L R := by
          obtain ⟨u82, eu82, h⟩ := wr_some h
          refine V_iinc C0 2 [(3, .int u82), (0, .ref (G.ad y0)), (2, .int y2)] rfl (n := 1) (by rw [eu82]; rfl) (by rw [eNL]; decide) rfl dX12_readUnit_271 ?_
          refine V_goto C0 (tgt := 199) (by decide) dX12_readUnit_274 ?_
          exact V_sub [1, 2, 0] rfl (ih y0 y2 u82 I69 L R _ hk0 ho0 h f kx)
        refine V_if_ne C0 (tgt := 271) (by decide) dX12_readUnit_241 (fun c72 => ?_) (fun c72 => ?_)
        · have q70 := (if_neg c72).symm.trans q70
          cases q70
          exact V_sub [0, 1, 2] rfl k71
        · have q70 := (if_pos c72).symm.trans q70
          refine V_aload_n C0 0 rfl rfl dX12_readUnit_244 ?_
          refine V_aload_n C0 0 rfl rfl dX12_readUnit_245 ?_
          refine V_getR C0 11 18 fl_X12_35 ho0 hk0 rfl (rf_at qa58) dX12_readUnit_246 ?_
          refine V_iload_n C0 1 rfl rfl dX12_readUnit_249 ?_
          obtain ⟨v73, qv73, q70⟩ := bnd_some q70
          refine V_ri C0 (rf_lt qa58) (rf_kd qa58) qv73 dX12_readUnit_250 ?_
          refine V_iload_n C0 2 rfl rfl dX12_readUnit_251 ?_
          refine V_aload_n C0 0 rfl rfl dX12_readUnit_252 ?_
          refine V_getI C0 11 14 fl_X12_154 ho0 hk0 rfl dX12_readUnit_253 ?_
          obtain ⟨b74, q75, q70⟩ := bn1_some q70
          refine V_callV C0 (st := []) (As := [.int v73, .int y3, .int (I68 y0 14)]) 11 (c_X12_fits G.l G.D G.cA G.ad G.bs G.X C0.2.2.2.2.2.2.2.2.2.1 C0.2.2.2.2.2.2.2.2.2.2.2.2 y0 v73 y3 (I68 y0 14) I68 L R b74 q75) lc_X12_fits lk_X12_198 ho0 hk0 ⟨_, rfl, rfl⟩ rfl (by rw [erm]; decide) (Nat.le_of_ble_eq_true rfl) dX12_readUnit_256 ?_
          show V G _ 259 [(0, .ref (G.ad y0)), (2, .int y2), (3, .int y3)] [.int (b2i b74)] I68 L R
          obtain ⟨I76, q77, q70⟩ := bn1_some q70
          have k78 : V G f 271 [(0, .ref (G.ad y0)), (2, .int y2), (3, .int y3)] [] I76 L R := by
            cases q70
            exact V_sub [0, 1, 2] rfl k71
          refine V_if_ne C0 (tgt := 271) (by decide) dX12_readUnit_259 (fun c79 => ?_) (fun c79 => ?_)
          · have q77 := (if_neg c79).symm.trans q77
            cases q77
            exact V_sub [0, 1, 2] rfl k78
          · have q77 := (if_pos c79).symm.trans q77
            refine V_aload_n C0 0 rfl rfl dX12_readUnit_262 ?_
            refine V_iconst C0 (v := (5 : Int32)) (by decide) dX12_readUnit_263 ?_
            refine V_aload_n C0 0 rfl rfl dX12_readUnit_264 ?_
            refine V_getI C0 11 12 fl_X12_135 ho0 hk0 rfl dX12_readUnit_265 ?_
            obtain ⟨I80, q81, q77⟩ := bn1_some q77
            refine V_callV C0 (st := []) (As := [.int (5 : Int32), .int (I68 y0 12)]) 11 (c_X12_wrong G.l G.D G.cA G.ad G.bs G.X C0.2.2.2.2.2.2.2.2.2.1 C0.2.2.2.2.2.2.2.2.2.2.2.2 y0 (5 : Int32) (I68 y0 12) I68 L R I80 q81) lc_X12_wrong lk_X12_157 ho0 hk0 ⟨_, rfl, rfl⟩ rfl (by rw [erm]; decide) (Nat.le_of_ble_eq_true rfl) dX12_readUnit_268 ?_
            show V G _ 271 [(0, .ref (G.ad y0)), (2, .int y2), (3, .int y3)] [] I80 L R
            cases q77
            exact V_sub [0, 1, 2] rfl k78
set_option maxRecDepth 100000 in
set_option maxHeartbeats 4000000 in
theorem c_X12_readUnit (l : Launch) (D : va_G) (cA : Nat → ClassId) (ad : Nat → Nat) (bs : Nat) (X : State → Prop) (hAd : Ax ad bs) (hX : Stb bs X) (N : Nat) (x0 : Nat) (I : MI) (L : ML) (R : MR) (r : Bool) (I' : MI) (h : F_X12_readUnit N x0 I L R = some (r, I')) : Cn l D cA ad bs X yX12_readUnit cX12_readUnit 4 (some .boolean) 4 87 [.ref (ad x0)] I L R (some (.int (b2i r)), I', L, R) := by
  refine Cn.ofV hAd hX [(0, .ref (ad x0))] rfl (Nat.le_of_ble_eq_true rfl) (by decide) ?_
  intro G el eD ecA ead ebs eX erm eNL C0
  subst el eD ecA ead ebs eX
  unfold F_X12_readUnit at h
  obtain ⟨c_x0, h⟩ := ite_some h
  refine V_aload_n C0 0 rfl rfl dX12_readUnit_0 ?_
  obtain ⟨b1, I2, q3, h⟩ := bn2_some h
  refine V_callV C0 (st := []) (As := []) 11 (c_X12_next G.l G.D G.cA G.ad G.bs G.X C0.2.2.2.2.2.2.2.2.2.1 C0.2.2.2.2.2.2.2.2.2.2.2.2 N x0 I L R b1 I2 q3) lc_X12_next lk_X12_164 c_x0.2 c_x0.1 ⟨_, rfl, rfl⟩ rfl (by rw [erm]; decide) (Nat.le_of_ble_eq_true rfl) dX12_readUnit_1 ?_
  show V G _ 4 [(0, .ref (G.ad x0))] [.int (b2i b1)] I2 L R
  refine V_if_eq C0 (tgt := 14) (by decide) dX12_readUnit_4 (fun c4 => ?_) (fun c4 => ?_)
  · have h := (if_pos c4).symm.trans h
    refine V_iconst C0 (v := (0 : Int32)) (by decide) dX12_readUnit_14 ?_
    cases h
    exact V_zret C0 (by decide) dX12_readUnit_15
  · have h := (if_neg c4).symm.trans h
    refine V_aload_n C0 0 rfl rfl dX12_readUnit_7 ?_
    refine V_getI C0 11 11 fl_X12_138 c_x0.2 c_x0.1 rfl dX12_readUnit_8 ?_
    refine V_if_ne C0 (tgt := 16) (by decide) dX12_readUnit_11 (fun c5 => ?_) (fun c5 => ?_)
    · have h := (if_neg c5).symm.trans h
      refine V_aload_n C0 0 rfl rfl dX12_readUnit_16 ?_
      refine V_getI C0 11 11 fl_X12_138 c_x0.2 c_x0.1 rfl dX12_readUnit_17 ?_
      refine V_iconst C0 (v := (1 : Int32)) (by decide) dX12_readUnit_20 ?_
      obtain ⟨s6, q7, h⟩ := bn1_some h
      have k8 : V G (qf G (some (.int (b2i r)), I', L, R)) 39 [(0, .ref (G.ad x0))] [.int s6] I2 L R := by
        refine V_istore_n C0 [(1, .int s6), (0, .ref (G.ad x0))] rfl (by rw [eNL]; decide) rfl dX12_readUnit_39 ?_
        refine V_iload_n C0 0 rfl rfl dX12_readUnit_40 ?_
        refine V_iconst C0 (v := (-1 : Int32)) (by decide) dX12_readUnit_41 ?_
        refine V_icmp_eq C0 (tgt := 54) (by decide) dX12_readUnit_42 (fun c13 => ?_) (fun c13 => ?_)
        · have h := (if_pos c13).symm.trans h
          refine V_aload_n C0 1 rfl rfl dX12_readUnit_54 ?_
          refine V_iload_n C0 0 rfl rfl dX12_readUnit_55 ?_
          refine V_iconst C0 (v := (-1 : Int32)) (by decide) dX12_readUnit_56 ?_
          obtain ⟨s14, q15, h⟩ := bn1_some h
          have k16 : V G (qf G (some (.int (b2i r)), I', L, R)) 65 [(0, .ref (G.ad x0))] [.int s14, .ref (G.ad x0)] I2 L R := by
            refine V_aload_n C0 0 rfl rfl dX12_readUnit_65 ?_
            refine V_getI C0 11 12 fl_X12_135 c_x0.2 c_x0.1 rfl dX12_readUnit_66 ?_
            obtain ⟨I18, q19, h⟩ := bn1_some h
            refine V_callV C0 (st := []) (As := [.int s14, .int (I2 x0 12)]) 11 (c_X12_wrong G.l G.D G.cA G.ad G.bs G.X C0.2.2.2.2.2.2.2.2.2.1 C0.2.2.2.2.2.2.2.2.2.2.2.2 x0 s14 (I2 x0 12) I2 L R I18 q19) lc_X12_wrong lk_X12_157 c_x0.2 c_x0.1 ⟨_, rfl, rfl⟩ rfl (by rw [erm]; decide) (Nat.le_of_ble_eq_true rfl) dX12_readUnit_69 ?_
            show V G _ 72 [(0, .ref (G.ad x0))] [] I18 L R
            refine V_iconst C0 (v := (0 : Int32)) (by decide) dX12_readUnit_72 ?_
            cases h
            exact V_zret C0 (by decide) dX12_readUnit_73
          refine V_icmp_ne C0 (tgt := 64) (by decide) dX12_readUnit_57 (fun c17 => ?_) (fun c17 => ?_)
          · have q15 := (if_neg c17).symm.trans q15
            refine V_iconst C0 (v := (4 : Int32)) (by decide) dX12_readUnit_64 ?_
            cases q15
            exact V_sub [1] rfl k16
          · have q15 := (if_pos c17).symm.trans q15
            refine V_iconst C0 (v := (2 : Int32)) (by decide) dX12_readUnit_60 ?_
            refine V_goto C0 (tgt := 65) (by decide) dX12_readUnit_61 ?_
            cases q15
            exact V_sub [1] rfl k16
        · have h := (if_neg c13).symm.trans h
          refine V_aload_n C0 1 rfl rfl dX12_readUnit_45 ?_
          refine V_getI C0 11 17 fl_X12_168 c_x0.2 c_x0.1 rfl dX12_readUnit_46 ?_
          refine V_bipush C0 (v := (20 : Int32)) (by decide) dX12_readUnit_49 ?_
          refine V_icmp_ne C0 (tgt := 74) (by decide) dX12_readUnit_51 (fun c20 => ?_) (fun c20 => ?_)
          · have h := (if_neg c20).symm.trans h
            refine V_aload_n C0 1 rfl rfl dX12_readUnit_74 ?_
            refine V_getI C0 11 17 fl_X12_168 c_x0.2 c_x0.1 rfl dX12_readUnit_75 ?_
            obtain ⟨u21, eu21, h⟩ := wr_some h
            rw [← eu21]
            refine V_istore_n C0 [(2, .int u21), (1, .int s6), (0, .ref (G.ad x0))] rfl (by rw [eNL]; decide) rfl dX12_readUnit_78 ?_
            refine V_aload_n C0 2 rfl rfl dX12_readUnit_79 ?_
            obtain ⟨a22, qa22, h⟩ := bnd_some h
            refine V_getR C0 11 18 fl_X12_35 c_x0.2 c_x0.1 rfl (rf_at qa22) dX12_readUnit_80 ?_
            refine V_iload_n C0 0 rfl rfl dX12_readUnit_83 ?_
            refine V_aload_n C0 2 rfl rfl dX12_readUnit_84 ?_
            obtain ⟨a23, qa23, h⟩ := bnd_some h
            refine V_getR C0 11 3 fl_X12_19 c_x0.2 c_x0.1 rfl (rf_at qa23) dX12_readUnit_85 ?_
            refine V_iload_n C0 1 rfl rfl dX12_readUnit_88 ?_
            obtain ⟨v24, qv24, h⟩ := bnd_some h
            refine V_ri C0 (rf_lt qa23) (rf_kd qa23) qv24 dX12_readUnit_89 ?_
            obtain ⟨I25, qI25, h⟩ := bnd_some h
            refine V_wi C0 (rf_lt qa22) (rf_kd qa22) qI25 dX12_readUnit_90 ?_
            refine V_aload_n C0 2 rfl rfl dX12_readUnit_91 ?_
            obtain ⟨b26, I27, q28, h⟩ := bn2_some h
            refine V_callV C0 (st := []) (As := []) 11 (c_X12_next G.l G.D G.cA G.ad G.bs G.X C0.2.2.2.2.2.2.2.2.2.1 C0.2.2.2.2.2.2.2.2.2.2.2.2 N x0 I25 L R b26 I27 q28) lc_X12_next lk_X12_164 c_x0.2 c_x0.1 ⟨_, rfl, rfl⟩ rfl (by rw [erm]; decide) (Nat.le_of_ble_eq_true rfl) dX12_readUnit_92 ?_
            show V G _ 95 [(2, .int u21), (1, .int s6), (0, .ref (G.ad x0))] [.int (b2i b26)] I27 L R
            refine V_if_ne C0 (tgt := 100) (by decide) dX12_readUnit_95 (fun c29 => ?_) (fun c29 => ?_)
            · have h := (if_neg c29).symm.trans h
              refine V_aload_n C0 2 rfl rfl dX12_readUnit_100 ?_
              refine V_getI C0 11 11 fl_X12_138 c_x0.2 c_x0.1 rfl dX12_readUnit_101 ?_
              refine V_iconst C0 (v := (1 : Int32)) (by decide) dX12_readUnit_104 ?_
              obtain ⟨I30, q31, h⟩ := bn1_some h
              have k32 : V G (qf G (some (.int (b2i r)), I', L, R)) 142 [(0, .ref (G.ad x0)), (2, .int u21)] [] I30 L R := by
                refine V_iconst C0 (v := (0 : Int32)) (by decide) dX12_readUnit_142 ?_
                refine V_istore_n C0 [(3, .int (0 : Int32)), (0, .ref (G.ad x0)), (2, .int u21)] rfl (by rw [eNL]; decide) rfl dX12_readUnit_143 ?_
                obtain ⟨z56, q57, h⟩ := bn1_some h
                refine V_sub [1, 2, 0] rfl (lp_X12_readUnit_144 C0 eNL erm N N x0 u21 (0 : Int32) I30 L R _ c_x0.1 c_x0.2 q57 _ ?_)
                show V G _ 197 [(0, .ref (G.ad x0)), (2, .int u21)] [] z56 L R
                refine V_iconst C0 (v := (0 : Int32)) (by decide) dX12_readUnit_197 ?_
                refine V_istore_n C0 [(3, .int (0 : Int32)), (0, .ref (G.ad x0)), (2, .int u21)] rfl (by rw [eNL]; decide) rfl dX12_readUnit_198 ?_
                obtain ⟨z83, q84, h⟩ := bn1_some h
                refine V_sub [1, 2, 0] rfl (lp_X12_readUnit_199 C0 eNL erm N N x0 u21 (0 : Int32) z56 L R _ c_x0.1 c_x0.2 q84 _ ?_)
                show V G _ 277 [(0, .ref (G.ad x0))] [] z83 L R
                refine V_aload_n C0 0 rfl rfl dX12_readUnit_277 ?_
                refine V_bipush C0 (v := (59 : Int32)) (by decide) dX12_readUnit_278 ?_
                obtain ⟨I85, q86, h⟩ := bn1_some h
                refine V_callV C0 (st := []) (As := [.int (59 : Int32)]) 11 (c_X12_sign G.l G.D G.cA G.ad G.bs G.X C0.2.2.2.2.2.2.2.2.2.1 C0.2.2.2.2.2.2.2.2.2.2.2.2 N x0 (59 : Int32) z83 L R I85 q86) lc_X12_sign lk_X12_201 c_x0.2 c_x0.1 ⟨_, rfl, rfl⟩ rfl (by rw [erm]; decide) (Nat.le_of_ble_eq_true rfl) dX12_readUnit_280 ?_
                show V G _ 283 [(0, .ref (G.ad x0))] [] I85 L R
                refine V_aload_n C0 0 rfl rfl dX12_readUnit_283 ?_
                refine V_dup C0 rfl dX12_readUnit_284 ?_
                refine V_getI C0 11 17 fl_X12_168 c_x0.2 c_x0.1 rfl dX12_readUnit_285 ?_
                refine V_iconst C0 (v := (1 : Int32)) (by decide) dX12_readUnit_288 ?_
                refine V_iadd C0 dX12_readUnit_289 ?_
                obtain ⟨I87, eI87, h⟩ := wr_some h
                refine V_putI C0 11 17 fp_X12_168 c_x0.2 c_x0.1 rfl dX12_readUnit_290 ?_
                rw [← eI87]
                refine V_aload_n C0 0 rfl rfl dX12_readUnit_293 ?_
                refine V_getI C0 11 15 fl_X12_128 c_x0.2 c_x0.1 rfl dX12_readUnit_294 ?_
                refine V_if_ne C0 (tgt := 304) (by decide) dX12_readUnit_297 (fun c88 => ?_) (fun c88 => ?_)
                · have h := (if_neg c88).symm.trans h
                  refine V_iconst C0 (v := (0 : Int32)) (by decide) dX12_readUnit_304 ?_
                  cases h
                  exact V_zret C0 (by decide) dX12_readUnit_305
                · have h := (if_pos c88).symm.trans h
                  refine V_iconst C0 (v := (1 : Int32)) (by decide) dX12_readUnit_300 ?_
                  refine V_goto C0 (tgt := 305) (by decide) dX12_readUnit_301 ?_
                  cases h
                  exact V_zret C0 (by decide) dX12_readUnit_305
              refine V_icmp_eq C0 (tgt := 120) (by decide) dX12_readUnit_105 (fun c33 => ?_) (fun c33 => ?_)
              · have q31 := (if_pos c33).symm.trans q31
                refine V_aload_n C0 2 rfl rfl dX12_readUnit_120 ?_
                refine V_aload_n C0 2 rfl rfl dX12_readUnit_121 ?_
                obtain ⟨a34, qa34, q31⟩ := bnd_some q31
                refine V_getR C0 11 19 fl_X12_38 c_x0.2 c_x0.1 rfl (rf_at qa34) dX12_readUnit_122 ?_
                refine V_iload_n C0 0 rfl rfl dX12_readUnit_125 ?_
                obtain ⟨v35, q36, q31⟩ := bn1_some q31
                refine V_callV C0 (st := []) (As := [.ref (G.ad a34), .int u21]) 11 (c_X12_named G.l G.D G.cA G.ad G.bs G.X C0.2.2.2.2.2.2.2.2.2.1 C0.2.2.2.2.2.2.2.2.2.2.2.2 N x0 a34 u21 I27 L R v35 q36) lc_X12_named lk_X12_186 c_x0.2 c_x0.1 ⟨_, rfl, rfl⟩ rfl (by rw [erm]; decide) (Nat.le_of_ble_eq_true rfl) dX12_readUnit_126 ?_
                show V G _ 129 [(2, .int u21), (1, .int s6), (0, .ref (G.ad x0))] [.int v35] I27 L R
                refine V_iconst C0 (v := (-1 : Int32)) (by decide) dX12_readUnit_129 ?_
                obtain ⟨I37, q38, q31⟩ := bn1_some q31
                have k39 : V G (qf G (some (.int (b2i r)), I', L, R)) 142 [(0, .ref (G.ad x0)), (2, .int u21)] [] I37 L R := by
                  cases q31
                  exact V_sub [0, 1] rfl k32
                refine V_icmp_eq C0 (tgt := 142) (by decide) dX12_readUnit_130 (fun c40 => ?_) (fun c40 => ?_)
                · have q38 := (if_pos c40).symm.trans q38
                  cases q38
                  exact V_sub [2, 0] rfl k39
                · have q38 := (if_neg c40).symm.trans q38
                  refine V_aload_n C0 2 rfl rfl dX12_readUnit_133 ?_
                  refine V_iconst C0 (v := (3 : Int32)) (by decide) dX12_readUnit_134 ?_
                  refine V_aload_n C0 2 rfl rfl dX12_readUnit_135 ?_
                  refine V_getI C0 11 12 fl_X12_135 c_x0.2 c_x0.1 rfl dX12_readUnit_136 ?_
                  obtain ⟨I41, q42, q38⟩ := bn1_some q38
                  refine V_callV C0 (st := []) (As := [.int (3 : Int32), .int (I27 x0 12)]) 11 (c_X12_wrong G.l G.D G.cA G.ad G.bs G.X C0.2.2.2.2.2.2.2.2.2.1 C0.2.2.2.2.2.2.2.2.2.2.2.2 x0 (3 : Int32) (I27 x0 12) I27 L R I41 q42) lc_X12_wrong lk_X12_157 c_x0.2 c_x0.1 ⟨_, rfl, rfl⟩ rfl (by rw [erm]; decide) (Nat.le_of_ble_eq_true rfl) dX12_readUnit_139 ?_
                  show V G _ 142 [(2, .int u21), (1, .int s6), (0, .ref (G.ad x0))] [] I41 L R
                  cases q38
                  exact V_sub [2, 0] rfl k39
              · have q31 := (if_neg c33).symm.trans q31
                refine V_aload_n C0 2 rfl rfl dX12_readUnit_108 ?_
                refine V_iconst C0 (v := (2 : Int32)) (by decide) dX12_readUnit_109 ?_
                refine V_aload_n C0 2 rfl rfl dX12_readUnit_110 ?_
                refine V_getI C0 11 12 fl_X12_135 c_x0.2 c_x0.1 rfl dX12_readUnit_111 ?_
                obtain ⟨I43, q44, q31⟩ := bn1_some q31
                refine V_callV C0 (st := []) (As := [.int (2 : Int32), .int (I27 x0 12)]) 11 (c_X12_wrong G.l G.D G.cA G.ad G.bs G.X C0.2.2.2.2.2.2.2.2.2.1 C0.2.2.2.2.2.2.2.2.2.2.2.2 x0 (2 : Int32) (I27 x0 12) I27 L R I43 q44) lc_X12_wrong lk_X12_157 c_x0.2 c_x0.1 ⟨_, rfl, rfl⟩ rfl (by rw [erm]; decide) (Nat.le_of_ble_eq_true rfl) dX12_readUnit_114 ?_
                show V G _ 117 [(2, .int u21), (1, .int s6), (0, .ref (G.ad x0))] [] I43 L R
                refine V_goto C0 (tgt := 142) (by decide) dX12_readUnit_117 ?_
                cases q31
                exact V_sub [2, 0] rfl k32
            · have h := (if_pos c29).symm.trans h
              refine V_iconst C0 (v := (0 : Int32)) (by decide) dX12_readUnit_98 ?_
              cases h
              exact V_zret C0 (by decide) dX12_readUnit_99
          · have h := (if_pos c20).symm.trans h
            refine V_aload_n C0 1 rfl rfl dX12_readUnit_54 ?_
            refine V_iload_n C0 0 rfl rfl dX12_readUnit_55 ?_
            refine V_iconst C0 (v := (-1 : Int32)) (by decide) dX12_readUnit_56 ?_
            obtain ⟨s89, q90, h⟩ := bn1_some h
            have k91 : V G (qf G (some (.int (b2i r)), I', L, R)) 65 [(0, .ref (G.ad x0))] [.int s89, .ref (G.ad x0)] I2 L R := by
              refine V_aload_n C0 0 rfl rfl dX12_readUnit_65 ?_
              refine V_getI C0 11 12 fl_X12_135 c_x0.2 c_x0.1 rfl dX12_readUnit_66 ?_
              obtain ⟨I93, q94, h⟩ := bn1_some h
              refine V_callV C0 (st := []) (As := [.int s89, .int (I2 x0 12)]) 11 (c_X12_wrong G.l G.D G.cA G.ad G.bs G.X C0.2.2.2.2.2.2.2.2.2.1 C0.2.2.2.2.2.2.2.2.2.2.2.2 x0 s89 (I2 x0 12) I2 L R I93 q94) lc_X12_wrong lk_X12_157 c_x0.2 c_x0.1 ⟨_, rfl, rfl⟩ rfl (by rw [erm]; decide) (Nat.le_of_ble_eq_true rfl) dX12_readUnit_69 ?_
              show V G _ 72 [(0, .ref (G.ad x0))] [] I93 L R
              refine V_iconst C0 (v := (0 : Int32)) (by decide) dX12_readUnit_72 ?_
              cases h
              exact V_zret C0 (by decide) dX12_readUnit_73
            refine V_icmp_ne C0 (tgt := 64) (by decide) dX12_readUnit_57 (fun c92 => ?_) (fun c92 => ?_)
            · have q90 := (if_neg c92).symm.trans q90
              refine V_iconst C0 (v := (4 : Int32)) (by decide) dX12_readUnit_64 ?_
              cases q90
              exact V_sub [1] rfl k91
            · have q90 := (if_pos c92).symm.trans q90
              refine V_iconst C0 (v := (2 : Int32)) (by decide) dX12_readUnit_60 ?_
              refine V_goto C0 (tgt := 65) (by decide) dX12_readUnit_61 ?_
              cases q90
              exact V_sub [1] rfl k91
      refine V_icmp_ne C0 (tgt := 38) (by decide) dX12_readUnit_21 (fun c9 => ?_) (fun c9 => ?_)
      · have q7 := (if_neg c9).symm.trans q7
        refine V_iconst C0 (v := (-1 : Int32)) (by decide) dX12_readUnit_38 ?_
        cases q7
        exact V_sub [0] rfl k8
      · have q7 := (if_pos c9).symm.trans q7
        refine V_aload_n C0 0 rfl rfl dX12_readUnit_24 ?_
        refine V_aload_n C0 0 rfl rfl dX12_readUnit_25 ?_
        obtain ⟨a10, qa10, q7⟩ := bnd_some q7
        refine V_getR C0 11 2 fl_X12_16 c_x0.2 c_x0.1 rfl (rf_at qa10) dX12_readUnit_26 ?_
        refine V_iconst C0 (v := (0 : Int32)) (by decide) dX12_readUnit_29 ?_
        refine V_bipush C0 (v := (22 : Int32)) (by decide) dX12_readUnit_30 ?_
        obtain ⟨v11, q12, q7⟩ := bn1_some q7
        refine V_callV C0 (st := []) (As := [.ref (G.ad a10), .int (0 : Int32), .int (22 : Int32)]) 11 (c_X12_wordOf G.l G.D G.cA G.ad G.bs G.X C0.2.2.2.2.2.2.2.2.2.1 C0.2.2.2.2.2.2.2.2.2.2.2.2 N x0 a10 (0 : Int32) (22 : Int32) I2 L R v11 q12) lc_X12_wordOf lk_X12_182 c_x0.2 c_x0.1 ⟨_, rfl, rfl⟩ rfl (by rw [erm]; decide) (Nat.le_of_ble_eq_true rfl) dX12_readUnit_32 ?_
        show V G _ 35 [(0, .ref (G.ad x0))] [.int v11] I2 L R
        refine V_goto C0 (tgt := 39) (by decide) dX12_readUnit_35 ?_
        cases q7
        exact V_sub [0] rfl k8
    · have h := (if_pos c5).symm.trans h
      refine V_iconst C0 (v := (0 : Int32)) (by decide) dX12_readUnit_14 ?_
      cases h
      exact V_zret C0 (by decide) dX12_readUnit_15
theorem dX12_get_0 : decode cX12_get 0 = .ok (.aload_n 0, 1) := by decide +kernel
theorem dX12_get_1 : decode cX12_get 1 = .ok (.getfield 50, 3) := by decide +kernel
theorem dX12_get_4 : decode cX12_get 4 = .ok (.bipush 65, 2) := by decide +kernel
theorem dX12_get_6 : decode cX12_get 6 = .ok (.iload_n 1, 1) := by decide +kernel
theorem dX12_get_7 : decode cX12_get 7 = .ok (.imul, 1) := by decide +kernel
theorem dX12_get_8 : decode cX12_get 8 = .ok (.iload_n 2, 1) := by decide +kernel
theorem dX12_get_9 : decode cX12_get 9 = .ok (.iadd, 1) := by decide +kernel
theorem dX12_get_10 : decode cX12_get 10 = .ok (.iaload, 1) := by decide +kernel
theorem dX12_get_11 : decode cX12_get 11 = .ok (.ireturn, 1) := by decide +kernel
def F_X12_get (x0 : Nat) (x1 : Int32) (x2 : Int32) (I : MI) (L : ML) (R : MR) : Option (Int32) :=
  if kd x0 = 11 ∧ x0 < NN then
  (rf R x0 24 20).bind fun a1 =>
  (ri I a1 (((65 : Int32) * x1) + x2)).bind fun v2 =>
  some (v2)
  else none
set_option maxRecDepth 100000 in
set_option maxHeartbeats 4000000 in
theorem c_X12_get (l : Launch) (D : va_G) (cA : Nat → ClassId) (ad : Nat → Nat) (bs : Nat) (X : State → Prop) (hAd : Ax ad bs) (hX : Stb bs X) (x0 : Nat) (x1 : Int32) (x2 : Int32) (I : MI) (L : ML) (R : MR) (r : Int32) (h : F_X12_get x0 x1 x2 I L R = some (r)) : Cn l D cA ad bs X yX12_get cX12_get 3 (some .int) 0 0 [.ref (ad x0), .int x1, .int x2] I L R (some (.int r), I, L, R) := by
  refine Cn.ofV hAd hX [(0, .ref (ad x0)), (1, .int x1), (2, .int x2)] rfl (Nat.le_of_ble_eq_true rfl) (by decide) ?_
  intro G el eD ecA ead ebs eX erm eNL C0
  subst el eD ecA ead ebs eX
  unfold F_X12_get at h
  obtain ⟨c_x0, h⟩ := ite_some h
  refine V_aload_n C0 0 rfl rfl dX12_get_0 ?_
  obtain ⟨a1, qa1, h⟩ := bnd_some h
  refine V_getR C0 11 24 fl_X12_50 c_x0.2 c_x0.1 rfl (rf_at qa1) dX12_get_1 ?_
  refine V_bipush C0 (v := (65 : Int32)) (by decide) dX12_get_4 ?_
  refine V_iload_n C0 1 rfl rfl dX12_get_6 ?_
  refine V_imul C0 dX12_get_7 ?_
  refine V_iload_n C0 2 rfl rfl dX12_get_8 ?_
  refine V_iadd C0 dX12_get_9 ?_
  obtain ⟨v2, qv2, h⟩ := bnd_some h
  refine V_ri C0 (rf_lt qa1) (rf_kd qa1) qv2 dX12_get_10 ?_
  cases h
  exact V_iret C0 dX12_get_11
theorem dX12_set_0 : decode cX12_set 0 = .ok (.aload_n 0, 1) := by decide +kernel
theorem dX12_set_1 : decode cX12_set 1 = .ok (.getfield 50, 3) := by decide +kernel
theorem dX12_set_4 : decode cX12_set 4 = .ok (.bipush 65, 2) := by decide +kernel
theorem dX12_set_6 : decode cX12_set 6 = .ok (.iload_n 1, 1) := by decide +kernel
theorem dX12_set_7 : decode cX12_set 7 = .ok (.imul, 1) := by decide +kernel
theorem dX12_set_8 : decode cX12_set 8 = .ok (.iload_n 2, 1) := by decide +kernel
theorem dX12_set_9 : decode cX12_set 9 = .ok (.iadd, 1) := by decide +kernel
theorem dX12_set_10 : decode cX12_set 10 = .ok (.iload_n 3, 1) := by decide +kernel
theorem dX12_set_11 : decode cX12_set 11 = .ok (.iastore, 1) := by decide +kernel
theorem dX12_set_12 : decode cX12_set 12 = .ok (.return_, 1) := by decide +kernel
def F_X12_set (x0 : Nat) (x1 : Int32) (x2 : Int32) (x3 : Int32) (I : MI) (L : ML) (R : MR) : Option (MI) :=
  if kd x0 = 11 ∧ x0 < NN then
  (rf R x0 24 20).bind fun a1 =>
  (wi I a1 (((65 : Int32) * x1) + x2) x3).bind fun I2 =>
  some (I2)
  else none
set_option maxRecDepth 100000 in
set_option maxHeartbeats 4000000 in
theorem c_X12_set (l : Launch) (D : va_G) (cA : Nat → ClassId) (ad : Nat → Nat) (bs : Nat) (X : State → Prop) (hAd : Ax ad bs) (hX : Stb bs X) (x0 : Nat) (x1 : Int32) (x2 : Int32) (x3 : Int32) (I : MI) (L : ML) (R : MR) (I' : MI) (h : F_X12_set x0 x1 x2 x3 I L R = some (I')) : Cn l D cA ad bs X yX12_set cX12_set 4 none 0 0 [.ref (ad x0), .int x1, .int x2, .int x3] I L R (none, I', L, R) := by
  refine Cn.ofV hAd hX [(0, .ref (ad x0)), (1, .int x1), (2, .int x2), (3, .int x3)] rfl (Nat.le_of_ble_eq_true rfl) (by decide) ?_
  intro G el eD ecA ead ebs eX erm eNL C0
  subst el eD ecA ead ebs eX
  unfold F_X12_set at h
  obtain ⟨c_x0, h⟩ := ite_some h
  refine V_aload_n C0 0 rfl rfl dX12_set_0 ?_
  obtain ⟨a1, qa1, h⟩ := bnd_some h
  refine V_getR C0 11 24 fl_X12_50 c_x0.2 c_x0.1 rfl (rf_at qa1) dX12_set_1 ?_
  refine V_bipush C0 (v := (65 : Int32)) (by decide) dX12_set_4 ?_
  refine V_iload_n C0 1 rfl rfl dX12_set_6 ?_
  refine V_imul C0 dX12_set_7 ?_
  refine V_iload_n C0 2 rfl rfl dX12_set_8 ?_
  refine V_iadd C0 dX12_set_9 ?_
  refine V_iload_n C0 3 rfl rfl dX12_set_10 ?_
  obtain ⟨I2, qI2, h⟩ := bnd_some h
  refine V_wi C0 (rf_lt qa1) (rf_kd qa1) qI2 dX12_set_11 ?_
  cases h
  exact V_vret C0 dX12_set_12
theorem dX12_grow_0 : decode cX12_grow 0 = .ok (.aload_n 0, 1) := by decide +kernel
theorem dX12_grow_1 : decode cX12_grow 1 = .ok (.getfield 50, 3) := by decide +kernel
theorem dX12_grow_4 : decode cX12_grow 4 = .ok (.bipush 65, 2) := by decide +kernel
theorem dX12_grow_6 : decode cX12_grow 6 = .ok (.iload_n 1, 1) := by decide +kernel
theorem dX12_grow_7 : decode cX12_grow 7 = .ok (.imul, 1) := by decide +kernel
theorem dX12_grow_8 : decode cX12_grow 8 = .ok (.iload_n 2, 1) := by decide +kernel
theorem dX12_grow_9 : decode cX12_grow 9 = .ok (.iadd, 1) := by decide +kernel
theorem dX12_grow_10 : decode cX12_grow 10 = .ok (.dup2, 1) := by decide +kernel
theorem dX12_grow_11 : decode cX12_grow 11 = .ok (.iaload, 1) := by decide +kernel
theorem dX12_grow_12 : decode cX12_grow 12 = .ok (.iload_n 3, 1) := by decide +kernel
theorem dX12_grow_13 : decode cX12_grow 13 = .ok (.iadd, 1) := by decide +kernel
theorem dX12_grow_14 : decode cX12_grow 14 = .ok (.iastore, 1) := by decide +kernel
theorem dX12_grow_15 : decode cX12_grow 15 = .ok (.return_, 1) := by decide +kernel
def F_X12_grow (x0 : Nat) (x1 : Int32) (x2 : Int32) (x3 : Int32) (I : MI) (L : ML) (R : MR) : Option (MI) :=
  if kd x0 = 11 ∧ x0 < NN then
  (rf R x0 24 20).bind fun a1 =>
  (ri I a1 (((65 : Int32) * x1) + x2)).bind fun v2 =>
  (wi I a1 (((65 : Int32) * x1) + x2) (v2 + x3)).bind fun I3 =>
  some (I3)
  else none
set_option maxRecDepth 100000 in
set_option maxHeartbeats 4000000 in
theorem c_X12_grow (l : Launch) (D : va_G) (cA : Nat → ClassId) (ad : Nat → Nat) (bs : Nat) (X : State → Prop) (hAd : Ax ad bs) (hX : Stb bs X) (x0 : Nat) (x1 : Int32) (x2 : Int32) (x3 : Int32) (I : MI) (L : ML) (R : MR) (I' : MI) (h : F_X12_grow x0 x1 x2 x3 I L R = some (I')) : Cn l D cA ad bs X yX12_grow cX12_grow 4 none 0 0 [.ref (ad x0), .int x1, .int x2, .int x3] I L R (none, I', L, R) := by
  refine Cn.ofV hAd hX [(0, .ref (ad x0)), (1, .int x1), (2, .int x2), (3, .int x3)] rfl (Nat.le_of_ble_eq_true rfl) (by decide) ?_
  intro G el eD ecA ead ebs eX erm eNL C0
  subst el eD ecA ead ebs eX
  unfold F_X12_grow at h
  obtain ⟨c_x0, h⟩ := ite_some h
  refine V_aload_n C0 0 rfl rfl dX12_grow_0 ?_
  obtain ⟨a1, qa1, h⟩ := bnd_some h
  refine V_getR C0 11 24 fl_X12_50 c_x0.2 c_x0.1 rfl (rf_at qa1) dX12_grow_1 ?_
  refine V_bipush C0 (v := (65 : Int32)) (by decide) dX12_grow_4 ?_
  refine V_iload_n C0 1 rfl rfl dX12_grow_6 ?_
  refine V_imul C0 dX12_grow_7 ?_
  refine V_iload_n C0 2 rfl rfl dX12_grow_8 ?_
  refine V_iadd C0 dX12_grow_9 ?_
  refine V_dup2 C0 rfl rfl dX12_grow_10 ?_
  obtain ⟨v2, qv2, h⟩ := bnd_some h
  refine V_ri C0 (rf_lt qa1) (rf_kd qa1) qv2 dX12_grow_11 ?_
  refine V_iload_n C0 3 rfl rfl dX12_grow_12 ?_
  refine V_iadd C0 dX12_grow_13 ?_
  obtain ⟨I3, qI3, h⟩ := bnd_some h
  refine V_wi C0 (rf_lt qa1) (rf_kd qa1) qI3 dX12_grow_14 ?_
  cases h
  exact V_vret C0 dX12_grow_15
theorem dX12_draw_0 : decode cX12_draw 0 = .ok (.aload_n 0, 1) := by decide +kernel
theorem dX12_draw_1 : decode cX12_draw 1 = .ok (.dup, 1) := by decide +kernel
theorem dX12_draw_2 : decode cX12_draw 2 = .ok (.getfield 205, 3) := by decide +kernel
theorem dX12_draw_5 : decode cX12_draw 5 = .ok (.iconst 1, 1) := by decide +kernel
theorem dX12_draw_6 : decode cX12_draw 6 = .ok (.iadd, 1) := by decide +kernel
theorem dX12_draw_7 : decode cX12_draw 7 = .ok (.putfield 205, 3) := by decide +kernel
theorem dX12_draw_10 : decode cX12_draw 10 = .ok (.aload_n 0, 1) := by decide +kernel
theorem dX12_draw_11 : decode cX12_draw 11 = .ok (.getfield 205, 3) := by decide +kernel
theorem dX12_draw_14 : decode cX12_draw 14 = .ok (.ireturn, 1) := by decide +kernel
def F_X12_draw (x0 : Nat) (I : MI) (L : ML) (R : MR) : Option (Int32 × MI) :=
  if kd x0 = 11 ∧ x0 < NN then
  wr (uI I x0 25 ((I x0 25) + (1 : Int32))) fun (I1 : MI) =>
  some ((I1 x0 25), I1)
  else none
set_option maxRecDepth 100000 in
set_option maxHeartbeats 4000000 in
theorem c_X12_draw (l : Launch) (D : va_G) (cA : Nat → ClassId) (ad : Nat → Nat) (bs : Nat) (X : State → Prop) (hAd : Ax ad bs) (hX : Stb bs X) (x0 : Nat) (I : MI) (L : ML) (R : MR) (r : Int32) (I' : MI) (h : F_X12_draw x0 I L R = some (r, I')) : Cn l D cA ad bs X yX12_draw cX12_draw 1 (some .int) 0 0 [.ref (ad x0)] I L R (some (.int r), I', L, R) := by
  refine Cn.ofV hAd hX [(0, .ref (ad x0))] rfl (Nat.le_of_ble_eq_true rfl) (by decide) ?_
  intro G el eD ecA ead ebs eX erm eNL C0
  subst el eD ecA ead ebs eX
  unfold F_X12_draw at h
  obtain ⟨c_x0, h⟩ := ite_some h
  refine V_aload_n C0 0 rfl rfl dX12_draw_0 ?_
  refine V_dup C0 rfl dX12_draw_1 ?_
  refine V_getI C0 11 25 fl_X12_205 c_x0.2 c_x0.1 rfl dX12_draw_2 ?_
  refine V_iconst C0 (v := (1 : Int32)) (by decide) dX12_draw_5 ?_
  refine V_iadd C0 dX12_draw_6 ?_
  obtain ⟨I1, eI1, h⟩ := wr_some h
  refine V_putI C0 11 25 fp_X12_205 c_x0.2 c_x0.1 rfl dX12_draw_7 ?_
  rw [← eI1]
  refine V_aload_n C0 0 rfl rfl dX12_draw_10 ?_
  refine V_getI C0 11 25 fl_X12_205 c_x0.2 c_x0.1 rfl dX12_draw_11 ?_
  cases h
  exact V_iret C0 dX12_draw_14
theorem dX12_noted_0 : decode cX12_noted 0 = .ok (.aload_n 0, 1) := by decide +kernel
theorem dX12_noted_1 : decode cX12_noted 1 = .ok (.getfield 208, 3) := by decide +kernel
theorem dX12_noted_4 : decode cX12_noted 4 = .ok (.bipush 100, 2) := by decide +kernel
theorem dX12_noted_6 : decode cX12_noted 6 = .ok (.if_icmp .ge 33, 3) := by decide +kernel
theorem dX12_noted_9 : decode cX12_noted 9 = .ok (.aload_n 0, 1) := by decide +kernel
theorem dX12_noted_10 : decode cX12_noted 10 = .ok (.getfield 53, 3) := by decide +kernel
theorem dX12_noted_13 : decode cX12_noted 13 = .ok (.aload_n 0, 1) := by decide +kernel
theorem dX12_noted_14 : decode cX12_noted 14 = .ok (.getfield 208, 3) := by decide +kernel
theorem dX12_noted_17 : decode cX12_noted 17 = .ok (.iload_n 1, 1) := by decide +kernel
theorem dX12_noted_18 : decode cX12_noted 18 = .ok (.iastore, 1) := by decide +kernel
theorem dX12_noted_19 : decode cX12_noted 19 = .ok (.aload_n 0, 1) := by decide +kernel
theorem dX12_noted_20 : decode cX12_noted 20 = .ok (.getfield 56, 3) := by decide +kernel
theorem dX12_noted_23 : decode cX12_noted 23 = .ok (.aload_n 0, 1) := by decide +kernel
theorem dX12_noted_24 : decode cX12_noted 24 = .ok (.getfield 208, 3) := by decide +kernel
theorem dX12_noted_27 : decode cX12_noted 27 = .ok (.iload_n 2, 1) := by decide +kernel
theorem dX12_noted_28 : decode cX12_noted 28 = .ok (.iastore, 1) := by decide +kernel
theorem dX12_noted_29 : decode cX12_noted 29 = .ok (.aload_n 0, 1) := by decide +kernel
theorem dX12_noted_30 : decode cX12_noted 30 = .ok (.getfield 59, 3) := by decide +kernel
theorem dX12_noted_33 : decode cX12_noted 33 = .ok (.aload_n 0, 1) := by decide +kernel
theorem dX12_noted_34 : decode cX12_noted 34 = .ok (.getfield 208, 3) := by decide +kernel
theorem dX12_noted_37 : decode cX12_noted 37 = .ok (.iload_n 3, 1) := by decide +kernel
theorem dX12_noted_38 : decode cX12_noted 38 = .ok (.iastore, 1) := by decide +kernel
theorem dX12_noted_39 : decode cX12_noted 39 = .ok (.aload_n 0, 1) := by decide +kernel
theorem dX12_noted_40 : decode cX12_noted 40 = .ok (.dup, 1) := by decide +kernel
theorem dX12_noted_41 : decode cX12_noted 41 = .ok (.getfield 208, 3) := by decide +kernel
theorem dX12_noted_44 : decode cX12_noted 44 = .ok (.iconst 1, 1) := by decide +kernel
theorem dX12_noted_45 : decode cX12_noted 45 = .ok (.iadd, 1) := by decide +kernel
theorem dX12_noted_46 : decode cX12_noted 46 = .ok (.putfield 208, 3) := by decide +kernel
theorem dX12_noted_49 : decode cX12_noted 49 = .ok (.return_, 1) := by decide +kernel
def F_X12_noted (x0 : Nat) (x1 : Int32) (x2 : Int32) (x3 : Int32) (I : MI) (L : ML) (R : MR) : Option (MI) :=
  if kd x0 = 11 ∧ x0 < NN then
  bn1 (
    if (100 : Int32) ≤ (I x0 28) then
      some (I)
    else
      (rf R x0 29 20).bind fun a5 =>
      (wi I a5 (I x0 28) x1).bind fun I6 =>
      (rf R x0 30 20).bind fun a7 =>
      (wi I6 a7 (I6 x0 28) x2).bind fun I8 =>
      (rf R x0 31 20).bind fun a9 =>
      (wi I8 a9 (I8 x0 28) x3).bind fun I10 =>
      some (I10)
  ) fun (I1 : MI) =>
  wr (uI I1 x0 28 ((I1 x0 28) + (1 : Int32))) fun (I11 : MI) =>
  some (I11)
  else none
set_option maxRecDepth 100000 in
set_option maxHeartbeats 4000000 in
theorem c_X12_noted (l : Launch) (D : va_G) (cA : Nat → ClassId) (ad : Nat → Nat) (bs : Nat) (X : State → Prop) (hAd : Ax ad bs) (hX : Stb bs X) (x0 : Nat) (x1 : Int32) (x2 : Int32) (x3 : Int32) (I : MI) (L : ML) (R : MR) (I' : MI) (h : F_X12_noted x0 x1 x2 x3 I L R = some (I')) : Cn l D cA ad bs X yX12_noted cX12_noted 4 none 0 0 [.ref (ad x0), .int x1, .int x2, .int x3] I L R (none, I', L, R) := by
  refine Cn.ofV hAd hX [(0, .ref (ad x0)), (1, .int x1), (2, .int x2), (3, .int x3)] rfl (Nat.le_of_ble_eq_true rfl) (by decide) ?_
  intro G el eD ecA ead ebs eX erm eNL C0
  subst el eD ecA ead ebs eX
  unfold F_X12_noted at h
  obtain ⟨c_x0, h⟩ := ite_some h
  refine V_aload_n C0 0 rfl rfl dX12_noted_0 ?_
  refine V_getI C0 11 28 fl_X12_208 c_x0.2 c_x0.1 rfl dX12_noted_1 ?_
  refine V_bipush C0 (v := (100 : Int32)) (by decide) dX12_noted_4 ?_
  obtain ⟨I1, q2, h⟩ := bn1_some h
  have k3 : V G (qf G (none, I', L, R)) 39 [(0, .ref (G.ad x0))] [] I1 L R := by
    refine V_aload_n C0 0 rfl rfl dX12_noted_39 ?_
    refine V_dup C0 rfl dX12_noted_40 ?_
    refine V_getI C0 11 28 fl_X12_208 c_x0.2 c_x0.1 rfl dX12_noted_41 ?_
    refine V_iconst C0 (v := (1 : Int32)) (by decide) dX12_noted_44 ?_
    refine V_iadd C0 dX12_noted_45 ?_
    obtain ⟨I11, eI11, h⟩ := wr_some h
    refine V_putI C0 11 28 fp_X12_208 c_x0.2 c_x0.1 rfl dX12_noted_46 ?_
    rw [← eI11]
    cases h
    exact V_vret C0 dX12_noted_49
  refine V_icmp_ge C0 (tgt := 39) (by decide) dX12_noted_6 (fun c4 => ?_) (fun c4 => ?_)
  · have q2 := (if_pos c4).symm.trans q2
    cases q2
    exact V_sub [0] rfl k3
  · have q2 := (if_neg c4).symm.trans q2
    refine V_aload_n C0 0 rfl rfl dX12_noted_9 ?_
    obtain ⟨a5, qa5, q2⟩ := bnd_some q2
    refine V_getR C0 11 29 fl_X12_53 c_x0.2 c_x0.1 rfl (rf_at qa5) dX12_noted_10 ?_
    refine V_aload_n C0 0 rfl rfl dX12_noted_13 ?_
    refine V_getI C0 11 28 fl_X12_208 c_x0.2 c_x0.1 rfl dX12_noted_14 ?_
    refine V_iload_n C0 1 rfl rfl dX12_noted_17 ?_
    obtain ⟨I6, qI6, q2⟩ := bnd_some q2
    refine V_wi C0 (rf_lt qa5) (rf_kd qa5) qI6 dX12_noted_18 ?_
    refine V_aload_n C0 0 rfl rfl dX12_noted_19 ?_
    obtain ⟨a7, qa7, q2⟩ := bnd_some q2
    refine V_getR C0 11 30 fl_X12_56 c_x0.2 c_x0.1 rfl (rf_at qa7) dX12_noted_20 ?_
    refine V_aload_n C0 0 rfl rfl dX12_noted_23 ?_
    refine V_getI C0 11 28 fl_X12_208 c_x0.2 c_x0.1 rfl dX12_noted_24 ?_
    refine V_iload_n C0 2 rfl rfl dX12_noted_27 ?_
    obtain ⟨I8, qI8, q2⟩ := bnd_some q2
    refine V_wi C0 (rf_lt qa7) (rf_kd qa7) qI8 dX12_noted_28 ?_
    refine V_aload_n C0 0 rfl rfl dX12_noted_29 ?_
    obtain ⟨a9, qa9, q2⟩ := bnd_some q2
    refine V_getR C0 11 31 fl_X12_59 c_x0.2 c_x0.1 rfl (rf_at qa9) dX12_noted_30 ?_
    refine V_aload_n C0 0 rfl rfl dX12_noted_33 ?_
    refine V_getI C0 11 28 fl_X12_208 c_x0.2 c_x0.1 rfl dX12_noted_34 ?_
    refine V_iload_n C0 3 rfl rfl dX12_noted_37 ?_
    obtain ⟨I10, qI10, q2⟩ := bnd_some q2
    refine V_wi C0 (rf_lt qa9) (rf_kd qa9) qI10 dX12_noted_38 ?_
    cases q2
    exact V_sub [0] rfl k3
theorem dX12_has_0 : decode cX12_has 0 = .ok (.iload_n 1, 1) := by decide +kernel
theorem dX12_has_1 : decode cX12_has 1 = .ok (.istore_n 3, 1) := by decide +kernel
theorem dX12_has_2 : decode cX12_has 2 = .ok (.iload_n 3, 1) := by decide +kernel
theorem dX12_has_3 : decode cX12_has 3 = .ok (.ifCond .lt 18, 3) := by decide +kernel
theorem dX12_has_6 : decode cX12_has 6 = .ok (.iload_n 3, 1) := by decide +kernel
theorem dX12_has_7 : decode cX12_has 7 = .ok (.iload_n 2, 1) := by decide +kernel
theorem dX12_has_8 : decode cX12_has 8 = .ok (.if_icmp .eq 13, 3) := by decide +kernel
theorem dX12_has_11 : decode cX12_has 11 = .ok (.aload_n 0, 1) := by decide +kernel
theorem dX12_has_12 : decode cX12_has 12 = .ok (.getfield 7, 3) := by decide +kernel
theorem dX12_has_15 : decode cX12_has 15 = .ok (.iload_n 3, 1) := by decide +kernel
theorem dX12_has_16 : decode cX12_has 16 = .ok (.iaload, 1) := by decide +kernel
theorem dX12_has_17 : decode cX12_has 17 = .ok (.istore_n 3, 1) := by decide +kernel
theorem dX12_has_18 : decode cX12_has 18 = .ok (.goto (-16), 3) := by decide +kernel
theorem dX12_has_21 : decode cX12_has 21 = .ok (.iload_n 3, 1) := by decide +kernel
theorem dX12_has_22 : decode cX12_has 22 = .ok (.iload_n 2, 1) := by decide +kernel
theorem dX12_has_23 : decode cX12_has 23 = .ok (.if_icmp .ne 7, 3) := by decide +kernel
theorem dX12_has_26 : decode cX12_has 26 = .ok (.iconst 1, 1) := by decide +kernel
theorem dX12_has_27 : decode cX12_has 27 = .ok (.goto 4, 3) := by decide +kernel
theorem dX12_has_30 : decode cX12_has 30 = .ok (.iconst 0, 1) := by decide +kernel
theorem dX12_has_31 : decode cX12_has 31 = .ok (.ireturn, 1) := by decide +kernel
def LF_X12_has_2 (N : Nat) : Nat → Nat → Int32 → Int32 → MI → ML → MR → Option (Int32)
  | 0, _, _, _, _, _, _ => none
  | k + 1, y0, y2, y3, I, L, R =>
    if y3 < 0 then
      some (y3)
    else
      if y3 = y2 then
        some (y3)
      else
        (rf R y0 0 20).bind fun a3 =>
        (ri I a3 y3).bind fun v4 =>
        LF_X12_has_2 N k y0 y2 v4 I L R
def F_X12_has (N : Nat) (x0 : Nat) (x1 : Int32) (x2 : Int32) (I : MI) (L : ML) (R : MR) : Option (Bool) :=
  if kd x0 = 11 ∧ x0 < NN then
  bn1 (LF_X12_has_2 N N x0 x2 x1 I L R) fun z5 =>
  if z5 = x2 then
    some (true)
  else
    some (false)
  else none
set_option maxRecDepth 100000 in
set_option maxHeartbeats 4000000 in
theorem lp_X12_has_2 {G : Gm} (C0 : Cx G (yX12_has.cls) cX12_has (some .boolean)) (eNL : G.nL = 4) (erm : G.rm = ({ frames := 0, cells := 0, slots := 0, locals := 0 } : Room)) (N : Nat) : ∀ (k : Nat) (y0 : Nat) (y2 : Int32) (y3 : Int32) (I : MI) (L : ML) (R : MR) (z : Int32) (hk0 : kd y0 = 11) (ho0 : y0 < NN), LF_X12_has_2 N k y0 y2 y3 I L R = some z → ∀ f : State → Prop, V G f 21 [(2, .int y2), (3, .int z)] [] I L R → V G f 2 [(0, .ref (G.ad y0)), (2, .int y2), (3, .int y3)] [] I L R := by
  intro k
  induction k with
  | zero =>
    intro y0 y2 y3 I L R q hk0 ho0 h
    exact absurd h (by simp [LF_X12_has_2])
  | succ k ih =>
    intro y0 y2 y3 I L R q hk0 ho0 h f kx
    rw [LF_X12_has_2] at h
    refine V_iload_n C0 2 rfl rfl dX12_has_2 ?_
    refine V_if_lt C0 (tgt := 21) (by decide) dX12_has_3 (fun c1 => ?_) (fun c1 => ?_)
    · have h := (if_pos c1).symm.trans h
      cases h
      exact V_sub [1, 2] rfl kx
    · have h := (if_neg c1).symm.trans h
      refine V_iload_n C0 2 rfl rfl dX12_has_6 ?_
      refine V_iload_n C0 1 rfl rfl dX12_has_7 ?_
      refine V_icmp_eq C0 (tgt := 21) (by decide) dX12_has_8 (fun c2 => ?_) (fun c2 => ?_)
      · have h := (if_pos c2).symm.trans h
        cases h
        exact V_sub [1, 2] rfl kx
      · have h := (if_neg c2).symm.trans h
        refine V_aload_n C0 0 rfl rfl dX12_has_11 ?_
        obtain ⟨a3, qa3, h⟩ := bnd_some h
        refine V_getR C0 11 0 fl_X12_7 ho0 hk0 rfl (rf_at qa3) dX12_has_12 ?_
        refine V_iload_n C0 2 rfl rfl dX12_has_15 ?_
        obtain ⟨v4, qv4, h⟩ := bnd_some h
        refine V_ri C0 (rf_lt qa3) (rf_kd qa3) qv4 dX12_has_16 ?_
        refine V_istore_n C0 [(3, .int v4), (0, .ref (G.ad y0)), (2, .int y2)] rfl (by rw [eNL]; decide) rfl dX12_has_17 ?_
        refine V_goto C0 (tgt := 2) (by decide) dX12_has_18 ?_
        exact V_sub [1, 2, 0] rfl (ih y0 y2 v4 I L R _ hk0 ho0 h f kx)
set_option maxRecDepth 100000 in
set_option maxHeartbeats 4000000 in
theorem c_X12_has (l : Launch) (D : va_G) (cA : Nat → ClassId) (ad : Nat → Nat) (bs : Nat) (X : State → Prop) (hAd : Ax ad bs) (hX : Stb bs X) (N : Nat) (x0 : Nat) (x1 : Int32) (x2 : Int32) (I : MI) (L : ML) (R : MR) (r : Bool) (h : F_X12_has N x0 x1 x2 I L R = some (r)) : Cn l D cA ad bs X yX12_has cX12_has 4 (some .boolean) 0 0 [.ref (ad x0), .int x1, .int x2] I L R (some (.int (b2i r)), I, L, R) := by
  refine Cn.ofV hAd hX [(0, .ref (ad x0)), (1, .int x1), (2, .int x2)] rfl (Nat.le_of_ble_eq_true rfl) (by decide) ?_
  intro G el eD ecA ead ebs eX erm eNL C0
  subst el eD ecA ead ebs eX
  unfold F_X12_has at h
  obtain ⟨c_x0, h⟩ := ite_some h
  refine V_iload_n C0 1 rfl rfl dX12_has_0 ?_
  refine V_istore_n C0 [(3, .int x1), (0, .ref (G.ad x0)), (1, .int x1), (2, .int x2)] rfl (by rw [eNL]; decide) rfl dX12_has_1 ?_
  obtain ⟨z5, q6, h⟩ := bn1_some h
  refine V_sub [1, 3, 0] rfl (lp_X12_has_2 C0 eNL erm N N x0 x2 x1 I L R _ c_x0.1 c_x0.2 q6 _ ?_)
  show V G _ 21 [(2, .int x2), (3, .int z5)] [] I L R
  refine V_iload_n C0 1 rfl rfl dX12_has_21 ?_
  refine V_iload_n C0 0 rfl rfl dX12_has_22 ?_
  refine V_icmp_ne C0 (tgt := 30) (by decide) dX12_has_23 (fun c7 => ?_) (fun c7 => ?_)
  · have h := (if_neg c7).symm.trans h
    refine V_iconst C0 (v := (0 : Int32)) (by decide) dX12_has_30 ?_
    cases h
    exact V_zret C0 (by decide) dX12_has_31
  · have h := (if_pos c7).symm.trans h
    refine V_iconst C0 (v := (1 : Int32)) (by decide) dX12_has_26 ?_
    refine V_goto C0 (tgt := 31) (by decide) dX12_has_27 ?_
    cases h
    exact V_zret C0 (by decide) dX12_has_31
theorem dX12_isA_0 : decode cX12_isA 0 = .ok (.aload_n 0, 1) := by decide +kernel
theorem dX12_isA_1 : decode cX12_isA 1 = .ok (.aload_n 0, 1) := by decide +kernel
theorem dX12_isA_2 : decode cX12_isA 2 = .ok (.iload_n 1, 1) := by decide +kernel
theorem dX12_isA_3 : decode cX12_isA 3 = .ok (.iconst 0, 1) := by decide +kernel
theorem dX12_isA_4 : decode cX12_isA 4 = .ok (.invokevirtual 211, 3) := by decide +kernel
theorem dX12_isA_7 : decode cX12_isA 7 = .ok (.iload_n 2, 1) := by decide +kernel
theorem dX12_isA_8 : decode cX12_isA 8 = .ok (.invokevirtual 214, 3) := by decide +kernel
theorem dX12_isA_11 : decode cX12_isA 11 = .ok (.ireturn, 1) := by decide +kernel
def F_X12_isA (N : Nat) (x0 : Nat) (x1 : Int32) (x2 : Int32) (I : MI) (L : ML) (R : MR) : Option (Bool) :=
  if kd x0 = 11 ∧ x0 < NN then
  bn1 (F_X12_get x0 x1 (0 : Int32) I L R) fun v1 =>
  bn1 (F_X12_has N x0 v1 x2 I L R) fun b3 =>
  some (b3)
  else none
set_option maxRecDepth 100000 in
set_option maxHeartbeats 4000000 in
theorem c_X12_isA (l : Launch) (D : va_G) (cA : Nat → ClassId) (ad : Nat → Nat) (bs : Nat) (X : State → Prop) (hAd : Ax ad bs) (hX : Stb bs X) (N : Nat) (x0 : Nat) (x1 : Int32) (x2 : Int32) (I : MI) (L : ML) (R : MR) (r : Bool) (h : F_X12_isA N x0 x1 x2 I L R = some (r)) : Cn l D cA ad bs X yX12_isA cX12_isA 3 (some .boolean) 1 23 [.ref (ad x0), .int x1, .int x2] I L R (some (.int (b2i r)), I, L, R) := by
  refine Cn.ofV hAd hX [(0, .ref (ad x0)), (1, .int x1), (2, .int x2)] rfl (Nat.le_of_ble_eq_true rfl) (by decide) ?_
  intro G el eD ecA ead ebs eX erm eNL C0
  subst el eD ecA ead ebs eX
  unfold F_X12_isA at h
  obtain ⟨c_x0, h⟩ := ite_some h
  refine V_aload_n C0 0 rfl rfl dX12_isA_0 ?_
  refine V_aload_n C0 0 rfl rfl dX12_isA_1 ?_
  refine V_iload_n C0 1 rfl rfl dX12_isA_2 ?_
  refine V_iconst C0 (v := (0 : Int32)) (by decide) dX12_isA_3 ?_
  obtain ⟨v1, q2, h⟩ := bn1_some h
  refine V_callV C0 (st := [.ref (G.ad x0)]) (As := [.int x1, .int (0 : Int32)]) 11 (c_X12_get G.l G.D G.cA G.ad G.bs G.X C0.2.2.2.2.2.2.2.2.2.1 C0.2.2.2.2.2.2.2.2.2.2.2.2 x0 x1 (0 : Int32) I L R v1 q2) lc_X12_get lk_X12_211 c_x0.2 c_x0.1 ⟨_, rfl, rfl⟩ rfl (by rw [erm]; decide) (Nat.le_of_ble_eq_true rfl) dX12_isA_4 ?_
  show V G _ 7 [(0, .ref (G.ad x0)), (1, .int x1), (2, .int x2)] [.int v1, .ref (G.ad x0)] I L R
  refine V_iload_n C0 2 rfl rfl dX12_isA_7 ?_
  obtain ⟨b3, q4, h⟩ := bn1_some h
  refine V_callV C0 (st := []) (As := [.int v1, .int x2]) 11 (c_X12_has G.l G.D G.cA G.ad G.bs G.X C0.2.2.2.2.2.2.2.2.2.1 C0.2.2.2.2.2.2.2.2.2.2.2.2 N x0 v1 x2 I L R b3 q4) lc_X12_has lk_X12_214 c_x0.2 c_x0.1 ⟨_, rfl, rfl⟩ rfl (by rw [erm]; decide) (Nat.le_of_ble_eq_true rfl) dX12_isA_8 ?_
  show V G _ 11 [(0, .ref (G.ad x0)), (1, .int x1), (2, .int x2)] [.int (b2i b3)] I L R
  cases h
  exact V_zret C0 (b2i01 _) dX12_isA_11
theorem dX12_isOn_0 : decode cX12_isOn 0 = .ok (.aload_n 0, 1) := by decide +kernel
theorem dX12_isOn_1 : decode cX12_isOn 1 = .ok (.iload_n 1, 1) := by decide +kernel
theorem dX12_isOn_2 : decode cX12_isOn 2 = .ok (.bipush 6, 2) := by decide +kernel
theorem dX12_isOn_4 : decode cX12_isOn 4 = .ok (.invokevirtual 217, 3) := by decide +kernel
theorem dX12_isOn_7 : decode cX12_isOn 7 = .ok (.ifCond .eq 18, 3) := by decide +kernel
theorem dX12_isOn_10 : decode cX12_isOn 10 = .ok (.aload_n 0, 1) := by decide +kernel
theorem dX12_isOn_11 : decode cX12_isOn 11 = .ok (.iload_n 1, 1) := by decide +kernel
theorem dX12_isOn_12 : decode cX12_isOn 12 = .ok (.bipush 22, 2) := by decide +kernel
theorem dX12_isOn_14 : decode cX12_isOn 14 = .ok (.invokevirtual 211, 3) := by decide +kernel
theorem dX12_isOn_17 : decode cX12_isOn 17 = .ok (.iconst 1, 1) := by decide +kernel
theorem dX12_isOn_18 : decode cX12_isOn 18 = .ok (.if_icmp .ne 7, 3) := by decide +kernel
theorem dX12_isOn_21 : decode cX12_isOn 21 = .ok (.iconst 1, 1) := by decide +kernel
theorem dX12_isOn_22 : decode cX12_isOn 22 = .ok (.goto 4, 3) := by decide +kernel
theorem dX12_isOn_25 : decode cX12_isOn 25 = .ok (.iconst 0, 1) := by decide +kernel
theorem dX12_isOn_26 : decode cX12_isOn 26 = .ok (.ireturn, 1) := by decide +kernel
def F_X12_isOn (N : Nat) (x0 : Nat) (x1 : Int32) (I : MI) (L : ML) (R : MR) : Option (Bool) :=
  if kd x0 = 11 ∧ x0 < NN then
  bn1 (F_X12_isA N x0 x1 (6 : Int32) I L R) fun b1 =>
  if (b2i b1) = 0 then
    some (false)
  else
    bn1 (F_X12_get x0 x1 (22 : Int32) I L R) fun v4 =>
    if v4 = (1 : Int32) then
      some (true)
    else
      some (false)
  else none
set_option maxRecDepth 100000 in
set_option maxHeartbeats 4000000 in
theorem c_X12_isOn (l : Launch) (D : va_G) (cA : Nat → ClassId) (ad : Nat → Nat) (bs : Nat) (X : State → Prop) (hAd : Ax ad bs) (hX : Stb bs X) (N : Nat) (x0 : Nat) (x1 : Int32) (I : MI) (L : ML) (R : MR) (r : Bool) (h : F_X12_isOn N x0 x1 I L R = some (r)) : Cn l D cA ad bs X yX12_isOn cX12_isOn 2 (some .boolean) 2 45 [.ref (ad x0), .int x1] I L R (some (.int (b2i r)), I, L, R) := by
  refine Cn.ofV hAd hX [(0, .ref (ad x0)), (1, .int x1)] rfl (Nat.le_of_ble_eq_true rfl) (by decide) ?_
  intro G el eD ecA ead ebs eX erm eNL C0
  subst el eD ecA ead ebs eX
  unfold F_X12_isOn at h
  obtain ⟨c_x0, h⟩ := ite_some h
  refine V_aload_n C0 0 rfl rfl dX12_isOn_0 ?_
  refine V_iload_n C0 1 rfl rfl dX12_isOn_1 ?_
  refine V_bipush C0 (v := (6 : Int32)) (by decide) dX12_isOn_2 ?_
  obtain ⟨b1, q2, h⟩ := bn1_some h
  refine V_callV C0 (st := []) (As := [.int x1, .int (6 : Int32)]) 11 (c_X12_isA G.l G.D G.cA G.ad G.bs G.X C0.2.2.2.2.2.2.2.2.2.1 C0.2.2.2.2.2.2.2.2.2.2.2.2 N x0 x1 (6 : Int32) I L R b1 q2) lc_X12_isA lk_X12_217 c_x0.2 c_x0.1 ⟨_, rfl, rfl⟩ rfl (by rw [erm]; decide) (Nat.le_of_ble_eq_true rfl) dX12_isOn_4 ?_
  show V G _ 7 [(0, .ref (G.ad x0)), (1, .int x1)] [.int (b2i b1)] I L R
  refine V_if_eq C0 (tgt := 25) (by decide) dX12_isOn_7 (fun c3 => ?_) (fun c3 => ?_)
  · have h := (if_pos c3).symm.trans h
    refine V_iconst C0 (v := (0 : Int32)) (by decide) dX12_isOn_25 ?_
    cases h
    exact V_zret C0 (by decide) dX12_isOn_26
  · have h := (if_neg c3).symm.trans h
    refine V_aload_n C0 0 rfl rfl dX12_isOn_10 ?_
    refine V_iload_n C0 1 rfl rfl dX12_isOn_11 ?_
    refine V_bipush C0 (v := (22 : Int32)) (by decide) dX12_isOn_12 ?_
    obtain ⟨v4, q5, h⟩ := bn1_some h
    refine V_callV C0 (st := []) (As := [.int x1, .int (22 : Int32)]) 11 (c_X12_get G.l G.D G.cA G.ad G.bs G.X C0.2.2.2.2.2.2.2.2.2.1 C0.2.2.2.2.2.2.2.2.2.2.2.2 x0 x1 (22 : Int32) I L R v4 q5) lc_X12_get lk_X12_211 c_x0.2 c_x0.1 ⟨_, rfl, rfl⟩ rfl (by rw [erm]; decide) (Nat.le_of_ble_eq_true rfl) dX12_isOn_14 ?_
    show V G _ 17 [(0, .ref (G.ad x0)), (1, .int x1)] [.int v4] I L R
    refine V_iconst C0 (v := (1 : Int32)) (by decide) dX12_isOn_17 ?_
    refine V_icmp_ne C0 (tgt := 25) (by decide) dX12_isOn_18 (fun c6 => ?_) (fun c6 => ?_)
    · have h := (if_neg c6).symm.trans h
      refine V_iconst C0 (v := (0 : Int32)) (by decide) dX12_isOn_25 ?_
      cases h
      exact V_zret C0 (by decide) dX12_isOn_26
    · have h := (if_pos c6).symm.trans h
      refine V_iconst C0 (v := (1 : Int32)) (by decide) dX12_isOn_21 ?_
      refine V_goto C0 (tgt := 26) (by decide) dX12_isOn_22 ?_
      cases h
      exact V_zret C0 (by decide) dX12_isOn_26
theorem dX12_isWhole_0 : decode cX12_isWhole 0 = .ok (.aload_n 0, 1) := by decide +kernel
theorem dX12_isWhole_1 : decode cX12_isWhole 1 = .ok (.iload_n 1, 1) := by decide +kernel
theorem dX12_isWhole_2 : decode cX12_isWhole 2 = .ok (.bipush 63, 2) := by decide +kernel
theorem dX12_isWhole_4 : decode cX12_isWhole 4 = .ok (.invokevirtual 211, 3) := by decide +kernel
theorem dX12_isWhole_7 : decode cX12_isWhole 7 = .ok (.ifCond .ne 7, 3) := by decide +kernel
theorem dX12_isWhole_10 : decode cX12_isWhole 10 = .ok (.iconst 1, 1) := by decide +kernel
theorem dX12_isWhole_11 : decode cX12_isWhole 11 = .ok (.goto 4, 3) := by decide +kernel
theorem dX12_isWhole_14 : decode cX12_isWhole 14 = .ok (.iconst 0, 1) := by decide +kernel
theorem dX12_isWhole_15 : decode cX12_isWhole 15 = .ok (.ireturn, 1) := by decide +kernel
def F_X12_isWhole (x0 : Nat) (x1 : Int32) (I : MI) (L : ML) (R : MR) : Option (Bool) :=
  if kd x0 = 11 ∧ x0 < NN then
  bn1 (F_X12_get x0 x1 (63 : Int32) I L R) fun v1 =>
  if v1 = 0 then
    some (true)
  else
    some (false)
  else none
set_option maxRecDepth 100000 in
set_option maxHeartbeats 4000000 in
theorem c_X12_isWhole (l : Launch) (D : va_G) (cA : Nat → ClassId) (ad : Nat → Nat) (bs : Nat) (X : State → Prop) (hAd : Ax ad bs) (hX : Stb bs X) (x0 : Nat) (x1 : Int32) (I : MI) (L : ML) (R : MR) (r : Bool) (h : F_X12_isWhole x0 x1 I L R = some (r)) : Cn l D cA ad bs X yX12_isWhole cX12_isWhole 2 (some .boolean) 1 22 [.ref (ad x0), .int x1] I L R (some (.int (b2i r)), I, L, R) := by
  refine Cn.ofV hAd hX [(0, .ref (ad x0)), (1, .int x1)] rfl (Nat.le_of_ble_eq_true rfl) (by decide) ?_
  intro G el eD ecA ead ebs eX erm eNL C0
  subst el eD ecA ead ebs eX
  unfold F_X12_isWhole at h
  obtain ⟨c_x0, h⟩ := ite_some h
  refine V_aload_n C0 0 rfl rfl dX12_isWhole_0 ?_
  refine V_iload_n C0 1 rfl rfl dX12_isWhole_1 ?_
  refine V_bipush C0 (v := (63 : Int32)) (by decide) dX12_isWhole_2 ?_
  obtain ⟨v1, q2, h⟩ := bn1_some h
  refine V_callV C0 (st := []) (As := [.int x1, .int (63 : Int32)]) 11 (c_X12_get G.l G.D G.cA G.ad G.bs G.X C0.2.2.2.2.2.2.2.2.2.1 C0.2.2.2.2.2.2.2.2.2.2.2.2 x0 x1 (63 : Int32) I L R v1 q2) lc_X12_get lk_X12_211 c_x0.2 c_x0.1 ⟨_, rfl, rfl⟩ rfl (by rw [erm]; decide) (Nat.le_of_ble_eq_true rfl) dX12_isWhole_4 ?_
  show V G _ 7 [(0, .ref (G.ad x0)), (1, .int x1)] [.int v1] I L R
  refine V_if_ne C0 (tgt := 14) (by decide) dX12_isWhole_7 (fun c3 => ?_) (fun c3 => ?_)
  · have h := (if_neg c3).symm.trans h
    refine V_iconst C0 (v := (0 : Int32)) (by decide) dX12_isWhole_14 ?_
    cases h
    exact V_zret C0 (by decide) dX12_isWhole_15
  · have h := (if_pos c3).symm.trans h
    refine V_iconst C0 (v := (1 : Int32)) (by decide) dX12_isWhole_10 ?_
    refine V_goto C0 (tgt := 15) (by decide) dX12_isWhole_11 ?_
    cases h
    exact V_zret C0 (by decide) dX12_isWhole_15
theorem dX12_findLayers_0 : decode cX12_findLayers 0 = .ok (.iconst 0, 1) := by decide +kernel
theorem dX12_findLayers_1 : decode cX12_findLayers 1 = .ok (.istore_n 2, 1) := by decide +kernel
theorem dX12_findLayers_2 : decode cX12_findLayers 2 = .ok (.iload_n 1, 1) := by decide +kernel
theorem dX12_findLayers_3 : decode cX12_findLayers 3 = .ok (.istore_n 3, 1) := by decide +kernel
theorem dX12_findLayers_4 : decode cX12_findLayers 4 = .ok (.iload_n 3, 1) := by decide +kernel
theorem dX12_findLayers_5 : decode cX12_findLayers 5 = .ok (.ifCond .lt 16, 3) := by decide +kernel
theorem dX12_findLayers_8 : decode cX12_findLayers 8 = .ok (.iinc 2 1, 3) := by decide +kernel
theorem dX12_findLayers_11 : decode cX12_findLayers 11 = .ok (.aload_n 0, 1) := by decide +kernel
theorem dX12_findLayers_12 : decode cX12_findLayers 12 = .ok (.getfield 7, 3) := by decide +kernel
theorem dX12_findLayers_15 : decode cX12_findLayers 15 = .ok (.iload_n 3, 1) := by decide +kernel
theorem dX12_findLayers_16 : decode cX12_findLayers 16 = .ok (.iaload, 1) := by decide +kernel
theorem dX12_findLayers_17 : decode cX12_findLayers 17 = .ok (.istore_n 3, 1) := by decide +kernel
theorem dX12_findLayers_18 : decode cX12_findLayers 18 = .ok (.goto (-14), 3) := by decide +kernel
theorem dX12_findLayers_21 : decode cX12_findLayers 21 = .ok (.iload_n 2, 1) := by decide +kernel
theorem dX12_findLayers_22 : decode cX12_findLayers 22 = .ok (.istore_n 3, 1) := by decide +kernel
theorem dX12_findLayers_23 : decode cX12_findLayers 23 = .ok (.iload_n 1, 1) := by decide +kernel
theorem dX12_findLayers_24 : decode cX12_findLayers 24 = .ok (.istore 4, 2) := by decide +kernel
theorem dX12_findLayers_26 : decode cX12_findLayers 26 = .ok (.iload 4, 2) := by decide +kernel
theorem dX12_findLayers_28 : decode cX12_findLayers 28 = .ok (.ifCond .lt 26, 3) := by decide +kernel
theorem dX12_findLayers_31 : decode cX12_findLayers 31 = .ok (.iinc 3 (-1), 3) := by decide +kernel
theorem dX12_findLayers_34 : decode cX12_findLayers 34 = .ok (.aload_n 0, 1) := by decide +kernel
theorem dX12_findLayers_35 : decode cX12_findLayers 35 = .ok (.getfield 62, 3) := by decide +kernel
theorem dX12_findLayers_38 : decode cX12_findLayers 38 = .ok (.iload_n 3, 1) := by decide +kernel
theorem dX12_findLayers_39 : decode cX12_findLayers 39 = .ok (.iload 4, 2) := by decide +kernel
theorem dX12_findLayers_41 : decode cX12_findLayers 41 = .ok (.iastore, 1) := by decide +kernel
theorem dX12_findLayers_42 : decode cX12_findLayers 42 = .ok (.aload_n 0, 1) := by decide +kernel
theorem dX12_findLayers_43 : decode cX12_findLayers 43 = .ok (.getfield 7, 3) := by decide +kernel
theorem dX12_findLayers_46 : decode cX12_findLayers 46 = .ok (.iload 4, 2) := by decide +kernel
theorem dX12_findLayers_48 : decode cX12_findLayers 48 = .ok (.iaload, 1) := by decide +kernel
theorem dX12_findLayers_49 : decode cX12_findLayers 49 = .ok (.istore 4, 2) := by decide +kernel
theorem dX12_findLayers_51 : decode cX12_findLayers 51 = .ok (.goto (-25), 3) := by decide +kernel
theorem dX12_findLayers_54 : decode cX12_findLayers 54 = .ok (.iload_n 2, 1) := by decide +kernel
theorem dX12_findLayers_55 : decode cX12_findLayers 55 = .ok (.ireturn, 1) := by decide +kernel
def LF_X12_findLayers_4 (N : Nat) : Nat → Nat → Int32 → Int32 → Int32 → MI → ML → MR → Option (Int32)
  | 0, _, _, _, _, _, _, _ => none
  | k + 1, y0, y1, y2, y3, I, L, R =>
    if y3 < 0 then
      some (y2)
    else
      wr (y2 + (1 : Int32)) fun (u2 : Int32) =>
      (rf R y0 0 20).bind fun a3 =>
      (ri I a3 y3).bind fun v4 =>
      LF_X12_findLayers_4 N k y0 y1 u2 v4 I L R
def LF_X12_findLayers_26 (N : Nat) : Nat → Nat → Int32 → Int32 → Int32 → MI → ML → MR → Option (MI)
  | 0, _, _, _, _, _, _, _ => none
  | k + 1, y0, y2, y3, y4, I, L, R =>
    if y4 < 0 then
      some (I)
    else
      wr (y3 + (-1 : Int32)) fun (u8 : Int32) =>
      (rf R y0 32 20).bind fun a9 =>
      (wi I a9 u8 y4).bind fun I10 =>
      (rf R y0 0 20).bind fun a11 =>
      (ri I10 a11 y4).bind fun v12 =>
      LF_X12_findLayers_26 N k y0 y2 u8 v12 I10 L R
def F_X12_findLayers (N : Nat) (x0 : Nat) (x1 : Int32) (I : MI) (L : ML) (R : MR) : Option (Int32 × MI) :=
  if kd x0 = 11 ∧ x0 < NN then
  bn1 (LF_X12_findLayers_4 N N x0 x1 (0 : Int32) x1 I L R) fun z5 =>
  bn1 (LF_X12_findLayers_26 N N x0 z5 z5 x1 I L R) fun z13 =>
  some (z5, z13)
  else none
set_option maxRecDepth 100000 in
set_option maxHeartbeats 4000000 in
theorem lp_X12_findLayers_4 {G : Gm} (C0 : Cx G (yX12_findLayers.cls) cX12_findLayers (some .int)) (eNL : G.nL = 5) (erm : G.rm = ({ frames := 0, cells := 0, slots := 0, locals := 0 } : Room)) (N : Nat) : ∀ (k : Nat) (y0 : Nat) (y1 : Int32) (y2 : Int32) (y3 : Int32) (I : MI) (L : ML) (R : MR) (z : Int32) (hk0 : kd y0 = 11) (ho0 : y0 < NN), LF_X12_findLayers_4 N k y0 y1 y2 y3 I L R = some z → ∀ f : State → Prop, V G f 21 [(0, .ref (G.ad y0)), (1, .int y1), (2, .int z)] [] I L R → V G f 4 [(0, .ref (G.ad y0)), (1, .int y1), (2, .int y2), (3, .int y3)] [] I L R := by
  intro k
  induction k with
  | zero =>
    intro y0 y1 y2 y3 I L R q hk0 ho0 h
    exact absurd h (by simp [LF_X12_findLayers_4])
  | succ k ih =>
    intro y0 y1 y2 y3 I L R q hk0 ho0 h f kx
    rw [LF_X12_findLayers_4] at h
    refine V_iload_n C0 3 rfl rfl dX12_findLayers_4 ?_
    refine V_if_lt C0 (tgt := 21) (by decide) dX12_findLayers_5 (fun c1 => ?_) (fun c1 => ?_)
    · have h := (if_pos c1).symm.trans h
      cases h
      exact V_sub [0, 1, 2] rfl kx
    · have h := (if_neg c1).symm.trans h
      obtain ⟨u2, eu2, h⟩ := wr_some h
      refine V_iinc C0 2 [(2, .int u2), (0, .ref (G.ad y0)), (1, .int y1), (3, .int y3)] rfl (n := 1) (by rw [eu2]; rfl) (by rw [eNL]; decide) rfl dX12_findLayers_8 ?_
      refine V_aload_n C0 1 rfl rfl dX12_findLayers_11 ?_
      obtain ⟨a3, qa3, h⟩ := bnd_some h
      refine V_getR C0 11 0 fl_X12_7 ho0 hk0 rfl (rf_at qa3) dX12_findLayers_12 ?_
      refine V_iload_n C0 3 rfl rfl dX12_findLayers_15 ?_
      obtain ⟨v4, qv4, h⟩ := bnd_some h
      refine V_ri C0 (rf_lt qa3) (rf_kd qa3) qv4 dX12_findLayers_16 ?_
      refine V_istore_n C0 [(3, .int v4), (2, .int u2), (0, .ref (G.ad y0)), (1, .int y1)] rfl (by rw [eNL]; decide) rfl dX12_findLayers_17 ?_
      refine V_goto C0 (tgt := 4) (by decide) dX12_findLayers_18 ?_
      exact V_sub [2, 3, 1, 0] rfl (ih y0 y1 u2 v4 I L R _ hk0 ho0 h f kx)
set_option maxRecDepth 100000 in
set_option maxHeartbeats 4000000 in
theorem lp_X12_findLayers_26 {G : Gm} (C0 : Cx G (yX12_findLayers.cls) cX12_findLayers (some .int)) (eNL : G.nL = 5) (erm : G.rm = ({ frames := 0, cells := 0, slots := 0, locals := 0 } : Room)) (N : Nat) : ∀ (k : Nat) (y0 : Nat) (y2 : Int32) (y3 : Int32) (y4 : Int32) (I : MI) (L : ML) (R : MR) (z : MI) (hk0 : kd y0 = 11) (ho0 : y0 < NN), LF_X12_findLayers_26 N k y0 y2 y3 y4 I L R = some z → ∀ f : State → Prop, V G f 54 [(2, .int y2)] [] z L R → V G f 26 [(0, .ref (G.ad y0)), (2, .int y2), (3, .int y3), (4, .int y4)] [] I L R := by
  intro k
  induction k with
  | zero =>
    intro y0 y2 y3 y4 I L R q hk0 ho0 h
    exact absurd h (by simp [LF_X12_findLayers_26])
  | succ k ih =>
    intro y0 y2 y3 y4 I L R q hk0 ho0 h f kx
    rw [LF_X12_findLayers_26] at h
    refine V_iload C0 3 rfl dX12_findLayers_26 ?_
    refine V_if_lt C0 (tgt := 54) (by decide) dX12_findLayers_28 (fun c7 => ?_) (fun c7 => ?_)
    · have h := (if_pos c7).symm.trans h
      cases h
      exact V_sub [1] rfl kx
    · have h := (if_neg c7).symm.trans h
      obtain ⟨u8, eu8, h⟩ := wr_some h
      refine V_iinc C0 2 [(3, .int u8), (0, .ref (G.ad y0)), (2, .int y2), (4, .int y4)] rfl (n := -1) (by rw [eu8]; rfl) (by rw [eNL]; decide) rfl dX12_findLayers_31 ?_
      refine V_aload_n C0 1 rfl rfl dX12_findLayers_34 ?_
      obtain ⟨a9, qa9, h⟩ := bnd_some h
      refine V_getR C0 11 32 fl_X12_62 ho0 hk0 rfl (rf_at qa9) dX12_findLayers_35 ?_
      refine V_iload_n C0 0 rfl rfl dX12_findLayers_38 ?_
      refine V_iload C0 3 rfl dX12_findLayers_39 ?_
      obtain ⟨I10, qI10, h⟩ := bnd_some h
      refine V_wi C0 (rf_lt qa9) (rf_kd qa9) qI10 dX12_findLayers_41 ?_
      refine V_aload_n C0 1 rfl rfl dX12_findLayers_42 ?_
      obtain ⟨a11, qa11, h⟩ := bnd_some h
      refine V_getR C0 11 0 fl_X12_7 ho0 hk0 rfl (rf_at qa11) dX12_findLayers_43 ?_
      refine V_iload C0 3 rfl dX12_findLayers_46 ?_
      obtain ⟨v12, qv12, h⟩ := bnd_some h
      refine V_ri C0 (rf_lt qa11) (rf_kd qa11) qv12 dX12_findLayers_48 ?_
      refine V_istore C0 [(4, .int v12), (3, .int u8), (0, .ref (G.ad y0)), (2, .int y2)] (by rw [eNL]; decide) rfl dX12_findLayers_49 ?_
      refine V_goto C0 (tgt := 26) (by decide) dX12_findLayers_51 ?_
      exact V_sub [2, 3, 1, 0] rfl (ih y0 y2 u8 v12 I10 L R _ hk0 ho0 h f kx)
set_option maxRecDepth 100000 in
set_option maxHeartbeats 4000000 in
theorem c_X12_findLayers (l : Launch) (D : va_G) (cA : Nat → ClassId) (ad : Nat → Nat) (bs : Nat) (X : State → Prop) (hAd : Ax ad bs) (hX : Stb bs X) (N : Nat) (x0 : Nat) (x1 : Int32) (I : MI) (L : ML) (R : MR) (r : Int32) (I' : MI) (h : F_X12_findLayers N x0 x1 I L R = some (r, I')) : Cn l D cA ad bs X yX12_findLayers cX12_findLayers 5 (some .int) 0 0 [.ref (ad x0), .int x1] I L R (some (.int r), I', L, R) := by
  refine Cn.ofV hAd hX [(0, .ref (ad x0)), (1, .int x1)] rfl (Nat.le_of_ble_eq_true rfl) (by decide) ?_
  intro G el eD ecA ead ebs eX erm eNL C0
  subst el eD ecA ead ebs eX
  unfold F_X12_findLayers at h
  obtain ⟨c_x0, h⟩ := ite_some h
  refine V_iconst C0 (v := (0 : Int32)) (by decide) dX12_findLayers_0 ?_
  refine V_istore_n C0 [(2, .int (0 : Int32)), (0, .ref (G.ad x0)), (1, .int x1)] rfl (by rw [eNL]; decide) rfl dX12_findLayers_1 ?_
  refine V_iload_n C0 2 rfl rfl dX12_findLayers_2 ?_
  refine V_istore_n C0 [(3, .int x1), (2, .int (0 : Int32)), (0, .ref (G.ad x0)), (1, .int x1)] rfl (by rw [eNL]; decide) rfl dX12_findLayers_3 ?_
  obtain ⟨z5, q6, h⟩ := bn1_some h
  refine V_sub [2, 3, 1, 0] rfl (lp_X12_findLayers_4 C0 eNL erm N N x0 x1 (0 : Int32) x1 I L R _ c_x0.1 c_x0.2 q6 _ ?_)
  show V G _ 21 [(0, .ref (G.ad x0)), (1, .int x1), (2, .int z5)] [] I L R
  refine V_iload_n C0 2 rfl rfl dX12_findLayers_21 ?_
  refine V_istore_n C0 [(3, .int z5), (0, .ref (G.ad x0)), (1, .int x1), (2, .int z5)] rfl (by rw [eNL]; decide) rfl dX12_findLayers_22 ?_
  refine V_iload_n C0 2 rfl rfl dX12_findLayers_23 ?_
  refine V_istore C0 [(4, .int x1), (3, .int z5), (0, .ref (G.ad x0)), (1, .int x1), (2, .int z5)] (by rw [eNL]; decide) rfl dX12_findLayers_24 ?_
  obtain ⟨z13, q14, h⟩ := bn1_some h
  refine V_sub [2, 4, 1, 0] rfl (lp_X12_findLayers_26 C0 eNL erm N N x0 z5 z5 x1 I L R _ c_x0.1 c_x0.2 q14 _ ?_)
  show V G _ 54 [(2, .int z5)] [] z13 L R
  refine V_iload_n C0 0 rfl rfl dX12_findLayers_54 ?_
  cases h
  exact V_iret C0 dX12_findLayers_55
theorem dX12_massBy_0 : decode cX12_massBy 0 = .ok (.iload_n 2, 1) := by decide +kernel
theorem dX12_massBy_1 : decode cX12_massBy 1 = .ok (.lookupswitch 102 #[(0, 51), (1, 53), (6, 67), (22, 79), (27, 92)], 51) := by decide +kernel
theorem dX12_massBy_52 : decode cX12_massBy 52 = .ok (.iconst 5, 1) := by decide +kernel
theorem dX12_massBy_53 : decode cX12_massBy 53 = .ok (.ireturn, 1) := by decide +kernel
theorem dX12_massBy_54 : decode cX12_massBy 54 = .ok (.bipush 8, 2) := by decide +kernel
theorem dX12_massBy_56 : decode cX12_massBy 56 = .ok (.aload_n 0, 1) := by decide +kernel
theorem dX12_massBy_57 : decode cX12_massBy 57 = .ok (.iload_n 1, 1) := by decide +kernel
theorem dX12_massBy_58 : decode cX12_massBy 58 = .ok (.bipush 9, 2) := by decide +kernel
theorem dX12_massBy_60 : decode cX12_massBy 60 = .ok (.invokevirtual 211, 3) := by decide +kernel
theorem dX12_massBy_63 : decode cX12_massBy 63 = .ok (.bipush 10, 2) := by decide +kernel
theorem dX12_massBy_65 : decode cX12_massBy 65 = .ok (.idiv, 1) := by decide +kernel
theorem dX12_massBy_66 : decode cX12_massBy 66 = .ok (.iadd, 1) := by decide +kernel
theorem dX12_massBy_67 : decode cX12_massBy 67 = .ok (.ireturn, 1) := by decide +kernel
theorem dX12_massBy_68 : decode cX12_massBy 68 = .ok (.iload_n 3, 1) := by decide +kernel
theorem dX12_massBy_69 : decode cX12_massBy 69 = .ok (.aload_n 0, 1) := by decide +kernel
theorem dX12_massBy_70 : decode cX12_massBy 70 = .ok (.iload_n 1, 1) := by decide +kernel
theorem dX12_massBy_71 : decode cX12_massBy 71 = .ok (.bipush 23, 2) := by decide +kernel
theorem dX12_massBy_73 : decode cX12_massBy 73 = .ok (.invokevirtual 211, 3) := by decide +kernel
theorem dX12_massBy_76 : decode cX12_massBy 76 = .ok (.iconst 5, 1) := by decide +kernel
theorem dX12_massBy_77 : decode cX12_massBy 77 = .ok (.idiv, 1) := by decide +kernel
theorem dX12_massBy_78 : decode cX12_massBy 78 = .ok (.iadd, 1) := by decide +kernel
theorem dX12_massBy_79 : decode cX12_massBy 79 = .ok (.ireturn, 1) := by decide +kernel
theorem dX12_massBy_80 : decode cX12_massBy 80 = .ok (.iload_n 3, 1) := by decide +kernel
theorem dX12_massBy_81 : decode cX12_massBy 81 = .ok (.aload_n 0, 1) := by decide +kernel
theorem dX12_massBy_82 : decode cX12_massBy 82 = .ok (.iload_n 1, 1) := by decide +kernel
theorem dX12_massBy_83 : decode cX12_massBy 83 = .ok (.bipush 43, 2) := by decide +kernel
theorem dX12_massBy_85 : decode cX12_massBy 85 = .ok (.invokevirtual 211, 3) := by decide +kernel
theorem dX12_massBy_88 : decode cX12_massBy 88 = .ok (.bipush 20, 2) := by decide +kernel
theorem dX12_massBy_90 : decode cX12_massBy 90 = .ok (.idiv, 1) := by decide +kernel
theorem dX12_massBy_91 : decode cX12_massBy 91 = .ok (.iadd, 1) := by decide +kernel
theorem dX12_massBy_92 : decode cX12_massBy 92 = .ok (.ireturn, 1) := by decide +kernel
theorem dX12_massBy_93 : decode cX12_massBy 93 = .ok (.iload_n 3, 1) := by decide +kernel
theorem dX12_massBy_94 : decode cX12_massBy 94 = .ok (.aload_n 0, 1) := by decide +kernel
theorem dX12_massBy_95 : decode cX12_massBy 95 = .ok (.iload_n 1, 1) := by decide +kernel
theorem dX12_massBy_96 : decode cX12_massBy 96 = .ok (.bipush 61, 2) := by decide +kernel
theorem dX12_massBy_98 : decode cX12_massBy 98 = .ok (.invokevirtual 211, 3) := by decide +kernel
theorem dX12_massBy_101 : decode cX12_massBy 101 = .ok (.iadd, 1) := by decide +kernel
theorem dX12_massBy_102 : decode cX12_massBy 102 = .ok (.ireturn, 1) := by decide +kernel
theorem dX12_massBy_103 : decode cX12_massBy 103 = .ok (.iload_n 3, 1) := by decide +kernel
theorem dX12_massBy_104 : decode cX12_massBy 104 = .ok (.ireturn, 1) := by decide +kernel
def F_X12_massBy (x0 : Nat) (x1 : Int32) (x2 : Int32) (x3 : Int32) (I : MI) (L : ML) (R : MR) : Option (Int32) :=
  if kd x0 = 11 ∧ x0 < NN then
  if x2 = (0 : Int32) then
    some ((5 : Int32))
  else
    if x2 = (1 : Int32) then
      bn1 (F_X12_get x0 x1 (9 : Int32) I L R) fun v4 =>
      some (((8 : Int32) + (v4 / (10 : Int32))))
    else
      if x2 = (6 : Int32) then
        bn1 (F_X12_get x0 x1 (23 : Int32) I L R) fun v7 =>
        some ((x3 + (v7 / (5 : Int32))))
      else
        if x2 = (22 : Int32) then
          bn1 (F_X12_get x0 x1 (43 : Int32) I L R) fun v10 =>
          some ((x3 + (v10 / (20 : Int32))))
        else
          if x2 = (27 : Int32) then
            bn1 (F_X12_get x0 x1 (61 : Int32) I L R) fun v13 =>
            some ((x3 + v13))
          else
            some (x3)
  else none
set_option maxRecDepth 100000 in
set_option maxHeartbeats 4000000 in
theorem c_X12_massBy (l : Launch) (D : va_G) (cA : Nat → ClassId) (ad : Nat → Nat) (bs : Nat) (X : State → Prop) (hAd : Ax ad bs) (hX : Stb bs X) (x0 : Nat) (x1 : Int32) (x2 : Int32) (x3 : Int32) (I : MI) (L : ML) (R : MR) (r : Int32) (h : F_X12_massBy x0 x1 x2 x3 I L R = some (r)) : Cn l D cA ad bs X yX12_massBy cX12_massBy 4 (some .int) 1 22 [.ref (ad x0), .int x1, .int x2, .int x3] I L R (some (.int r), I, L, R) := by
  refine Cn.ofV hAd hX [(0, .ref (ad x0)), (1, .int x1), (2, .int x2), (3, .int x3)] rfl (Nat.le_of_ble_eq_true rfl) (by decide) ?_
  intro G el eD ecA ead ebs eX erm eNL C0
  subst el eD ecA ead ebs eX
  unfold F_X12_massBy at h
  obtain ⟨c_x0, h⟩ := ite_some h
  refine V_iload_n C0 2 rfl rfl dX12_massBy_0 ?_
  have nd1 := nd_0 x2
  by_cases c2 : x2 = (0 : Int32)
  · have h := (if_pos c2).symm.trans h
    refine V_lookC C0 (tgt := 52) (v := (0 : Int32)) c2 (by decide) (by decide) dX12_massBy_1 ?_
    refine V_iconst C0 (v := (5 : Int32)) (by decide) dX12_massBy_52 ?_
    cases h
    exact V_iret C0 dX12_massBy_53
  · have h := (if_neg c2).symm.trans h
    have nd1 := nd_add nd1 c2
    by_cases c3 : x2 = (1 : Int32)
    · have h := (if_pos c3).symm.trans h
      refine V_lookC C0 (tgt := 54) (v := (1 : Int32)) c3 (by decide) (by decide) dX12_massBy_1 ?_
      refine V_bipush C0 (v := (8 : Int32)) (by decide) dX12_massBy_54 ?_
      refine V_aload_n C0 0 rfl rfl dX12_massBy_56 ?_
      refine V_iload_n C0 1 rfl rfl dX12_massBy_57 ?_
      refine V_bipush C0 (v := (9 : Int32)) (by decide) dX12_massBy_58 ?_
      obtain ⟨v4, q5, h⟩ := bn1_some h
      refine V_callV C0 (st := [.int (8 : Int32)]) (As := [.int x1, .int (9 : Int32)]) 11 (c_X12_get G.l G.D G.cA G.ad G.bs G.X C0.2.2.2.2.2.2.2.2.2.1 C0.2.2.2.2.2.2.2.2.2.2.2.2 x0 x1 (9 : Int32) I L R v4 q5) lc_X12_get lk_X12_211 c_x0.2 c_x0.1 ⟨_, rfl, rfl⟩ rfl (by rw [erm]; decide) (Nat.le_of_ble_eq_true rfl) dX12_massBy_60 ?_
      show V G _ 63 [(0, .ref (G.ad x0)), (1, .int x1), (2, .int x2), (3, .int x3)] [.int v4, .int (8 : Int32)] I L R
      refine V_bipush C0 (v := (10 : Int32)) (by decide) dX12_massBy_63 ?_
      refine V_idiv C0 (by decide) dX12_massBy_65 ?_
      refine V_iadd C0 dX12_massBy_66 ?_
      cases h
      exact V_iret C0 dX12_massBy_67
    · have h := (if_neg c3).symm.trans h
      have nd1 := nd_add nd1 c3
      by_cases c6 : x2 = (6 : Int32)
      · have h := (if_pos c6).symm.trans h
        refine V_lookC C0 (tgt := 68) (v := (6 : Int32)) c6 (by decide) (by decide) dX12_massBy_1 ?_
        refine V_iload_n C0 3 rfl rfl dX12_massBy_68 ?_
        refine V_aload_n C0 0 rfl rfl dX12_massBy_69 ?_
        refine V_iload_n C0 1 rfl rfl dX12_massBy_70 ?_
        refine V_bipush C0 (v := (23 : Int32)) (by decide) dX12_massBy_71 ?_
        obtain ⟨v7, q8, h⟩ := bn1_some h
        refine V_callV C0 (st := [.int x3]) (As := [.int x1, .int (23 : Int32)]) 11 (c_X12_get G.l G.D G.cA G.ad G.bs G.X C0.2.2.2.2.2.2.2.2.2.1 C0.2.2.2.2.2.2.2.2.2.2.2.2 x0 x1 (23 : Int32) I L R v7 q8) lc_X12_get lk_X12_211 c_x0.2 c_x0.1 ⟨_, rfl, rfl⟩ rfl (by rw [erm]; decide) (Nat.le_of_ble_eq_true rfl) dX12_massBy_73 ?_
        show V G _ 76 [(0, .ref (G.ad x0)), (1, .int x1), (2, .int x2), (3, .int x3)] [.int v7, .int x3] I L R
        refine V_iconst C0 (v := (5 : Int32)) (by decide) dX12_massBy_76 ?_
        refine V_idiv C0 (by decide) dX12_massBy_77 ?_
        refine V_iadd C0 dX12_massBy_78 ?_
        cases h
        exact V_iret C0 dX12_massBy_79
      · have h := (if_neg c6).symm.trans h
        have nd1 := nd_add nd1 c6
        by_cases c9 : x2 = (22 : Int32)
        · have h := (if_pos c9).symm.trans h
          refine V_lookC C0 (tgt := 80) (v := (22 : Int32)) c9 (by decide) (by decide) dX12_massBy_1 ?_
          refine V_iload_n C0 3 rfl rfl dX12_massBy_80 ?_
          refine V_aload_n C0 0 rfl rfl dX12_massBy_81 ?_
          refine V_iload_n C0 1 rfl rfl dX12_massBy_82 ?_
          refine V_bipush C0 (v := (43 : Int32)) (by decide) dX12_massBy_83 ?_
          obtain ⟨v10, q11, h⟩ := bn1_some h
          refine V_callV C0 (st := [.int x3]) (As := [.int x1, .int (43 : Int32)]) 11 (c_X12_get G.l G.D G.cA G.ad G.bs G.X C0.2.2.2.2.2.2.2.2.2.1 C0.2.2.2.2.2.2.2.2.2.2.2.2 x0 x1 (43 : Int32) I L R v10 q11) lc_X12_get lk_X12_211 c_x0.2 c_x0.1 ⟨_, rfl, rfl⟩ rfl (by rw [erm]; decide) (Nat.le_of_ble_eq_true rfl) dX12_massBy_85 ?_
          show V G _ 88 [(0, .ref (G.ad x0)), (1, .int x1), (2, .int x2), (3, .int x3)] [.int v10, .int x3] I L R
          refine V_bipush C0 (v := (20 : Int32)) (by decide) dX12_massBy_88 ?_
          refine V_idiv C0 (by decide) dX12_massBy_90 ?_
          refine V_iadd C0 dX12_massBy_91 ?_
          cases h
          exact V_iret C0 dX12_massBy_92
        · have h := (if_neg c9).symm.trans h
          have nd1 := nd_add nd1 c9
          by_cases c12 : x2 = (27 : Int32)
          · have h := (if_pos c12).symm.trans h
            refine V_lookC C0 (tgt := 93) (v := (27 : Int32)) c12 (by decide) (by decide) dX12_massBy_1 ?_
            refine V_iload_n C0 3 rfl rfl dX12_massBy_93 ?_
            refine V_aload_n C0 0 rfl rfl dX12_massBy_94 ?_
            refine V_iload_n C0 1 rfl rfl dX12_massBy_95 ?_
            refine V_bipush C0 (v := (61 : Int32)) (by decide) dX12_massBy_96 ?_
            obtain ⟨v13, q14, h⟩ := bn1_some h
            refine V_callV C0 (st := [.int x3]) (As := [.int x1, .int (61 : Int32)]) 11 (c_X12_get G.l G.D G.cA G.ad G.bs G.X C0.2.2.2.2.2.2.2.2.2.1 C0.2.2.2.2.2.2.2.2.2.2.2.2 x0 x1 (61 : Int32) I L R v13 q14) lc_X12_get lk_X12_211 c_x0.2 c_x0.1 ⟨_, rfl, rfl⟩ rfl (by rw [erm]; decide) (Nat.le_of_ble_eq_true rfl) dX12_massBy_98 ?_
            show V G _ 101 [(0, .ref (G.ad x0)), (1, .int x1), (2, .int x2), (3, .int x3)] [.int v13, .int x3] I L R
            refine V_iadd C0 dX12_massBy_101 ?_
            cases h
            exact V_iret C0 dX12_massBy_102
          · have h := (if_neg c12).symm.trans h
            have nd1 := nd_add nd1 c12
            refine V_lookN C0 (tgt := 103) nd1 (by decide) (by decide) dX12_massBy_1 ?_
            refine V_iload_n C0 3 rfl rfl dX12_massBy_103 ?_
            cases h
            exact V_iret C0 dX12_massBy_104
theorem dX12_spanBy_0 : decode cX12_spanBy 0 = .ok (.iload_n 2, 1) := by decide +kernel
theorem dX12_spanBy_1 : decode cX12_spanBy 1 = .ok (.tableswitch 236 0 26 #[123, 125, 236, 138, 236, 156, 236, 236, 236, 166, 236, 236, 236, 236, 176, 236, 236, 236, 236, 186, 188, 236, 236, 202, 212, 236, 222], 123) := by decide +kernel
theorem dX12_spanBy_124 : decode cX12_spanBy 124 = .ok (.iconst 1, 1) := by decide +kernel
theorem dX12_spanBy_125 : decode cX12_spanBy 125 = .ok (.ireturn, 1) := by decide +kernel
theorem dX12_spanBy_126 : decode cX12_spanBy 126 = .ok (.iconst 1, 1) := by decide +kernel
theorem dX12_spanBy_127 : decode cX12_spanBy 127 = .ok (.aload_n 0, 1) := by decide +kernel
theorem dX12_spanBy_128 : decode cX12_spanBy 128 = .ok (.iload_n 1, 1) := by decide +kernel
theorem dX12_spanBy_129 : decode cX12_spanBy 129 = .ok (.bipush 9, 2) := by decide +kernel
theorem dX12_spanBy_131 : decode cX12_spanBy 131 = .ok (.invokevirtual 211, 3) := by decide +kernel
theorem dX12_spanBy_134 : decode cX12_spanBy 134 = .ok (.bipush 50, 2) := by decide +kernel
theorem dX12_spanBy_136 : decode cX12_spanBy 136 = .ok (.idiv, 1) := by decide +kernel
theorem dX12_spanBy_137 : decode cX12_spanBy 137 = .ok (.iadd, 1) := by decide +kernel
theorem dX12_spanBy_138 : decode cX12_spanBy 138 = .ok (.ireturn, 1) := by decide +kernel
theorem dX12_spanBy_139 : decode cX12_spanBy 139 = .ok (.iconst 2, 1) := by decide +kernel
theorem dX12_spanBy_140 : decode cX12_spanBy 140 = .ok (.aload_n 0, 1) := by decide +kernel
theorem dX12_spanBy_141 : decode cX12_spanBy 141 = .ok (.iload_n 1, 1) := by decide +kernel
theorem dX12_spanBy_142 : decode cX12_spanBy 142 = .ok (.bipush 16, 2) := by decide +kernel
theorem dX12_spanBy_144 : decode cX12_spanBy 144 = .ok (.invokevirtual 211, 3) := by decide +kernel
theorem dX12_spanBy_147 : decode cX12_spanBy 147 = .ok (.iadd, 1) := by decide +kernel
theorem dX12_spanBy_148 : decode cX12_spanBy 148 = .ok (.aload_n 0, 1) := by decide +kernel
theorem dX12_spanBy_149 : decode cX12_spanBy 149 = .ok (.iload_n 1, 1) := by decide +kernel
theorem dX12_spanBy_150 : decode cX12_spanBy 150 = .ok (.bipush 12, 2) := by decide +kernel
theorem dX12_spanBy_152 : decode cX12_spanBy 152 = .ok (.invokevirtual 211, 3) := by decide +kernel
theorem dX12_spanBy_155 : decode cX12_spanBy 155 = .ok (.iadd, 1) := by decide +kernel
theorem dX12_spanBy_156 : decode cX12_spanBy 156 = .ok (.ireturn, 1) := by decide +kernel
theorem dX12_spanBy_157 : decode cX12_spanBy 157 = .ok (.iload_n 3, 1) := by decide +kernel
theorem dX12_spanBy_158 : decode cX12_spanBy 158 = .ok (.aload_n 0, 1) := by decide +kernel
theorem dX12_spanBy_159 : decode cX12_spanBy 159 = .ok (.iload_n 1, 1) := by decide +kernel
theorem dX12_spanBy_160 : decode cX12_spanBy 160 = .ok (.bipush 18, 2) := by decide +kernel
theorem dX12_spanBy_162 : decode cX12_spanBy 162 = .ok (.invokevirtual 211, 3) := by decide +kernel
theorem dX12_spanBy_165 : decode cX12_spanBy 165 = .ok (.iadd, 1) := by decide +kernel
theorem dX12_spanBy_166 : decode cX12_spanBy 166 = .ok (.ireturn, 1) := by decide +kernel
theorem dX12_spanBy_167 : decode cX12_spanBy 167 = .ok (.iload_n 3, 1) := by decide +kernel
theorem dX12_spanBy_168 : decode cX12_spanBy 168 = .ok (.aload_n 0, 1) := by decide +kernel
theorem dX12_spanBy_169 : decode cX12_spanBy 169 = .ok (.iload_n 1, 1) := by decide +kernel
theorem dX12_spanBy_170 : decode cX12_spanBy 170 = .ok (.bipush 30, 2) := by decide +kernel
theorem dX12_spanBy_172 : decode cX12_spanBy 172 = .ok (.invokevirtual 211, 3) := by decide +kernel
theorem dX12_spanBy_175 : decode cX12_spanBy 175 = .ok (.iadd, 1) := by decide +kernel
theorem dX12_spanBy_176 : decode cX12_spanBy 176 = .ok (.ireturn, 1) := by decide +kernel
theorem dX12_spanBy_177 : decode cX12_spanBy 177 = .ok (.iload_n 3, 1) := by decide +kernel
theorem dX12_spanBy_178 : decode cX12_spanBy 178 = .ok (.aload_n 0, 1) := by decide +kernel
theorem dX12_spanBy_179 : decode cX12_spanBy 179 = .ok (.iload_n 1, 1) := by decide +kernel
theorem dX12_spanBy_180 : decode cX12_spanBy 180 = .ok (.bipush 39, 2) := by decide +kernel
theorem dX12_spanBy_182 : decode cX12_spanBy 182 = .ok (.invokevirtual 211, 3) := by decide +kernel
theorem dX12_spanBy_185 : decode cX12_spanBy 185 = .ok (.iadd, 1) := by decide +kernel
theorem dX12_spanBy_186 : decode cX12_spanBy 186 = .ok (.ireturn, 1) := by decide +kernel
theorem dX12_spanBy_187 : decode cX12_spanBy 187 = .ok (.iconst 3, 1) := by decide +kernel
theorem dX12_spanBy_188 : decode cX12_spanBy 188 = .ok (.ireturn, 1) := by decide +kernel
theorem dX12_spanBy_189 : decode cX12_spanBy 189 = .ok (.iconst 2, 1) := by decide +kernel
theorem dX12_spanBy_190 : decode cX12_spanBy 190 = .ok (.aload_n 0, 1) := by decide +kernel
theorem dX12_spanBy_191 : decode cX12_spanBy 191 = .ok (.iload_n 1, 1) := by decide +kernel
theorem dX12_spanBy_192 : decode cX12_spanBy 192 = .ok (.bipush 49, 2) := by decide +kernel
theorem dX12_spanBy_194 : decode cX12_spanBy 194 = .ok (.invokevirtual 211, 3) := by decide +kernel
theorem dX12_spanBy_197 : decode cX12_spanBy 197 = .ok (.iconst 3, 1) := by decide +kernel
theorem dX12_spanBy_198 : decode cX12_spanBy 198 = .ok (.invokestatic 115, 3) := by decide +kernel
theorem dX12_spanBy_201 : decode cX12_spanBy 201 = .ok (.iadd, 1) := by decide +kernel
theorem dX12_spanBy_202 : decode cX12_spanBy 202 = .ok (.ireturn, 1) := by decide +kernel
theorem dX12_spanBy_203 : decode cX12_spanBy 203 = .ok (.iconst 1, 1) := by decide +kernel
theorem dX12_spanBy_204 : decode cX12_spanBy 204 = .ok (.aload_n 0, 1) := by decide +kernel
theorem dX12_spanBy_205 : decode cX12_spanBy 205 = .ok (.iload_n 1, 1) := by decide +kernel
theorem dX12_spanBy_206 : decode cX12_spanBy 206 = .ok (.bipush 54, 2) := by decide +kernel
theorem dX12_spanBy_208 : decode cX12_spanBy 208 = .ok (.invokevirtual 211, 3) := by decide +kernel
theorem dX12_spanBy_211 : decode cX12_spanBy 211 = .ok (.iadd, 1) := by decide +kernel
theorem dX12_spanBy_212 : decode cX12_spanBy 212 = .ok (.ireturn, 1) := by decide +kernel
theorem dX12_spanBy_213 : decode cX12_spanBy 213 = .ok (.iload_n 3, 1) := by decide +kernel
theorem dX12_spanBy_214 : decode cX12_spanBy 214 = .ok (.aload_n 0, 1) := by decide +kernel
theorem dX12_spanBy_215 : decode cX12_spanBy 215 = .ok (.iload_n 1, 1) := by decide +kernel
theorem dX12_spanBy_216 : decode cX12_spanBy 216 = .ok (.bipush 55, 2) := by decide +kernel
theorem dX12_spanBy_218 : decode cX12_spanBy 218 = .ok (.invokevirtual 211, 3) := by decide +kernel
theorem dX12_spanBy_221 : decode cX12_spanBy 221 = .ok (.iadd, 1) := by decide +kernel
theorem dX12_spanBy_222 : decode cX12_spanBy 222 = .ok (.ireturn, 1) := by decide +kernel
theorem dX12_spanBy_223 : decode cX12_spanBy 223 = .ok (.iconst 1, 1) := by decide +kernel
theorem dX12_spanBy_224 : decode cX12_spanBy 224 = .ok (.aload_n 0, 1) := by decide +kernel
theorem dX12_spanBy_225 : decode cX12_spanBy 225 = .ok (.iload_n 1, 1) := by decide +kernel
theorem dX12_spanBy_226 : decode cX12_spanBy 226 = .ok (.bipush 59, 2) := by decide +kernel
theorem dX12_spanBy_228 : decode cX12_spanBy 228 = .ok (.invokevirtual 211, 3) := by decide +kernel
theorem dX12_spanBy_231 : decode cX12_spanBy 231 = .ok (.iconst 2, 1) := by decide +kernel
theorem dX12_spanBy_232 : decode cX12_spanBy 232 = .ok (.invokestatic 115, 3) := by decide +kernel
theorem dX12_spanBy_235 : decode cX12_spanBy 235 = .ok (.iadd, 1) := by decide +kernel
theorem dX12_spanBy_236 : decode cX12_spanBy 236 = .ok (.ireturn, 1) := by decide +kernel
theorem dX12_spanBy_237 : decode cX12_spanBy 237 = .ok (.iload_n 3, 1) := by decide +kernel
theorem dX12_spanBy_238 : decode cX12_spanBy 238 = .ok (.ireturn, 1) := by decide +kernel
def F_X12_spanBy (x0 : Nat) (x1 : Int32) (x2 : Int32) (x3 : Int32) (I : MI) (L : ML) (R : MR) : Option (Int32) :=
  if kd x0 = 11 ∧ x0 < NN then
  if x2 = (0 : Int32) then
    some ((1 : Int32))
  else
    if x2 = (1 : Int32) then
      bn1 (F_X12_get x0 x1 (9 : Int32) I L R) fun v4 =>
      some (((1 : Int32) + (v4 / (50 : Int32))))
    else
      if x2 = (3 : Int32) then
        bn1 (F_X12_get x0 x1 (16 : Int32) I L R) fun v7 =>
        bn1 (F_X12_get x0 x1 (12 : Int32) I L R) fun v9 =>
        some ((((2 : Int32) + v7) + v9))
      else
        if x2 = (5 : Int32) then
          bn1 (F_X12_get x0 x1 (18 : Int32) I L R) fun v12 =>
          some ((x3 + v12))
        else
          if x2 = (9 : Int32) then
            bn1 (F_X12_get x0 x1 (30 : Int32) I L R) fun v15 =>
            some ((x3 + v15))
          else
            if x2 = (14 : Int32) then
              bn1 (F_X12_get x0 x1 (39 : Int32) I L R) fun v18 =>
              some ((x3 + v18))
            else
              if x2 = (19 : Int32) then
                some ((3 : Int32))
              else
                if x2 = (20 : Int32) then
                  bn1 (F_X12_get x0 x1 (49 : Int32) I L R) fun v22 =>
                  bn1 (F_X12_mod v22 (3 : Int32) I L R) fun v24 =>
                  some (((2 : Int32) + v24))
                else
                  if x2 = (23 : Int32) then
                    bn1 (F_X12_get x0 x1 (54 : Int32) I L R) fun v27 =>
                    some (((1 : Int32) + v27))
                  else
                    if x2 = (24 : Int32) then
                      bn1 (F_X12_get x0 x1 (55 : Int32) I L R) fun v30 =>
                      some ((x3 + v30))
                    else
                      if x2 = (26 : Int32) then
                        bn1 (F_X12_get x0 x1 (59 : Int32) I L R) fun v33 =>
                        bn1 (F_X12_mod v33 (2 : Int32) I L R) fun v35 =>
                        some (((1 : Int32) + v35))
                      else
                        some (x3)
  else none
set_option maxRecDepth 100000 in
set_option maxHeartbeats 4000000 in
theorem c_X12_spanBy (l : Launch) (D : va_G) (cA : Nat → ClassId) (ad : Nat → Nat) (bs : Nat) (X : State → Prop) (hAd : Ax ad bs) (hX : Stb bs X) (x0 : Nat) (x1 : Int32) (x2 : Int32) (x3 : Int32) (I : MI) (L : ML) (R : MR) (r : Int32) (h : F_X12_spanBy x0 x1 x2 x3 I L R = some (r)) : Cn l D cA ad bs X yX12_spanBy cX12_spanBy 4 (some .int) 1 22 [.ref (ad x0), .int x1, .int x2, .int x3] I L R (some (.int r), I, L, R) := by
  refine Cn.ofV hAd hX [(0, .ref (ad x0)), (1, .int x1), (2, .int x2), (3, .int x3)] rfl (Nat.le_of_ble_eq_true rfl) (by decide) ?_
  intro G el eD ecA ead ebs eX erm eNL C0
  subst el eD ecA ead ebs eX
  unfold F_X12_spanBy at h
  obtain ⟨c_x0, h⟩ := ite_some h
  refine V_iload_n C0 2 rfl rfl dX12_spanBy_0 ?_
  have nd1 := nd_0 x2
  by_cases c2 : x2 = (0 : Int32)
  · have h := (if_pos c2).symm.trans h
    refine V_tableC C0 (tgt := 124) (v := (0 : Int32)) c2 (by decide) (by decide) dX12_spanBy_1 ?_
    refine V_iconst C0 (v := (1 : Int32)) (by decide) dX12_spanBy_124 ?_
    cases h
    exact V_iret C0 dX12_spanBy_125
  · have h := (if_neg c2).symm.trans h
    have nd1 := nd_add nd1 c2
    by_cases c3 : x2 = (1 : Int32)
    · have h := (if_pos c3).symm.trans h
      refine V_tableC C0 (tgt := 126) (v := (1 : Int32)) c3 (by decide) (by decide) dX12_spanBy_1 ?_
      refine V_iconst C0 (v := (1 : Int32)) (by decide) dX12_spanBy_126 ?_
      refine V_aload_n C0 0 rfl rfl dX12_spanBy_127 ?_
      refine V_iload_n C0 1 rfl rfl dX12_spanBy_128 ?_
      refine V_bipush C0 (v := (9 : Int32)) (by decide) dX12_spanBy_129 ?_
      obtain ⟨v4, q5, h⟩ := bn1_some h
      refine V_callV C0 (st := [.int (1 : Int32)]) (As := [.int x1, .int (9 : Int32)]) 11 (c_X12_get G.l G.D G.cA G.ad G.bs G.X C0.2.2.2.2.2.2.2.2.2.1 C0.2.2.2.2.2.2.2.2.2.2.2.2 x0 x1 (9 : Int32) I L R v4 q5) lc_X12_get lk_X12_211 c_x0.2 c_x0.1 ⟨_, rfl, rfl⟩ rfl (by rw [erm]; decide) (Nat.le_of_ble_eq_true rfl) dX12_spanBy_131 ?_
      show V G _ 134 [(0, .ref (G.ad x0)), (1, .int x1), (2, .int x2), (3, .int x3)] [.int v4, .int (1 : Int32)] I L R
      refine V_bipush C0 (v := (50 : Int32)) (by decide) dX12_spanBy_134 ?_
      refine V_idiv C0 (by decide) dX12_spanBy_136 ?_
      refine V_iadd C0 dX12_spanBy_137 ?_
      cases h
      exact V_iret C0 dX12_spanBy_138
    · have h := (if_neg c3).symm.trans h
      have nd1 := nd_add nd1 c3
      by_cases c6 : x2 = (3 : Int32)
      · have h := (if_pos c6).symm.trans h
        refine V_tableC C0 (tgt := 139) (v := (3 : Int32)) c6 (by decide) (by decide) dX12_spanBy_1 ?_
        refine V_iconst C0 (v := (2 : Int32)) (by decide) dX12_spanBy_139 ?_
        refine V_aload_n C0 0 rfl rfl dX12_spanBy_140 ?_
        refine V_iload_n C0 1 rfl rfl dX12_spanBy_141 ?_
        refine V_bipush C0 (v := (16 : Int32)) (by decide) dX12_spanBy_142 ?_
        obtain ⟨v7, q8, h⟩ := bn1_some h
        refine V_callV C0 (st := [.int (2 : Int32)]) (As := [.int x1, .int (16 : Int32)]) 11 (c_X12_get G.l G.D G.cA G.ad G.bs G.X C0.2.2.2.2.2.2.2.2.2.1 C0.2.2.2.2.2.2.2.2.2.2.2.2 x0 x1 (16 : Int32) I L R v7 q8) lc_X12_get lk_X12_211 c_x0.2 c_x0.1 ⟨_, rfl, rfl⟩ rfl (by rw [erm]; decide) (Nat.le_of_ble_eq_true rfl) dX12_spanBy_144 ?_
        show V G _ 147 [(0, .ref (G.ad x0)), (1, .int x1), (2, .int x2), (3, .int x3)] [.int v7, .int (2 : Int32)] I L R
        refine V_iadd C0 dX12_spanBy_147 ?_
        refine V_aload_n C0 0 rfl rfl dX12_spanBy_148 ?_
        refine V_iload_n C0 1 rfl rfl dX12_spanBy_149 ?_
        refine V_bipush C0 (v := (12 : Int32)) (by decide) dX12_spanBy_150 ?_
        obtain ⟨v9, q10, h⟩ := bn1_some h
        refine V_callV C0 (st := [.int ((2 : Int32) + v7)]) (As := [.int x1, .int (12 : Int32)]) 11 (c_X12_get G.l G.D G.cA G.ad G.bs G.X C0.2.2.2.2.2.2.2.2.2.1 C0.2.2.2.2.2.2.2.2.2.2.2.2 x0 x1 (12 : Int32) I L R v9 q10) lc_X12_get lk_X12_211 c_x0.2 c_x0.1 ⟨_, rfl, rfl⟩ rfl (by rw [erm]; decide) (Nat.le_of_ble_eq_true rfl) dX12_spanBy_152 ?_
        show V G _ 155 [(0, .ref (G.ad x0)), (1, .int x1), (2, .int x2), (3, .int x3)] [.int v9, .int ((2 : Int32) + v7)] I L R
        refine V_iadd C0 dX12_spanBy_155 ?_
        cases h
        exact V_iret C0 dX12_spanBy_156
      · have h := (if_neg c6).symm.trans h
        have nd1 := nd_add nd1 c6
        by_cases c11 : x2 = (5 : Int32)
        · have h := (if_pos c11).symm.trans h
          refine V_tableC C0 (tgt := 157) (v := (5 : Int32)) c11 (by decide) (by decide) dX12_spanBy_1 ?_
          refine V_iload_n C0 3 rfl rfl dX12_spanBy_157 ?_
          refine V_aload_n C0 0 rfl rfl dX12_spanBy_158 ?_
          refine V_iload_n C0 1 rfl rfl dX12_spanBy_159 ?_
          refine V_bipush C0 (v := (18 : Int32)) (by decide) dX12_spanBy_160 ?_
          obtain ⟨v12, q13, h⟩ := bn1_some h
          refine V_callV C0 (st := [.int x3]) (As := [.int x1, .int (18 : Int32)]) 11 (c_X12_get G.l G.D G.cA G.ad G.bs G.X C0.2.2.2.2.2.2.2.2.2.1 C0.2.2.2.2.2.2.2.2.2.2.2.2 x0 x1 (18 : Int32) I L R v12 q13) lc_X12_get lk_X12_211 c_x0.2 c_x0.1 ⟨_, rfl, rfl⟩ rfl (by rw [erm]; decide) (Nat.le_of_ble_eq_true rfl) dX12_spanBy_162 ?_
          show V G _ 165 [(0, .ref (G.ad x0)), (1, .int x1), (2, .int x2), (3, .int x3)] [.int v12, .int x3] I L R
          refine V_iadd C0 dX12_spanBy_165 ?_
          cases h
          exact V_iret C0 dX12_spanBy_166
        · have h := (if_neg c11).symm.trans h
          have nd1 := nd_add nd1 c11
          by_cases c14 : x2 = (9 : Int32)
          · have h := (if_pos c14).symm.trans h
            refine V_tableC C0 (tgt := 167) (v := (9 : Int32)) c14 (by decide) (by decide) dX12_spanBy_1 ?_
            refine V_iload_n C0 3 rfl rfl dX12_spanBy_167 ?_
            refine V_aload_n C0 0 rfl rfl dX12_spanBy_168 ?_
            refine V_iload_n C0 1 rfl rfl dX12_spanBy_169 ?_
            refine V_bipush C0 (v := (30 : Int32)) (by decide) dX12_spanBy_170 ?_
            obtain ⟨v15, q16, h⟩ := bn1_some h
            refine V_callV C0 (st := [.int x3]) (As := [.int x1, .int (30 : Int32)]) 11 (c_X12_get G.l G.D G.cA G.ad G.bs G.X C0.2.2.2.2.2.2.2.2.2.1 C0.2.2.2.2.2.2.2.2.2.2.2.2 x0 x1 (30 : Int32) I L R v15 q16) lc_X12_get lk_X12_211 c_x0.2 c_x0.1 ⟨_, rfl, rfl⟩ rfl (by rw [erm]; decide) (Nat.le_of_ble_eq_true rfl) dX12_spanBy_172 ?_
            show V G _ 175 [(0, .ref (G.ad x0)), (1, .int x1), (2, .int x2), (3, .int x3)] [.int v15, .int x3] I L R
            refine V_iadd C0 dX12_spanBy_175 ?_
            cases h
            exact V_iret C0 dX12_spanBy_176
          · have h := (if_neg c14).symm.trans h
            have nd1 := nd_add nd1 c14
            by_cases c17 : x2 = (14 : Int32)
            · have h := (if_pos c17).symm.trans h
              refine V_tableC C0 (tgt := 177) (v := (14 : Int32)) c17 (by decide) (by decide) dX12_spanBy_1 ?_
              refine V_iload_n C0 3 rfl rfl dX12_spanBy_177 ?_
              refine V_aload_n C0 0 rfl rfl dX12_spanBy_178 ?_
              refine V_iload_n C0 1 rfl rfl dX12_spanBy_179 ?_
              refine V_bipush C0 (v := (39 : Int32)) (by decide) dX12_spanBy_180 ?_
              obtain ⟨v18, q19, h⟩ := bn1_some h
              refine V_callV C0 (st := [.int x3]) (As := [.int x1, .int (39 : Int32)]) 11 (c_X12_get G.l G.D G.cA G.ad G.bs G.X C0.2.2.2.2.2.2.2.2.2.1 C0.2.2.2.2.2.2.2.2.2.2.2.2 x0 x1 (39 : Int32) I L R v18 q19) lc_X12_get lk_X12_211 c_x0.2 c_x0.1 ⟨_, rfl, rfl⟩ rfl (by rw [erm]; decide) (Nat.le_of_ble_eq_true rfl) dX12_spanBy_182 ?_
              show V G _ 185 [(0, .ref (G.ad x0)), (1, .int x1), (2, .int x2), (3, .int x3)] [.int v18, .int x3] I L R
              refine V_iadd C0 dX12_spanBy_185 ?_
              cases h
              exact V_iret C0 dX12_spanBy_186
            · have h := (if_neg c17).symm.trans h
              have nd1 := nd_add nd1 c17
              by_cases c20 : x2 = (19 : Int32)
              · have h := (if_pos c20).symm.trans h
                refine V_tableC C0 (tgt := 187) (v := (19 : Int32)) c20 (by decide) (by decide) dX12_spanBy_1 ?_
                refine V_iconst C0 (v := (3 : Int32)) (by decide) dX12_spanBy_187 ?_
                cases h
                exact V_iret C0 dX12_spanBy_188
              · have h := (if_neg c20).symm.trans h
                have nd1 := nd_add nd1 c20
                by_cases c21 : x2 = (20 : Int32)
                · have h := (if_pos c21).symm.trans h
                  refine V_tableC C0 (tgt := 189) (v := (20 : Int32)) c21 (by decide) (by decide) dX12_spanBy_1 ?_
                  refine V_iconst C0 (v := (2 : Int32)) (by decide) dX12_spanBy_189 ?_
                  refine V_aload_n C0 0 rfl rfl dX12_spanBy_190 ?_
                  refine V_iload_n C0 1 rfl rfl dX12_spanBy_191 ?_
                  refine V_bipush C0 (v := (49 : Int32)) (by decide) dX12_spanBy_192 ?_
                  obtain ⟨v22, q23, h⟩ := bn1_some h
                  refine V_callV C0 (st := [.int (2 : Int32)]) (As := [.int x1, .int (49 : Int32)]) 11 (c_X12_get G.l G.D G.cA G.ad G.bs G.X C0.2.2.2.2.2.2.2.2.2.1 C0.2.2.2.2.2.2.2.2.2.2.2.2 x0 x1 (49 : Int32) I L R v22 q23) lc_X12_get lk_X12_211 c_x0.2 c_x0.1 ⟨_, rfl, rfl⟩ rfl (by rw [erm]; decide) (Nat.le_of_ble_eq_true rfl) dX12_spanBy_194 ?_
                  show V G _ 197 [(0, .ref (G.ad x0)), (1, .int x1), (2, .int x2), (3, .int x3)] [.int v22, .int (2 : Int32)] I L R
                  refine V_iconst C0 (v := (3 : Int32)) (by decide) dX12_spanBy_197 ?_
                  obtain ⟨v24, q25, h⟩ := bn1_some h
                  refine V_callS C0 (st := [.int (2 : Int32)]) (As := [.int v22, .int (3 : Int32)]) (c_X12_mod G.l G.D G.cA G.ad G.bs G.X C0.2.2.2.2.2.2.2.2.2.1 C0.2.2.2.2.2.2.2.2.2.2.2.2 v22 (3 : Int32) I L R v24 q25) lc_X12_mod lk_X12_115 rfl (by rw [erm]; decide) (Nat.le_of_ble_eq_true rfl) dX12_spanBy_198 ?_
                  show V G _ 201 [(0, .ref (G.ad x0)), (1, .int x1), (2, .int x2), (3, .int x3)] [.int v24, .int (2 : Int32)] I L R
                  refine V_iadd C0 dX12_spanBy_201 ?_
                  cases h
                  exact V_iret C0 dX12_spanBy_202
                · have h := (if_neg c21).symm.trans h
                  have nd1 := nd_add nd1 c21
                  by_cases c26 : x2 = (23 : Int32)
                  · have h := (if_pos c26).symm.trans h
                    refine V_tableC C0 (tgt := 203) (v := (23 : Int32)) c26 (by decide) (by decide) dX12_spanBy_1 ?_
                    refine V_iconst C0 (v := (1 : Int32)) (by decide) dX12_spanBy_203 ?_
                    refine V_aload_n C0 0 rfl rfl dX12_spanBy_204 ?_
                    refine V_iload_n C0 1 rfl rfl dX12_spanBy_205 ?_
                    refine V_bipush C0 (v := (54 : Int32)) (by decide) dX12_spanBy_206 ?_
                    obtain ⟨v27, q28, h⟩ := bn1_some h
                    refine V_callV C0 (st := [.int (1 : Int32)]) (As := [.int x1, .int (54 : Int32)]) 11 (c_X12_get G.l G.D G.cA G.ad G.bs G.X C0.2.2.2.2.2.2.2.2.2.1 C0.2.2.2.2.2.2.2.2.2.2.2.2 x0 x1 (54 : Int32) I L R v27 q28) lc_X12_get lk_X12_211 c_x0.2 c_x0.1 ⟨_, rfl, rfl⟩ rfl (by rw [erm]; decide) (Nat.le_of_ble_eq_true rfl) dX12_spanBy_208 ?_
                    show V G _ 211 [(0, .ref (G.ad x0)), (1, .int x1), (2, .int x2), (3, .int x3)] [.int v27, .int (1 : Int32)] I L R
                    refine V_iadd C0 dX12_spanBy_211 ?_
                    cases h
                    exact V_iret C0 dX12_spanBy_212
                  · have h := (if_neg c26).symm.trans h
                    have nd1 := nd_add nd1 c26
                    by_cases c29 : x2 = (24 : Int32)
                    · have h := (if_pos c29).symm.trans h
                      refine V_tableC C0 (tgt := 213) (v := (24 : Int32)) c29 (by decide) (by decide) dX12_spanBy_1 ?_
                      refine V_iload_n C0 3 rfl rfl dX12_spanBy_213 ?_
                      refine V_aload_n C0 0 rfl rfl dX12_spanBy_214 ?_
                      refine V_iload_n C0 1 rfl rfl dX12_spanBy_215 ?_
                      refine V_bipush C0 (v := (55 : Int32)) (by decide) dX12_spanBy_216 ?_
                      obtain ⟨v30, q31, h⟩ := bn1_some h
                      refine V_callV C0 (st := [.int x3]) (As := [.int x1, .int (55 : Int32)]) 11 (c_X12_get G.l G.D G.cA G.ad G.bs G.X C0.2.2.2.2.2.2.2.2.2.1 C0.2.2.2.2.2.2.2.2.2.2.2.2 x0 x1 (55 : Int32) I L R v30 q31) lc_X12_get lk_X12_211 c_x0.2 c_x0.1 ⟨_, rfl, rfl⟩ rfl (by rw [erm]; decide) (Nat.le_of_ble_eq_true rfl) dX12_spanBy_218 ?_
                      show V G _ 221 [(0, .ref (G.ad x0)), (1, .int x1), (2, .int x2), (3, .int x3)] [.int v30, .int x3] I L R
                      refine V_iadd C0 dX12_spanBy_221 ?_
                      cases h
                      exact V_iret C0 dX12_spanBy_222
                    · have h := (if_neg c29).symm.trans h
                      have nd1 := nd_add nd1 c29
                      by_cases c32 : x2 = (26 : Int32)
                      · have h := (if_pos c32).symm.trans h
                        refine V_tableC C0 (tgt := 223) (v := (26 : Int32)) c32 (by decide) (by decide) dX12_spanBy_1 ?_
                        refine V_iconst C0 (v := (1 : Int32)) (by decide) dX12_spanBy_223 ?_
                        refine V_aload_n C0 0 rfl rfl dX12_spanBy_224 ?_
                        refine V_iload_n C0 1 rfl rfl dX12_spanBy_225 ?_
                        refine V_bipush C0 (v := (59 : Int32)) (by decide) dX12_spanBy_226 ?_
                        obtain ⟨v33, q34, h⟩ := bn1_some h
                        refine V_callV C0 (st := [.int (1 : Int32)]) (As := [.int x1, .int (59 : Int32)]) 11 (c_X12_get G.l G.D G.cA G.ad G.bs G.X C0.2.2.2.2.2.2.2.2.2.1 C0.2.2.2.2.2.2.2.2.2.2.2.2 x0 x1 (59 : Int32) I L R v33 q34) lc_X12_get lk_X12_211 c_x0.2 c_x0.1 ⟨_, rfl, rfl⟩ rfl (by rw [erm]; decide) (Nat.le_of_ble_eq_true rfl) dX12_spanBy_228 ?_
                        show V G _ 231 [(0, .ref (G.ad x0)), (1, .int x1), (2, .int x2), (3, .int x3)] [.int v33, .int (1 : Int32)] I L R
                        refine V_iconst C0 (v := (2 : Int32)) (by decide) dX12_spanBy_231 ?_
                        obtain ⟨v35, q36, h⟩ := bn1_some h
                        refine V_callS C0 (st := [.int (1 : Int32)]) (As := [.int v33, .int (2 : Int32)]) (c_X12_mod G.l G.D G.cA G.ad G.bs G.X C0.2.2.2.2.2.2.2.2.2.1 C0.2.2.2.2.2.2.2.2.2.2.2.2 v33 (2 : Int32) I L R v35 q36) lc_X12_mod lk_X12_115 rfl (by rw [erm]; decide) (Nat.le_of_ble_eq_true rfl) dX12_spanBy_232 ?_
                        show V G _ 235 [(0, .ref (G.ad x0)), (1, .int x1), (2, .int x2), (3, .int x3)] [.int v35, .int (1 : Int32)] I L R
                        refine V_iadd C0 dX12_spanBy_235 ?_
                        cases h
                        exact V_iret C0 dX12_spanBy_236
                      · have h := (if_neg c32).symm.trans h
                        have nd1 := nd_add nd1 c32
                        refine V_tableN C0 (tgt := 237) nd1 (by decide) (by decide) dX12_spanBy_1 ?_
                        refine V_iload_n C0 3 rfl rfl dX12_spanBy_237 ?_
                        cases h
                        exact V_iret C0 dX12_spanBy_238
theorem dX12_needBy_0 : decode cX12_needBy 0 = .ok (.iload_n 2, 1) := by decide +kernel
theorem dX12_needBy_1 : decode cX12_needBy 1 = .ok (.tableswitch 185 0 24 #[115, 185, 117, 135, 185, 185, 153, 161, 185, 173, 185, 185, 185, 185, 185, 185, 185, 185, 185, 185, 185, 185, 185, 185, 183], 115) := by decide +kernel
theorem dX12_needBy_116 : decode cX12_needBy 116 = .ok (.iconst 0, 1) := by decide +kernel
theorem dX12_needBy_117 : decode cX12_needBy 117 = .ok (.ireturn, 1) := by decide +kernel
theorem dX12_needBy_118 : decode cX12_needBy 118 = .ok (.iconst 2, 1) := by decide +kernel
theorem dX12_needBy_119 : decode cX12_needBy 119 = .ok (.aload_n 0, 1) := by decide +kernel
theorem dX12_needBy_120 : decode cX12_needBy 120 = .ok (.iload_n 1, 1) := by decide +kernel
theorem dX12_needBy_121 : decode cX12_needBy 121 = .ok (.bipush 11, 2) := by decide +kernel
theorem dX12_needBy_123 : decode cX12_needBy 123 = .ok (.invokevirtual 211, 3) := by decide +kernel
theorem dX12_needBy_126 : decode cX12_needBy 126 = .ok (.iadd, 1) := by decide +kernel
theorem dX12_needBy_127 : decode cX12_needBy 127 = .ok (.aload_n 0, 1) := by decide +kernel
theorem dX12_needBy_128 : decode cX12_needBy 128 = .ok (.iload_n 1, 1) := by decide +kernel
theorem dX12_needBy_129 : decode cX12_needBy 129 = .ok (.bipush 12, 2) := by decide +kernel
theorem dX12_needBy_131 : decode cX12_needBy 131 = .ok (.invokevirtual 211, 3) := by decide +kernel
theorem dX12_needBy_134 : decode cX12_needBy 134 = .ok (.iadd, 1) := by decide +kernel
theorem dX12_needBy_135 : decode cX12_needBy 135 = .ok (.ireturn, 1) := by decide +kernel
theorem dX12_needBy_136 : decode cX12_needBy 136 = .ok (.aload_n 0, 1) := by decide +kernel
theorem dX12_needBy_137 : decode cX12_needBy 137 = .ok (.iload_n 1, 1) := by decide +kernel
theorem dX12_needBy_138 : decode cX12_needBy 138 = .ok (.bipush 16, 2) := by decide +kernel
theorem dX12_needBy_140 : decode cX12_needBy 140 = .ok (.invokevirtual 211, 3) := by decide +kernel
theorem dX12_needBy_143 : decode cX12_needBy 143 = .ok (.iconst 2, 1) := by decide +kernel
theorem dX12_needBy_144 : decode cX12_needBy 144 = .ok (.imul, 1) := by decide +kernel
theorem dX12_needBy_145 : decode cX12_needBy 145 = .ok (.aload_n 0, 1) := by decide +kernel
theorem dX12_needBy_146 : decode cX12_needBy 146 = .ok (.iload_n 1, 1) := by decide +kernel
theorem dX12_needBy_147 : decode cX12_needBy 147 = .ok (.bipush 14, 2) := by decide +kernel
theorem dX12_needBy_149 : decode cX12_needBy 149 = .ok (.invokevirtual 211, 3) := by decide +kernel
theorem dX12_needBy_152 : decode cX12_needBy 152 = .ok (.iadd, 1) := by decide +kernel
theorem dX12_needBy_153 : decode cX12_needBy 153 = .ok (.ireturn, 1) := by decide +kernel
theorem dX12_needBy_154 : decode cX12_needBy 154 = .ok (.aload_n 0, 1) := by decide +kernel
theorem dX12_needBy_155 : decode cX12_needBy 155 = .ok (.iload_n 1, 1) := by decide +kernel
theorem dX12_needBy_156 : decode cX12_needBy 156 = .ok (.bipush 23, 2) := by decide +kernel
theorem dX12_needBy_158 : decode cX12_needBy 158 = .ok (.invokevirtual 211, 3) := by decide +kernel
theorem dX12_needBy_161 : decode cX12_needBy 161 = .ok (.ireturn, 1) := by decide +kernel
theorem dX12_needBy_162 : decode cX12_needBy 162 = .ok (.iload_n 3, 1) := by decide +kernel
theorem dX12_needBy_163 : decode cX12_needBy 163 = .ok (.aload_n 0, 1) := by decide +kernel
theorem dX12_needBy_164 : decode cX12_needBy 164 = .ok (.iload_n 1, 1) := by decide +kernel
theorem dX12_needBy_165 : decode cX12_needBy 165 = .ok (.bipush 25, 2) := by decide +kernel
theorem dX12_needBy_167 : decode cX12_needBy 167 = .ok (.invokevirtual 211, 3) := by decide +kernel
theorem dX12_needBy_170 : decode cX12_needBy 170 = .ok (.iconst 4, 1) := by decide +kernel
theorem dX12_needBy_171 : decode cX12_needBy 171 = .ok (.idiv, 1) := by decide +kernel
theorem dX12_needBy_172 : decode cX12_needBy 172 = .ok (.iadd, 1) := by decide +kernel
theorem dX12_needBy_173 : decode cX12_needBy 173 = .ok (.ireturn, 1) := by decide +kernel
theorem dX12_needBy_174 : decode cX12_needBy 174 = .ok (.iload_n 3, 1) := by decide +kernel
theorem dX12_needBy_175 : decode cX12_needBy 175 = .ok (.aload_n 0, 1) := by decide +kernel
theorem dX12_needBy_176 : decode cX12_needBy 176 = .ok (.iload_n 1, 1) := by decide +kernel
theorem dX12_needBy_177 : decode cX12_needBy 177 = .ok (.bipush 30, 2) := by decide +kernel
theorem dX12_needBy_179 : decode cX12_needBy 179 = .ok (.invokevirtual 211, 3) := by decide +kernel
theorem dX12_needBy_182 : decode cX12_needBy 182 = .ok (.iadd, 1) := by decide +kernel
theorem dX12_needBy_183 : decode cX12_needBy 183 = .ok (.ireturn, 1) := by decide +kernel
theorem dX12_needBy_184 : decode cX12_needBy 184 = .ok (.iconst 3, 1) := by decide +kernel
theorem dX12_needBy_185 : decode cX12_needBy 185 = .ok (.ireturn, 1) := by decide +kernel
theorem dX12_needBy_186 : decode cX12_needBy 186 = .ok (.iload_n 3, 1) := by decide +kernel
theorem dX12_needBy_187 : decode cX12_needBy 187 = .ok (.ireturn, 1) := by decide +kernel
def F_X12_needBy (x0 : Nat) (x1 : Int32) (x2 : Int32) (x3 : Int32) (I : MI) (L : ML) (R : MR) : Option (Int32) :=
  if kd x0 = 11 ∧ x0 < NN then
  if x2 = (0 : Int32) then
    some ((0 : Int32))
  else
    if x2 = (2 : Int32) then
      bn1 (F_X12_get x0 x1 (11 : Int32) I L R) fun v4 =>
      bn1 (F_X12_get x0 x1 (12 : Int32) I L R) fun v6 =>
      some ((((2 : Int32) + v4) + v6))
    else
      if x2 = (3 : Int32) then
        bn1 (F_X12_get x0 x1 (16 : Int32) I L R) fun v9 =>
        bn1 (F_X12_get x0 x1 (14 : Int32) I L R) fun v11 =>
        some (((v9 * (2 : Int32)) + v11))
      else
        if x2 = (6 : Int32) then
          bn1 (F_X12_get x0 x1 (23 : Int32) I L R) fun v14 =>
          some (v14)
        else
          if x2 = (7 : Int32) then
            bn1 (F_X12_get x0 x1 (25 : Int32) I L R) fun v17 =>
            some ((x3 + (v17 / (4 : Int32))))
          else
            if x2 = (9 : Int32) then
              bn1 (F_X12_get x0 x1 (30 : Int32) I L R) fun v20 =>
              some ((x3 + v20))
            else
              if x2 = (24 : Int32) then
                some ((3 : Int32))
              else
                some (x3)
  else none
set_option maxRecDepth 100000 in
set_option maxHeartbeats 4000000 in
theorem c_X12_needBy (l : Launch) (D : va_G) (cA : Nat → ClassId) (ad : Nat → Nat) (bs : Nat) (X : State → Prop) (hAd : Ax ad bs) (hX : Stb bs X) (x0 : Nat) (x1 : Int32) (x2 : Int32) (x3 : Int32) (I : MI) (L : ML) (R : MR) (r : Int32) (h : F_X12_needBy x0 x1 x2 x3 I L R = some (r)) : Cn l D cA ad bs X yX12_needBy cX12_needBy 4 (some .int) 1 22 [.ref (ad x0), .int x1, .int x2, .int x3] I L R (some (.int r), I, L, R) := by
  refine Cn.ofV hAd hX [(0, .ref (ad x0)), (1, .int x1), (2, .int x2), (3, .int x3)] rfl (Nat.le_of_ble_eq_true rfl) (by decide) ?_
  intro G el eD ecA ead ebs eX erm eNL C0
  subst el eD ecA ead ebs eX
  unfold F_X12_needBy at h
  obtain ⟨c_x0, h⟩ := ite_some h
  refine V_iload_n C0 2 rfl rfl dX12_needBy_0 ?_
  have nd1 := nd_0 x2
  by_cases c2 : x2 = (0 : Int32)
  · have h := (if_pos c2).symm.trans h
    refine V_tableC C0 (tgt := 116) (v := (0 : Int32)) c2 (by decide) (by decide) dX12_needBy_1 ?_
    refine V_iconst C0 (v := (0 : Int32)) (by decide) dX12_needBy_116 ?_
    cases h
    exact V_iret C0 dX12_needBy_117
  · have h := (if_neg c2).symm.trans h
    have nd1 := nd_add nd1 c2
    by_cases c3 : x2 = (2 : Int32)
    · have h := (if_pos c3).symm.trans h
      refine V_tableC C0 (tgt := 118) (v := (2 : Int32)) c3 (by decide) (by decide) dX12_needBy_1 ?_
      refine V_iconst C0 (v := (2 : Int32)) (by decide) dX12_needBy_118 ?_
      refine V_aload_n C0 0 rfl rfl dX12_needBy_119 ?_
      refine V_iload_n C0 1 rfl rfl dX12_needBy_120 ?_
      refine V_bipush C0 (v := (11 : Int32)) (by decide) dX12_needBy_121 ?_
      obtain ⟨v4, q5, h⟩ := bn1_some h
      refine V_callV C0 (st := [.int (2 : Int32)]) (As := [.int x1, .int (11 : Int32)]) 11 (c_X12_get G.l G.D G.cA G.ad G.bs G.X C0.2.2.2.2.2.2.2.2.2.1 C0.2.2.2.2.2.2.2.2.2.2.2.2 x0 x1 (11 : Int32) I L R v4 q5) lc_X12_get lk_X12_211 c_x0.2 c_x0.1 ⟨_, rfl, rfl⟩ rfl (by rw [erm]; decide) (Nat.le_of_ble_eq_true rfl) dX12_needBy_123 ?_
      show V G _ 126 [(0, .ref (G.ad x0)), (1, .int x1), (2, .int x2), (3, .int x3)] [.int v4, .int (2 : Int32)] I L R
      refine V_iadd C0 dX12_needBy_126 ?_
      refine V_aload_n C0 0 rfl rfl dX12_needBy_127 ?_
      refine V_iload_n C0 1 rfl rfl dX12_needBy_128 ?_
      refine V_bipush C0 (v := (12 : Int32)) (by decide) dX12_needBy_129 ?_
      obtain ⟨v6, q7, h⟩ := bn1_some h
      refine V_callV C0 (st := [.int ((2 : Int32) + v4)]) (As := [.int x1, .int (12 : Int32)]) 11 (c_X12_get G.l G.D G.cA G.ad G.bs G.X C0.2.2.2.2.2.2.2.2.2.1 C0.2.2.2.2.2.2.2.2.2.2.2.2 x0 x1 (12 : Int32) I L R v6 q7) lc_X12_get lk_X12_211 c_x0.2 c_x0.1 ⟨_, rfl, rfl⟩ rfl (by rw [erm]; decide) (Nat.le_of_ble_eq_true rfl) dX12_needBy_131 ?_
      show V G _ 134 [(0, .ref (G.ad x0)), (1, .int x1), (2, .int x2), (3, .int x3)] [.int v6, .int ((2 : Int32) + v4)] I L R
      refine V_iadd C0 dX12_needBy_134 ?_
      cases h
      exact V_iret C0 dX12_needBy_135
    · have h := (if_neg c3).symm.trans h
      have nd1 := nd_add nd1 c3
      by_cases c8 : x2 = (3 : Int32)
      · have h := (if_pos c8).symm.trans h
        refine V_tableC C0 (tgt := 136) (v := (3 : Int32)) c8 (by decide) (by decide) dX12_needBy_1 ?_
        refine V_aload_n C0 0 rfl rfl dX12_needBy_136 ?_
        refine V_iload_n C0 1 rfl rfl dX12_needBy_137 ?_
        refine V_bipush C0 (v := (16 : Int32)) (by decide) dX12_needBy_138 ?_
        obtain ⟨v9, q10, h⟩ := bn1_some h
        refine V_callV C0 (st := []) (As := [.int x1, .int (16 : Int32)]) 11 (c_X12_get G.l G.D G.cA G.ad G.bs G.X C0.2.2.2.2.2.2.2.2.2.1 C0.2.2.2.2.2.2.2.2.2.2.2.2 x0 x1 (16 : Int32) I L R v9 q10) lc_X12_get lk_X12_211 c_x0.2 c_x0.1 ⟨_, rfl, rfl⟩ rfl (by rw [erm]; decide) (Nat.le_of_ble_eq_true rfl) dX12_needBy_140 ?_
        show V G _ 143 [(0, .ref (G.ad x0)), (1, .int x1), (2, .int x2), (3, .int x3)] [.int v9] I L R
        refine V_iconst C0 (v := (2 : Int32)) (by decide) dX12_needBy_143 ?_
        refine V_imul C0 dX12_needBy_144 ?_
        refine V_aload_n C0 0 rfl rfl dX12_needBy_145 ?_
        refine V_iload_n C0 1 rfl rfl dX12_needBy_146 ?_
        refine V_bipush C0 (v := (14 : Int32)) (by decide) dX12_needBy_147 ?_
        obtain ⟨v11, q12, h⟩ := bn1_some h
        refine V_callV C0 (st := [.int (v9 * (2 : Int32))]) (As := [.int x1, .int (14 : Int32)]) 11 (c_X12_get G.l G.D G.cA G.ad G.bs G.X C0.2.2.2.2.2.2.2.2.2.1 C0.2.2.2.2.2.2.2.2.2.2.2.2 x0 x1 (14 : Int32) I L R v11 q12) lc_X12_get lk_X12_211 c_x0.2 c_x0.1 ⟨_, rfl, rfl⟩ rfl (by rw [erm]; decide) (Nat.le_of_ble_eq_true rfl) dX12_needBy_149 ?_
        show V G _ 152 [(0, .ref (G.ad x0)), (1, .int x1), (2, .int x2), (3, .int x3)] [.int v11, .int (v9 * (2 : Int32))] I L R
        refine V_iadd C0 dX12_needBy_152 ?_
        cases h
        exact V_iret C0 dX12_needBy_153
      · have h := (if_neg c8).symm.trans h
        have nd1 := nd_add nd1 c8
        by_cases c13 : x2 = (6 : Int32)
        · have h := (if_pos c13).symm.trans h
          refine V_tableC C0 (tgt := 154) (v := (6 : Int32)) c13 (by decide) (by decide) dX12_needBy_1 ?_
          refine V_aload_n C0 0 rfl rfl dX12_needBy_154 ?_
          refine V_iload_n C0 1 rfl rfl dX12_needBy_155 ?_
          refine V_bipush C0 (v := (23 : Int32)) (by decide) dX12_needBy_156 ?_
          obtain ⟨v14, q15, h⟩ := bn1_some h
          refine V_callV C0 (st := []) (As := [.int x1, .int (23 : Int32)]) 11 (c_X12_get G.l G.D G.cA G.ad G.bs G.X C0.2.2.2.2.2.2.2.2.2.1 C0.2.2.2.2.2.2.2.2.2.2.2.2 x0 x1 (23 : Int32) I L R v14 q15) lc_X12_get lk_X12_211 c_x0.2 c_x0.1 ⟨_, rfl, rfl⟩ rfl (by rw [erm]; decide) (Nat.le_of_ble_eq_true rfl) dX12_needBy_158 ?_
          show V G _ 161 [(0, .ref (G.ad x0)), (1, .int x1), (2, .int x2), (3, .int x3)] [.int v14] I L R
          cases h
          exact V_iret C0 dX12_needBy_161
        · have h := (if_neg c13).symm.trans h
          have nd1 := nd_add nd1 c13
          by_cases c16 : x2 = (7 : Int32)
          · have h := (if_pos c16).symm.trans h
            refine V_tableC C0 (tgt := 162) (v := (7 : Int32)) c16 (by decide) (by decide) dX12_needBy_1 ?_
            refine V_iload_n C0 3 rfl rfl dX12_needBy_162 ?_
            refine V_aload_n C0 0 rfl rfl dX12_needBy_163 ?_
            refine V_iload_n C0 1 rfl rfl dX12_needBy_164 ?_
            refine V_bipush C0 (v := (25 : Int32)) (by decide) dX12_needBy_165 ?_
            obtain ⟨v17, q18, h⟩ := bn1_some h
            refine V_callV C0 (st := [.int x3]) (As := [.int x1, .int (25 : Int32)]) 11 (c_X12_get G.l G.D G.cA G.ad G.bs G.X C0.2.2.2.2.2.2.2.2.2.1 C0.2.2.2.2.2.2.2.2.2.2.2.2 x0 x1 (25 : Int32) I L R v17 q18) lc_X12_get lk_X12_211 c_x0.2 c_x0.1 ⟨_, rfl, rfl⟩ rfl (by rw [erm]; decide) (Nat.le_of_ble_eq_true rfl) dX12_needBy_167 ?_
            show V G _ 170 [(0, .ref (G.ad x0)), (1, .int x1), (2, .int x2), (3, .int x3)] [.int v17, .int x3] I L R
            refine V_iconst C0 (v := (4 : Int32)) (by decide) dX12_needBy_170 ?_
            refine V_idiv C0 (by decide) dX12_needBy_171 ?_
            refine V_iadd C0 dX12_needBy_172 ?_
            cases h
            exact V_iret C0 dX12_needBy_173
          · have h := (if_neg c16).symm.trans h
            have nd1 := nd_add nd1 c16
            by_cases c19 : x2 = (9 : Int32)
            · have h := (if_pos c19).symm.trans h
              refine V_tableC C0 (tgt := 174) (v := (9 : Int32)) c19 (by decide) (by decide) dX12_needBy_1 ?_
              refine V_iload_n C0 3 rfl rfl dX12_needBy_174 ?_
              refine V_aload_n C0 0 rfl rfl dX12_needBy_175 ?_
              refine V_iload_n C0 1 rfl rfl dX12_needBy_176 ?_
              refine V_bipush C0 (v := (30 : Int32)) (by decide) dX12_needBy_177 ?_
              obtain ⟨v20, q21, h⟩ := bn1_some h
              refine V_callV C0 (st := [.int x3]) (As := [.int x1, .int (30 : Int32)]) 11 (c_X12_get G.l G.D G.cA G.ad G.bs G.X C0.2.2.2.2.2.2.2.2.2.1 C0.2.2.2.2.2.2.2.2.2.2.2.2 x0 x1 (30 : Int32) I L R v20 q21) lc_X12_get lk_X12_211 c_x0.2 c_x0.1 ⟨_, rfl, rfl⟩ rfl (by rw [erm]; decide) (Nat.le_of_ble_eq_true rfl) dX12_needBy_179 ?_
              show V G _ 182 [(0, .ref (G.ad x0)), (1, .int x1), (2, .int x2), (3, .int x3)] [.int v20, .int x3] I L R
              refine V_iadd C0 dX12_needBy_182 ?_
              cases h
              exact V_iret C0 dX12_needBy_183
            · have h := (if_neg c19).symm.trans h
              have nd1 := nd_add nd1 c19
              by_cases c22 : x2 = (24 : Int32)
              · have h := (if_pos c22).symm.trans h
                refine V_tableC C0 (tgt := 184) (v := (24 : Int32)) c22 (by decide) (by decide) dX12_needBy_1 ?_
                refine V_iconst C0 (v := (3 : Int32)) (by decide) dX12_needBy_184 ?_
                cases h
                exact V_iret C0 dX12_needBy_185
              · have h := (if_neg c22).symm.trans h
                have nd1 := nd_add nd1 c22
                refine V_tableN C0 (tgt := 186) nd1 (by decide) (by decide) dX12_needBy_1 ?_
                refine V_iload_n C0 3 rfl rfl dX12_needBy_186 ?_
                cases h
                exact V_iret C0 dX12_needBy_187
theorem dX12_testBy_0 : decode cX12_testBy 0 = .ok (.iload_n 2, 1) := by decide +kernel
theorem dX12_testBy_1 : decode cX12_testBy 1 = .ok (.tableswitch 263 0 28 #[131, 145, 163, 263, 181, 263, 263, 263, 193, 263, 263, 211, 263, 263, 263, 223, 263, 263, 263, 263, 263, 233, 263, 263, 263, 243, 263, 263, 253], 131) := by decide +kernel
theorem dX12_testBy_132 : decode cX12_testBy 132 = .ok (.aload_n 0, 1) := by decide +kernel
theorem dX12_testBy_133 : decode cX12_testBy 133 = .ok (.iload_n 1, 1) := by decide +kernel
theorem dX12_testBy_134 : decode cX12_testBy 134 = .ok (.iconst 2, 1) := by decide +kernel
theorem dX12_testBy_135 : decode cX12_testBy 135 = .ok (.invokevirtual 211, 3) := by decide +kernel
theorem dX12_testBy_138 : decode cX12_testBy 138 = .ok (.aload_n 0, 1) := by decide +kernel
theorem dX12_testBy_139 : decode cX12_testBy 139 = .ok (.iload_n 1, 1) := by decide +kernel
theorem dX12_testBy_140 : decode cX12_testBy 140 = .ok (.iconst 3, 1) := by decide +kernel
theorem dX12_testBy_141 : decode cX12_testBy 141 = .ok (.invokevirtual 211, 3) := by decide +kernel
theorem dX12_testBy_144 : decode cX12_testBy 144 = .ok (.iadd, 1) := by decide +kernel
theorem dX12_testBy_145 : decode cX12_testBy 145 = .ok (.ireturn, 1) := by decide +kernel
theorem dX12_testBy_146 : decode cX12_testBy 146 = .ok (.iload_n 3, 1) := by decide +kernel
theorem dX12_testBy_147 : decode cX12_testBy 147 = .ok (.aload_n 0, 1) := by decide +kernel
theorem dX12_testBy_148 : decode cX12_testBy 148 = .ok (.iload_n 1, 1) := by decide +kernel
theorem dX12_testBy_149 : decode cX12_testBy 149 = .ok (.bipush 7, 2) := by decide +kernel
theorem dX12_testBy_151 : decode cX12_testBy 151 = .ok (.invokevirtual 211, 3) := by decide +kernel
theorem dX12_testBy_154 : decode cX12_testBy 154 = .ok (.iadd, 1) := by decide +kernel
theorem dX12_testBy_155 : decode cX12_testBy 155 = .ok (.aload_n 0, 1) := by decide +kernel
theorem dX12_testBy_156 : decode cX12_testBy 156 = .ok (.iload_n 1, 1) := by decide +kernel
theorem dX12_testBy_157 : decode cX12_testBy 157 = .ok (.bipush 9, 2) := by decide +kernel
theorem dX12_testBy_159 : decode cX12_testBy 159 = .ok (.invokevirtual 211, 3) := by decide +kernel
theorem dX12_testBy_162 : decode cX12_testBy 162 = .ok (.isub, 1) := by decide +kernel
theorem dX12_testBy_163 : decode cX12_testBy 163 = .ok (.ireturn, 1) := by decide +kernel
theorem dX12_testBy_164 : decode cX12_testBy 164 = .ok (.iload_n 3, 1) := by decide +kernel
theorem dX12_testBy_165 : decode cX12_testBy 165 = .ok (.aload_n 0, 1) := by decide +kernel
theorem dX12_testBy_166 : decode cX12_testBy 166 = .ok (.iload_n 1, 1) := by decide +kernel
theorem dX12_testBy_167 : decode cX12_testBy 167 = .ok (.bipush 11, 2) := by decide +kernel
theorem dX12_testBy_169 : decode cX12_testBy 169 = .ok (.invokevirtual 211, 3) := by decide +kernel
theorem dX12_testBy_172 : decode cX12_testBy 172 = .ok (.aload_n 0, 1) := by decide +kernel
theorem dX12_testBy_173 : decode cX12_testBy 173 = .ok (.iload_n 1, 1) := by decide +kernel
theorem dX12_testBy_174 : decode cX12_testBy 174 = .ok (.bipush 12, 2) := by decide +kernel
theorem dX12_testBy_176 : decode cX12_testBy 176 = .ok (.invokevirtual 211, 3) := by decide +kernel
theorem dX12_testBy_179 : decode cX12_testBy 179 = .ok (.imul, 1) := by decide +kernel
theorem dX12_testBy_180 : decode cX12_testBy 180 = .ok (.iadd, 1) := by decide +kernel
theorem dX12_testBy_181 : decode cX12_testBy 181 = .ok (.ireturn, 1) := by decide +kernel
theorem dX12_testBy_182 : decode cX12_testBy 182 = .ok (.iload_n 3, 1) := by decide +kernel
theorem dX12_testBy_183 : decode cX12_testBy 183 = .ok (.iconst 2, 1) := by decide +kernel
theorem dX12_testBy_184 : decode cX12_testBy 184 = .ok (.imul, 1) := by decide +kernel
theorem dX12_testBy_185 : decode cX12_testBy 185 = .ok (.aload_n 0, 1) := by decide +kernel
theorem dX12_testBy_186 : decode cX12_testBy 186 = .ok (.iload_n 1, 1) := by decide +kernel
theorem dX12_testBy_187 : decode cX12_testBy 187 = .ok (.bipush 17, 2) := by decide +kernel
theorem dX12_testBy_189 : decode cX12_testBy 189 = .ok (.invokevirtual 211, 3) := by decide +kernel
theorem dX12_testBy_192 : decode cX12_testBy 192 = .ok (.isub, 1) := by decide +kernel
theorem dX12_testBy_193 : decode cX12_testBy 193 = .ok (.ireturn, 1) := by decide +kernel
theorem dX12_testBy_194 : decode cX12_testBy 194 = .ok (.iload_n 3, 1) := by decide +kernel
theorem dX12_testBy_195 : decode cX12_testBy 195 = .ok (.aload_n 0, 1) := by decide +kernel
theorem dX12_testBy_196 : decode cX12_testBy 196 = .ok (.iload_n 1, 1) := by decide +kernel
theorem dX12_testBy_197 : decode cX12_testBy 197 = .ok (.bipush 26, 2) := by decide +kernel
theorem dX12_testBy_199 : decode cX12_testBy 199 = .ok (.invokevirtual 211, 3) := by decide +kernel
theorem dX12_testBy_202 : decode cX12_testBy 202 = .ok (.iadd, 1) := by decide +kernel
theorem dX12_testBy_203 : decode cX12_testBy 203 = .ok (.aload_n 0, 1) := by decide +kernel
theorem dX12_testBy_204 : decode cX12_testBy 204 = .ok (.iload_n 1, 1) := by decide +kernel
theorem dX12_testBy_205 : decode cX12_testBy 205 = .ok (.bipush 28, 2) := by decide +kernel
theorem dX12_testBy_207 : decode cX12_testBy 207 = .ok (.invokevirtual 211, 3) := by decide +kernel
theorem dX12_testBy_210 : decode cX12_testBy 210 = .ok (.isub, 1) := by decide +kernel
theorem dX12_testBy_211 : decode cX12_testBy 211 = .ok (.ireturn, 1) := by decide +kernel
theorem dX12_testBy_212 : decode cX12_testBy 212 = .ok (.iload_n 3, 1) := by decide +kernel
theorem dX12_testBy_213 : decode cX12_testBy 213 = .ok (.iconst 3, 1) := by decide +kernel
theorem dX12_testBy_214 : decode cX12_testBy 214 = .ok (.imul, 1) := by decide +kernel
theorem dX12_testBy_215 : decode cX12_testBy 215 = .ok (.aload_n 0, 1) := by decide +kernel
theorem dX12_testBy_216 : decode cX12_testBy 216 = .ok (.iload_n 1, 1) := by decide +kernel
theorem dX12_testBy_217 : decode cX12_testBy 217 = .ok (.bipush 36, 2) := by decide +kernel
theorem dX12_testBy_219 : decode cX12_testBy 219 = .ok (.invokevirtual 211, 3) := by decide +kernel
theorem dX12_testBy_222 : decode cX12_testBy 222 = .ok (.iadd, 1) := by decide +kernel
theorem dX12_testBy_223 : decode cX12_testBy 223 = .ok (.ireturn, 1) := by decide +kernel
theorem dX12_testBy_224 : decode cX12_testBy 224 = .ok (.iload_n 3, 1) := by decide +kernel
theorem dX12_testBy_225 : decode cX12_testBy 225 = .ok (.aload_n 0, 1) := by decide +kernel
theorem dX12_testBy_226 : decode cX12_testBy 226 = .ok (.iload_n 1, 1) := by decide +kernel
theorem dX12_testBy_227 : decode cX12_testBy 227 = .ok (.bipush 42, 2) := by decide +kernel
theorem dX12_testBy_229 : decode cX12_testBy 229 = .ok (.invokevirtual 211, 3) := by decide +kernel
theorem dX12_testBy_232 : decode cX12_testBy 232 = .ok (.iadd, 1) := by decide +kernel
theorem dX12_testBy_233 : decode cX12_testBy 233 = .ok (.ireturn, 1) := by decide +kernel
theorem dX12_testBy_234 : decode cX12_testBy 234 = .ok (.iload_n 3, 1) := by decide +kernel
theorem dX12_testBy_235 : decode cX12_testBy 235 = .ok (.aload_n 0, 1) := by decide +kernel
theorem dX12_testBy_236 : decode cX12_testBy 236 = .ok (.iload_n 1, 1) := by decide +kernel
theorem dX12_testBy_237 : decode cX12_testBy 237 = .ok (.bipush 31, 2) := by decide +kernel
theorem dX12_testBy_239 : decode cX12_testBy 239 = .ok (.invokevirtual 211, 3) := by decide +kernel
theorem dX12_testBy_242 : decode cX12_testBy 242 = .ok (.isub, 1) := by decide +kernel
theorem dX12_testBy_243 : decode cX12_testBy 243 = .ok (.ireturn, 1) := by decide +kernel
theorem dX12_testBy_244 : decode cX12_testBy 244 = .ok (.iload_n 3, 1) := by decide +kernel
theorem dX12_testBy_245 : decode cX12_testBy 245 = .ok (.aload_n 0, 1) := by decide +kernel
theorem dX12_testBy_246 : decode cX12_testBy 246 = .ok (.iload_n 1, 1) := by decide +kernel
theorem dX12_testBy_247 : decode cX12_testBy 247 = .ok (.bipush 57, 2) := by decide +kernel
theorem dX12_testBy_249 : decode cX12_testBy 249 = .ok (.invokevirtual 211, 3) := by decide +kernel
theorem dX12_testBy_252 : decode cX12_testBy 252 = .ok (.iadd, 1) := by decide +kernel
theorem dX12_testBy_253 : decode cX12_testBy 253 = .ok (.ireturn, 1) := by decide +kernel
theorem dX12_testBy_254 : decode cX12_testBy 254 = .ok (.iload_n 3, 1) := by decide +kernel
theorem dX12_testBy_255 : decode cX12_testBy 255 = .ok (.aload_n 0, 1) := by decide +kernel
theorem dX12_testBy_256 : decode cX12_testBy 256 = .ok (.iload_n 1, 1) := by decide +kernel
theorem dX12_testBy_257 : decode cX12_testBy 257 = .ok (.bipush 61, 2) := by decide +kernel
theorem dX12_testBy_259 : decode cX12_testBy 259 = .ok (.invokevirtual 211, 3) := by decide +kernel
theorem dX12_testBy_262 : decode cX12_testBy 262 = .ok (.isub, 1) := by decide +kernel
theorem dX12_testBy_263 : decode cX12_testBy 263 = .ok (.ireturn, 1) := by decide +kernel
theorem dX12_testBy_264 : decode cX12_testBy 264 = .ok (.iload_n 3, 1) := by decide +kernel
theorem dX12_testBy_265 : decode cX12_testBy 265 = .ok (.ireturn, 1) := by decide +kernel
def F_X12_testBy (x0 : Nat) (x1 : Int32) (x2 : Int32) (x3 : Int32) (I : MI) (L : ML) (R : MR) : Option (Int32) :=
  if kd x0 = 11 ∧ x0 < NN then
  if x2 = (0 : Int32) then
    bn1 (F_X12_get x0 x1 (2 : Int32) I L R) fun v3 =>
    bn1 (F_X12_get x0 x1 (3 : Int32) I L R) fun v5 =>
    some ((v3 + v5))
  else
    if x2 = (1 : Int32) then
      bn1 (F_X12_get x0 x1 (7 : Int32) I L R) fun v8 =>
      bn1 (F_X12_get x0 x1 (9 : Int32) I L R) fun v10 =>
      some (((x3 + v8) - v10))
    else
      if x2 = (2 : Int32) then
        bn1 (F_X12_get x0 x1 (11 : Int32) I L R) fun v13 =>
        bn1 (F_X12_get x0 x1 (12 : Int32) I L R) fun v15 =>
        some ((x3 + (v13 * v15)))
      else
        if x2 = (4 : Int32) then
          bn1 (F_X12_get x0 x1 (17 : Int32) I L R) fun v18 =>
          some (((x3 * (2 : Int32)) - v18))
        else
          if x2 = (8 : Int32) then
            bn1 (F_X12_get x0 x1 (26 : Int32) I L R) fun v21 =>
            bn1 (F_X12_get x0 x1 (28 : Int32) I L R) fun v23 =>
            some (((x3 + v21) - v23))
          else
            if x2 = (11 : Int32) then
              bn1 (F_X12_get x0 x1 (36 : Int32) I L R) fun v26 =>
              some (((x3 * (3 : Int32)) + v26))
            else
              if x2 = (15 : Int32) then
                bn1 (F_X12_get x0 x1 (42 : Int32) I L R) fun v29 =>
                some ((x3 + v29))
              else
                if x2 = (21 : Int32) then
                  bn1 (F_X12_get x0 x1 (31 : Int32) I L R) fun v32 =>
                  some ((x3 - v32))
                else
                  if x2 = (25 : Int32) then
                    bn1 (F_X12_get x0 x1 (57 : Int32) I L R) fun v35 =>
                    some ((x3 + v35))
                  else
                    if x2 = (28 : Int32) then
                      bn1 (F_X12_get x0 x1 (61 : Int32) I L R) fun v38 =>
                      some ((x3 - v38))
                    else
                      some (x3)
  else none
set_option maxRecDepth 100000 in
set_option maxHeartbeats 4000000 in
theorem c_X12_testBy (l : Launch) (D : va_G) (cA : Nat → ClassId) (ad : Nat → Nat) (bs : Nat) (X : State → Prop) (hAd : Ax ad bs) (hX : Stb bs X) (x0 : Nat) (x1 : Int32) (x2 : Int32) (x3 : Int32) (I : MI) (L : ML) (R : MR) (r : Int32) (h : F_X12_testBy x0 x1 x2 x3 I L R = some (r)) : Cn l D cA ad bs X yX12_testBy cX12_testBy 4 (some .int) 1 22 [.ref (ad x0), .int x1, .int x2, .int x3] I L R (some (.int r), I, L, R) := by
  refine Cn.ofV hAd hX [(0, .ref (ad x0)), (1, .int x1), (2, .int x2), (3, .int x3)] rfl (Nat.le_of_ble_eq_true rfl) (by decide) ?_
  intro G el eD ecA ead ebs eX erm eNL C0
  subst el eD ecA ead ebs eX
  unfold F_X12_testBy at h
  obtain ⟨c_x0, h⟩ := ite_some h
  refine V_iload_n C0 2 rfl rfl dX12_testBy_0 ?_
  have nd1 := nd_0 x2
  by_cases c2 : x2 = (0 : Int32)
  · have h := (if_pos c2).symm.trans h
    refine V_tableC C0 (tgt := 132) (v := (0 : Int32)) c2 (by decide) (by decide) dX12_testBy_1 ?_
    refine V_aload_n C0 0 rfl rfl dX12_testBy_132 ?_
    refine V_iload_n C0 1 rfl rfl dX12_testBy_133 ?_
    refine V_iconst C0 (v := (2 : Int32)) (by decide) dX12_testBy_134 ?_
    obtain ⟨v3, q4, h⟩ := bn1_some h
    refine V_callV C0 (st := []) (As := [.int x1, .int (2 : Int32)]) 11 (c_X12_get G.l G.D G.cA G.ad G.bs G.X C0.2.2.2.2.2.2.2.2.2.1 C0.2.2.2.2.2.2.2.2.2.2.2.2 x0 x1 (2 : Int32) I L R v3 q4) lc_X12_get lk_X12_211 c_x0.2 c_x0.1 ⟨_, rfl, rfl⟩ rfl (by rw [erm]; decide) (Nat.le_of_ble_eq_true rfl) dX12_testBy_135 ?_
    show V G _ 138 [(0, .ref (G.ad x0)), (1, .int x1), (2, .int x2), (3, .int x3)] [.int v3] I L R
    refine V_aload_n C0 0 rfl rfl dX12_testBy_138 ?_
    refine V_iload_n C0 1 rfl rfl dX12_testBy_139 ?_
    refine V_iconst C0 (v := (3 : Int32)) (by decide) dX12_testBy_140 ?_
    obtain ⟨v5, q6, h⟩ := bn1_some h
    refine V_callV C0 (st := [.int v3]) (As := [.int x1, .int (3 : Int32)]) 11 (c_X12_get G.l G.D G.cA G.ad G.bs G.X C0.2.2.2.2.2.2.2.2.2.1 C0.2.2.2.2.2.2.2.2.2.2.2.2 x0 x1 (3 : Int32) I L R v5 q6) lc_X12_get lk_X12_211 c_x0.2 c_x0.1 ⟨_, rfl, rfl⟩ rfl (by rw [erm]; decide) (Nat.le_of_ble_eq_true rfl) dX12_testBy_141 ?_
    show V G _ 144 [(0, .ref (G.ad x0)), (1, .int x1), (2, .int x2), (3, .int x3)] [.int v5, .int v3] I L R
    refine V_iadd C0 dX12_testBy_144 ?_
    cases h
    exact V_iret C0 dX12_testBy_145
  · have h := (if_neg c2).symm.trans h
    have nd1 := nd_add nd1 c2
    by_cases c7 : x2 = (1 : Int32)
    · have h := (if_pos c7).symm.trans h
      refine V_tableC C0 (tgt := 146) (v := (1 : Int32)) c7 (by decide) (by decide) dX12_testBy_1 ?_
      refine V_iload_n C0 3 rfl rfl dX12_testBy_146 ?_
      refine V_aload_n C0 0 rfl rfl dX12_testBy_147 ?_
      refine V_iload_n C0 1 rfl rfl dX12_testBy_148 ?_
      refine V_bipush C0 (v := (7 : Int32)) (by decide) dX12_testBy_149 ?_
      obtain ⟨v8, q9, h⟩ := bn1_some h
      refine V_callV C0 (st := [.int x3]) (As := [.int x1, .int (7 : Int32)]) 11 (c_X12_get G.l G.D G.cA G.ad G.bs G.X C0.2.2.2.2.2.2.2.2.2.1 C0.2.2.2.2.2.2.2.2.2.2.2.2 x0 x1 (7 : Int32) I L R v8 q9) lc_X12_get lk_X12_211 c_x0.2 c_x0.1 ⟨_, rfl, rfl⟩ rfl (by rw [erm]; decide) (Nat.le_of_ble_eq_true rfl) dX12_testBy_151 ?_
      show V G _ 154 [(0, .ref (G.ad x0)), (1, .int x1), (2, .int x2), (3, .int x3)] [.int v8, .int x3] I L R
      refine V_iadd C0 dX12_testBy_154 ?_
      refine V_aload_n C0 0 rfl rfl dX12_testBy_155 ?_
      refine V_iload_n C0 1 rfl rfl dX12_testBy_156 ?_
      refine V_bipush C0 (v := (9 : Int32)) (by decide) dX12_testBy_157 ?_
      obtain ⟨v10, q11, h⟩ := bn1_some h
      refine V_callV C0 (st := [.int (x3 + v8)]) (As := [.int x1, .int (9 : Int32)]) 11 (c_X12_get G.l G.D G.cA G.ad G.bs G.X C0.2.2.2.2.2.2.2.2.2.1 C0.2.2.2.2.2.2.2.2.2.2.2.2 x0 x1 (9 : Int32) I L R v10 q11) lc_X12_get lk_X12_211 c_x0.2 c_x0.1 ⟨_, rfl, rfl⟩ rfl (by rw [erm]; decide) (Nat.le_of_ble_eq_true rfl) dX12_testBy_159 ?_
      show V G _ 162 [(0, .ref (G.ad x0)), (1, .int x1), (2, .int x2), (3, .int x3)] [.int v10, .int (x3 + v8)] I L R
      refine V_isub C0 dX12_testBy_162 ?_
      cases h
      exact V_iret C0 dX12_testBy_163
    · have h := (if_neg c7).symm.trans h
      have nd1 := nd_add nd1 c7
      by_cases c12 : x2 = (2 : Int32)
      · have h := (if_pos c12).symm.trans h
        refine V_tableC C0 (tgt := 164) (v := (2 : Int32)) c12 (by decide) (by decide) dX12_testBy_1 ?_
        refine V_iload_n C0 3 rfl rfl dX12_testBy_164 ?_
        refine V_aload_n C0 0 rfl rfl dX12_testBy_165 ?_
        refine V_iload_n C0 1 rfl rfl dX12_testBy_166 ?_
        refine V_bipush C0 (v := (11 : Int32)) (by decide) dX12_testBy_167 ?_
        obtain ⟨v13, q14, h⟩ := bn1_some h
        refine V_callV C0 (st := [.int x3]) (As := [.int x1, .int (11 : Int32)]) 11 (c_X12_get G.l G.D G.cA G.ad G.bs G.X C0.2.2.2.2.2.2.2.2.2.1 C0.2.2.2.2.2.2.2.2.2.2.2.2 x0 x1 (11 : Int32) I L R v13 q14) lc_X12_get lk_X12_211 c_x0.2 c_x0.1 ⟨_, rfl, rfl⟩ rfl (by rw [erm]; decide) (Nat.le_of_ble_eq_true rfl) dX12_testBy_169 ?_
        show V G _ 172 [(0, .ref (G.ad x0)), (1, .int x1), (2, .int x2), (3, .int x3)] [.int v13, .int x3] I L R
        refine V_aload_n C0 0 rfl rfl dX12_testBy_172 ?_
        refine V_iload_n C0 1 rfl rfl dX12_testBy_173 ?_
        refine V_bipush C0 (v := (12 : Int32)) (by decide) dX12_testBy_174 ?_
        obtain ⟨v15, q16, h⟩ := bn1_some h
        refine V_callV C0 (st := [.int v13, .int x3]) (As := [.int x1, .int (12 : Int32)]) 11 (c_X12_get G.l G.D G.cA G.ad G.bs G.X C0.2.2.2.2.2.2.2.2.2.1 C0.2.2.2.2.2.2.2.2.2.2.2.2 x0 x1 (12 : Int32) I L R v15 q16) lc_X12_get lk_X12_211 c_x0.2 c_x0.1 ⟨_, rfl, rfl⟩ rfl (by rw [erm]; decide) (Nat.le_of_ble_eq_true rfl) dX12_testBy_176 ?_
        show V G _ 179 [(0, .ref (G.ad x0)), (1, .int x1), (2, .int x2), (3, .int x3)] [.int v15, .int v13, .int x3] I L R
        refine V_imul C0 dX12_testBy_179 ?_
        refine V_iadd C0 dX12_testBy_180 ?_
        cases h
        exact V_iret C0 dX12_testBy_181
      · have h := (if_neg c12).symm.trans h
        have nd1 := nd_add nd1 c12
        by_cases c17 : x2 = (4 : Int32)
        · have h := (if_pos c17).symm.trans h
          refine V_tableC C0 (tgt := 182) (v := (4 : Int32)) c17 (by decide) (by decide) dX12_testBy_1 ?_
          refine V_iload_n C0 3 rfl rfl dX12_testBy_182 ?_
          refine V_iconst C0 (v := (2 : Int32)) (by decide) dX12_testBy_183 ?_
          refine V_imul C0 dX12_testBy_184 ?_
          refine V_aload_n C0 0 rfl rfl dX12_testBy_185 ?_
          refine V_iload_n C0 1 rfl rfl dX12_testBy_186 ?_
          refine V_bipush C0 (v := (17 : Int32)) (by decide) dX12_testBy_187 ?_
          obtain ⟨v18, q19, h⟩ := bn1_some h
          refine V_callV C0 (st := [.int (x3 * (2 : Int32))]) (As := [.int x1, .int (17 : Int32)]) 11 (c_X12_get G.l G.D G.cA G.ad G.bs G.X C0.2.2.2.2.2.2.2.2.2.1 C0.2.2.2.2.2.2.2.2.2.2.2.2 x0 x1 (17 : Int32) I L R v18 q19) lc_X12_get lk_X12_211 c_x0.2 c_x0.1 ⟨_, rfl, rfl⟩ rfl (by rw [erm]; decide) (Nat.le_of_ble_eq_true rfl) dX12_testBy_189 ?_
          show V G _ 192 [(0, .ref (G.ad x0)), (1, .int x1), (2, .int x2), (3, .int x3)] [.int v18, .int (x3 * (2 : Int32))] I L R
          refine V_isub C0 dX12_testBy_192 ?_
          cases h
          exact V_iret C0 dX12_testBy_193
        · have h := (if_neg c17).symm.trans h
          have nd1 := nd_add nd1 c17
          by_cases c20 : x2 = (8 : Int32)
          · have h := (if_pos c20).symm.trans h
            refine V_tableC C0 (tgt := 194) (v := (8 : Int32)) c20 (by decide) (by decide) dX12_testBy_1 ?_
            refine V_iload_n C0 3 rfl rfl dX12_testBy_194 ?_
            refine V_aload_n C0 0 rfl rfl dX12_testBy_195 ?_
            refine V_iload_n C0 1 rfl rfl dX12_testBy_196 ?_
            refine V_bipush C0 (v := (26 : Int32)) (by decide) dX12_testBy_197 ?_
            obtain ⟨v21, q22, h⟩ := bn1_some h
            refine V_callV C0 (st := [.int x3]) (As := [.int x1, .int (26 : Int32)]) 11 (c_X12_get G.l G.D G.cA G.ad G.bs G.X C0.2.2.2.2.2.2.2.2.2.1 C0.2.2.2.2.2.2.2.2.2.2.2.2 x0 x1 (26 : Int32) I L R v21 q22) lc_X12_get lk_X12_211 c_x0.2 c_x0.1 ⟨_, rfl, rfl⟩ rfl (by rw [erm]; decide) (Nat.le_of_ble_eq_true rfl) dX12_testBy_199 ?_
            show V G _ 202 [(0, .ref (G.ad x0)), (1, .int x1), (2, .int x2), (3, .int x3)] [.int v21, .int x3] I L R
            refine V_iadd C0 dX12_testBy_202 ?_
            refine V_aload_n C0 0 rfl rfl dX12_testBy_203 ?_
            refine V_iload_n C0 1 rfl rfl dX12_testBy_204 ?_
            refine V_bipush C0 (v := (28 : Int32)) (by decide) dX12_testBy_205 ?_
            obtain ⟨v23, q24, h⟩ := bn1_some h
            refine V_callV C0 (st := [.int (x3 + v21)]) (As := [.int x1, .int (28 : Int32)]) 11 (c_X12_get G.l G.D G.cA G.ad G.bs G.X C0.2.2.2.2.2.2.2.2.2.1 C0.2.2.2.2.2.2.2.2.2.2.2.2 x0 x1 (28 : Int32) I L R v23 q24) lc_X12_get lk_X12_211 c_x0.2 c_x0.1 ⟨_, rfl, rfl⟩ rfl (by rw [erm]; decide) (Nat.le_of_ble_eq_true rfl) dX12_testBy_207 ?_
            show V G _ 210 [(0, .ref (G.ad x0)), (1, .int x1), (2, .int x2), (3, .int x3)] [.int v23, .int (x3 + v21)] I L R
            refine V_isub C0 dX12_testBy_210 ?_
            cases h
            exact V_iret C0 dX12_testBy_211
          · have h := (if_neg c20).symm.trans h
            have nd1 := nd_add nd1 c20
            by_cases c25 : x2 = (11 : Int32)
            · have h := (if_pos c25).symm.trans h
              refine V_tableC C0 (tgt := 212) (v := (11 : Int32)) c25 (by decide) (by decide) dX12_testBy_1 ?_
              refine V_iload_n C0 3 rfl rfl dX12_testBy_212 ?_
              refine V_iconst C0 (v := (3 : Int32)) (by decide) dX12_testBy_213 ?_
              refine V_imul C0 dX12_testBy_214 ?_
              refine V_aload_n C0 0 rfl rfl dX12_testBy_215 ?_
              refine V_iload_n C0 1 rfl rfl dX12_testBy_216 ?_
              refine V_bipush C0 (v := (36 : Int32)) (by decide) dX12_testBy_217 ?_
              obtain ⟨v26, q27, h⟩ := bn1_some h
              refine V_callV C0 (st := [.int (x3 * (3 : Int32))]) (As := [.int x1, .int (36 : Int32)]) 11 (c_X12_get G.l G.D G.cA G.ad G.bs G.X C0.2.2.2.2.2.2.2.2.2.1 C0.2.2.2.2.2.2.2.2.2.2.2.2 x0 x1 (36 : Int32) I L R v26 q27) lc_X12_get lk_X12_211 c_x0.2 c_x0.1 ⟨_, rfl, rfl⟩ rfl (by rw [erm]; decide) (Nat.le_of_ble_eq_true rfl) dX12_testBy_219 ?_
              show V G _ 222 [(0, .ref (G.ad x0)), (1, .int x1), (2, .int x2), (3, .int x3)] [.int v26, .int (x3 * (3 : Int32))] I L R
              refine V_iadd C0 dX12_testBy_222 ?_
              cases h
              exact V_iret C0 dX12_testBy_223
            · have h := (if_neg c25).symm.trans h
              have nd1 := nd_add nd1 c25
              by_cases c28 : x2 = (15 : Int32)
              · have h := (if_pos c28).symm.trans h
                refine V_tableC C0 (tgt := 224) (v := (15 : Int32)) c28 (by decide) (by decide) dX12_testBy_1 ?_
                refine V_iload_n C0 3 rfl rfl dX12_testBy_224 ?_
                refine V_aload_n C0 0 rfl rfl dX12_testBy_225 ?_
                refine V_iload_n C0 1 rfl rfl dX12_testBy_226 ?_
                refine V_bipush C0 (v := (42 : Int32)) (by decide) dX12_testBy_227 ?_
                obtain ⟨v29, q30, h⟩ := bn1_some h
                refine V_callV C0 (st := [.int x3]) (As := [.int x1, .int (42 : Int32)]) 11 (c_X12_get G.l G.D G.cA G.ad G.bs G.X C0.2.2.2.2.2.2.2.2.2.1 C0.2.2.2.2.2.2.2.2.2.2.2.2 x0 x1 (42 : Int32) I L R v29 q30) lc_X12_get lk_X12_211 c_x0.2 c_x0.1 ⟨_, rfl, rfl⟩ rfl (by rw [erm]; decide) (Nat.le_of_ble_eq_true rfl) dX12_testBy_229 ?_
                show V G _ 232 [(0, .ref (G.ad x0)), (1, .int x1), (2, .int x2), (3, .int x3)] [.int v29, .int x3] I L R
                refine V_iadd C0 dX12_testBy_232 ?_
                cases h
                exact V_iret C0 dX12_testBy_233
              · have h := (if_neg c28).symm.trans h
                have nd1 := nd_add nd1 c28
                by_cases c31 : x2 = (21 : Int32)
                · have h := (if_pos c31).symm.trans h
                  refine V_tableC C0 (tgt := 234) (v := (21 : Int32)) c31 (by decide) (by decide) dX12_testBy_1 ?_
                  refine V_iload_n C0 3 rfl rfl dX12_testBy_234 ?_
                  refine V_aload_n C0 0 rfl rfl dX12_testBy_235 ?_
                  refine V_iload_n C0 1 rfl rfl dX12_testBy_236 ?_
                  refine V_bipush C0 (v := (31 : Int32)) (by decide) dX12_testBy_237 ?_
                  obtain ⟨v32, q33, h⟩ := bn1_some h
                  refine V_callV C0 (st := [.int x3]) (As := [.int x1, .int (31 : Int32)]) 11 (c_X12_get G.l G.D G.cA G.ad G.bs G.X C0.2.2.2.2.2.2.2.2.2.1 C0.2.2.2.2.2.2.2.2.2.2.2.2 x0 x1 (31 : Int32) I L R v32 q33) lc_X12_get lk_X12_211 c_x0.2 c_x0.1 ⟨_, rfl, rfl⟩ rfl (by rw [erm]; decide) (Nat.le_of_ble_eq_true rfl) dX12_testBy_239 ?_
                  show V G _ 242 [(0, .ref (G.ad x0)), (1, .int x1), (2, .int x2), (3, .int x3)] [.int v32, .int x3] I L R
                  refine V_isub C0 dX12_testBy_242 ?_
                  cases h
                  exact V_iret C0 dX12_testBy_243
                · have h := (if_neg c31).symm.trans h
                  have nd1 := nd_add nd1 c31
                  by_cases c34 : x2 = (25 : Int32)
                  · have h := (if_pos c34).symm.trans h
                    refine V_tableC C0 (tgt := 244) (v := (25 : Int32)) c34 (by decide) (by decide) dX12_testBy_1 ?_
                    refine V_iload_n C0 3 rfl rfl dX12_testBy_244 ?_
                    refine V_aload_n C0 0 rfl rfl dX12_testBy_245 ?_
                    refine V_iload_n C0 1 rfl rfl dX12_testBy_246 ?_
                    refine V_bipush C0 (v := (57 : Int32)) (by decide) dX12_testBy_247 ?_
                    obtain ⟨v35, q36, h⟩ := bn1_some h
                    refine V_callV C0 (st := [.int x3]) (As := [.int x1, .int (57 : Int32)]) 11 (c_X12_get G.l G.D G.cA G.ad G.bs G.X C0.2.2.2.2.2.2.2.2.2.1 C0.2.2.2.2.2.2.2.2.2.2.2.2 x0 x1 (57 : Int32) I L R v35 q36) lc_X12_get lk_X12_211 c_x0.2 c_x0.1 ⟨_, rfl, rfl⟩ rfl (by rw [erm]; decide) (Nat.le_of_ble_eq_true rfl) dX12_testBy_249 ?_
                    show V G _ 252 [(0, .ref (G.ad x0)), (1, .int x1), (2, .int x2), (3, .int x3)] [.int v35, .int x3] I L R
                    refine V_iadd C0 dX12_testBy_252 ?_
                    cases h
                    exact V_iret C0 dX12_testBy_253
                  · have h := (if_neg c34).symm.trans h
                    have nd1 := nd_add nd1 c34
                    by_cases c37 : x2 = (28 : Int32)
                    · have h := (if_pos c37).symm.trans h
                      refine V_tableC C0 (tgt := 254) (v := (28 : Int32)) c37 (by decide) (by decide) dX12_testBy_1 ?_
                      refine V_iload_n C0 3 rfl rfl dX12_testBy_254 ?_
                      refine V_aload_n C0 0 rfl rfl dX12_testBy_255 ?_
                      refine V_iload_n C0 1 rfl rfl dX12_testBy_256 ?_
                      refine V_bipush C0 (v := (61 : Int32)) (by decide) dX12_testBy_257 ?_
                      obtain ⟨v38, q39, h⟩ := bn1_some h
                      refine V_callV C0 (st := [.int x3]) (As := [.int x1, .int (61 : Int32)]) 11 (c_X12_get G.l G.D G.cA G.ad G.bs G.X C0.2.2.2.2.2.2.2.2.2.1 C0.2.2.2.2.2.2.2.2.2.2.2.2 x0 x1 (61 : Int32) I L R v38 q39) lc_X12_get lk_X12_211 c_x0.2 c_x0.1 ⟨_, rfl, rfl⟩ rfl (by rw [erm]; decide) (Nat.le_of_ble_eq_true rfl) dX12_testBy_259 ?_
                      show V G _ 262 [(0, .ref (G.ad x0)), (1, .int x1), (2, .int x2), (3, .int x3)] [.int v38, .int x3] I L R
                      refine V_isub C0 dX12_testBy_262 ?_
                      cases h
                      exact V_iret C0 dX12_testBy_263
                    · have h := (if_neg c37).symm.trans h
                      have nd1 := nd_add nd1 c37
                      refine V_tableN C0 (tgt := 264) nd1 (by decide) (by decide) dX12_testBy_1 ?_
                      refine V_iload_n C0 3 rfl rfl dX12_testBy_264 ?_
                      cases h
                      exact V_iret C0 dX12_testBy_265
