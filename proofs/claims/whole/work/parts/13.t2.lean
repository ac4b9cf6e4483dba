theorem dX7_readyJet_0 : decode cX7_readyJet 0 = .ok (.iconst 0, 1) := by decide +kernel
theorem dX7_readyJet_1 : decode cX7_readyJet 1 = .ok (.istore_n 3, 1) := by decide +kernel
theorem dX7_readyJet_2 : decode cX7_readyJet 2 = .ok (.iload_n 3, 1) := by decide +kernel
theorem dX7_readyJet_3 : decode cX7_readyJet 3 = .ok (.aload_n 0, 1) := by decide +kernel
theorem dX7_readyJet_4 : decode cX7_readyJet 4 = .ok (.getfield 21, 3) := by decide +kernel
theorem dX7_readyJet_7 : decode cX7_readyJet 7 = .ok (.invokevirtual 67, 3) := by decide +kernel
theorem dX7_readyJet_10 : decode cX7_readyJet 10 = .ok (.if_icmp .ge 77, 3) := by decide +kernel
theorem dX7_readyJet_13 : decode cX7_readyJet 13 = .ok (.aload_n 0, 1) := by decide +kernel
theorem dX7_readyJet_14 : decode cX7_readyJet 14 = .ok (.getfield 21, 3) := by decide +kernel
theorem dX7_readyJet_17 : decode cX7_readyJet 17 = .ok (.iload_n 3, 1) := by decide +kernel
theorem dX7_readyJet_18 : decode cX7_readyJet 18 = .ok (.invokevirtual 72, 3) := by decide +kernel
theorem dX7_readyJet_21 : decode cX7_readyJet 21 = .ok (.astore 4, 2) := by decide +kernel
theorem dX7_readyJet_23 : decode cX7_readyJet 23 = .ok (.aload 4, 2) := by decide +kernel
theorem dX7_readyJet_25 : decode cX7_readyJet 25 = .ok (.bipush 18, 2) := by decide +kernel
theorem dX7_readyJet_27 : decode cX7_readyJet 27 = .ok (.invokevirtual 76, 3) := by decide +kernel
theorem dX7_readyJet_30 : decode cX7_readyJet 30 = .ok (.ifCond .eq 51, 3) := by decide +kernel
theorem dX7_readyJet_33 : decode cX7_readyJet 33 = .ok (.aload 4, 2) := by decide +kernel
theorem dX7_readyJet_35 : decode cX7_readyJet 35 = .ok (.getfield 82, 3) := by decide +kernel
theorem dX7_readyJet_38 : decode cX7_readyJet 38 = .ok (.bipush 35, 2) := by decide +kernel
theorem dX7_readyJet_40 : decode cX7_readyJet 40 = .ok (.iaload, 1) := by decide +kernel
theorem dX7_readyJet_41 : decode cX7_readyJet 41 = .ok (.iload_n 1, 1) := by decide +kernel
theorem dX7_readyJet_42 : decode cX7_readyJet 42 = .ok (.if_icmp .ne 39, 3) := by decide +kernel
theorem dX7_readyJet_45 : decode cX7_readyJet 45 = .ok (.aload_n 0, 1) := by decide +kernel
theorem dX7_readyJet_46 : decode cX7_readyJet 46 = .ok (.aload 4, 2) := by decide +kernel
theorem dX7_readyJet_48 : decode cX7_readyJet 48 = .ok (.invokevirtual 100, 3) := by decide +kernel
theorem dX7_readyJet_51 : decode cX7_readyJet 51 = .ok (.ifCond .eq 30, 3) := by decide +kernel
theorem dX7_readyJet_54 : decode cX7_readyJet 54 = .ok (.aload 4, 2) := by decide +kernel
theorem dX7_readyJet_56 : decode cX7_readyJet 56 = .ok (.bipush 19, 2) := by decide +kernel
theorem dX7_readyJet_58 : decode cX7_readyJet 58 = .ok (.invokevirtual 104, 3) := by decide +kernel
theorem dX7_readyJet_61 : decode cX7_readyJet 61 = .ok (.ifCond .eq 18, 3) := by decide +kernel
theorem dX7_readyJet_64 : decode cX7_readyJet 64 = .ok (.iload_n 2, 1) := by decide +kernel
theorem dX7_readyJet_65 : decode cX7_readyJet 65 = .ok (.aload 4, 2) := by decide +kernel
theorem dX7_readyJet_67 : decode cX7_readyJet 67 = .ok (.getfield 82, 3) := by decide +kernel
theorem dX7_readyJet_70 : decode cX7_readyJet 70 = .ok (.bipush 48, 2) := by decide +kernel
theorem dX7_readyJet_72 : decode cX7_readyJet 72 = .ok (.iaload, 1) := by decide +kernel
theorem dX7_readyJet_73 : decode cX7_readyJet 73 = .ok (.invokestatic 49, 3) := by decide +kernel
theorem dX7_readyJet_76 : decode cX7_readyJet 76 = .ok (.ifCond .eq 5, 3) := by decide +kernel
theorem dX7_readyJet_79 : decode cX7_readyJet 79 = .ok (.iload_n 3, 1) := by decide +kernel
theorem dX7_readyJet_80 : decode cX7_readyJet 80 = .ok (.ireturn, 1) := by decide +kernel
theorem dX7_readyJet_81 : decode cX7_readyJet 81 = .ok (.iinc 3 1, 3) := by decide +kernel
theorem dX7_readyJet_84 : decode cX7_readyJet 84 = .ok (.goto (-82), 3) := by decide +kernel
theorem dX7_readyJet_87 : decode cX7_readyJet 87 = .ok (.iconst (-1), 1) := by decide +kernel
theorem dX7_readyJet_88 : decode cX7_readyJet 88 = .ok (.ireturn, 1) := by decide +kernel
def LF_X7_readyJet_2 (N : Nat) : Nat → Nat → Int32 → Int32 → Int32 → MI → ML → MR → Option (Sum (Int32) (Unit))
  | 0, _, _, _, _, _, _, _ => none
  | k + 1, y0, y1, y2, y3, I, L, R =>
    (rf R y0 0 9).bind fun a1 =>
    bn1 (F_X10_size a1 I L R) fun v2 =>
    if v2 ≤ y3 then
      some (.inr ())
    else
      bn1 (F_X10_unitAt a1 y3 I L R) fun a5 =>
      if kd a5 = 8 ∧ a5 < NN then
      bn1 (F_X9_isOn a5 (18 : Int32) I L R) fun b8 =>
      if (b2i b8) = 0 then
        wr (y3 + (1 : Int32)) fun (u11 : Int32) =>
        LF_X7_readyJet_2 N k y0 y1 y2 u11 I L R
      else
        (rf R a5 0 20).bind fun a12 =>
        (ri I a12 (35 : Int32)).bind fun v13 =>
        if v13 = y1 then
          bn1 (F_X7_hasGas y0 a5 I L R) fun b16 =>
          if (b2i b16) = 0 then
            wr (y3 + (1 : Int32)) fun (u19 : Int32) =>
            LF_X7_readyJet_2 N k y0 y1 y2 u19 I L R
          else
            bn1 (F_X9_is a5 (19 : Int32) I L R) fun b20 =>
            if (b2i b20) = 0 then
              some (.inl (y3))
            else
              (ri I a12 (48 : Int32)).bind fun v23 =>
              bn1 (F_X11_isMultiple y2 v23 I L R) fun b24 =>
              if (b2i b24) = 0 then
                wr (y3 + (1 : Int32)) fun (u27 : Int32) =>
                LF_X7_readyJet_2 N k y0 y1 y2 u27 I L R
              else
                some (.inl (y3))
        else
          wr (y3 + (1 : Int32)) fun (u15 : Int32) =>
          LF_X7_readyJet_2 N k y0 y1 y2 u15 I L R
      else none
def F_X7_readyJet (N : Nat) (x0 : Nat) (x1 : Int32) (x2 : Int32) (I : MI) (L : ML) (R : MR) : Option (Int32) :=
  if kd x0 = 6 ∧ x0 < NN then
  bsm (LF_X7_readyJet_2 N N x0 x1 x2 (0 : Int32) I L R) (fun z28 => some z28) fun z28 =>
  some ((-1 : Int32))
  else none
set_option maxRecDepth 100000 in
set_option maxHeartbeats 4000000 in
theorem lp_X7_readyJet_2 {G : Gm} (C0 : Cx G (yX7_readyJet.cls) cX7_readyJet (some .int)) (eNL : G.nL = 5) (erm : G.rm = ({ frames := 3, cells := 0, slots := 0, locals := 64 } : Room)) (N : Nat) : ∀ (k : Nat) (y0 : Nat) (y1 : Int32) (y2 : Int32) (y3 : Int32) (I : MI) (L : ML) (R : MR) (q : Sum (Int32) (Unit)) (hk0 : kd y0 = 6) (ho0 : y0 < NN), LF_X7_readyJet_2 N k y0 y1 y2 y3 I L R = some q → ∀ f : State → Prop, (∀ w, q = .inl w → f = qf G (some (.int w), I, L, R)) → (∀ z, q = .inr z → V G f 87 [] [] I L R) → V G f 2 [(0, .ref (G.ad y0)), (1, .int y1), (2, .int y2), (3, .int y3)] [] I L R := by
  intro k
  induction k with
  | zero =>
    intro y0 y1 y2 y3 I L R q hk0 ho0 h
    exact absurd h (by simp [LF_X7_readyJet_2])
  | succ k ih =>
    intro y0 y1 y2 y3 I L R q hk0 ho0 h f kr kx
    rw [LF_X7_readyJet_2] at h
    refine V_iload_n C0 3 rfl rfl dX7_readyJet_2 ?_
    refine V_aload_n C0 0 rfl rfl dX7_readyJet_3 ?_
    obtain ⟨a1, qa1, h⟩ := bnd_some h
    refine V_getR C0 6 0 fl_X7_21 ho0 hk0 rfl (rf_at qa1) dX7_readyJet_4 ?_
    obtain ⟨v2, q3, h⟩ := bn1_some h
    refine V_callV C0 (st := [.int y3]) (As := []) 9 (c_X10_size G.l G.D G.cA G.ad G.bs G.X C0.2.2.2.2.2.2.2.2.2.1 C0.2.2.2.2.2.2.2.2.2.2.2.2 a1 I L R v2 q3) lc_X10_size lk_X7_67 (rf_lt qa1) (rf_kd qa1) ⟨_, rfl, rfl⟩ rfl (by rw [erm]; decide) (Nat.le_of_ble_eq_true rfl) dX7_readyJet_7 ?_
    show V G _ 10 [(0, .ref (G.ad y0)), (1, .int y1), (2, .int y2), (3, .int y3)] [.int v2, .int y3] I L R
    refine V_icmp_ge C0 (tgt := 87) (by decide) dX7_readyJet_10 (fun c4 => ?_) (fun c4 => ?_)
    · have h := (if_pos c4).symm.trans h
      cases h
      exact V_sub [] rfl (kx _ rfl)
    · have h := (if_neg c4).symm.trans h
      refine V_aload_n C0 0 rfl rfl dX7_readyJet_13 ?_
      refine V_getR C0 6 0 fl_X7_21 ho0 hk0 rfl (rf_at qa1) dX7_readyJet_14 ?_
      refine V_iload_n C0 3 rfl rfl dX7_readyJet_17 ?_
      obtain ⟨a5, q6, h⟩ := bn1_some h
      refine V_callV C0 (st := []) (As := [.int y3]) 9 (c_X10_unitAt G.l G.D G.cA G.ad G.bs G.X C0.2.2.2.2.2.2.2.2.2.1 C0.2.2.2.2.2.2.2.2.2.2.2.2 a1 y3 I L R a5 q6) lc_X10_unitAt lk_X7_72 (rf_lt qa1) (rf_kd qa1) ⟨_, rfl, rfl⟩ rfl (by rw [erm]; decide) (Nat.le_of_ble_eq_true rfl) dX7_readyJet_18 ?_
      show V G _ 21 [(0, .ref (G.ad y0)), (1, .int y1), (2, .int y2), (3, .int y3)] [.ref (G.ad a5)] I L R
      obtain ⟨c7, h⟩ := ite_some h
      refine V_astore C0 [(4, .ref (G.ad a5)), (0, .ref (G.ad y0)), (1, .int y1), (2, .int y2), (3, .int y3)] (by rw [eNL]; decide) rfl dX7_readyJet_21 ?_
      refine V_aload C0 0 rfl dX7_readyJet_23 ?_
      refine V_bipush C0 (v := (18 : Int32)) (by decide) dX7_readyJet_25 ?_
      obtain ⟨b8, q9, h⟩ := bn1_some h
      refine V_callV C0 (st := []) (As := [.int (18 : Int32)]) 8 (c_X9_isOn G.l G.D G.cA G.ad G.bs G.X C0.2.2.2.2.2.2.2.2.2.1 C0.2.2.2.2.2.2.2.2.2.2.2.2 a5 (18 : Int32) I L R b8 q9) lc_X9_isOn lk_X7_76 c7.2 c7.1 ⟨_, rfl, rfl⟩ rfl (by rw [erm]; decide) (Nat.le_of_ble_eq_true rfl) dX7_readyJet_27 ?_
      show V G _ 30 [(4, .ref (G.ad a5)), (0, .ref (G.ad y0)), (1, .int y1), (2, .int y2), (3, .int y3)] [.int (b2i b8)] I L R
      refine V_if_eq C0 (tgt := 81) (by decide) dX7_readyJet_30 (fun c10 => ?_) (fun c10 => ?_)
      · have h := (if_pos c10).symm.trans h
        obtain ⟨u11, eu11, h⟩ := wr_some h
        refine V_iinc C0 4 [(3, .int u11), (4, .ref (G.ad a5)), (0, .ref (G.ad y0)), (1, .int y1), (2, .int y2)] rfl (n := 1) (by rw [eu11]; rfl) (by rw [eNL]; decide) rfl dX7_readyJet_81 ?_
        refine V_goto C0 (tgt := 2) (by decide) dX7_readyJet_84 ?_
        exact V_sub [2, 3, 4, 0] rfl (ih y0 y1 y2 u11 I L R _ hk0 ho0 h f kr kx)
      · have h := (if_neg c10).symm.trans h
        refine V_aload C0 0 rfl dX7_readyJet_33 ?_
        obtain ⟨a12, qa12, h⟩ := bnd_some h
        refine V_getR C0 8 0 fl_X7_82 c7.2 c7.1 rfl (rf_at qa12) dX7_readyJet_35 ?_
        refine V_bipush C0 (v := (35 : Int32)) (by decide) dX7_readyJet_38 ?_
        obtain ⟨v13, qv13, h⟩ := bnd_some h
        refine V_ri C0 (rf_lt qa12) (rf_kd qa12) qv13 dX7_readyJet_40 ?_
        refine V_iload_n C0 2 rfl rfl dX7_readyJet_41 ?_
        refine V_icmp_ne C0 (tgt := 81) (by decide) dX7_readyJet_42 (fun c14 => ?_) (fun c14 => ?_)
        · have h := (if_neg c14).symm.trans h
          obtain ⟨u15, eu15, h⟩ := wr_some h
          refine V_iinc C0 4 [(3, .int u15), (4, .ref (G.ad a5)), (0, .ref (G.ad y0)), (1, .int y1), (2, .int y2)] rfl (n := 1) (by rw [eu15]; rfl) (by rw [eNL]; decide) rfl dX7_readyJet_81 ?_
          refine V_goto C0 (tgt := 2) (by decide) dX7_readyJet_84 ?_
          exact V_sub [2, 3, 4, 0] rfl (ih y0 y1 y2 u15 I L R _ hk0 ho0 h f kr kx)
        · have h := (if_pos c14).symm.trans h
          refine V_aload_n C0 1 rfl rfl dX7_readyJet_45 ?_
          refine V_aload C0 0 rfl dX7_readyJet_46 ?_
          obtain ⟨b16, q17, h⟩ := bn1_some h
          refine V_callV C0 (st := []) (As := [.ref (G.ad a5)]) 6 (c_X7_hasGas G.l G.D G.cA G.ad G.bs G.X C0.2.2.2.2.2.2.2.2.2.1 C0.2.2.2.2.2.2.2.2.2.2.2.2 y0 a5 I L R b16 q17) lc_X7_hasGas lk_X7_100 ho0 hk0 ⟨_, rfl, rfl⟩ rfl (by rw [erm]; decide) (Nat.le_of_ble_eq_true rfl) dX7_readyJet_48 ?_
          show V G _ 51 [(4, .ref (G.ad a5)), (0, .ref (G.ad y0)), (1, .int y1), (2, .int y2), (3, .int y3)] [.int (b2i b16)] I L R
          refine V_if_eq C0 (tgt := 81) (by decide) dX7_readyJet_51 (fun c18 => ?_) (fun c18 => ?_)
          · have h := (if_pos c18).symm.trans h
            obtain ⟨u19, eu19, h⟩ := wr_some h
            refine V_iinc C0 4 [(3, .int u19), (4, .ref (G.ad a5)), (0, .ref (G.ad y0)), (1, .int y1), (2, .int y2)] rfl (n := 1) (by rw [eu19]; rfl) (by rw [eNL]; decide) rfl dX7_readyJet_81 ?_
            refine V_goto C0 (tgt := 2) (by decide) dX7_readyJet_84 ?_
            exact V_sub [2, 3, 4, 0] rfl (ih y0 y1 y2 u19 I L R _ hk0 ho0 h f kr kx)
          · have h := (if_neg c18).symm.trans h
            refine V_aload C0 0 rfl dX7_readyJet_54 ?_
            refine V_bipush C0 (v := (19 : Int32)) (by decide) dX7_readyJet_56 ?_
            obtain ⟨b20, q21, h⟩ := bn1_some h
            refine V_callV C0 (st := []) (As := [.int (19 : Int32)]) 8 (c_X9_is G.l G.D G.cA G.ad G.bs G.X C0.2.2.2.2.2.2.2.2.2.1 C0.2.2.2.2.2.2.2.2.2.2.2.2 a5 (19 : Int32) I L R b20 q21) lc_X9_is lk_X7_104 c7.2 c7.1 ⟨_, rfl, rfl⟩ rfl (by rw [erm]; decide) (Nat.le_of_ble_eq_true rfl) dX7_readyJet_58 ?_
            show V G _ 61 [(4, .ref (G.ad a5)), (0, .ref (G.ad y0)), (1, .int y1), (2, .int y2), (3, .int y3)] [.int (b2i b20)] I L R
            refine V_if_eq C0 (tgt := 79) (by decide) dX7_readyJet_61 (fun c22 => ?_) (fun c22 => ?_)
            · have h := (if_pos c22).symm.trans h
              refine V_iload_n C0 4 rfl rfl dX7_readyJet_79 ?_
              cases h
              rw [kr _ rfl]
              exact V_iret C0 dX7_readyJet_80
            · have h := (if_neg c22).symm.trans h
              refine V_iload_n C0 3 rfl rfl dX7_readyJet_64 ?_
              refine V_aload C0 0 rfl dX7_readyJet_65 ?_
              refine V_getR C0 8 0 fl_X7_82 c7.2 c7.1 rfl (rf_at qa12) dX7_readyJet_67 ?_
              refine V_bipush C0 (v := (48 : Int32)) (by decide) dX7_readyJet_70 ?_
              obtain ⟨v23, qv23, h⟩ := bnd_some h
              refine V_ri C0 (rf_lt qa12) (rf_kd qa12) qv23 dX7_readyJet_72 ?_
              obtain ⟨b24, q25, h⟩ := bn1_some h
              refine V_callS C0 (st := []) (As := [.int y2, .int v23]) (c_X11_isMultiple G.l G.D G.cA G.ad G.bs G.X C0.2.2.2.2.2.2.2.2.2.1 C0.2.2.2.2.2.2.2.2.2.2.2.2 y2 v23 I L R b24 q25) lc_X11_isMultiple lk_X7_49 rfl (by rw [erm]; decide) (Nat.le_of_ble_eq_true rfl) dX7_readyJet_73 ?_
              show V G _ 76 [(4, .ref (G.ad a5)), (0, .ref (G.ad y0)), (1, .int y1), (2, .int y2), (3, .int y3)] [.int (b2i b24)] I L R
              refine V_if_eq C0 (tgt := 81) (by decide) dX7_readyJet_76 (fun c26 => ?_) (fun c26 => ?_)
              · have h := (if_pos c26).symm.trans h
                obtain ⟨u27, eu27, h⟩ := wr_some h
                refine V_iinc C0 4 [(3, .int u27), (4, .ref (G.ad a5)), (0, .ref (G.ad y0)), (1, .int y1), (2, .int y2)] rfl (n := 1) (by rw [eu27]; rfl) (by rw [eNL]; decide) rfl dX7_readyJet_81 ?_
                refine V_goto C0 (tgt := 2) (by decide) dX7_readyJet_84 ?_
                exact V_sub [2, 3, 4, 0] rfl (ih y0 y1 y2 u27 I L R _ hk0 ho0 h f kr kx)
              · have h := (if_neg c26).symm.trans h
                refine V_iload_n C0 4 rfl rfl dX7_readyJet_79 ?_
                cases h
                rw [kr _ rfl]
                exact V_iret C0 dX7_readyJet_80
set_option maxRecDepth 100000 in
set_option maxHeartbeats 4000000 in
theorem c_X7_readyJet (l : Launch) (D : va_G) (cA : Nat → ClassId) (ad : Nat → Nat) (bs : Nat) (X : State → Prop) (hAd : Ax ad bs) (hX : Stb bs X) (N : Nat) (x0 : Nat) (x1 : Int32) (x2 : Int32) (I : MI) (L : ML) (R : MR) (r : Int32) (h : F_X7_readyJet N x0 x1 x2 I L R = some (r)) : Cn l D cA ad bs X yX7_readyJet cX7_readyJet 5 (some .int) 3 64 [.ref (ad x0), .int x1, .int x2] I L R (some (.int r), I, L, R) := by
  refine Cn.ofV hAd hX [(0, .ref (ad x0)), (1, .int x1), (2, .int x2)] rfl (Nat.le_of_ble_eq_true rfl) (by decide) ?_
  intro G el eD ecA ead ebs eX erm eNL C0
  subst el eD ecA ead ebs eX
  unfold F_X7_readyJet at h
  obtain ⟨c_x0, h⟩ := ite_some h
  refine V_iconst C0 (v := (0 : Int32)) (by decide) dX7_readyJet_0 ?_
  refine V_istore_n C0 [(3, .int (0 : Int32)), (0, .ref (G.ad x0)), (1, .int x1), (2, .int x2)] rfl (by rw [eNL]; decide) rfl dX7_readyJet_1 ?_
  rcases bsm_some h with ⟨z28, q29, h⟩ | ⟨z28, q29, h⟩
  · refine V_sub [1, 2, 3, 0] rfl (lp_X7_readyJet_2 C0 eNL erm N N x0 x1 x2 (0 : Int32) I L R _ c_x0.1 c_x0.2 q29 _ (fun w e => ?_) (fun _ e => by cases e))
    cases e
    cases h
    rfl
  · refine V_sub [1, 2, 3, 0] rfl (lp_X7_readyJet_2 C0 eNL erm N N x0 x1 x2 (0 : Int32) I L R _ c_x0.1 c_x0.2 q29 _ (fun _ e => by cases e) (fun w e => ?_))
    cases e
    show V G _ 87 [] [] I L R
    refine V_iconst C0 (v := (-1 : Int32)) (by decide) dX7_readyJet_87 ?_
    cases h
    exact V_iret C0 dX7_readyJet_88
theorem dX7_unload_0 : decode cX7_unload 0 = .ok (.aload_n 1, 1) := by decide +kernel
theorem dX7_unload_1 : decode cX7_unload 1 = .ok (.getfield 82, 3) := by decide +kernel
theorem dX7_unload_4 : decode cX7_unload 4 = .ok (.bipush 44, 2) := by decide +kernel
theorem dX7_unload_6 : decode cX7_unload 6 = .ok (.iaload, 1) := by decide +kernel
theorem dX7_unload_7 : decode cX7_unload 7 = .ok (.istore_n 3, 1) := by decide +kernel
theorem dX7_unload_8 : decode cX7_unload 8 = .ok (.aload_n 2, 1) := by decide +kernel
theorem dX7_unload_9 : decode cX7_unload 9 = .ok (.getfield 82, 3) := by decide +kernel
theorem dX7_unload_12 : decode cX7_unload 12 = .ok (.bipush 42, 2) := by decide +kernel
theorem dX7_unload_14 : decode cX7_unload 14 = .ok (.iaload, 1) := by decide +kernel
theorem dX7_unload_15 : decode cX7_unload 15 = .ok (.iconst 0, 1) := by decide +kernel
theorem dX7_unload_16 : decode cX7_unload 16 = .ok (.iload_n 3, 1) := by decide +kernel
theorem dX7_unload_17 : decode cX7_unload 17 = .ok (.invokestatic 88, 3) := by decide +kernel
theorem dX7_unload_20 : decode cX7_unload 20 = .ok (.invokestatic 42, 3) := by decide +kernel
theorem dX7_unload_23 : decode cX7_unload 23 = .ok (.istore 4, 2) := by decide +kernel
theorem dX7_unload_25 : decode cX7_unload 25 = .ok (.aload_n 1, 1) := by decide +kernel
theorem dX7_unload_26 : decode cX7_unload 26 = .ok (.getfield 82, 3) := by decide +kernel
theorem dX7_unload_29 : decode cX7_unload 29 = .ok (.bipush 44, 2) := by decide +kernel
theorem dX7_unload_31 : decode cX7_unload 31 = .ok (.iload_n 3, 1) := by decide +kernel
theorem dX7_unload_32 : decode cX7_unload 32 = .ok (.ifCond .le 10, 3) := by decide +kernel
theorem dX7_unload_35 : decode cX7_unload 35 = .ok (.iload_n 3, 1) := by decide +kernel
theorem dX7_unload_36 : decode cX7_unload 36 = .ok (.iload 4, 2) := by decide +kernel
theorem dX7_unload_38 : decode cX7_unload 38 = .ok (.isub, 1) := by decide +kernel
theorem dX7_unload_39 : decode cX7_unload 39 = .ok (.goto 7, 3) := by decide +kernel
theorem dX7_unload_42 : decode cX7_unload 42 = .ok (.iload_n 3, 1) := by decide +kernel
theorem dX7_unload_43 : decode cX7_unload 43 = .ok (.iload 4, 2) := by decide +kernel
theorem dX7_unload_45 : decode cX7_unload 45 = .ok (.iadd, 1) := by decide +kernel
theorem dX7_unload_46 : decode cX7_unload 46 = .ok (.iastore, 1) := by decide +kernel
theorem dX7_unload_47 : decode cX7_unload 47 = .ok (.aload_n 0, 1) := by decide +kernel
theorem dX7_unload_48 : decode cX7_unload 48 = .ok (.getfield 21, 3) := by decide +kernel
theorem dX7_unload_51 : decode cX7_unload 51 = .ok (.aload_n 2, 1) := by decide +kernel
theorem dX7_unload_52 : decode cX7_unload 52 = .ok (.getfield 82, 3) := by decide +kernel
theorem dX7_unload_55 : decode cX7_unload 55 = .ok (.bipush 27, 2) := by decide +kernel
theorem dX7_unload_57 : decode cX7_unload 57 = .ok (.iaload, 1) := by decide +kernel
theorem dX7_unload_58 : decode cX7_unload 58 = .ok (.invokevirtual 72, 3) := by decide +kernel
theorem dX7_unload_61 : decode cX7_unload 61 = .ok (.getfield 82, 3) := by decide +kernel
theorem dX7_unload_64 : decode cX7_unload 64 = .ok (.bipush 10, 2) := by decide +kernel
theorem dX7_unload_66 : decode cX7_unload 66 = .ok (.dup2, 1) := by decide +kernel
theorem dX7_unload_67 : decode cX7_unload 67 = .ok (.iaload, 1) := by decide +kernel
theorem dX7_unload_68 : decode cX7_unload 68 = .ok (.aload_n 2, 1) := by decide +kernel
theorem dX7_unload_69 : decode cX7_unload 69 = .ok (.getfield 82, 3) := by decide +kernel
theorem dX7_unload_72 : decode cX7_unload 72 = .ok (.bipush 47, 2) := by decide +kernel
theorem dX7_unload_74 : decode cX7_unload 74 = .ok (.iaload, 1) := by decide +kernel
theorem dX7_unload_75 : decode cX7_unload 75 = .ok (.isub, 1) := by decide +kernel
theorem dX7_unload_76 : decode cX7_unload 76 = .ok (.iastore, 1) := by decide +kernel
theorem dX7_unload_77 : decode cX7_unload 77 = .ok (.aload_n 2, 1) := by decide +kernel
theorem dX7_unload_78 : decode cX7_unload 78 = .ok (.getfield 82, 3) := by decide +kernel
theorem dX7_unload_81 : decode cX7_unload 81 = .ok (.bipush 40, 2) := by decide +kernel
theorem dX7_unload_83 : decode cX7_unload 83 = .ok (.dup2, 1) := by decide +kernel
theorem dX7_unload_84 : decode cX7_unload 84 = .ok (.iaload, 1) := by decide +kernel
theorem dX7_unload_85 : decode cX7_unload 85 = .ok (.iconst 1, 1) := by decide +kernel
theorem dX7_unload_86 : decode cX7_unload 86 = .ok (.iadd, 1) := by decide +kernel
theorem dX7_unload_87 : decode cX7_unload 87 = .ok (.iastore, 1) := by decide +kernel
theorem dX7_unload_88 : decode cX7_unload 88 = .ok (.return_, 1) := by decide +kernel
def F_X7_unload (x0 : Nat) (x1 : Nat) (x2 : Nat) (I : MI) (L : ML) (R : MR) : Option (MI) :=
  if kd x0 = 6 ∧ x0 < NN then
  if kd x1 = 8 ∧ x1 < NN then
  if kd x2 = 8 ∧ x2 < NN then
  (rf R x1 0 20).bind fun a1 =>
  (ri I a1 (44 : Int32)).bind fun v2 =>
  (rf R x2 0 20).bind fun a3 =>
  (ri I a3 (42 : Int32)).bind fun v4 =>
  bn1 (F_J9_abs_0f7a4 v2 I L R) fun v5 =>
  bn1 (F_X11_limit v4 (0 : Int32) v5 I L R) fun v7 =>
  bn1 (
    if v2 ≤ 0 then
      some ((v2 + v7))
    else
      some ((v2 - v7))
  ) fun (s9 : Int32) =>
  (wi I a1 (44 : Int32) s9).bind fun I13 =>
  (rf R x0 0 9).bind fun a14 =>
  (ri I13 a3 (27 : Int32)).bind fun v15 =>
  bn1 (F_X10_unitAt a14 v15 I13 L R) fun a16 =>
  if kd a16 = 8 ∧ a16 < NN then
  (rf R a16 0 20).bind fun a19 =>
  (ri I13 a19 (10 : Int32)).bind fun v20 =>
  (ri I13 a3 (47 : Int32)).bind fun v21 =>
  (wi I13 a19 (10 : Int32) (v20 - v21)).bind fun I22 =>
  (ri I22 a3 (40 : Int32)).bind fun v23 =>
  (wi I22 a3 (40 : Int32) (v23 + (1 : Int32))).bind fun I24 =>
  some (I24)
  else none
  else none
  else none
  else none
set_option maxRecDepth 100000 in
set_option maxHeartbeats 4000000 in
theorem c_X7_unload (l : Launch) (D : va_G) (cA : Nat → ClassId) (ad : Nat → Nat) (bs : Nat) (X : State → Prop) (hAd : Ax ad bs) (hX : Stb bs X) (x0 : Nat) (x1 : Nat) (x2 : Nat) (I : MI) (L : ML) (R : MR) (I' : MI) (h : F_X7_unload x0 x1 x2 I L R = some (I')) : Cn l D cA ad bs X yX7_unload cX7_unload 5 none 2 42 [.ref (ad x0), .ref (ad x1), .ref (ad x2)] I L R (none, I', L, R) := by
  refine Cn.ofV hAd hX [(0, .ref (ad x0)), (1, .ref (ad x1)), (2, .ref (ad x2))] rfl (Nat.le_of_ble_eq_true rfl) (by decide) ?_
  intro G el eD ecA ead ebs eX erm eNL C0
  subst el eD ecA ead ebs eX
  unfold F_X7_unload at h
  obtain ⟨c_x0, h⟩ := ite_some h
  obtain ⟨c_x1, h⟩ := ite_some h
  obtain ⟨c_x2, h⟩ := ite_some h
  refine V_aload_n C0 1 rfl rfl dX7_unload_0 ?_
  obtain ⟨a1, qa1, h⟩ := bnd_some h
  refine V_getR C0 8 0 fl_X7_82 c_x1.2 c_x1.1 rfl (rf_at qa1) dX7_unload_1 ?_
  refine V_bipush C0 (v := (44 : Int32)) (by decide) dX7_unload_4 ?_
  obtain ⟨v2, qv2, h⟩ := bnd_some h
  refine V_ri C0 (rf_lt qa1) (rf_kd qa1) qv2 dX7_unload_6 ?_
  refine V_istore_n C0 [(3, .int v2), (0, .ref (G.ad x0)), (1, .ref (G.ad x1)), (2, .ref (G.ad x2))] rfl (by rw [eNL]; decide) rfl dX7_unload_7 ?_
  refine V_aload_n C0 3 rfl rfl dX7_unload_8 ?_
  obtain ⟨a3, qa3, h⟩ := bnd_some h
  refine V_getR C0 8 0 fl_X7_82 c_x2.2 c_x2.1 rfl (rf_at qa3) dX7_unload_9 ?_
  refine V_bipush C0 (v := (42 : Int32)) (by decide) dX7_unload_12 ?_
  obtain ⟨v4, qv4, h⟩ := bnd_some h
  refine V_ri C0 (rf_lt qa3) (rf_kd qa3) qv4 dX7_unload_14 ?_
  refine V_iconst C0 (v := (0 : Int32)) (by decide) dX7_unload_15 ?_
  refine V_iload_n C0 0 rfl rfl dX7_unload_16 ?_
  obtain ⟨v5, q6, h⟩ := bn1_some h
  refine V_callS C0 (st := [.int (0 : Int32), .int v4]) (As := [.int v2]) (c_J9_abs_0f7a4 G.l G.D G.cA G.ad G.bs G.X C0.2.2.2.2.2.2.2.2.2.1 C0.2.2.2.2.2.2.2.2.2.2.2.2 v2 I L R v5 q6) lc_J9_abs_0f7a4 lk_X7_88 rfl (by rw [erm]; decide) (Nat.le_of_ble_eq_true rfl) dX7_unload_17 ?_
  show V G _ 20 [(3, .int v2), (0, .ref (G.ad x0)), (1, .ref (G.ad x1)), (2, .ref (G.ad x2))] [.int v5, .int (0 : Int32), .int v4] I L R
  obtain ⟨v7, q8, h⟩ := bn1_some h
  refine V_callS C0 (st := []) (As := [.int v4, .int (0 : Int32), .int v5]) (c_X11_limit G.l G.D G.cA G.ad G.bs G.X C0.2.2.2.2.2.2.2.2.2.1 C0.2.2.2.2.2.2.2.2.2.2.2.2 v4 (0 : Int32) v5 I L R v7 q8) lc_X11_limit lk_X7_42 rfl (by rw [erm]; decide) (Nat.le_of_ble_eq_true rfl) dX7_unload_20 ?_
  show V G _ 23 [(3, .int v2), (0, .ref (G.ad x0)), (1, .ref (G.ad x1)), (2, .ref (G.ad x2))] [.int v7] I L R
  refine V_istore C0 [(4, .int v7), (3, .int v2), (0, .ref (G.ad x0)), (1, .ref (G.ad x1)), (2, .ref (G.ad x2))] (by rw [eNL]; decide) rfl dX7_unload_23 ?_
  refine V_aload_n C0 3 rfl rfl dX7_unload_25 ?_
  refine V_getR C0 8 0 fl_X7_82 c_x1.2 c_x1.1 rfl (rf_at qa1) dX7_unload_26 ?_
  refine V_bipush C0 (v := (44 : Int32)) (by decide) dX7_unload_29 ?_
  refine V_iload_n C0 1 rfl rfl dX7_unload_31 ?_
  obtain ⟨s9, q10, h⟩ := bn1_some h
  have k11 : V G (qf G (none, I', L, R)) 46 [(0, .ref (G.ad x0)), (2, .ref (G.ad x2))] [.int s9, .int (44 : Int32), .ref (G.ad a1)] I L R := by
    obtain ⟨I13, qI13, h⟩ := bnd_some h
    refine V_wi C0 (rf_lt qa1) (rf_kd qa1) qI13 dX7_unload_46 ?_
    refine V_aload_n C0 0 rfl rfl dX7_unload_47 ?_
    obtain ⟨a14, qa14, h⟩ := bnd_some h
    refine V_getR C0 6 0 fl_X7_21 c_x0.2 c_x0.1 rfl (rf_at qa14) dX7_unload_48 ?_
    refine V_aload_n C0 1 rfl rfl dX7_unload_51 ?_
    refine V_getR C0 8 0 fl_X7_82 c_x2.2 c_x2.1 rfl (rf_at qa3) dX7_unload_52 ?_
    refine V_bipush C0 (v := (27 : Int32)) (by decide) dX7_unload_55 ?_
    obtain ⟨v15, qv15, h⟩ := bnd_some h
    refine V_ri C0 (rf_lt qa3) (rf_kd qa3) qv15 dX7_unload_57 ?_
    obtain ⟨a16, q17, h⟩ := bn1_some h
    refine V_callV C0 (st := []) (As := [.int v15]) 9 (c_X10_unitAt G.l G.D G.cA G.ad G.bs G.X C0.2.2.2.2.2.2.2.2.2.1 C0.2.2.2.2.2.2.2.2.2.2.2.2 a14 v15 I13 L R a16 q17) lc_X10_unitAt lk_X7_72 (rf_lt qa14) (rf_kd qa14) ⟨_, rfl, rfl⟩ rfl (by rw [erm]; decide) (Nat.le_of_ble_eq_true rfl) dX7_unload_58 ?_
    show V G _ 61 [(0, .ref (G.ad x0)), (2, .ref (G.ad x2))] [.ref (G.ad a16)] I13 L R
    obtain ⟨c18, h⟩ := ite_some h
    obtain ⟨a19, qa19, h⟩ := bnd_some h
    refine V_getR C0 8 0 fl_X7_82 c18.2 c18.1 rfl (rf_at qa19) dX7_unload_61 ?_
    refine V_bipush C0 (v := (10 : Int32)) (by decide) dX7_unload_64 ?_
    refine V_dup2 C0 rfl rfl dX7_unload_66 ?_
    obtain ⟨v20, qv20, h⟩ := bnd_some h
    refine V_ri C0 (rf_lt qa19) (rf_kd qa19) qv20 dX7_unload_67 ?_
    refine V_aload_n C0 1 rfl rfl dX7_unload_68 ?_
    refine V_getR C0 8 0 fl_X7_82 c_x2.2 c_x2.1 rfl (rf_at qa3) dX7_unload_69 ?_
    refine V_bipush C0 (v := (47 : Int32)) (by decide) dX7_unload_72 ?_
    obtain ⟨v21, qv21, h⟩ := bnd_some h
    refine V_ri C0 (rf_lt qa3) (rf_kd qa3) qv21 dX7_unload_74 ?_
    refine V_isub C0 dX7_unload_75 ?_
    obtain ⟨I22, qI22, h⟩ := bnd_some h
    refine V_wi C0 (rf_lt qa19) (rf_kd qa19) qI22 dX7_unload_76 ?_
    refine V_aload_n C0 1 rfl rfl dX7_unload_77 ?_
    refine V_getR C0 8 0 fl_X7_82 c_x2.2 c_x2.1 rfl (rf_at qa3) dX7_unload_78 ?_
    refine V_bipush C0 (v := (40 : Int32)) (by decide) dX7_unload_81 ?_
    refine V_dup2 C0 rfl rfl dX7_unload_83 ?_
    obtain ⟨v23, qv23, h⟩ := bnd_some h
    refine V_ri C0 (rf_lt qa3) (rf_kd qa3) qv23 dX7_unload_84 ?_
    refine V_iconst C0 (v := (1 : Int32)) (by decide) dX7_unload_85 ?_
    refine V_iadd C0 dX7_unload_86 ?_
    obtain ⟨I24, qI24, h⟩ := bnd_some h
    refine V_wi C0 (rf_lt qa3) (rf_kd qa3) qI24 dX7_unload_87 ?_
    cases h
    exact V_vret C0 dX7_unload_88
  refine V_if_le C0 (tgt := 42) (by decide) dX7_unload_32 (fun c12 => ?_) (fun c12 => ?_)
  · have q10 := (if_pos c12).symm.trans q10
    refine V_iload_n C0 1 rfl rfl dX7_unload_42 ?_
    refine V_iload C0 0 rfl dX7_unload_43 ?_
    refine V_iadd C0 dX7_unload_45 ?_
    cases q10
    exact V_sub [2, 4] rfl k11
  · have q10 := (if_neg c12).symm.trans q10
    refine V_iload_n C0 1 rfl rfl dX7_unload_35 ?_
    refine V_iload C0 0 rfl dX7_unload_36 ?_
    refine V_isub C0 dX7_unload_38 ?_
    refine V_goto C0 (tgt := 46) (by decide) dX7_unload_39 ?_
    cases q10
    exact V_sub [2, 4] rfl k11
theorem dX7_unloadWheels_0 : decode cX7_unloadWheels 0 = .ok (.iconst 0, 1) := by decide +kernel
theorem dX7_unloadWheels_1 : decode cX7_unloadWheels 1 = .ok (.istore_n 3, 1) := by decide +kernel
theorem dX7_unloadWheels_2 : decode cX7_unloadWheels 2 = .ok (.iload_n 3, 1) := by decide +kernel
theorem dX7_unloadWheels_3 : decode cX7_unloadWheels 3 = .ok (.aload_n 0, 1) := by decide +kernel
theorem dX7_unloadWheels_4 : decode cX7_unloadWheels 4 = .ok (.getfield 21, 3) := by decide +kernel
theorem dX7_unloadWheels_7 : decode cX7_unloadWheels 7 = .ok (.invokevirtual 67, 3) := by decide +kernel
theorem dX7_unloadWheels_10 : decode cX7_unloadWheels 10 = .ok (.if_icmp .ge 106, 3) := by decide +kernel
theorem dX7_unloadWheels_13 : decode cX7_unloadWheels 13 = .ok (.aload_n 0, 1) := by decide +kernel
theorem dX7_unloadWheels_14 : decode cX7_unloadWheels 14 = .ok (.getfield 21, 3) := by decide +kernel
theorem dX7_unloadWheels_17 : decode cX7_unloadWheels 17 = .ok (.iload_n 3, 1) := by decide +kernel
theorem dX7_unloadWheels_18 : decode cX7_unloadWheels 18 = .ok (.invokevirtual 72, 3) := by decide +kernel
theorem dX7_unloadWheels_21 : decode cX7_unloadWheels 21 = .ok (.astore 4, 2) := by decide +kernel
theorem dX7_unloadWheels_23 : decode cX7_unloadWheels 23 = .ok (.aload 4, 2) := by decide +kernel
theorem dX7_unloadWheels_25 : decode cX7_unloadWheels 25 = .ok (.bipush 16, 2) := by decide +kernel
theorem dX7_unloadWheels_27 : decode cX7_unloadWheels 27 = .ok (.invokevirtual 76, 3) := by decide +kernel
theorem dX7_unloadWheels_30 : decode cX7_unloadWheels 30 = .ok (.ifCond .eq 19, 3) := by decide +kernel
theorem dX7_unloadWheels_33 : decode cX7_unloadWheels 33 = .ok (.aload 4, 2) := by decide +kernel
theorem dX7_unloadWheels_35 : decode cX7_unloadWheels 35 = .ok (.getfield 82, 3) := by decide +kernel
theorem dX7_unloadWheels_38 : decode cX7_unloadWheels 38 = .ok (.bipush 35, 2) := by decide +kernel
theorem dX7_unloadWheels_40 : decode cX7_unloadWheels 40 = .ok (.iaload, 1) := by decide +kernel
theorem dX7_unloadWheels_41 : decode cX7_unloadWheels 41 = .ok (.iload_n 1, 1) := by decide +kernel
theorem dX7_unloadWheels_42 : decode cX7_unloadWheels 42 = .ok (.if_icmp .ne 7, 3) := by decide +kernel
theorem dX7_unloadWheels_45 : decode cX7_unloadWheels 45 = .ok (.iconst 1, 1) := by decide +kernel
theorem dX7_unloadWheels_46 : decode cX7_unloadWheels 46 = .ok (.goto 4, 3) := by decide +kernel
theorem dX7_unloadWheels_49 : decode cX7_unloadWheels 49 = .ok (.iconst 0, 1) := by decide +kernel
theorem dX7_unloadWheels_50 : decode cX7_unloadWheels 50 = .ok (.istore 5, 2) := by decide +kernel
theorem dX7_unloadWheels_52 : decode cX7_unloadWheels 52 = .ok (.iload 5, 2) := by decide +kernel
theorem dX7_unloadWheels_54 : decode cX7_unloadWheels 54 = .ok (.ifCond .eq 56, 3) := by decide +kernel
theorem dX7_unloadWheels_57 : decode cX7_unloadWheels 57 = .ok (.iconst 4, 1) := by decide +kernel
theorem dX7_unloadWheels_58 : decode cX7_unloadWheels 58 = .ok (.aload 4, 2) := by decide +kernel
theorem dX7_unloadWheels_60 : decode cX7_unloadWheels 60 = .ok (.getfield 82, 3) := by decide +kernel
theorem dX7_unloadWheels_63 : decode cX7_unloadWheels 63 = .ok (.bipush 44, 2) := by decide +kernel
theorem dX7_unloadWheels_65 : decode cX7_unloadWheels 65 = .ok (.iaload, 1) := by decide +kernel
theorem dX7_unloadWheels_66 : decode cX7_unloadWheels 66 = .ok (.invokestatic 88, 3) := by decide +kernel
theorem dX7_unloadWheels_69 : decode cX7_unloadWheels 69 = .ok (.imul, 1) := by decide +kernel
theorem dX7_unloadWheels_70 : decode cX7_unloadWheels 70 = .ok (.aload 4, 2) := by decide +kernel
theorem dX7_unloadWheels_72 : decode cX7_unloadWheels 72 = .ok (.getfield 82, 3) := by decide +kernel
theorem dX7_unloadWheels_75 : decode cX7_unloadWheels 75 = .ok (.bipush 43, 2) := by decide +kernel
theorem dX7_unloadWheels_77 : decode cX7_unloadWheels 77 = .ok (.iaload, 1) := by decide +kernel
theorem dX7_unloadWheels_78 : decode cX7_unloadWheels 78 = .ok (.if_icmp .le 32, 3) := by decide +kernel
theorem dX7_unloadWheels_81 : decode cX7_unloadWheels 81 = .ok (.aload_n 0, 1) := by decide +kernel
theorem dX7_unloadWheels_82 : decode cX7_unloadWheels 82 = .ok (.iload_n 1, 1) := by decide +kernel
theorem dX7_unloadWheels_83 : decode cX7_unloadWheels 83 = .ok (.iload_n 2, 1) := by decide +kernel
theorem dX7_unloadWheels_84 : decode cX7_unloadWheels 84 = .ok (.invokevirtual 93, 3) := by decide +kernel
theorem dX7_unloadWheels_87 : decode cX7_unloadWheels 87 = .ok (.istore 6, 2) := by decide +kernel
theorem dX7_unloadWheels_89 : decode cX7_unloadWheels 89 = .ok (.iload 6, 2) := by decide +kernel
theorem dX7_unloadWheels_91 : decode cX7_unloadWheels 91 = .ok (.iconst (-1), 1) := by decide +kernel
theorem dX7_unloadWheels_92 : decode cX7_unloadWheels 92 = .ok (.if_icmp .eq 18, 3) := by decide +kernel
theorem dX7_unloadWheels_95 : decode cX7_unloadWheels 95 = .ok (.aload_n 0, 1) := by decide +kernel
theorem dX7_unloadWheels_96 : decode cX7_unloadWheels 96 = .ok (.aload 4, 2) := by decide +kernel
theorem dX7_unloadWheels_98 : decode cX7_unloadWheels 98 = .ok (.aload_n 0, 1) := by decide +kernel
theorem dX7_unloadWheels_99 : decode cX7_unloadWheels 99 = .ok (.getfield 21, 3) := by decide +kernel
theorem dX7_unloadWheels_102 : decode cX7_unloadWheels 102 = .ok (.iload 6, 2) := by decide +kernel
theorem dX7_unloadWheels_104 : decode cX7_unloadWheels 104 = .ok (.invokevirtual 72, 3) := by decide +kernel
theorem dX7_unloadWheels_107 : decode cX7_unloadWheels 107 = .ok (.invokevirtual 96, 3) := by decide +kernel
theorem dX7_unloadWheels_110 : decode cX7_unloadWheels 110 = .ok (.iinc 3 1, 3) := by decide +kernel
theorem dX7_unloadWheels_113 : decode cX7_unloadWheels 113 = .ok (.goto (-111), 3) := by decide +kernel
theorem dX7_unloadWheels_116 : decode cX7_unloadWheels 116 = .ok (.return_, 1) := by decide +kernel
def LF_X7_unloadWheels_2 (N : Nat) : Nat → Nat → Int32 → Int32 → Int32 → MI → ML → MR → Option (MI)
  | 0, _, _, _, _, _, _, _ => none
  | k + 1, y0, y1, y2, y3, I, L, R =>
    (rf R y0 0 9).bind fun a1 =>
    bn1 (F_X10_size a1 I L R) fun v2 =>
    if v2 ≤ y3 then
      some (I)
    else
      bn1 (F_X10_unitAt a1 y3 I L R) fun a5 =>
      if kd a5 = 8 ∧ a5 < NN then
      bn1 (F_X9_isOn a5 (16 : Int32) I L R) fun b8 =>
      bn1 (
        if (b2i b8) = 0 then
          some ((0 : Int32))
        else
          (rf R a5 0 20).bind fun a14 =>
          (ri I a14 (35 : Int32)).bind fun v15 =>
          bn1 (
            if v15 = y1 then
              some ((1 : Int32))
            else
              some ((0 : Int32))
          ) fun (s16 : Int32) =>
          some (s16)
      ) fun (s10 : Int32) =>
      bn1 (
        if s10 = 0 then
          some (I)
        else
          (rf R a5 0 20).bind fun a24 =>
          (ri I a24 (44 : Int32)).bind fun v25 =>
          bn1 (F_J9_abs_0f7a4 v25 I L R) fun v26 =>
          (ri I a24 (43 : Int32)).bind fun v28 =>
          bn1 (
            if ((4 : Int32) * v26) ≤ v28 then
              some (I)
            else
              bn1 (F_X7_readyJet N y0 y1 y2 I L R) fun v33 =>
              bn1 (
                if v33 = (-1 : Int32) then
                  some (I)
                else
                  bn1 (F_X10_unitAt a1 v33 I L R) fun a39 =>
                  if kd a39 = 8 ∧ a39 < NN then
                  bn1 (F_X7_unload y0 a5 a39 I L R) fun I42 =>
                  some (I42)
                  else none
              ) fun (I35 : MI) =>
              some (I35)
          ) fun (I29 : MI) =>
          some (I29)
      ) fun (I20 : MI) =>
      wr (y3 + (1 : Int32)) fun (u44 : Int32) =>
      LF_X7_unloadWheels_2 N k y0 y1 y2 u44 I20 L R
      else none
def F_X7_unloadWheels (N : Nat) (x0 : Nat) (x1 : Int32) (x2 : Int32) (I : MI) (L : ML) (R : MR) : Option (MI) :=
  if kd x0 = 6 ∧ x0 < NN then
  bn1 (LF_X7_unloadWheels_2 N N x0 x1 x2 (0 : Int32) I L R) fun z45 =>
  some (z45)
  else none
set_option maxRecDepth 100000 in
set_option maxHeartbeats 4000000 in
theorem lp_X7_unloadWheels_2 {G : Gm} (C0 : Cx G (yX7_unloadWheels.cls) cX7_unloadWheels none) (eNL : G.nL = 7) (erm : G.rm = ({ frames := 4, cells := 0, slots := 0, locals := 88 } : Room)) (N : Nat) : ∀ (k : Nat) (y0 : Nat) (y1 : Int32) (y2 : Int32) (y3 : Int32) (I : MI) (L : ML) (R : MR) (z : MI) (hk0 : kd y0 = 6) (ho0 : y0 < NN), LF_X7_unloadWheels_2 N k y0 y1 y2 y3 I L R = some z → ∀ f : State → Prop, V G f 116 [] [] z L R → V G f 2 [(0, .ref (G.ad y0)), (1, .int y1), (2, .int y2), (3, .int y3)] [] I L R := by
  intro k
  induction k with
  | zero =>
    intro y0 y1 y2 y3 I L R q hk0 ho0 h
    exact absurd h (by simp [LF_X7_unloadWheels_2])
  | succ k ih =>
    intro y0 y1 y2 y3 I L R q hk0 ho0 h f kx
    rw [LF_X7_unloadWheels_2] at h
    refine V_iload_n C0 3 rfl rfl dX7_unloadWheels_2 ?_
    refine V_aload_n C0 0 rfl rfl dX7_unloadWheels_3 ?_
    obtain ⟨a1, qa1, h⟩ := bnd_some h
    refine V_getR C0 6 0 fl_X7_21 ho0 hk0 rfl (rf_at qa1) dX7_unloadWheels_4 ?_
    obtain ⟨v2, q3, h⟩ := bn1_some h
    refine V_callV C0 (st := [.int y3]) (As := []) 9 (c_X10_size G.l G.D G.cA G.ad G.bs G.X C0.2.2.2.2.2.2.2.2.2.1 C0.2.2.2.2.2.2.2.2.2.2.2.2 a1 I L R v2 q3) lc_X10_size lk_X7_67 (rf_lt qa1) (rf_kd qa1) ⟨_, rfl, rfl⟩ rfl (by rw [erm]; decide) (Nat.le_of_ble_eq_true rfl) dX7_unloadWheels_7 ?_
    show V G _ 10 [(0, .ref (G.ad y0)), (1, .int y1), (2, .int y2), (3, .int y3)] [.int v2, .int y3] I L R
    refine V_icmp_ge C0 (tgt := 116) (by decide) dX7_unloadWheels_10 (fun c4 => ?_) (fun c4 => ?_)
    · have h := (if_pos c4).symm.trans h
      cases h
      exact V_sub [] rfl kx
    · have h := (if_neg c4).symm.trans h
      refine V_aload_n C0 0 rfl rfl dX7_unloadWheels_13 ?_
      refine V_getR C0 6 0 fl_X7_21 ho0 hk0 rfl (rf_at qa1) dX7_unloadWheels_14 ?_
      refine V_iload_n C0 3 rfl rfl dX7_unloadWheels_17 ?_
      obtain ⟨a5, q6, h⟩ := bn1_some h
      refine V_callV C0 (st := []) (As := [.int y3]) 9 (c_X10_unitAt G.l G.D G.cA G.ad G.bs G.X C0.2.2.2.2.2.2.2.2.2.1 C0.2.2.2.2.2.2.2.2.2.2.2.2 a1 y3 I L R a5 q6) lc_X10_unitAt lk_X7_72 (rf_lt qa1) (rf_kd qa1) ⟨_, rfl, rfl⟩ rfl (by rw [erm]; decide) (Nat.le_of_ble_eq_true rfl) dX7_unloadWheels_18 ?_
      show V G _ 21 [(0, .ref (G.ad y0)), (1, .int y1), (2, .int y2), (3, .int y3)] [.ref (G.ad a5)] I L R
      obtain ⟨c7, h⟩ := ite_some h
      refine V_astore C0 [(4, .ref (G.ad a5)), (0, .ref (G.ad y0)), (1, .int y1), (2, .int y2), (3, .int y3)] (by rw [eNL]; decide) rfl dX7_unloadWheels_21 ?_
      refine V_aload C0 0 rfl dX7_unloadWheels_23 ?_
      refine V_bipush C0 (v := (16 : Int32)) (by decide) dX7_unloadWheels_25 ?_
      obtain ⟨b8, q9, h⟩ := bn1_some h
      refine V_callV C0 (st := []) (As := [.int (16 : Int32)]) 8 (c_X9_isOn G.l G.D G.cA G.ad G.bs G.X C0.2.2.2.2.2.2.2.2.2.1 C0.2.2.2.2.2.2.2.2.2.2.2.2 a5 (16 : Int32) I L R b8 q9) lc_X9_isOn lk_X7_76 c7.2 c7.1 ⟨_, rfl, rfl⟩ rfl (by rw [erm]; decide) (Nat.le_of_ble_eq_true rfl) dX7_unloadWheels_27 ?_
      show V G _ 30 [(4, .ref (G.ad a5)), (0, .ref (G.ad y0)), (1, .int y1), (2, .int y2), (3, .int y3)] [.int (b2i b8)] I L R
      obtain ⟨s10, q11, h⟩ := bn1_some h
      have k12 : V G f 50 [(0, .ref (G.ad y0)), (1, .int y1), (2, .int y2), (3, .int y3), (4, .ref (G.ad a5))] [.int s10] I L R := by
        refine V_istore C0 [(5, .int s10), (0, .ref (G.ad y0)), (1, .int y1), (2, .int y2), (3, .int y3), (4, .ref (G.ad a5))] (by rw [eNL]; decide) rfl dX7_unloadWheels_50 ?_
        refine V_iload C0 0 rfl dX7_unloadWheels_52 ?_
        obtain ⟨I20, q21, h⟩ := bn1_some h
        have k22 : V G f 110 [(0, .ref (G.ad y0)), (1, .int y1), (2, .int y2), (3, .int y3)] [] I20 L R := by
          obtain ⟨u44, eu44, h⟩ := wr_some h
          refine V_iinc C0 3 [(3, .int u44), (0, .ref (G.ad y0)), (1, .int y1), (2, .int y2)] rfl (n := 1) (by rw [eu44]; rfl) (by rw [eNL]; decide) rfl dX7_unloadWheels_110 ?_
          refine V_goto C0 (tgt := 2) (by decide) dX7_unloadWheels_113 ?_
          exact V_sub [1, 2, 3, 0] rfl (ih y0 y1 y2 u44 I20 L R _ hk0 ho0 h f kx)
        refine V_if_eq C0 (tgt := 110) (by decide) dX7_unloadWheels_54 (fun c23 => ?_) (fun c23 => ?_)
        · have q21 := (if_pos c23).symm.trans q21
          cases q21
          exact V_sub [1, 2, 3, 4] rfl k22
        · have q21 := (if_neg c23).symm.trans q21
          refine V_iconst C0 (v := (4 : Int32)) (by decide) dX7_unloadWheels_57 ?_
          refine V_aload C0 5 rfl dX7_unloadWheels_58 ?_
          obtain ⟨a24, qa24, q21⟩ := bnd_some q21
          refine V_getR C0 8 0 fl_X7_82 c7.2 c7.1 rfl (rf_at qa24) dX7_unloadWheels_60 ?_
          refine V_bipush C0 (v := (44 : Int32)) (by decide) dX7_unloadWheels_63 ?_
          obtain ⟨v25, qv25, q21⟩ := bnd_some q21
          refine V_ri C0 (rf_lt qa24) (rf_kd qa24) qv25 dX7_unloadWheels_65 ?_
          obtain ⟨v26, q27, q21⟩ := bn1_some q21
          refine V_callS C0 (st := [.int (4 : Int32)]) (As := [.int v25]) (c_J9_abs_0f7a4 G.l G.D G.cA G.ad G.bs G.X C0.2.2.2.2.2.2.2.2.2.1 C0.2.2.2.2.2.2.2.2.2.2.2.2 v25 I L R v26 q27) lc_J9_abs_0f7a4 lk_X7_88 rfl (by rw [erm]; decide) (Nat.le_of_ble_eq_true rfl) dX7_unloadWheels_66 ?_
          show V G _ 69 [(5, .int s10), (0, .ref (G.ad y0)), (1, .int y1), (2, .int y2), (3, .int y3), (4, .ref (G.ad a5))] [.int v26, .int (4 : Int32)] I L R
          refine V_imul C0 dX7_unloadWheels_69 ?_
          refine V_aload C0 5 rfl dX7_unloadWheels_70 ?_
          refine V_getR C0 8 0 fl_X7_82 c7.2 c7.1 rfl (rf_at qa24) dX7_unloadWheels_72 ?_
          refine V_bipush C0 (v := (43 : Int32)) (by decide) dX7_unloadWheels_75 ?_
          obtain ⟨v28, qv28, q21⟩ := bnd_some q21
          refine V_ri C0 (rf_lt qa24) (rf_kd qa24) qv28 dX7_unloadWheels_77 ?_
          obtain ⟨I29, q30, q21⟩ := bn1_some q21
          have k31 : V G f 110 [(0, .ref (G.ad y0)), (1, .int y1), (2, .int y2), (3, .int y3)] [] I29 L R := by
            cases q21
            exact V_sub [0, 1, 2, 3] rfl k22
          refine V_icmp_le C0 (tgt := 110) (by decide) dX7_unloadWheels_78 (fun c32 => ?_) (fun c32 => ?_)
          · have q30 := (if_pos c32).symm.trans q30
            cases q30
            exact V_sub [1, 2, 3, 4] rfl k31
          · have q30 := (if_neg c32).symm.trans q30
            refine V_aload_n C0 1 rfl rfl dX7_unloadWheels_81 ?_
            refine V_iload_n C0 2 rfl rfl dX7_unloadWheels_82 ?_
            refine V_iload_n C0 3 rfl rfl dX7_unloadWheels_83 ?_
            obtain ⟨v33, q34, q30⟩ := bn1_some q30
            refine V_callV C0 (st := []) (As := [.int y1, .int y2]) 6 (c_X7_readyJet G.l G.D G.cA G.ad G.bs G.X C0.2.2.2.2.2.2.2.2.2.1 C0.2.2.2.2.2.2.2.2.2.2.2.2 N y0 y1 y2 I L R v33 q34) lc_X7_readyJet lk_X7_93 ho0 hk0 ⟨_, rfl, rfl⟩ rfl (by rw [erm]; decide) (Nat.le_of_ble_eq_true rfl) dX7_unloadWheels_84 ?_
            show V G _ 87 [(5, .int s10), (0, .ref (G.ad y0)), (1, .int y1), (2, .int y2), (3, .int y3), (4, .ref (G.ad a5))] [.int v33] I L R
            refine V_istore C0 [(6, .int v33), (5, .int s10), (0, .ref (G.ad y0)), (1, .int y1), (2, .int y2), (3, .int y3), (4, .ref (G.ad a5))] (by rw [eNL]; decide) rfl dX7_unloadWheels_87 ?_
            refine V_iload C0 0 rfl dX7_unloadWheels_89 ?_
            refine V_iconst C0 (v := (-1 : Int32)) (by decide) dX7_unloadWheels_91 ?_
            obtain ⟨I35, q36, q30⟩ := bn1_some q30
            have k37 : V G f 110 [(0, .ref (G.ad y0)), (1, .int y1), (2, .int y2), (3, .int y3)] [] I35 L R := by
              cases q30
              exact V_sub [0, 1, 2, 3] rfl k31
            refine V_icmp_eq C0 (tgt := 110) (by decide) dX7_unloadWheels_92 (fun c38 => ?_) (fun c38 => ?_)
            · have q36 := (if_pos c38).symm.trans q36
              cases q36
              exact V_sub [2, 3, 4, 5] rfl k37
            · have q36 := (if_neg c38).symm.trans q36
              refine V_aload_n C0 2 rfl rfl dX7_unloadWheels_95 ?_
              refine V_aload C0 6 rfl dX7_unloadWheels_96 ?_
              refine V_aload_n C0 2 rfl rfl dX7_unloadWheels_98 ?_
              refine V_getR C0 6 0 fl_X7_21 ho0 hk0 rfl (rf_at qa1) dX7_unloadWheels_99 ?_
              refine V_iload C0 0 rfl dX7_unloadWheels_102 ?_
              obtain ⟨a39, q40, q36⟩ := bn1_some q36
              refine V_callV C0 (st := [.ref (G.ad a5), .ref (G.ad y0)]) (As := [.int v33]) 9 (c_X10_unitAt G.l G.D G.cA G.ad G.bs G.X C0.2.2.2.2.2.2.2.2.2.1 C0.2.2.2.2.2.2.2.2.2.2.2.2 a1 v33 I L R a39 q40) lc_X10_unitAt lk_X7_72 (rf_lt qa1) (rf_kd qa1) ⟨_, rfl, rfl⟩ rfl (by rw [erm]; decide) (Nat.le_of_ble_eq_true rfl) dX7_unloadWheels_104 ?_
              show V G _ 107 [(6, .int v33), (5, .int s10), (0, .ref (G.ad y0)), (1, .int y1), (2, .int y2), (3, .int y3), (4, .ref (G.ad a5))] [.ref (G.ad a39), .ref (G.ad a5), .ref (G.ad y0)] I L R
              obtain ⟨c41, q36⟩ := ite_some q36
              obtain ⟨I42, q43, q36⟩ := bn1_some q36
              refine V_callV C0 (st := []) (As := [.ref (G.ad a5), .ref (G.ad a39)]) 6 (c_X7_unload G.l G.D G.cA G.ad G.bs G.X C0.2.2.2.2.2.2.2.2.2.1 C0.2.2.2.2.2.2.2.2.2.2.2.2 y0 a5 a39 I L R I42 q43) lc_X7_unload lk_X7_96 ho0 hk0 ⟨_, rfl, rfl⟩ rfl (by rw [erm]; decide) (Nat.le_of_ble_eq_true rfl) dX7_unloadWheels_107 ?_
              show V G _ 110 [(6, .int v33), (5, .int s10), (0, .ref (G.ad y0)), (1, .int y1), (2, .int y2), (3, .int y3), (4, .ref (G.ad a5))] [] I42 L R
              cases q36
              exact V_sub [2, 3, 4, 5] rfl k37
      refine V_if_eq C0 (tgt := 49) (by decide) dX7_unloadWheels_30 (fun c13 => ?_) (fun c13 => ?_)
      · have q11 := (if_pos c13).symm.trans q11
        refine V_iconst C0 (v := (0 : Int32)) (by decide) dX7_unloadWheels_49 ?_
        cases q11
        exact V_sub [1, 2, 3, 4, 0] rfl k12
      · have q11 := (if_neg c13).symm.trans q11
        refine V_aload C0 0 rfl dX7_unloadWheels_33 ?_
        obtain ⟨a14, qa14, q11⟩ := bnd_some q11
        refine V_getR C0 8 0 fl_X7_82 c7.2 c7.1 rfl (rf_at qa14) dX7_unloadWheels_35 ?_
        refine V_bipush C0 (v := (35 : Int32)) (by decide) dX7_unloadWheels_38 ?_
        obtain ⟨v15, qv15, q11⟩ := bnd_some q11
        refine V_ri C0 (rf_lt qa14) (rf_kd qa14) qv15 dX7_unloadWheels_40 ?_
        refine V_iload_n C0 2 rfl rfl dX7_unloadWheels_41 ?_
        obtain ⟨s16, q17, q11⟩ := bn1_some q11
        have k18 : V G f 50 [(0, .ref (G.ad y0)), (1, .int y1), (2, .int y2), (3, .int y3), (4, .ref (G.ad a5))] [.int s16] I L R := by
          cases q11
          exact V_sub [0, 1, 2, 3, 4] rfl k12
        refine V_icmp_ne C0 (tgt := 49) (by decide) dX7_unloadWheels_42 (fun c19 => ?_) (fun c19 => ?_)
        · have q17 := (if_neg c19).symm.trans q17
          refine V_iconst C0 (v := (0 : Int32)) (by decide) dX7_unloadWheels_49 ?_
          cases q17
          exact V_sub [1, 2, 3, 4, 0] rfl k18
        · have q17 := (if_pos c19).symm.trans q17
          refine V_iconst C0 (v := (1 : Int32)) (by decide) dX7_unloadWheels_45 ?_
          refine V_goto C0 (tgt := 50) (by decide) dX7_unloadWheels_46 ?_
          cases q17
          exact V_sub [1, 2, 3, 4, 0] rfl k18
set_option maxRecDepth 100000 in
set_option maxHeartbeats 4000000 in
theorem c_X7_unloadWheels (l : Launch) (D : va_G) (cA : Nat → ClassId) (ad : Nat → Nat) (bs : Nat) (X : State → Prop) (hAd : Ax ad bs) (hX : Stb bs X) (N : Nat) (x0 : Nat) (x1 : Int32) (x2 : Int32) (I : MI) (L : ML) (R : MR) (I' : MI) (h : F_X7_unloadWheels N x0 x1 x2 I L R = some (I')) : Cn l D cA ad bs X yX7_unloadWheels cX7_unloadWheels 7 none 4 88 [.ref (ad x0), .int x1, .int x2] I L R (none, I', L, R) := by
  refine Cn.ofV hAd hX [(0, .ref (ad x0)), (1, .int x1), (2, .int x2)] rfl (Nat.le_of_ble_eq_true rfl) (by decide) ?_
  intro G el eD ecA ead ebs eX erm eNL C0
  subst el eD ecA ead ebs eX
  unfold F_X7_unloadWheels at h
  obtain ⟨c_x0, h⟩ := ite_some h
  refine V_iconst C0 (v := (0 : Int32)) (by decide) dX7_unloadWheels_0 ?_
  refine V_istore_n C0 [(3, .int (0 : Int32)), (0, .ref (G.ad x0)), (1, .int x1), (2, .int x2)] rfl (by rw [eNL]; decide) rfl dX7_unloadWheels_1 ?_
  obtain ⟨z45, q46, h⟩ := bn1_some h
  refine V_sub [1, 2, 3, 0] rfl (lp_X7_unloadWheels_2 C0 eNL erm N N x0 x1 x2 (0 : Int32) I L R _ c_x0.1 c_x0.2 q46 _ ?_)
  show V G _ 116 [] [] z45 L R
  cases h
  exact V_vret C0 dX7_unloadWheels_116
theorem dX7_steer_0 : decode cX7_steer 0 = .ok (.iconst 0, 1) := by decide +kernel
theorem dX7_steer_1 : decode cX7_steer 1 = .ok (.istore_n 3, 1) := by decide +kernel
theorem dX7_steer_2 : decode cX7_steer 2 = .ok (.iload_n 3, 1) := by decide +kernel
theorem dX7_steer_3 : decode cX7_steer 3 = .ok (.iconst 3, 1) := by decide +kernel
theorem dX7_steer_4 : decode cX7_steer 4 = .ok (.if_icmp .ge 69, 3) := by decide +kernel
theorem dX7_steer_7 : decode cX7_steer 7 = .ok (.aload_n 0, 1) := by decide +kernel
theorem dX7_steer_8 : decode cX7_steer 8 = .ok (.iload_n 3, 1) := by decide +kernel
theorem dX7_steer_9 : decode cX7_steer 9 = .ok (.iload_n 2, 1) := by decide +kernel
theorem dX7_steer_10 : decode cX7_steer 10 = .ok (.invokevirtual 35, 3) := by decide +kernel
theorem dX7_steer_13 : decode cX7_steer 13 = .ok (.bipush 16, 2) := by decide +kernel
theorem dX7_steer_15 : decode cX7_steer 15 = .ok (.idiv, 1) := by decide +kernel
theorem dX7_steer_16 : decode cX7_steer 16 = .ok (.iconst 2, 1) := by decide +kernel
theorem dX7_steer_17 : decode cX7_steer 17 = .ok (.aload_n 0, 1) := by decide +kernel
theorem dX7_steer_18 : decode cX7_steer 18 = .ok (.iload_n 3, 1) := by decide +kernel
theorem dX7_steer_19 : decode cX7_steer 19 = .ok (.invokevirtual 39, 3) := by decide +kernel
theorem dX7_steer_22 : decode cX7_steer 22 = .ok (.imul, 1) := by decide +kernel
theorem dX7_steer_23 : decode cX7_steer 23 = .ok (.isub, 1) := by decide +kernel
theorem dX7_steer_24 : decode cX7_steer 24 = .ok (.bipush (-30), 2) := by decide +kernel
theorem dX7_steer_26 : decode cX7_steer 26 = .ok (.bipush 30, 2) := by decide +kernel
theorem dX7_steer_28 : decode cX7_steer 28 = .ok (.invokestatic 42, 3) := by decide +kernel
theorem dX7_steer_31 : decode cX7_steer 31 = .ok (.istore 4, 2) := by decide +kernel
theorem dX7_steer_33 : decode cX7_steer 33 = .ok (.iload 4, 2) := by decide +kernel
theorem dX7_steer_35 : decode cX7_steer 35 = .ok (.aload_n 0, 1) := by decide +kernel
theorem dX7_steer_36 : decode cX7_steer 36 = .ok (.iload_n 3, 1) := by decide +kernel
theorem dX7_steer_37 : decode cX7_steer 37 = .ok (.iload 4, 2) := by decide +kernel
theorem dX7_steer_39 : decode cX7_steer 39 = .ok (.invokevirtual 46, 3) := by decide +kernel
theorem dX7_steer_42 : decode cX7_steer 42 = .ok (.isub, 1) := by decide +kernel
theorem dX7_steer_43 : decode cX7_steer 43 = .ok (.istore 4, 2) := by decide +kernel
theorem dX7_steer_45 : decode cX7_steer 45 = .ok (.iload_n 1, 1) := by decide +kernel
theorem dX7_steer_46 : decode cX7_steer 46 = .ok (.bipush 8, 2) := by decide +kernel
theorem dX7_steer_48 : decode cX7_steer 48 = .ok (.invokestatic 49, 3) := by decide +kernel
theorem dX7_steer_51 : decode cX7_steer 51 = .ok (.ifCond .eq 10, 3) := by decide +kernel
theorem dX7_steer_54 : decode cX7_steer 54 = .ok (.aload_n 0, 1) := by decide +kernel
theorem dX7_steer_55 : decode cX7_steer 55 = .ok (.iload_n 3, 1) := by decide +kernel
theorem dX7_steer_56 : decode cX7_steer 56 = .ok (.iload 4, 2) := by decide +kernel
theorem dX7_steer_58 : decode cX7_steer 58 = .ok (.invokevirtual 53, 3) := by decide +kernel
theorem dX7_steer_61 : decode cX7_steer 61 = .ok (.aload_n 0, 1) := by decide +kernel
theorem dX7_steer_62 : decode cX7_steer 62 = .ok (.iload_n 3, 1) := by decide +kernel
theorem dX7_steer_63 : decode cX7_steer 63 = .ok (.iload_n 1, 1) := by decide +kernel
theorem dX7_steer_64 : decode cX7_steer 64 = .ok (.invokevirtual 57, 3) := by decide +kernel
theorem dX7_steer_67 : decode cX7_steer 67 = .ok (.iinc 3 1, 3) := by decide +kernel
theorem dX7_steer_70 : decode cX7_steer 70 = .ok (.goto (-68), 3) := by decide +kernel
theorem dX7_steer_73 : decode cX7_steer 73 = .ok (.return_, 1) := by decide +kernel
def LF_X7_steer_2 (N : Nat) : Nat → Nat → Int32 → Int32 → Int32 → MI → ML → MR → Option (MI)
  | 0, _, _, _, _, _, _, _ => none
  | k + 1, y0, y1, y2, y3, I, L, R =>
    if (3 : Int32) ≤ y3 then
      some (I)
    else
      bn1 (F_X7_error N y0 y3 y2 I L R) fun v2 =>
      bn1 (F_X7_measuredRate N y0 y3 I L R) fun v4 =>
      bn1 (F_X11_limit ((v2 / (16 : Int32)) - ((2 : Int32) * v4)) (-30 : Int32) (30 : Int32) I L R) fun v6 =>
      bn2 (F_X7_spinWheels N y0 y3 v6 I L R) fun v8 I9 =>
      wr (v6 - v8) fun (u11 : Int32) =>
      bn1 (F_X11_isMultiple y1 (8 : Int32) I9 L R) fun b12 =>
      bn1 (
        if (b2i b12) = 0 then
          some (I9)
        else
          bn1 (F_X7_driveCoils N y0 y3 u11 I9 L R) fun I18 =>
          some (I18)
      ) fun (I14 : MI) =>
      bn1 (F_X7_unloadWheels N y0 y3 y1 I14 L R) fun I20 =>
      wr (y3 + (1 : Int32)) fun (u22 : Int32) =>
      LF_X7_steer_2 N k y0 y1 y2 u22 I20 L R
def F_X7_steer (N : Nat) (x0 : Nat) (x1 : Int32) (x2 : Int32) (I : MI) (L : ML) (R : MR) : Option (MI) :=
  if kd x0 = 6 ∧ x0 < NN then
  bn1 (LF_X7_steer_2 N N x0 x1 x2 (0 : Int32) I L R) fun z23 =>
  some (z23)
  else none
set_option maxRecDepth 100000 in
set_option maxHeartbeats 4000000 in
theorem lp_X7_steer_2 {G : Gm} (C0 : Cx G (yX7_steer.cls) cX7_steer none) (eNL : G.nL = 5) (erm : G.rm = ({ frames := 5, cells := 0, slots := 0, locals := 114 } : Room)) (N : Nat) : ∀ (k : Nat) (y0 : Nat) (y1 : Int32) (y2 : Int32) (y3 : Int32) (I : MI) (L : ML) (R : MR) (z : MI) (hk0 : kd y0 = 6) (ho0 : y0 < NN), LF_X7_steer_2 N k y0 y1 y2 y3 I L R = some z → ∀ f : State → Prop, V G f 73 [] [] z L R → V G f 2 [(0, .ref (G.ad y0)), (1, .int y1), (2, .int y2), (3, .int y3)] [] I L R := by
  intro k
  induction k with
  | zero =>
    intro y0 y1 y2 y3 I L R q hk0 ho0 h
    exact absurd h (by simp [LF_X7_steer_2])
  | succ k ih =>
    intro y0 y1 y2 y3 I L R q hk0 ho0 h f kx
    rw [LF_X7_steer_2] at h
    refine V_iload_n C0 3 rfl rfl dX7_steer_2 ?_
    refine V_iconst C0 (v := (3 : Int32)) (by decide) dX7_steer_3 ?_
    refine V_icmp_ge C0 (tgt := 73) (by decide) dX7_steer_4 (fun c1 => ?_) (fun c1 => ?_)
    · have h := (if_pos c1).symm.trans h
      cases h
      exact V_sub [] rfl kx
    · have h := (if_neg c1).symm.trans h
      refine V_aload_n C0 0 rfl rfl dX7_steer_7 ?_
      refine V_iload_n C0 3 rfl rfl dX7_steer_8 ?_
      refine V_iload_n C0 2 rfl rfl dX7_steer_9 ?_
      obtain ⟨v2, q3, h⟩ := bn1_some h
      refine V_callV C0 (st := []) (As := [.int y3, .int y2]) 6 (c_X7_error G.l G.D G.cA G.ad G.bs G.X C0.2.2.2.2.2.2.2.2.2.1 C0.2.2.2.2.2.2.2.2.2.2.2.2 N y0 y3 y2 I L R v2 q3) lc_X7_error lk_X7_35 ho0 hk0 ⟨_, rfl, rfl⟩ rfl (by rw [erm]; decide) (Nat.le_of_ble_eq_true rfl) dX7_steer_10 ?_
      show V G _ 13 [(0, .ref (G.ad y0)), (1, .int y1), (2, .int y2), (3, .int y3)] [.int v2] I L R
      refine V_bipush C0 (v := (16 : Int32)) (by decide) dX7_steer_13 ?_
      refine V_idiv C0 (by decide) dX7_steer_15 ?_
      refine V_iconst C0 (v := (2 : Int32)) (by decide) dX7_steer_16 ?_
      refine V_aload_n C0 0 rfl rfl dX7_steer_17 ?_
      refine V_iload_n C0 3 rfl rfl dX7_steer_18 ?_
      obtain ⟨v4, q5, h⟩ := bn1_some h
      refine V_callV C0 (st := [.int (2 : Int32), .int (v2 / (16 : Int32))]) (As := [.int y3]) 6 (c_X7_measuredRate G.l G.D G.cA G.ad G.bs G.X C0.2.2.2.2.2.2.2.2.2.1 C0.2.2.2.2.2.2.2.2.2.2.2.2 N y0 y3 I L R v4 q5) lc_X7_measuredRate lk_X7_39 ho0 hk0 ⟨_, rfl, rfl⟩ rfl (by rw [erm]; decide) (Nat.le_of_ble_eq_true rfl) dX7_steer_19 ?_
      show V G _ 22 [(0, .ref (G.ad y0)), (1, .int y1), (2, .int y2), (3, .int y3)] [.int v4, .int (2 : Int32), .int (v2 / (16 : Int32))] I L R
      refine V_imul C0 dX7_steer_22 ?_
      refine V_isub C0 dX7_steer_23 ?_
      refine V_bipush C0 (v := (-30 : Int32)) (by decide) dX7_steer_24 ?_
      refine V_bipush C0 (v := (30 : Int32)) (by decide) dX7_steer_26 ?_
      obtain ⟨v6, q7, h⟩ := bn1_some h
      refine V_callS C0 (st := []) (As := [.int ((v2 / (16 : Int32)) - ((2 : Int32) * v4)), .int (-30 : Int32), .int (30 : Int32)]) (c_X11_limit G.l G.D G.cA G.ad G.bs G.X C0.2.2.2.2.2.2.2.2.2.1 C0.2.2.2.2.2.2.2.2.2.2.2.2 ((v2 / (16 : Int32)) - ((2 : Int32) * v4)) (-30 : Int32) (30 : Int32) I L R v6 q7) lc_X11_limit lk_X7_42 rfl (by rw [erm]; decide) (Nat.le_of_ble_eq_true rfl) dX7_steer_28 ?_
      show V G _ 31 [(0, .ref (G.ad y0)), (1, .int y1), (2, .int y2), (3, .int y3)] [.int v6] I L R
      refine V_istore C0 [(4, .int v6), (0, .ref (G.ad y0)), (1, .int y1), (2, .int y2), (3, .int y3)] (by rw [eNL]; decide) rfl dX7_steer_31 ?_
      refine V_iload C0 0 rfl dX7_steer_33 ?_
      refine V_aload_n C0 1 rfl rfl dX7_steer_35 ?_
      refine V_iload_n C0 4 rfl rfl dX7_steer_36 ?_
      refine V_iload C0 0 rfl dX7_steer_37 ?_
      obtain ⟨v8, I9, q10, h⟩ := bn2_some h
      refine V_callV C0 (st := [.int v6]) (As := [.int y3, .int v6]) 6 (c_X7_spinWheels G.l G.D G.cA G.ad G.bs G.X C0.2.2.2.2.2.2.2.2.2.1 C0.2.2.2.2.2.2.2.2.2.2.2.2 N y0 y3 v6 I L R v8 I9 q10) lc_X7_spinWheels lk_X7_46 ho0 hk0 ⟨_, rfl, rfl⟩ rfl (by rw [erm]; decide) (Nat.le_of_ble_eq_true rfl) dX7_steer_39 ?_
      show V G _ 42 [(4, .int v6), (0, .ref (G.ad y0)), (1, .int y1), (2, .int y2), (3, .int y3)] [.int v8, .int v6] I9 L R
      refine V_isub C0 dX7_steer_42 ?_
      obtain ⟨u11, eu11, h⟩ := wr_some h
      rw [← eu11]
      refine V_istore C0 [(4, .int u11), (0, .ref (G.ad y0)), (1, .int y1), (2, .int y2), (3, .int y3)] (by rw [eNL]; decide) rfl dX7_steer_43 ?_
      refine V_iload_n C0 2 rfl rfl dX7_steer_45 ?_
      refine V_bipush C0 (v := (8 : Int32)) (by decide) dX7_steer_46 ?_
      obtain ⟨b12, q13, h⟩ := bn1_some h
      refine V_callS C0 (st := []) (As := [.int y1, .int (8 : Int32)]) (c_X11_isMultiple G.l G.D G.cA G.ad G.bs G.X C0.2.2.2.2.2.2.2.2.2.1 C0.2.2.2.2.2.2.2.2.2.2.2.2 y1 (8 : Int32) I9 L R b12 q13) lc_X11_isMultiple lk_X7_49 rfl (by rw [erm]; decide) (Nat.le_of_ble_eq_true rfl) dX7_steer_48 ?_
      show V G _ 51 [(4, .int u11), (0, .ref (G.ad y0)), (1, .int y1), (2, .int y2), (3, .int y3)] [.int (b2i b12)] I9 L R
      obtain ⟨I14, q15, h⟩ := bn1_some h
      have k16 : V G f 61 [(0, .ref (G.ad y0)), (1, .int y1), (2, .int y2), (3, .int y3)] [] I14 L R := by
        refine V_aload_n C0 0 rfl rfl dX7_steer_61 ?_
        refine V_iload_n C0 3 rfl rfl dX7_steer_62 ?_
        refine V_iload_n C0 1 rfl rfl dX7_steer_63 ?_
        obtain ⟨I20, q21, h⟩ := bn1_some h
        refine V_callV C0 (st := []) (As := [.int y3, .int y1]) 6 (c_X7_unloadWheels G.l G.D G.cA G.ad G.bs G.X C0.2.2.2.2.2.2.2.2.2.1 C0.2.2.2.2.2.2.2.2.2.2.2.2 N y0 y3 y1 I14 L R I20 q21) lc_X7_unloadWheels lk_X7_57 ho0 hk0 ⟨_, rfl, rfl⟩ rfl (by rw [erm]; decide) (Nat.le_of_ble_eq_true rfl) dX7_steer_64 ?_
        show V G _ 67 [(0, .ref (G.ad y0)), (1, .int y1), (2, .int y2), (3, .int y3)] [] I20 L R
        obtain ⟨u22, eu22, h⟩ := wr_some h
        refine V_iinc C0 3 [(3, .int u22), (0, .ref (G.ad y0)), (1, .int y1), (2, .int y2)] rfl (n := 1) (by rw [eu22]; rfl) (by rw [eNL]; decide) rfl dX7_steer_67 ?_
        refine V_goto C0 (tgt := 2) (by decide) dX7_steer_70 ?_
        exact V_sub [1, 2, 3, 0] rfl (ih y0 y1 y2 u22 I20 L R _ hk0 ho0 h f kx)
      refine V_if_eq C0 (tgt := 61) (by decide) dX7_steer_51 (fun c17 => ?_) (fun c17 => ?_)
      · have q15 := (if_pos c17).symm.trans q15
        cases q15
        exact V_sub [1, 2, 3, 4] rfl k16
      · have q15 := (if_neg c17).symm.trans q15
        refine V_aload_n C0 1 rfl rfl dX7_steer_54 ?_
        refine V_iload_n C0 4 rfl rfl dX7_steer_55 ?_
        refine V_iload C0 0 rfl dX7_steer_56 ?_
        obtain ⟨I18, q19, q15⟩ := bn1_some q15
        refine V_callV C0 (st := []) (As := [.int y3, .int u11]) 6 (c_X7_driveCoils G.l G.D G.cA G.ad G.bs G.X C0.2.2.2.2.2.2.2.2.2.1 C0.2.2.2.2.2.2.2.2.2.2.2.2 N y0 y3 u11 I9 L R I18 q19) lc_X7_driveCoils lk_X7_53 ho0 hk0 ⟨_, rfl, rfl⟩ rfl (by rw [erm]; decide) (Nat.le_of_ble_eq_true rfl) dX7_steer_58 ?_
        show V G _ 61 [(4, .int u11), (0, .ref (G.ad y0)), (1, .int y1), (2, .int y2), (3, .int y3)] [] I18 L R
        cases q15
        exact V_sub [1, 2, 3, 4] rfl k16
set_option maxRecDepth 100000 in
set_option maxHeartbeats 4000000 in
theorem c_X7_steer (l : Launch) (D : va_G) (cA : Nat → ClassId) (ad : Nat → Nat) (bs : Nat) (X : State → Prop) (hAd : Ax ad bs) (hX : Stb bs X) (N : Nat) (x0 : Nat) (x1 : Int32) (x2 : Int32) (I : MI) (L : ML) (R : MR) (I' : MI) (h : F_X7_steer N x0 x1 x2 I L R = some (I')) : Cn l D cA ad bs X yX7_steer cX7_steer 5 none 5 114 [.ref (ad x0), .int x1, .int x2] I L R (none, I', L, R) := by
  refine Cn.ofV hAd hX [(0, .ref (ad x0)), (1, .int x1), (2, .int x2)] rfl (Nat.le_of_ble_eq_true rfl) (by decide) ?_
  intro G el eD ecA ead ebs eX erm eNL C0
  subst el eD ecA ead ebs eX
  unfold F_X7_steer at h
  obtain ⟨c_x0, h⟩ := ite_some h
  refine V_iconst C0 (v := (0 : Int32)) (by decide) dX7_steer_0 ?_
  refine V_istore_n C0 [(3, .int (0 : Int32)), (0, .ref (G.ad x0)), (1, .int x1), (2, .int x2)] rfl (by rw [eNL]; decide) rfl dX7_steer_1 ?_
  obtain ⟨z23, q24, h⟩ := bn1_some h
  refine V_sub [1, 2, 3, 0] rfl (lp_X7_steer_2 C0 eNL erm N N x0 x1 x2 (0 : Int32) I L R _ c_x0.1 c_x0.2 q24 _ ?_)
  show V G _ 73 [] [] z23 L R
  cases h
  exact V_vret C0 dX7_steer_73
theorem dX7_turn_0 : decode cX7_turn 0 = .ok (.iload_n 1, 1) := by decide +kernel
theorem dX7_turn_1 : decode cX7_turn 1 = .ok (.bipush 50, 2) := by decide +kernel
theorem dX7_turn_3 : decode cX7_turn 3 = .ok (.invokestatic 49, 3) := by decide +kernel
theorem dX7_turn_6 : decode cX7_turn 6 = .ok (.ifCond .eq 9, 3) := by decide +kernel
theorem dX7_turn_9 : decode cX7_turn 9 = .ok (.aload_n 0, 1) := by decide +kernel
theorem dX7_turn_10 : decode cX7_turn 10 = .ok (.iconst 0, 1) := by decide +kernel
theorem dX7_turn_11 : decode cX7_turn 11 = .ok (.iconst 1, 1) := by decide +kernel
theorem dX7_turn_12 : decode cX7_turn 12 = .ok (.invokevirtual 85, 3) := by decide +kernel
theorem dX7_turn_15 : decode cX7_turn 15 = .ok (.iconst 0, 1) := by decide +kernel
theorem dX7_turn_16 : decode cX7_turn 16 = .ok (.istore_n 2, 1) := by decide +kernel
theorem dX7_turn_17 : decode cX7_turn 17 = .ok (.iload_n 2, 1) := by decide +kernel
theorem dX7_turn_18 : decode cX7_turn 18 = .ok (.iconst 3, 1) := by decide +kernel
theorem dX7_turn_19 : decode cX7_turn 19 = .ok (.if_icmp .ge 57, 3) := by decide +kernel
theorem dX7_turn_22 : decode cX7_turn 22 = .ok (.aload_n 0, 1) := by decide +kernel
theorem dX7_turn_23 : decode cX7_turn 23 = .ok (.getfield 15, 3) := by decide +kernel
theorem dX7_turn_26 : decode cX7_turn 26 = .ok (.iload_n 2, 1) := by decide +kernel
theorem dX7_turn_27 : decode cX7_turn 27 = .ok (.aload_n 0, 1) := by decide +kernel
theorem dX7_turn_28 : decode cX7_turn 28 = .ok (.getfield 15, 3) := by decide +kernel
theorem dX7_turn_31 : decode cX7_turn 31 = .ok (.iload_n 2, 1) := by decide +kernel
theorem dX7_turn_32 : decode cX7_turn 32 = .ok (.iaload, 1) := by decide +kernel
theorem dX7_turn_33 : decode cX7_turn 33 = .ok (.sipush (-400), 3) := by decide +kernel
theorem dX7_turn_36 : decode cX7_turn 36 = .ok (.sipush 400, 3) := by decide +kernel
theorem dX7_turn_39 : decode cX7_turn 39 = .ok (.invokestatic 42, 3) := by decide +kernel
theorem dX7_turn_42 : decode cX7_turn 42 = .ok (.iastore, 1) := by decide +kernel
theorem dX7_turn_43 : decode cX7_turn 43 = .ok (.aload_n 0, 1) := by decide +kernel
theorem dX7_turn_44 : decode cX7_turn 44 = .ok (.getfield 9, 3) := by decide +kernel
theorem dX7_turn_47 : decode cX7_turn 47 = .ok (.iload_n 2, 1) := by decide +kernel
theorem dX7_turn_48 : decode cX7_turn 48 = .ok (.aload_n 0, 1) := by decide +kernel
theorem dX7_turn_49 : decode cX7_turn 49 = .ok (.getfield 9, 3) := by decide +kernel
theorem dX7_turn_52 : decode cX7_turn 52 = .ok (.iload_n 2, 1) := by decide +kernel
theorem dX7_turn_53 : decode cX7_turn 53 = .ok (.iaload, 1) := by decide +kernel
theorem dX7_turn_54 : decode cX7_turn 54 = .ok (.aload_n 0, 1) := by decide +kernel
theorem dX7_turn_55 : decode cX7_turn 55 = .ok (.getfield 15, 3) := by decide +kernel
theorem dX7_turn_58 : decode cX7_turn 58 = .ok (.iload_n 2, 1) := by decide +kernel
theorem dX7_turn_59 : decode cX7_turn 59 = .ok (.iaload, 1) := by decide +kernel
theorem dX7_turn_60 : decode cX7_turn 60 = .ok (.iconst 4, 1) := by decide +kernel
theorem dX7_turn_61 : decode cX7_turn 61 = .ok (.idiv, 1) := by decide +kernel
theorem dX7_turn_62 : decode cX7_turn 62 = .ok (.iadd, 1) := by decide +kernel
theorem dX7_turn_63 : decode cX7_turn 63 = .ok (.sipush 3600, 3) := by decide +kernel
theorem dX7_turn_66 : decode cX7_turn 66 = .ok (.invokestatic 110, 3) := by decide +kernel
theorem dX7_turn_69 : decode cX7_turn 69 = .ok (.iastore, 1) := by decide +kernel
theorem dX7_turn_70 : decode cX7_turn 70 = .ok (.iinc 2 1, 3) := by decide +kernel
theorem dX7_turn_73 : decode cX7_turn 73 = .ok (.goto (-56), 3) := by decide +kernel
theorem dX7_turn_76 : decode cX7_turn 76 = .ok (.return_, 1) := by decide +kernel
def LF_X7_turn_17 (N : Nat) : Nat → Nat → Int32 → MI → ML → MR → Option (MI)
  | 0, _, _, _, _, _ => none
  | k + 1, y0, y2, I, L, R =>
    if (3 : Int32) ≤ y2 then
      some (I)
    else
      (rf R y0 2 20).bind fun a10 =>
      (ri I a10 y2).bind fun v11 =>
      bn1 (F_X11_limit v11 (-400 : Int32) (400 : Int32) I L R) fun v12 =>
      (wi I a10 y2 v12).bind fun I14 =>
      (rf R y0 1 20).bind fun a15 =>
      (ri I14 a15 y2).bind fun v16 =>
      (ri I14 a10 y2).bind fun v17 =>
      bn1 (F_J9_floorMod_7cf53 (v16 + (v17 / (4 : Int32))) (3600 : Int32) I14 L R) fun v18 =>
      (wi I14 a15 y2 v18).bind fun I20 =>
      wr (y2 + (1 : Int32)) fun (u21 : Int32) =>
      LF_X7_turn_17 N k y0 u21 I20 L R
def F_X7_turn (N : Nat) (x0 : Nat) (x1 : Int32) (I : MI) (L : ML) (R : MR) : Option (MI) :=
  if kd x0 = 6 ∧ x0 < NN then
  bn1 (F_X11_isMultiple x1 (50 : Int32) I L R) fun b1 =>
  bn1 (
    if (b2i b1) = 0 then
      some (I)
    else
      bn1 (F_X7_speedUp x0 (0 : Int32) (1 : Int32) I L R) fun I7 =>
      some (I7)
  ) fun (I3 : MI) =>
  bn1 (LF_X7_turn_17 N N x0 (0 : Int32) I3 L R) fun z22 =>
  some (z22)
  else none
set_option maxRecDepth 100000 in
set_option maxHeartbeats 4000000 in
theorem lp_X7_turn_17 {G : Gm} (C0 : Cx G (yX7_turn.cls) cX7_turn none) (eNL : G.nL = 3) (erm : G.rm = ({ frames := 2, cells := 0, slots := 0, locals := 43 } : Room)) (N : Nat) : ∀ (k : Nat) (y0 : Nat) (y2 : Int32) (I : MI) (L : ML) (R : MR) (z : MI) (hk0 : kd y0 = 6) (ho0 : y0 < NN), LF_X7_turn_17 N k y0 y2 I L R = some z → ∀ f : State → Prop, V G f 76 [] [] z L R → V G f 17 [(0, .ref (G.ad y0)), (2, .int y2)] [] I L R := by
  intro k
  induction k with
  | zero =>
    intro y0 y2 I L R q hk0 ho0 h
    exact absurd h (by simp [LF_X7_turn_17])
  | succ k ih =>
    intro y0 y2 I L R q hk0 ho0 h f kx
    rw [LF_X7_turn_17] at h
    refine V_iload_n C0 1 rfl rfl dX7_turn_17 ?_
    refine V_iconst C0 (v := (3 : Int32)) (by decide) dX7_turn_18 ?_
    refine V_icmp_ge C0 (tgt := 76) (by decide) dX7_turn_19 (fun c9 => ?_) (fun c9 => ?_)
    · have h := (if_pos c9).symm.trans h
      cases h
      exact V_sub [] rfl kx
    · have h := (if_neg c9).symm.trans h
      refine V_aload_n C0 0 rfl rfl dX7_turn_22 ?_
      obtain ⟨a10, qa10, h⟩ := bnd_some h
      refine V_getR C0 6 2 fl_X7_15 ho0 hk0 rfl (rf_at qa10) dX7_turn_23 ?_
      refine V_iload_n C0 1 rfl rfl dX7_turn_26 ?_
      refine V_aload_n C0 0 rfl rfl dX7_turn_27 ?_
      refine V_getR C0 6 2 fl_X7_15 ho0 hk0 rfl (rf_at qa10) dX7_turn_28 ?_
      refine V_iload_n C0 1 rfl rfl dX7_turn_31 ?_
      obtain ⟨v11, qv11, h⟩ := bnd_some h
      refine V_ri C0 (rf_lt qa10) (rf_kd qa10) qv11 dX7_turn_32 ?_
      refine V_sipush C0 (v := (-400 : Int32)) (by decide) dX7_turn_33 ?_
      refine V_sipush C0 (v := (400 : Int32)) (by decide) dX7_turn_36 ?_
      obtain ⟨v12, q13, h⟩ := bn1_some h
      refine V_callS C0 (st := [.int y2, .ref (G.ad a10)]) (As := [.int v11, .int (-400 : Int32), .int (400 : Int32)]) (c_X11_limit G.l G.D G.cA G.ad G.bs G.X C0.2.2.2.2.2.2.2.2.2.1 C0.2.2.2.2.2.2.2.2.2.2.2.2 v11 (-400 : Int32) (400 : Int32) I L R v12 q13) lc_X11_limit lk_X7_42 rfl (by rw [erm]; decide) (Nat.le_of_ble_eq_true rfl) dX7_turn_39 ?_
      show V G _ 42 [(0, .ref (G.ad y0)), (2, .int y2)] [.int v12, .int y2, .ref (G.ad a10)] I L R
      obtain ⟨I14, qI14, h⟩ := bnd_some h
      refine V_wi C0 (rf_lt qa10) (rf_kd qa10) qI14 dX7_turn_42 ?_
      refine V_aload_n C0 0 rfl rfl dX7_turn_43 ?_
      obtain ⟨a15, qa15, h⟩ := bnd_some h
      refine V_getR C0 6 1 fl_X7_9 ho0 hk0 rfl (rf_at qa15) dX7_turn_44 ?_
      refine V_iload_n C0 1 rfl rfl dX7_turn_47 ?_
      refine V_aload_n C0 0 rfl rfl dX7_turn_48 ?_
      refine V_getR C0 6 1 fl_X7_9 ho0 hk0 rfl (rf_at qa15) dX7_turn_49 ?_
      refine V_iload_n C0 1 rfl rfl dX7_turn_52 ?_
      obtain ⟨v16, qv16, h⟩ := bnd_some h
      refine V_ri C0 (rf_lt qa15) (rf_kd qa15) qv16 dX7_turn_53 ?_
      refine V_aload_n C0 0 rfl rfl dX7_turn_54 ?_
      refine V_getR C0 6 2 fl_X7_15 ho0 hk0 rfl (rf_at qa10) dX7_turn_55 ?_
      refine V_iload_n C0 1 rfl rfl dX7_turn_58 ?_
      obtain ⟨v17, qv17, h⟩ := bnd_some h
      refine V_ri C0 (rf_lt qa10) (rf_kd qa10) qv17 dX7_turn_59 ?_
      refine V_iconst C0 (v := (4 : Int32)) (by decide) dX7_turn_60 ?_
      refine V_idiv C0 (by decide) dX7_turn_61 ?_
      refine V_iadd C0 dX7_turn_62 ?_
      refine V_sipush C0 (v := (3600 : Int32)) (by decide) dX7_turn_63 ?_
      obtain ⟨v18, q19, h⟩ := bn1_some h
      refine V_callS C0 (st := [.int y2, .ref (G.ad a15)]) (As := [.int (v16 + (v17 / (4 : Int32))), .int (3600 : Int32)]) (c_J9_floorMod_7cf53 G.l G.D G.cA G.ad G.bs G.X C0.2.2.2.2.2.2.2.2.2.1 C0.2.2.2.2.2.2.2.2.2.2.2.2 (v16 + (v17 / (4 : Int32))) (3600 : Int32) I14 L R v18 q19) lc_J9_floorMod_7cf53 lk_X7_110 rfl (by rw [erm]; decide) (Nat.le_of_ble_eq_true rfl) dX7_turn_66 ?_
      show V G _ 69 [(0, .ref (G.ad y0)), (2, .int y2)] [.int v18, .int y2, .ref (G.ad a15)] I14 L R
      obtain ⟨I20, qI20, h⟩ := bnd_some h
      refine V_wi C0 (rf_lt qa15) (rf_kd qa15) qI20 dX7_turn_69 ?_
      obtain ⟨u21, eu21, h⟩ := wr_some h
      refine V_iinc C0 1 [(2, .int u21), (0, .ref (G.ad y0))] rfl (n := 1) (by rw [eu21]; rfl) (by rw [eNL]; decide) rfl dX7_turn_70 ?_
      refine V_goto C0 (tgt := 17) (by decide) dX7_turn_73 ?_
      exact V_sub [1, 0] rfl (ih y0 u21 I20 L R _ hk0 ho0 h f kx)
set_option maxRecDepth 100000 in
set_option maxHeartbeats 4000000 in
theorem c_X7_turn (l : Launch) (D : va_G) (cA : Nat → ClassId) (ad : Nat → Nat) (bs : Nat) (X : State → Prop) (hAd : Ax ad bs) (hX : Stb bs X) (N : Nat) (x0 : Nat) (x1 : Int32) (I : MI) (L : ML) (R : MR) (I' : MI) (h : F_X7_turn N x0 x1 I L R = some (I')) : Cn l D cA ad bs X yX7_turn cX7_turn 3 none 2 43 [.ref (ad x0), .int x1] I L R (none, I', L, R) := by
  refine Cn.ofV hAd hX [(0, .ref (ad x0)), (1, .int x1)] rfl (Nat.le_of_ble_eq_true rfl) (by decide) ?_
  intro G el eD ecA ead ebs eX erm eNL C0
  subst el eD ecA ead ebs eX
  unfold F_X7_turn at h
  obtain ⟨c_x0, h⟩ := ite_some h
  refine V_iload_n C0 1 rfl rfl dX7_turn_0 ?_
  refine V_bipush C0 (v := (50 : Int32)) (by decide) dX7_turn_1 ?_
  obtain ⟨b1, q2, h⟩ := bn1_some h
  refine V_callS C0 (st := []) (As := [.int x1, .int (50 : Int32)]) (c_X11_isMultiple G.l G.D G.cA G.ad G.bs G.X C0.2.2.2.2.2.2.2.2.2.1 C0.2.2.2.2.2.2.2.2.2.2.2.2 x1 (50 : Int32) I L R b1 q2) lc_X11_isMultiple lk_X7_49 rfl (by rw [erm]; decide) (Nat.le_of_ble_eq_true rfl) dX7_turn_3 ?_
  show V G _ 6 [(0, .ref (G.ad x0)), (1, .int x1)] [.int (b2i b1)] I L R
  obtain ⟨I3, q4, h⟩ := bn1_some h
  have k5 : V G (qf G (none, I', L, R)) 15 [(0, .ref (G.ad x0))] [] I3 L R := by
    refine V_iconst C0 (v := (0 : Int32)) (by decide) dX7_turn_15 ?_
    refine V_istore_n C0 [(2, .int (0 : Int32)), (0, .ref (G.ad x0))] rfl (by rw [eNL]; decide) rfl dX7_turn_16 ?_
    obtain ⟨z22, q23, h⟩ := bn1_some h
    refine V_sub [1, 0] rfl (lp_X7_turn_17 C0 eNL erm N N x0 (0 : Int32) I3 L R _ c_x0.1 c_x0.2 q23 _ ?_)
    show V G _ 76 [] [] z22 L R
    cases h
    exact V_vret C0 dX7_turn_76
  refine V_if_eq C0 (tgt := 15) (by decide) dX7_turn_6 (fun c6 => ?_) (fun c6 => ?_)
  · have q4 := (if_pos c6).symm.trans q4
    cases q4
    exact V_sub [0] rfl k5
  · have q4 := (if_neg c6).symm.trans q4
    refine V_aload_n C0 0 rfl rfl dX7_turn_9 ?_
    refine V_iconst C0 (v := (0 : Int32)) (by decide) dX7_turn_10 ?_
    refine V_iconst C0 (v := (1 : Int32)) (by decide) dX7_turn_11 ?_
    obtain ⟨I7, q8, q4⟩ := bn1_some q4
    refine V_callV C0 (st := []) (As := [.int (0 : Int32), .int (1 : Int32)]) 6 (c_X7_speedUp G.l G.D G.cA G.ad G.bs G.X C0.2.2.2.2.2.2.2.2.2.1 C0.2.2.2.2.2.2.2.2.2.2.2.2 x0 (0 : Int32) (1 : Int32) I L R I7 q8) lc_X7_speedUp lk_X7_85 c_x0.2 c_x0.1 ⟨_, rfl, rfl⟩ rfl (by rw [erm]; decide) (Nat.le_of_ble_eq_true rfl) dX7_turn_12 ?_
    show V G _ 15 [(0, .ref (G.ad x0)), (1, .int x1)] [] I7 L R
    cases q4
    exact V_sub [0] rfl k5
theorem dX6_burn_0 : decode cX6_burn 0 = .ok (.aload_n 0, 1) := by decide +kernel
theorem dX6_burn_1 : decode cX6_burn 1 = .ok (.getfield 15, 3) := by decide +kernel
theorem dX6_burn_4 : decode cX6_burn 4 = .ok (.aload_n 1, 1) := by decide +kernel
theorem dX6_burn_5 : decode cX6_burn 5 = .ok (.getfield 72, 3) := by decide +kernel
theorem dX6_burn_8 : decode cX6_burn 8 = .ok (.bipush 27, 2) := by decide +kernel
theorem dX6_burn_10 : decode cX6_burn 10 = .ok (.iaload, 1) := by decide +kernel
theorem dX6_burn_11 : decode cX6_burn 11 = .ok (.invokevirtual 38, 3) := by decide +kernel
theorem dX6_burn_14 : decode cX6_burn 14 = .ok (.astore_n 3, 1) := by decide +kernel
theorem dX6_burn_15 : decode cX6_burn 15 = .ok (.aload_n 3, 1) := by decide +kernel
theorem dX6_burn_16 : decode cX6_burn 16 = .ok (.iconst 4, 1) := by decide +kernel
theorem dX6_burn_17 : decode cX6_burn 17 = .ok (.invokevirtual 42, 3) := by decide +kernel
theorem dX6_burn_20 : decode cX6_burn 20 = .ok (.ifCond .eq 13, 3) := by decide +kernel
theorem dX6_burn_23 : decode cX6_burn 23 = .ok (.aload_n 3, 1) := by decide +kernel
theorem dX6_burn_24 : decode cX6_burn 24 = .ok (.getfield 72, 3) := by decide +kernel
theorem dX6_burn_27 : decode cX6_burn 27 = .ok (.bipush 10, 2) := by decide +kernel
theorem dX6_burn_29 : decode cX6_burn 29 = .ok (.iaload, 1) := by decide +kernel
theorem dX6_burn_30 : decode cX6_burn 30 = .ok (.ifCond .gt 5, 3) := by decide +kernel
theorem dX6_burn_33 : decode cX6_burn 33 = .ok (.iconst 0, 1) := by decide +kernel
theorem dX6_burn_34 : decode cX6_burn 34 = .ok (.ireturn, 1) := by decide +kernel
theorem dX6_burn_35 : decode cX6_burn 35 = .ok (.iload_n 2, 1) := by decide +kernel
theorem dX6_burn_36 : decode cX6_burn 36 = .ok (.bipush 8, 2) := by decide +kernel
theorem dX6_burn_38 : decode cX6_burn 38 = .ok (.invokestatic 75, 3) := by decide +kernel
theorem dX6_burn_41 : decode cX6_burn 41 = .ok (.ifCond .eq 14, 3) := by decide +kernel
theorem dX6_burn_44 : decode cX6_burn 44 = .ok (.aload_n 3, 1) := by decide +kernel
theorem dX6_burn_45 : decode cX6_burn 45 = .ok (.getfield 72, 3) := by decide +kernel
theorem dX6_burn_48 : decode cX6_burn 48 = .ok (.bipush 10, 2) := by decide +kernel
theorem dX6_burn_50 : decode cX6_burn 50 = .ok (.dup2, 1) := by decide +kernel
theorem dX6_burn_51 : decode cX6_burn 51 = .ok (.iaload, 1) := by decide +kernel
theorem dX6_burn_52 : decode cX6_burn 52 = .ok (.iconst 1, 1) := by decide +kernel
theorem dX6_burn_53 : decode cX6_burn 53 = .ok (.isub, 1) := by decide +kernel
theorem dX6_burn_54 : decode cX6_burn 54 = .ok (.iastore, 1) := by decide +kernel
theorem dX6_burn_55 : decode cX6_burn 55 = .ok (.aload_n 1, 1) := by decide +kernel
theorem dX6_burn_56 : decode cX6_burn 56 = .ok (.getfield 72, 3) := by decide +kernel
theorem dX6_burn_59 : decode cX6_burn 59 = .ok (.bipush 43, 2) := by decide +kernel
theorem dX6_burn_61 : decode cX6_burn 61 = .ok (.iaload, 1) := by decide +kernel
theorem dX6_burn_62 : decode cX6_burn 62 = .ok (.ireturn, 1) := by decide +kernel
def F_X6_burn (x0 : Nat) (x1 : Nat) (x2 : Int32) (I : MI) (L : ML) (R : MR) : Option (Int32 × MI) :=
  if kd x0 = 5 ∧ x0 < NN then
  if kd x1 = 8 ∧ x1 < NN then
  (rf R x0 0 9).bind fun a1 =>
  (rf R x1 0 20).bind fun a2 =>
  (ri I a2 (27 : Int32)).bind fun v3 =>
  bn1 (F_X10_unitAt a1 v3 I L R) fun a4 =>
  if kd a4 = 8 ∧ a4 < NN then
  bn1 (F_X9_isWhole a4 (4 : Int32) I L R) fun b7 =>
  if (b2i b7) = 0 then
    some ((0 : Int32), I)
  else
    (rf R a4 0 20).bind fun a10 =>
    (ri I a10 (10 : Int32)).bind fun v11 =>
    if 0 < v11 then
      bn1 (F_X11_isMultiple x2 (8 : Int32) I L R) fun b13 =>
      bn1 (
        if (b2i b13) = 0 then
          some (I)
        else
          (ri I a10 (10 : Int32)).bind fun v19 =>
          (wi I a10 (10 : Int32) (v19 - (1 : Int32))).bind fun I20 =>
          some (I20)
      ) fun (I15 : MI) =>
      (ri I15 a2 (43 : Int32)).bind fun v21 =>
      some (v21, I15)
    else
      some ((0 : Int32), I)
  else none
  else none
  else none
set_option maxRecDepth 100000 in
set_option maxHeartbeats 4000000 in
theorem c_X6_burn (l : Launch) (D : va_G) (cA : Nat → ClassId) (ad : Nat → Nat) (bs : Nat) (X : State → Prop) (hAd : Ax ad bs) (hX : Stb bs X) (x0 : Nat) (x1 : Nat) (x2 : Int32) (I : MI) (L : ML) (R : MR) (r : Int32) (I' : MI) (h : F_X6_burn x0 x1 x2 I L R = some (r, I')) : Cn l D cA ad bs X yX6_burn cX6_burn 4 (some .int) 2 43 [.ref (ad x0), .ref (ad x1), .int x2] I L R (some (.int r), I', L, R) := by
  refine Cn.ofV hAd hX [(0, .ref (ad x0)), (1, .ref (ad x1)), (2, .int x2)] rfl (Nat.le_of_ble_eq_true rfl) (by decide) ?_
  intro G el eD ecA ead ebs eX erm eNL C0
  subst el eD ecA ead ebs eX
  unfold F_X6_burn at h
  obtain ⟨c_x0, h⟩ := ite_some h
  obtain ⟨c_x1, h⟩ := ite_some h
  refine V_aload_n C0 0 rfl rfl dX6_burn_0 ?_
  obtain ⟨a1, qa1, h⟩ := bnd_some h
  refine V_getR C0 5 0 fl_X6_15 c_x0.2 c_x0.1 rfl (rf_at qa1) dX6_burn_1 ?_
  refine V_aload_n C0 1 rfl rfl dX6_burn_4 ?_
  obtain ⟨a2, qa2, h⟩ := bnd_some h
  refine V_getR C0 8 0 fl_X6_72 c_x1.2 c_x1.1 rfl (rf_at qa2) dX6_burn_5 ?_
  refine V_bipush C0 (v := (27 : Int32)) (by decide) dX6_burn_8 ?_
  obtain ⟨v3, qv3, h⟩ := bnd_some h
  refine V_ri C0 (rf_lt qa2) (rf_kd qa2) qv3 dX6_burn_10 ?_
  obtain ⟨a4, q5, h⟩ := bn1_some h
  refine V_callV C0 (st := []) (As := [.int v3]) 9 (c_X10_unitAt G.l G.D G.cA G.ad G.bs G.X C0.2.2.2.2.2.2.2.2.2.1 C0.2.2.2.2.2.2.2.2.2.2.2.2 a1 v3 I L R a4 q5) lc_X10_unitAt lk_X6_38 (rf_lt qa1) (rf_kd qa1) ⟨_, rfl, rfl⟩ rfl (by rw [erm]; decide) (Nat.le_of_ble_eq_true rfl) dX6_burn_11 ?_
  show V G _ 14 [(0, .ref (G.ad x0)), (1, .ref (G.ad x1)), (2, .int x2)] [.ref (G.ad a4)] I L R
  obtain ⟨c6, h⟩ := ite_some h
  refine V_astore_n C0 [(3, .ref (G.ad a4)), (0, .ref (G.ad x0)), (1, .ref (G.ad x1)), (2, .int x2)] rfl (by rw [eNL]; decide) rfl dX6_burn_14 ?_
  refine V_aload_n C0 0 rfl rfl dX6_burn_15 ?_
  refine V_iconst C0 (v := (4 : Int32)) (by decide) dX6_burn_16 ?_
  obtain ⟨b7, q8, h⟩ := bn1_some h
  refine V_callV C0 (st := []) (As := [.int (4 : Int32)]) 8 (c_X9_isWhole G.l G.D G.cA G.ad G.bs G.X C0.2.2.2.2.2.2.2.2.2.1 C0.2.2.2.2.2.2.2.2.2.2.2.2 a4 (4 : Int32) I L R b7 q8) lc_X9_isWhole lk_X6_42 c6.2 c6.1 ⟨_, rfl, rfl⟩ rfl (by rw [erm]; decide) (Nat.le_of_ble_eq_true rfl) dX6_burn_17 ?_
  show V G _ 20 [(3, .ref (G.ad a4)), (0, .ref (G.ad x0)), (1, .ref (G.ad x1)), (2, .int x2)] [.int (b2i b7)] I L R
  refine V_if_eq C0 (tgt := 33) (by decide) dX6_burn_20 (fun c9 => ?_) (fun c9 => ?_)
  · have h := (if_pos c9).symm.trans h
    refine V_iconst C0 (v := (0 : Int32)) (by decide) dX6_burn_33 ?_
    cases h
    exact V_iret C0 dX6_burn_34
  · have h := (if_neg c9).symm.trans h
    refine V_aload_n C0 0 rfl rfl dX6_burn_23 ?_
    obtain ⟨a10, qa10, h⟩ := bnd_some h
    refine V_getR C0 8 0 fl_X6_72 c6.2 c6.1 rfl (rf_at qa10) dX6_burn_24 ?_
    refine V_bipush C0 (v := (10 : Int32)) (by decide) dX6_burn_27 ?_
    obtain ⟨v11, qv11, h⟩ := bnd_some h
    refine V_ri C0 (rf_lt qa10) (rf_kd qa10) qv11 dX6_burn_29 ?_
    refine V_if_gt C0 (tgt := 35) (by decide) dX6_burn_30 (fun c12 => ?_) (fun c12 => ?_)
    · have h := (if_pos c12).symm.trans h
      refine V_iload_n C0 3 rfl rfl dX6_burn_35 ?_
      refine V_bipush C0 (v := (8 : Int32)) (by decide) dX6_burn_36 ?_
      obtain ⟨b13, q14, h⟩ := bn1_some h
      refine V_callS C0 (st := []) (As := [.int x2, .int (8 : Int32)]) (c_X11_isMultiple G.l G.D G.cA G.ad G.bs G.X C0.2.2.2.2.2.2.2.2.2.1 C0.2.2.2.2.2.2.2.2.2.2.2.2 x2 (8 : Int32) I L R b13 q14) lc_X11_isMultiple lk_X6_75 rfl (by rw [erm]; decide) (Nat.le_of_ble_eq_true rfl) dX6_burn_38 ?_
      show V G _ 41 [(3, .ref (G.ad a4)), (0, .ref (G.ad x0)), (1, .ref (G.ad x1)), (2, .int x2)] [.int (b2i b13)] I L R
      obtain ⟨I15, q16, h⟩ := bn1_some h
      have k17 : V G (qf G (some (.int r), I', L, R)) 55 [(1, .ref (G.ad x1))] [] I15 L R := by
        refine V_aload_n C0 0 rfl rfl dX6_burn_55 ?_
        refine V_getR C0 8 0 fl_X6_72 c_x1.2 c_x1.1 rfl (rf_at qa2) dX6_burn_56 ?_
        refine V_bipush C0 (v := (43 : Int32)) (by decide) dX6_burn_59 ?_
        obtain ⟨v21, qv21, h⟩ := bnd_some h
        refine V_ri C0 (rf_lt qa2) (rf_kd qa2) qv21 dX6_burn_61 ?_
        cases h
        exact V_iret C0 dX6_burn_62
      refine V_if_eq C0 (tgt := 55) (by decide) dX6_burn_41 (fun c18 => ?_) (fun c18 => ?_)
      · have q16 := (if_pos c18).symm.trans q16
        cases q16
        exact V_sub [2] rfl k17
      · have q16 := (if_neg c18).symm.trans q16
        refine V_aload_n C0 0 rfl rfl dX6_burn_44 ?_
        refine V_getR C0 8 0 fl_X6_72 c6.2 c6.1 rfl (rf_at qa10) dX6_burn_45 ?_
        refine V_bipush C0 (v := (10 : Int32)) (by decide) dX6_burn_48 ?_
        refine V_dup2 C0 rfl rfl dX6_burn_50 ?_
        obtain ⟨v19, qv19, q16⟩ := bnd_some q16
        refine V_ri C0 (rf_lt qa10) (rf_kd qa10) qv19 dX6_burn_51 ?_
        refine V_iconst C0 (v := (1 : Int32)) (by decide) dX6_burn_52 ?_
        refine V_isub C0 dX6_burn_53 ?_
        obtain ⟨I20, qI20, q16⟩ := bnd_some q16
        refine V_wi C0 (rf_lt qa10) (rf_kd qa10) qI20 dX6_burn_54 ?_
        cases q16
        exact V_sub [2] rfl k17
    · have h := (if_neg c12).symm.trans h
      refine V_iconst C0 (v := (0 : Int32)) (by decide) dX6_burn_33 ?_
      cases h
      exact V_iret C0 dX6_burn_34
theorem dJ9_min_7cf53_0 : decode cJ9_min_7cf53 0 = .ok (.iload_n 0, 1) := by decide +kernel
theorem dJ9_min_7cf53_1 : decode cJ9_min_7cf53 1 = .ok (.iload_n 1, 1) := by decide +kernel
theorem dJ9_min_7cf53_2 : decode cJ9_min_7cf53 2 = .ok (.if_icmp .gt 7, 3) := by decide +kernel
theorem dJ9_min_7cf53_5 : decode cJ9_min_7cf53 5 = .ok (.iload_n 0, 1) := by decide +kernel
theorem dJ9_min_7cf53_6 : decode cJ9_min_7cf53 6 = .ok (.goto 4, 3) := by decide +kernel
theorem dJ9_min_7cf53_9 : decode cJ9_min_7cf53 9 = .ok (.iload_n 1, 1) := by decide +kernel
theorem dJ9_min_7cf53_10 : decode cJ9_min_7cf53 10 = .ok (.ireturn, 1) := by decide +kernel
def F_J9_min_7cf53 (x0 : Int32) (x1 : Int32) (I : MI) (L : ML) (R : MR) : Option (Int32) :=
  if x1 < x0 then
    some (x1)
  else
    some (x0)
set_option maxRecDepth 100000 in
set_option maxHeartbeats 4000000 in
theorem c_J9_min_7cf53 (l : Launch) (D : va_G) (cA : Nat → ClassId) (ad : Nat → Nat) (bs : Nat) (X : State → Prop) (hAd : Ax ad bs) (hX : Stb bs X) (x0 : Int32) (x1 : Int32) (I : MI) (L : ML) (R : MR) (r : Int32) (h : F_J9_min_7cf53 x0 x1 I L R = some (r)) : Cn l D cA ad bs X yJ9_min_7cf53 cJ9_min_7cf53 2 (some .int) 0 0 [.int x0, .int x1] I L R (some (.int r), I, L, R) := by
  refine Cn.ofV hAd hX [(0, .int x0), (1, .int x1)] rfl (Nat.le_of_ble_eq_true rfl) (by decide +kernel) ?_
  intro G el eD ecA ead ebs eX erm eNL C0
  subst el eD ecA ead ebs eX
  unfold F_J9_min_7cf53 at h
  refine V_iload_n C0 0 rfl rfl dJ9_min_7cf53_0 ?_
  refine V_iload_n C0 1 rfl rfl dJ9_min_7cf53_1 ?_
  refine V_icmp_gt C0 (tgt := 9) (by decide) dJ9_min_7cf53_2 (fun c1 => ?_) (fun c1 => ?_)
  · have h := (if_pos c1).symm.trans h
    refine V_iload_n C0 1 rfl rfl dJ9_min_7cf53_9 ?_
    cases h
    exact V_iret C0 dJ9_min_7cf53_10
  · have h := (if_neg c1).symm.trans h
    refine V_iload_n C0 0 rfl rfl dJ9_min_7cf53_5 ?_
    refine V_goto C0 (tgt := 10) (by decide) dJ9_min_7cf53_6 ?_
    cases h
    exact V_iret C0 dJ9_min_7cf53_10
theorem dX6_balance_0 : decode cX6_balance 0 = .ok (.iload_n 1, 1) := by decide +kernel
theorem dX6_balance_1 : decode cX6_balance 1 = .ok (.istore_n 2, 1) := by decide +kernel
theorem dX6_balance_2 : decode cX6_balance 2 = .ok (.iconst 0, 1) := by decide +kernel
theorem dX6_balance_3 : decode cX6_balance 3 = .ok (.istore_n 3, 1) := by decide +kernel
theorem dX6_balance_4 : decode cX6_balance 4 = .ok (.iload_n 3, 1) := by decide +kernel
theorem dX6_balance_5 : decode cX6_balance 5 = .ok (.aload_n 0, 1) := by decide +kernel
theorem dX6_balance_6 : decode cX6_balance 6 = .ok (.getfield 15, 3) := by decide +kernel
theorem dX6_balance_9 : decode cX6_balance 9 = .ok (.invokevirtual 32, 3) := by decide +kernel
theorem dX6_balance_12 : decode cX6_balance 12 = .ok (.if_icmp .ge 121, 3) := by decide +kernel
theorem dX6_balance_15 : decode cX6_balance 15 = .ok (.aload_n 0, 1) := by decide +kernel
theorem dX6_balance_16 : decode cX6_balance 16 = .ok (.getfield 15, 3) := by decide +kernel
theorem dX6_balance_19 : decode cX6_balance 19 = .ok (.iload_n 3, 1) := by decide +kernel
theorem dX6_balance_20 : decode cX6_balance 20 = .ok (.invokevirtual 38, 3) := by decide +kernel
theorem dX6_balance_23 : decode cX6_balance 23 = .ok (.astore 4, 2) := by decide +kernel
theorem dX6_balance_25 : decode cX6_balance 25 = .ok (.aload 4, 2) := by decide +kernel
theorem dX6_balance_27 : decode cX6_balance 27 = .ok (.iconst 2, 1) := by decide +kernel
theorem dX6_balance_28 : decode cX6_balance 28 = .ok (.invokevirtual 42, 3) := by decide +kernel
theorem dX6_balance_31 : decode cX6_balance 31 = .ok (.ifCond .eq 96, 3) := by decide +kernel
theorem dX6_balance_34 : decode cX6_balance 34 = .ok (.iload_n 2, 1) := by decide +kernel
theorem dX6_balance_35 : decode cX6_balance 35 = .ok (.ifCond .le 23, 3) := by decide +kernel
theorem dX6_balance_38 : decode cX6_balance 38 = .ok (.aload 4, 2) := by decide +kernel
theorem dX6_balance_40 : decode cX6_balance 40 = .ok (.getfield 72, 3) := by decide +kernel
theorem dX6_balance_43 : decode cX6_balance 43 = .ok (.bipush 9, 2) := by decide +kernel
theorem dX6_balance_45 : decode cX6_balance 45 = .ok (.iaload, 1) := by decide +kernel
theorem dX6_balance_46 : decode cX6_balance 46 = .ok (.aload 4, 2) := by decide +kernel
theorem dX6_balance_48 : decode cX6_balance 48 = .ok (.getfield 72, 3) := by decide +kernel
theorem dX6_balance_51 : decode cX6_balance 51 = .ok (.bipush 10, 2) := by decide +kernel
theorem dX6_balance_53 : decode cX6_balance 53 = .ok (.iaload, 1) := by decide +kernel
theorem dX6_balance_54 : decode cX6_balance 54 = .ok (.isub, 1) := by decide +kernel
theorem dX6_balance_55 : decode cX6_balance 55 = .ok (.goto 11, 3) := by decide +kernel
theorem dX6_balance_58 : decode cX6_balance 58 = .ok (.aload 4, 2) := by decide +kernel
theorem dX6_balance_60 : decode cX6_balance 60 = .ok (.getfield 72, 3) := by decide +kernel
theorem dX6_balance_63 : decode cX6_balance 63 = .ok (.bipush 10, 2) := by decide +kernel
theorem dX6_balance_65 : decode cX6_balance 65 = .ok (.iaload, 1) := by decide +kernel
theorem dX6_balance_66 : decode cX6_balance 66 = .ok (.istore 5, 2) := by decide +kernel
theorem dX6_balance_68 : decode cX6_balance 68 = .ok (.iconst 0, 1) := by decide +kernel
theorem dX6_balance_69 : decode cX6_balance 69 = .ok (.iload_n 2, 1) := by decide +kernel
theorem dX6_balance_70 : decode cX6_balance 70 = .ok (.invokestatic 92, 3) := by decide +kernel
theorem dX6_balance_73 : decode cX6_balance 73 = .ok (.aload 4, 2) := by decide +kernel
theorem dX6_balance_75 : decode cX6_balance 75 = .ok (.getfield 72, 3) := by decide +kernel
theorem dX6_balance_78 : decode cX6_balance 78 = .ok (.bipush 13, 2) := by decide +kernel
theorem dX6_balance_80 : decode cX6_balance 80 = .ok (.iaload, 1) := by decide +kernel
theorem dX6_balance_81 : decode cX6_balance 81 = .ok (.iload 5, 2) := by decide +kernel
theorem dX6_balance_83 : decode cX6_balance 83 = .ok (.invokestatic 98, 3) := by decide +kernel
theorem dX6_balance_86 : decode cX6_balance 86 = .ok (.invokestatic 98, 3) := by decide +kernel
theorem dX6_balance_89 : decode cX6_balance 89 = .ok (.invokestatic 101, 3) := by decide +kernel
theorem dX6_balance_92 : decode cX6_balance 92 = .ok (.istore 6, 2) := by decide +kernel
theorem dX6_balance_94 : decode cX6_balance 94 = .ok (.iload_n 2, 1) := by decide +kernel
theorem dX6_balance_95 : decode cX6_balance 95 = .ok (.ifCond .le 8, 3) := by decide +kernel
theorem dX6_balance_98 : decode cX6_balance 98 = .ok (.iload 6, 2) := by decide +kernel
theorem dX6_balance_100 : decode cX6_balance 100 = .ok (.goto 7, 3) := by decide +kernel
theorem dX6_balance_103 : decode cX6_balance 103 = .ok (.iconst 0, 1) := by decide +kernel
theorem dX6_balance_104 : decode cX6_balance 104 = .ok (.iload 6, 2) := by decide +kernel
theorem dX6_balance_106 : decode cX6_balance 106 = .ok (.isub, 1) := by decide +kernel
theorem dX6_balance_107 : decode cX6_balance 107 = .ok (.istore 7, 2) := by decide +kernel
theorem dX6_balance_109 : decode cX6_balance 109 = .ok (.aload 4, 2) := by decide +kernel
theorem dX6_balance_111 : decode cX6_balance 111 = .ok (.getfield 72, 3) := by decide +kernel
theorem dX6_balance_114 : decode cX6_balance 114 = .ok (.bipush 10, 2) := by decide +kernel
theorem dX6_balance_116 : decode cX6_balance 116 = .ok (.dup2, 1) := by decide +kernel
theorem dX6_balance_117 : decode cX6_balance 117 = .ok (.iaload, 1) := by decide +kernel
theorem dX6_balance_118 : decode cX6_balance 118 = .ok (.iload 7, 2) := by decide +kernel
theorem dX6_balance_120 : decode cX6_balance 120 = .ok (.iadd, 1) := by decide +kernel
theorem dX6_balance_121 : decode cX6_balance 121 = .ok (.iastore, 1) := by decide +kernel
theorem dX6_balance_122 : decode cX6_balance 122 = .ok (.iload_n 2, 1) := by decide +kernel
theorem dX6_balance_123 : decode cX6_balance 123 = .ok (.iload 7, 2) := by decide +kernel
theorem dX6_balance_125 : decode cX6_balance 125 = .ok (.isub, 1) := by decide +kernel
theorem dX6_balance_126 : decode cX6_balance 126 = .ok (.istore_n 2, 1) := by decide +kernel
theorem dX6_balance_127 : decode cX6_balance 127 = .ok (.iinc 3 1, 3) := by decide +kernel
theorem dX6_balance_130 : decode cX6_balance 130 = .ok (.goto (-126), 3) := by decide +kernel
theorem dX6_balance_133 : decode cX6_balance 133 = .ok (.iload_n 2, 1) := by decide +kernel
theorem dX6_balance_134 : decode cX6_balance 134 = .ok (.ireturn, 1) := by decide +kernel
def LF_X6_balance_4 (N : Nat) : Nat → Nat → Int32 → Int32 → MI → ML → MR → Option (Int32 × MI)
  | 0, _, _, _, _, _, _ => none
  | k + 1, y0, y2, y3, I, L, R =>
    (rf R y0 0 9).bind fun a1 =>
    bn1 (F_X10_size a1 I L R) fun v2 =>
    if v2 ≤ y3 then
      some (y2, I)
    else
      bn1 (F_X10_unitAt a1 y3 I L R) fun a5 =>
      if kd a5 = 8 ∧ a5 < NN then
      bn1 (F_X9_isWhole a5 (2 : Int32) I L R) fun b8 =>
      bn2 (
        if (b2i b8) = 0 then
          some (y2, I)
        else
          bn1 (
            if y2 ≤ 0 then
              (rf R a5 0 20).bind fun a19 =>
              (ri I a19 (10 : Int32)).bind fun v20 =>
              some (v20)
            else
              (rf R a5 0 20).bind fun a21 =>
              (ri I a21 (9 : Int32)).bind fun v22 =>
              (ri I a21 (10 : Int32)).bind fun v23 =>
              some ((v22 - v23))
          ) fun (s15 : Int32) =>
          bn1 (F_J9_abs_0f7a4 y2 I L R) fun v24 =>
          (rf R a5 0 20).bind fun a26 =>
          (ri I a26 (13 : Int32)).bind fun v27 =>
          bn1 (F_J9_min_7cf53 v27 s15 I L R) fun v28 =>
          bn1 (F_J9_min_7cf53 v24 v28 I L R) fun v30 =>
          bn1 (F_J9_max_7cf53 (0 : Int32) v30 I L R) fun v32 =>
          bn1 (
            if y2 ≤ 0 then
              some (((0 : Int32) - v32))
            else
              some (v32)
          ) fun (s34 : Int32) =>
          (ri I a26 (10 : Int32)).bind fun v38 =>
          (wi I a26 (10 : Int32) (v38 + s34)).bind fun I39 =>
          wr (y2 - s34) fun (u40 : Int32) =>
          some (u40, I39)
      ) fun (u10 : Int32) (I11 : MI) =>
      wr (y3 + (1 : Int32)) fun (u41 : Int32) =>
      LF_X6_balance_4 N k y0 u10 u41 I11 L R
      else none
def F_X6_balance (N : Nat) (x0 : Nat) (x1 : Int32) (I : MI) (L : ML) (R : MR) : Option (Int32 × MI) :=
  if kd x0 = 5 ∧ x0 < NN then
  bn1 (LF_X6_balance_4 N N x0 x1 (0 : Int32) I L R) fun z42 =>
  some (z42.1, z42.2)
  else none
set_option maxRecDepth 100000 in
set_option maxHeartbeats 4000000 in
theorem lp_X6_balance_4 {G : Gm} (C0 : Cx G (yX6_balance.cls) cX6_balance (some .int)) (eNL : G.nL = 8) (erm : G.rm = ({ frames := 2, cells := 0, slots := 0, locals := 42 } : Room)) (N : Nat) : ∀ (k : Nat) (y0 : Nat) (y2 : Int32) (y3 : Int32) (I : MI) (L : ML) (R : MR) (z : Int32 × MI) (hk0 : kd y0 = 5) (ho0 : y0 < NN), LF_X6_balance_4 N k y0 y2 y3 I L R = some z → ∀ f : State → Prop, V G f 133 [(2, .int z.1)] [] z.2 L R → V G f 4 [(0, .ref (G.ad y0)), (2, .int y2), (3, .int y3)] [] I L R := by
  intro k
  induction k with
  | zero =>
    intro y0 y2 y3 I L R q hk0 ho0 h
    exact absurd h (by simp [LF_X6_balance_4])
  | succ k ih =>
    intro y0 y2 y3 I L R q hk0 ho0 h f kx
    rw [LF_X6_balance_4] at h
    refine V_iload_n C0 2 rfl rfl dX6_balance_4 ?_
    refine V_aload_n C0 0 rfl rfl dX6_balance_5 ?_
    obtain ⟨a1, qa1, h⟩ := bnd_some h
    refine V_getR C0 5 0 fl_X6_15 ho0 hk0 rfl (rf_at qa1) dX6_balance_6 ?_
    obtain ⟨v2, q3, h⟩ := bn1_some h
    refine V_callV C0 (st := [.int y3]) (As := []) 9 (c_X10_size G.l G.D G.cA G.ad G.bs G.X C0.2.2.2.2.2.2.2.2.2.1 C0.2.2.2.2.2.2.2.2.2.2.2.2 a1 I L R v2 q3) lc_X10_size lk_X6_32 (rf_lt qa1) (rf_kd qa1) ⟨_, rfl, rfl⟩ rfl (by rw [erm]; decide) (Nat.le_of_ble_eq_true rfl) dX6_balance_9 ?_
    show V G _ 12 [(0, .ref (G.ad y0)), (2, .int y2), (3, .int y3)] [.int v2, .int y3] I L R
    refine V_icmp_ge C0 (tgt := 133) (by decide) dX6_balance_12 (fun c4 => ?_) (fun c4 => ?_)
    · have h := (if_pos c4).symm.trans h
      cases h
      exact V_sub [1] rfl kx
    · have h := (if_neg c4).symm.trans h
      refine V_aload_n C0 0 rfl rfl dX6_balance_15 ?_
      refine V_getR C0 5 0 fl_X6_15 ho0 hk0 rfl (rf_at qa1) dX6_balance_16 ?_
      refine V_iload_n C0 2 rfl rfl dX6_balance_19 ?_
      obtain ⟨a5, q6, h⟩ := bn1_some h
      refine V_callV C0 (st := []) (As := [.int y3]) 9 (c_X10_unitAt G.l G.D G.cA G.ad G.bs G.X C0.2.2.2.2.2.2.2.2.2.1 C0.2.2.2.2.2.2.2.2.2.2.2.2 a1 y3 I L R a5 q6) lc_X10_unitAt lk_X6_38 (rf_lt qa1) (rf_kd qa1) ⟨_, rfl, rfl⟩ rfl (by rw [erm]; decide) (Nat.le_of_ble_eq_true rfl) dX6_balance_20 ?_
      show V G _ 23 [(0, .ref (G.ad y0)), (2, .int y2), (3, .int y3)] [.ref (G.ad a5)] I L R
      obtain ⟨c7, h⟩ := ite_some h
      refine V_astore C0 [(4, .ref (G.ad a5)), (0, .ref (G.ad y0)), (2, .int y2), (3, .int y3)] (by rw [eNL]; decide) rfl dX6_balance_23 ?_
      refine V_aload C0 0 rfl dX6_balance_25 ?_
      refine V_iconst C0 (v := (2 : Int32)) (by decide) dX6_balance_27 ?_
      obtain ⟨b8, q9, h⟩ := bn1_some h
      refine V_callV C0 (st := []) (As := [.int (2 : Int32)]) 8 (c_X9_isWhole G.l G.D G.cA G.ad G.bs G.X C0.2.2.2.2.2.2.2.2.2.1 C0.2.2.2.2.2.2.2.2.2.2.2.2 a5 (2 : Int32) I L R b8 q9) lc_X9_isWhole lk_X6_42 c7.2 c7.1 ⟨_, rfl, rfl⟩ rfl (by rw [erm]; decide) (Nat.le_of_ble_eq_true rfl) dX6_balance_28 ?_
      show V G _ 31 [(4, .ref (G.ad a5)), (0, .ref (G.ad y0)), (2, .int y2), (3, .int y3)] [.int (b2i b8)] I L R
      obtain ⟨u10, I11, q12, h⟩ := bn2_some h
      have k13 : V G f 127 [(0, .ref (G.ad y0)), (2, .int u10), (3, .int y3)] [] I11 L R := by
        obtain ⟨u41, eu41, h⟩ := wr_some h
        refine V_iinc C0 2 [(3, .int u41), (0, .ref (G.ad y0)), (2, .int u10)] rfl (n := 1) (by rw [eu41]; rfl) (by rw [eNL]; decide) rfl dX6_balance_127 ?_
        refine V_goto C0 (tgt := 4) (by decide) dX6_balance_130 ?_
        exact V_sub [1, 2, 0] rfl (ih y0 u10 u41 I11 L R _ hk0 ho0 h f kx)
      refine V_if_eq C0 (tgt := 127) (by decide) dX6_balance_31 (fun c14 => ?_) (fun c14 => ?_)
      · have q12 := (if_pos c14).symm.trans q12
        cases q12
        exact V_sub [1, 2, 3] rfl k13
      · have q12 := (if_neg c14).symm.trans q12
        refine V_iload_n C0 2 rfl rfl dX6_balance_34 ?_
        obtain ⟨s15, q16, q12⟩ := bn1_some q12
        have k17 : V G f 66 [(0, .ref (G.ad y0)), (2, .int y2), (3, .int y3), (4, .ref (G.ad a5))] [.int s15] I L R := by
          refine V_istore C0 [(5, .int s15), (0, .ref (G.ad y0)), (2, .int y2), (3, .int y3), (4, .ref (G.ad a5))] (by rw [eNL]; decide) rfl dX6_balance_66 ?_
          refine V_iconst C0 (v := (0 : Int32)) (by decide) dX6_balance_68 ?_
          refine V_iload_n C0 2 rfl rfl dX6_balance_69 ?_
          obtain ⟨v24, q25, q12⟩ := bn1_some q12
          refine V_callS C0 (st := [.int (0 : Int32)]) (As := [.int y2]) (c_J9_abs_0f7a4 G.l G.D G.cA G.ad G.bs G.X C0.2.2.2.2.2.2.2.2.2.1 C0.2.2.2.2.2.2.2.2.2.2.2.2 y2 I L R v24 q25) lc_J9_abs_0f7a4 lk_X6_92 rfl (by rw [erm]; decide) (Nat.le_of_ble_eq_true rfl) dX6_balance_70 ?_
          show V G _ 73 [(5, .int s15), (0, .ref (G.ad y0)), (2, .int y2), (3, .int y3), (4, .ref (G.ad a5))] [.int v24, .int (0 : Int32)] I L R
          refine V_aload C0 4 rfl dX6_balance_73 ?_
          obtain ⟨a26, qa26, q12⟩ := bnd_some q12
          refine V_getR C0 8 0 fl_X6_72 c7.2 c7.1 rfl (rf_at qa26) dX6_balance_75 ?_
          refine V_bipush C0 (v := (13 : Int32)) (by decide) dX6_balance_78 ?_
          obtain ⟨v27, qv27, q12⟩ := bnd_some q12
          refine V_ri C0 (rf_lt qa26) (rf_kd qa26) qv27 dX6_balance_80 ?_
          refine V_iload C0 0 rfl dX6_balance_81 ?_
          obtain ⟨v28, q29, q12⟩ := bn1_some q12
          refine V_callS C0 (st := [.int v24, .int (0 : Int32)]) (As := [.int v27, .int s15]) (c_J9_min_7cf53 G.l G.D G.cA G.ad G.bs G.X C0.2.2.2.2.2.2.2.2.2.1 C0.2.2.2.2.2.2.2.2.2.2.2.2 v27 s15 I L R v28 q29) lc_J9_min_7cf53 lk_X6_98 rfl (by rw [erm]; decide) (Nat.le_of_ble_eq_true rfl) dX6_balance_83 ?_
          show V G _ 86 [(5, .int s15), (0, .ref (G.ad y0)), (2, .int y2), (3, .int y3), (4, .ref (G.ad a5))] [.int v28, .int v24, .int (0 : Int32)] I L R
          obtain ⟨v30, q31, q12⟩ := bn1_some q12
          refine V_callS C0 (st := [.int (0 : Int32)]) (As := [.int v24, .int v28]) (c_J9_min_7cf53 G.l G.D G.cA G.ad G.bs G.X C0.2.2.2.2.2.2.2.2.2.1 C0.2.2.2.2.2.2.2.2.2.2.2.2 v24 v28 I L R v30 q31) lc_J9_min_7cf53 lk_X6_98 rfl (by rw [erm]; decide) (Nat.le_of_ble_eq_true rfl) dX6_balance_86 ?_
          show V G _ 89 [(5, .int s15), (0, .ref (G.ad y0)), (2, .int y2), (3, .int y3), (4, .ref (G.ad a5))] [.int v30, .int (0 : Int32)] I L R
          obtain ⟨v32, q33, q12⟩ := bn1_some q12
          refine V_callS C0 (st := []) (As := [.int (0 : Int32), .int v30]) (c_J9_max_7cf53 G.l G.D G.cA G.ad G.bs G.X C0.2.2.2.2.2.2.2.2.2.1 C0.2.2.2.2.2.2.2.2.2.2.2.2 (0 : Int32) v30 I L R v32 q33) lc_J9_max_7cf53 lk_X6_101 rfl (by rw [erm]; decide) (Nat.le_of_ble_eq_true rfl) dX6_balance_89 ?_
          show V G _ 92 [(5, .int s15), (0, .ref (G.ad y0)), (2, .int y2), (3, .int y3), (4, .ref (G.ad a5))] [.int v32] I L R
          refine V_istore C0 [(6, .int v32), (5, .int s15), (0, .ref (G.ad y0)), (2, .int y2), (3, .int y3), (4, .ref (G.ad a5))] (by rw [eNL]; decide) rfl dX6_balance_92 ?_
          refine V_iload_n C0 3 rfl rfl dX6_balance_94 ?_
          obtain ⟨s34, q35, q12⟩ := bn1_some q12
          have k36 : V G f 107 [(0, .ref (G.ad y0)), (2, .int y2), (3, .int y3), (4, .ref (G.ad a5))] [.int s34] I L R := by
            refine V_istore C0 [(7, .int s34), (0, .ref (G.ad y0)), (2, .int y2), (3, .int y3), (4, .ref (G.ad a5))] (by rw [eNL]; decide) rfl dX6_balance_107 ?_
            refine V_aload C0 4 rfl dX6_balance_109 ?_
            refine V_getR C0 8 0 fl_X6_72 c7.2 c7.1 rfl (rf_at qa26) dX6_balance_111 ?_
            refine V_bipush C0 (v := (10 : Int32)) (by decide) dX6_balance_114 ?_
            refine V_dup2 C0 rfl rfl dX6_balance_116 ?_
            obtain ⟨v38, qv38, q12⟩ := bnd_some q12
            refine V_ri C0 (rf_lt qa26) (rf_kd qa26) qv38 dX6_balance_117 ?_
            refine V_iload C0 0 rfl dX6_balance_118 ?_
            refine V_iadd C0 dX6_balance_120 ?_
            obtain ⟨I39, qI39, q12⟩ := bnd_some q12
            refine V_wi C0 (rf_lt qa26) (rf_kd qa26) qI39 dX6_balance_121 ?_
            refine V_iload_n C0 2 rfl rfl dX6_balance_122 ?_
            refine V_iload C0 0 rfl dX6_balance_123 ?_
            refine V_isub C0 dX6_balance_125 ?_
            obtain ⟨u40, eu40, q12⟩ := wr_some q12
            rw [← eu40]
            refine V_istore_n C0 [(2, .int u40), (7, .int s34), (0, .ref (G.ad y0)), (3, .int y3), (4, .ref (G.ad a5))] rfl (by rw [eNL]; decide) rfl dX6_balance_126 ?_
            cases q12
            exact V_sub [2, 0, 3] rfl k13
          refine V_if_le C0 (tgt := 103) (by decide) dX6_balance_95 (fun c37 => ?_) (fun c37 => ?_)
          · have q35 := (if_pos c37).symm.trans q35
            refine V_iconst C0 (v := (0 : Int32)) (by decide) dX6_balance_103 ?_
            refine V_iload C0 0 rfl dX6_balance_104 ?_
            refine V_isub C0 dX6_balance_106 ?_
            cases q35
            exact V_sub [2, 3, 4, 5] rfl k36
          · have q35 := (if_neg c37).symm.trans q35
            refine V_iload C0 0 rfl dX6_balance_98 ?_
            refine V_goto C0 (tgt := 107) (by decide) dX6_balance_100 ?_
            cases q35
            exact V_sub [2, 3, 4, 5] rfl k36
        refine V_if_le C0 (tgt := 58) (by decide) dX6_balance_35 (fun c18 => ?_) (fun c18 => ?_)
        · have q16 := (if_pos c18).symm.trans q16
          refine V_aload C0 0 rfl dX6_balance_58 ?_
          obtain ⟨a19, qa19, q16⟩ := bnd_some q16
          refine V_getR C0 8 0 fl_X6_72 c7.2 c7.1 rfl (rf_at qa19) dX6_balance_60 ?_
          refine V_bipush C0 (v := (10 : Int32)) (by decide) dX6_balance_63 ?_
          obtain ⟨v20, qv20, q16⟩ := bnd_some q16
          refine V_ri C0 (rf_lt qa19) (rf_kd qa19) qv20 dX6_balance_65 ?_
          cases q16
          exact V_sub [1, 2, 3, 0] rfl k17
        · have q16 := (if_neg c18).symm.trans q16
          refine V_aload C0 0 rfl dX6_balance_38 ?_
          obtain ⟨a21, qa21, q16⟩ := bnd_some q16
          refine V_getR C0 8 0 fl_X6_72 c7.2 c7.1 rfl (rf_at qa21) dX6_balance_40 ?_
          refine V_bipush C0 (v := (9 : Int32)) (by decide) dX6_balance_43 ?_
          obtain ⟨v22, qv22, q16⟩ := bnd_some q16
          refine V_ri C0 (rf_lt qa21) (rf_kd qa21) qv22 dX6_balance_45 ?_
          refine V_aload C0 0 rfl dX6_balance_46 ?_
          refine V_getR C0 8 0 fl_X6_72 c7.2 c7.1 rfl (rf_at qa21) dX6_balance_48 ?_
          refine V_bipush C0 (v := (10 : Int32)) (by decide) dX6_balance_51 ?_
          obtain ⟨v23, qv23, q16⟩ := bnd_some q16
          refine V_ri C0 (rf_lt qa21) (rf_kd qa21) qv23 dX6_balance_53 ?_
          refine V_isub C0 dX6_balance_54 ?_
          refine V_goto C0 (tgt := 66) (by decide) dX6_balance_55 ?_
          cases q16
          exact V_sub [1, 2, 3, 0] rfl k17
set_option maxRecDepth 100000 in
set_option maxHeartbeats 4000000 in
theorem c_X6_balance (l : Launch) (D : va_G) (cA : Nat → ClassId) (ad : Nat → Nat) (bs : Nat) (X : State → Prop) (hAd : Ax ad bs) (hX : Stb bs X) (N : Nat) (x0 : Nat) (x1 : Int32) (I : MI) (L : ML) (R : MR) (r : Int32) (I' : MI) (h : F_X6_balance N x0 x1 I L R = some (r, I')) : Cn l D cA ad bs X yX6_balance cX6_balance 8 (some .int) 2 42 [.ref (ad x0), .int x1] I L R (some (.int r), I', L, R) := by
  refine Cn.ofV hAd hX [(0, .ref (ad x0)), (1, .int x1)] rfl (Nat.le_of_ble_eq_true rfl) (by decide) ?_
  intro G el eD ecA ead ebs eX erm eNL C0
  subst el eD ecA ead ebs eX
  unfold F_X6_balance at h
  obtain ⟨c_x0, h⟩ := ite_some h
  refine V_iload_n C0 1 rfl rfl dX6_balance_0 ?_
  refine V_istore_n C0 [(2, .int x1), (0, .ref (G.ad x0)), (1, .int x1)] rfl (by rw [eNL]; decide) rfl dX6_balance_1 ?_
  refine V_iconst C0 (v := (0 : Int32)) (by decide) dX6_balance_2 ?_
  refine V_istore_n C0 [(3, .int (0 : Int32)), (2, .int x1), (0, .ref (G.ad x0)), (1, .int x1)] rfl (by rw [eNL]; decide) rfl dX6_balance_3 ?_
  obtain ⟨z42, q43, h⟩ := bn1_some h
  refine V_sub [2, 1, 0] rfl (lp_X6_balance_4 C0 eNL erm N N x0 x1 (0 : Int32) I L R _ c_x0.1 c_x0.2 q43 _ ?_)
  show V G _ 133 [(2, .int z42.1)] [] z42.2 L R
  refine V_iload_n C0 0 rfl rfl dX6_balance_133 ?_
  cases h
  exact V_iret C0 dX6_balance_134
theorem dX6_shed_0 : decode cX6_shed 0 = .ok (.iconst (-1), 1) := by decide +kernel
theorem dX6_shed_1 : decode cX6_shed 1 = .ok (.istore_n 1, 1) := by decide +kernel
theorem dX6_shed_2 : decode cX6_shed 2 = .ok (.iconst 0, 1) := by decide +kernel
theorem dX6_shed_3 : decode cX6_shed 3 = .ok (.istore_n 2, 1) := by decide +kernel
theorem dX6_shed_4 : decode cX6_shed 4 = .ok (.iload_n 2, 1) := by decide +kernel
theorem dX6_shed_5 : decode cX6_shed 5 = .ok (.aload_n 0, 1) := by decide +kernel
theorem dX6_shed_6 : decode cX6_shed 6 = .ok (.getfield 15, 3) := by decide +kernel
theorem dX6_shed_9 : decode cX6_shed 9 = .ok (.invokevirtual 32, 3) := by decide +kernel
theorem dX6_shed_12 : decode cX6_shed 12 = .ok (.if_icmp .ge 58, 3) := by decide +kernel
theorem dX6_shed_15 : decode cX6_shed 15 = .ok (.aload_n 0, 1) := by decide +kernel
theorem dX6_shed_16 : decode cX6_shed 16 = .ok (.getfield 15, 3) := by decide +kernel
theorem dX6_shed_19 : decode cX6_shed 19 = .ok (.iload_n 2, 1) := by decide +kernel
theorem dX6_shed_20 : decode cX6_shed 20 = .ok (.invokevirtual 38, 3) := by decide +kernel
theorem dX6_shed_23 : decode cX6_shed 23 = .ok (.astore_n 3, 1) := by decide +kernel
theorem dX6_shed_24 : decode cX6_shed 24 = .ok (.aload_n 3, 1) := by decide +kernel
theorem dX6_shed_25 : decode cX6_shed 25 = .ok (.bipush 6, 2) := by decide +kernel
theorem dX6_shed_27 : decode cX6_shed 27 = .ok (.invokevirtual 59, 3) := by decide +kernel
theorem dX6_shed_30 : decode cX6_shed 30 = .ok (.ifCond .eq 34, 3) := by decide +kernel
theorem dX6_shed_33 : decode cX6_shed 33 = .ok (.iload_n 1, 1) := by decide +kernel
theorem dX6_shed_34 : decode cX6_shed 34 = .ok (.iconst (-1), 1) := by decide +kernel
theorem dX6_shed_35 : decode cX6_shed 35 = .ok (.if_icmp .eq 27, 3) := by decide +kernel
theorem dX6_shed_38 : decode cX6_shed 38 = .ok (.aload_n 3, 1) := by decide +kernel
theorem dX6_shed_39 : decode cX6_shed 39 = .ok (.getfield 72, 3) := by decide +kernel
theorem dX6_shed_42 : decode cX6_shed 42 = .ok (.bipush 21, 2) := by decide +kernel
theorem dX6_shed_44 : decode cX6_shed 44 = .ok (.iaload, 1) := by decide +kernel
theorem dX6_shed_45 : decode cX6_shed 45 = .ok (.aload_n 0, 1) := by decide +kernel
theorem dX6_shed_46 : decode cX6_shed 46 = .ok (.getfield 15, 3) := by decide +kernel
theorem dX6_shed_49 : decode cX6_shed 49 = .ok (.iload_n 1, 1) := by decide +kernel
theorem dX6_shed_50 : decode cX6_shed 50 = .ok (.invokevirtual 38, 3) := by decide +kernel
theorem dX6_shed_53 : decode cX6_shed 53 = .ok (.getfield 72, 3) := by decide +kernel
theorem dX6_shed_56 : decode cX6_shed 56 = .ok (.bipush 21, 2) := by decide +kernel
theorem dX6_shed_58 : decode cX6_shed 58 = .ok (.iaload, 1) := by decide +kernel
theorem dX6_shed_59 : decode cX6_shed 59 = .ok (.if_icmp .lt 5, 3) := by decide +kernel
theorem dX6_shed_62 : decode cX6_shed 62 = .ok (.iload_n 2, 1) := by decide +kernel
theorem dX6_shed_63 : decode cX6_shed 63 = .ok (.istore_n 1, 1) := by decide +kernel
theorem dX6_shed_64 : decode cX6_shed 64 = .ok (.iinc 2 1, 3) := by decide +kernel
theorem dX6_shed_67 : decode cX6_shed 67 = .ok (.goto (-63), 3) := by decide +kernel
theorem dX6_shed_70 : decode cX6_shed 70 = .ok (.iload_n 1, 1) := by decide +kernel
theorem dX6_shed_71 : decode cX6_shed 71 = .ok (.iconst (-1), 1) := by decide +kernel
theorem dX6_shed_72 : decode cX6_shed 72 = .ok (.if_icmp .eq 18, 3) := by decide +kernel
theorem dX6_shed_75 : decode cX6_shed 75 = .ok (.aload_n 0, 1) := by decide +kernel
theorem dX6_shed_76 : decode cX6_shed 76 = .ok (.getfield 15, 3) := by decide +kernel
theorem dX6_shed_79 : decode cX6_shed 79 = .ok (.iload_n 1, 1) := by decide +kernel
theorem dX6_shed_80 : decode cX6_shed 80 = .ok (.invokevirtual 38, 3) := by decide +kernel
theorem dX6_shed_83 : decode cX6_shed 83 = .ok (.getfield 72, 3) := by decide +kernel
theorem dX6_shed_86 : decode cX6_shed 86 = .ok (.bipush 22, 2) := by decide +kernel
theorem dX6_shed_88 : decode cX6_shed 88 = .ok (.iconst 0, 1) := by decide +kernel
theorem dX6_shed_89 : decode cX6_shed 89 = .ok (.iastore, 1) := by decide +kernel
theorem dX6_shed_90 : decode cX6_shed 90 = .ok (.return_, 1) := by decide +kernel
def LF_X6_shed_4 (N : Nat) : Nat → Nat → Int32 → Int32 → MI → ML → MR → Option (Int32)
  | 0, _, _, _, _, _, _ => none
  | k + 1, y0, y1, y2, I, L, R =>
    (rf R y0 0 9).bind fun a1 =>
    bn1 (F_X10_size a1 I L R) fun v2 =>
    if v2 ≤ y2 then
      some (y1)
    else
      bn1 (F_X10_unitAt a1 y2 I L R) fun a5 =>
      if kd a5 = 8 ∧ a5 < NN then
      bn1 (F_X9_isOn a5 (6 : Int32) I L R) fun b8 =>
      bn1 (
        if (b2i b8) = 0 then
          some (y1)
        else
          bn1 (
            if y1 = (-1 : Int32) then
              some (y2)
            else
              (rf R a5 0 20).bind fun a18 =>
              (ri I a18 (21 : Int32)).bind fun v19 =>
              bn1 (F_X10_unitAt a1 y1 I L R) fun a20 =>
              if kd a20 = 8 ∧ a20 < NN then
              (rf R a20 0 20).bind fun a23 =>
              (ri I a23 (21 : Int32)).bind fun v24 =>
              bn1 (
                if v19 < v24 then
                  some (y1)
                else
                  some (y2)
              ) fun (u25 : Int32) =>
              some (u25)
              else none
          ) fun (u14 : Int32) =>
          some (u14)
      ) fun (u10 : Int32) =>
      wr (y2 + (1 : Int32)) fun (u29 : Int32) =>
      LF_X6_shed_4 N k y0 u10 u29 I L R
      else none
def F_X6_shed (N : Nat) (x0 : Nat) (I : MI) (L : ML) (R : MR) : Option (MI) :=
  if kd x0 = 5 ∧ x0 < NN then
  bn1 (LF_X6_shed_4 N N x0 (-1 : Int32) (0 : Int32) I L R) fun z30 =>
  if z30 = (-1 : Int32) then
    some (I)
  else
    (rf R x0 0 9).bind fun a33 =>
    bn1 (F_X10_unitAt a33 z30 I L R) fun a34 =>
    if kd a34 = 8 ∧ a34 < NN then
    (rf R a34 0 20).bind fun a37 =>
    (wi I a37 (22 : Int32) (0 : Int32)).bind fun I38 =>
    some (I38)
    else none
  else none
set_option maxRecDepth 100000 in
set_option maxHeartbeats 4000000 in
theorem lp_X6_shed_4 {G : Gm} (C0 : Cx G (yX6_shed.cls) cX6_shed none) (eNL : G.nL = 4) (erm : G.rm = ({ frames := 2, cells := 0, slots := 0, locals := 42 } : Room)) (N : Nat) : ∀ (k : Nat) (y0 : Nat) (y1 : Int32) (y2 : Int32) (I : MI) (L : ML) (R : MR) (z : Int32) (hk0 : kd y0 = 5) (ho0 : y0 < NN), LF_X6_shed_4 N k y0 y1 y2 I L R = some z → ∀ f : State → Prop, V G f 70 [(0, .ref (G.ad y0)), (1, .int z)] [] I L R → V G f 4 [(0, .ref (G.ad y0)), (1, .int y1), (2, .int y2)] [] I L R := by
  intro k
  induction k with
  | zero =>
    intro y0 y1 y2 I L R q hk0 ho0 h
    exact absurd h (by simp [LF_X6_shed_4])
  | succ k ih =>
    intro y0 y1 y2 I L R q hk0 ho0 h f kx
    rw [LF_X6_shed_4] at h
    refine V_iload_n C0 2 rfl rfl dX6_shed_4 ?_
    refine V_aload_n C0 0 rfl rfl dX6_shed_5 ?_
    obtain ⟨a1, qa1, h⟩ := bnd_some h
    refine V_getR C0 5 0 fl_X6_15 ho0 hk0 rfl (rf_at qa1) dX6_shed_6 ?_
    obtain ⟨v2, q3, h⟩ := bn1_some h
    refine V_callV C0 (st := [.int y2]) (As := []) 9 (c_X10_size G.l G.D G.cA G.ad G.bs G.X C0.2.2.2.2.2.2.2.2.2.1 C0.2.2.2.2.2.2.2.2.2.2.2.2 a1 I L R v2 q3) lc_X10_size lk_X6_32 (rf_lt qa1) (rf_kd qa1) ⟨_, rfl, rfl⟩ rfl (by rw [erm]; decide) (Nat.le_of_ble_eq_true rfl) dX6_shed_9 ?_
    show V G _ 12 [(0, .ref (G.ad y0)), (1, .int y1), (2, .int y2)] [.int v2, .int y2] I L R
    refine V_icmp_ge C0 (tgt := 70) (by decide) dX6_shed_12 (fun c4 => ?_) (fun c4 => ?_)
    · have h := (if_pos c4).symm.trans h
      cases h
      exact V_sub [0, 1] rfl kx
    · have h := (if_neg c4).symm.trans h
      refine V_aload_n C0 0 rfl rfl dX6_shed_15 ?_
      refine V_getR C0 5 0 fl_X6_15 ho0 hk0 rfl (rf_at qa1) dX6_shed_16 ?_
      refine V_iload_n C0 2 rfl rfl dX6_shed_19 ?_
      obtain ⟨a5, q6, h⟩ := bn1_some h
      refine V_callV C0 (st := []) (As := [.int y2]) 9 (c_X10_unitAt G.l G.D G.cA G.ad G.bs G.X C0.2.2.2.2.2.2.2.2.2.1 C0.2.2.2.2.2.2.2.2.2.2.2.2 a1 y2 I L R a5 q6) lc_X10_unitAt lk_X6_38 (rf_lt qa1) (rf_kd qa1) ⟨_, rfl, rfl⟩ rfl (by rw [erm]; decide) (Nat.le_of_ble_eq_true rfl) dX6_shed_20 ?_
      show V G _ 23 [(0, .ref (G.ad y0)), (1, .int y1), (2, .int y2)] [.ref (G.ad a5)] I L R
      obtain ⟨c7, h⟩ := ite_some h
      refine V_astore_n C0 [(3, .ref (G.ad a5)), (0, .ref (G.ad y0)), (1, .int y1), (2, .int y2)] rfl (by rw [eNL]; decide) rfl dX6_shed_23 ?_
      refine V_aload_n C0 0 rfl rfl dX6_shed_24 ?_
      refine V_bipush C0 (v := (6 : Int32)) (by decide) dX6_shed_25 ?_
      obtain ⟨b8, q9, h⟩ := bn1_some h
      refine V_callV C0 (st := []) (As := [.int (6 : Int32)]) 8 (c_X9_isOn G.l G.D G.cA G.ad G.bs G.X C0.2.2.2.2.2.2.2.2.2.1 C0.2.2.2.2.2.2.2.2.2.2.2.2 a5 (6 : Int32) I L R b8 q9) lc_X9_isOn lk_X6_59 c7.2 c7.1 ⟨_, rfl, rfl⟩ rfl (by rw [erm]; decide) (Nat.le_of_ble_eq_true rfl) dX6_shed_27 ?_
      show V G _ 30 [(3, .ref (G.ad a5)), (0, .ref (G.ad y0)), (1, .int y1), (2, .int y2)] [.int (b2i b8)] I L R
      obtain ⟨u10, q11, h⟩ := bn1_some h
      have k12 : V G f 64 [(0, .ref (G.ad y0)), (1, .int u10), (2, .int y2)] [] I L R := by
        obtain ⟨u29, eu29, h⟩ := wr_some h
        refine V_iinc C0 2 [(2, .int u29), (0, .ref (G.ad y0)), (1, .int u10)] rfl (n := 1) (by rw [eu29]; rfl) (by rw [eNL]; decide) rfl dX6_shed_64 ?_
        refine V_goto C0 (tgt := 4) (by decide) dX6_shed_67 ?_
        exact V_sub [1, 2, 0] rfl (ih y0 u10 u29 I L R _ hk0 ho0 h f kx)
      refine V_if_eq C0 (tgt := 64) (by decide) dX6_shed_30 (fun c13 => ?_) (fun c13 => ?_)
      · have q11 := (if_pos c13).symm.trans q11
        cases q11
        exact V_sub [1, 2, 3] rfl k12
      · have q11 := (if_neg c13).symm.trans q11
        refine V_iload_n C0 2 rfl rfl dX6_shed_33 ?_
        refine V_iconst C0 (v := (-1 : Int32)) (by decide) dX6_shed_34 ?_
        obtain ⟨u14, q15, q11⟩ := bn1_some q11
        have k16 : V G f 64 [(0, .ref (G.ad y0)), (1, .int u14), (2, .int y2)] [] I L R := by
          cases q11
          exact V_sub [0, 1, 2] rfl k12
        refine V_icmp_eq C0 (tgt := 62) (by decide) dX6_shed_35 (fun c17 => ?_) (fun c17 => ?_)
        · have q15 := (if_pos c17).symm.trans q15
          refine V_iload_n C0 3 rfl rfl dX6_shed_62 ?_
          refine V_istore_n C0 [(1, .int y2), (3, .ref (G.ad a5)), (0, .ref (G.ad y0)), (2, .int y2)] rfl (by rw [eNL]; decide) rfl dX6_shed_63 ?_
          cases q15
          exact V_sub [2, 0, 3] rfl k16
        · have q15 := (if_neg c17).symm.trans q15
          refine V_aload_n C0 0 rfl rfl dX6_shed_38 ?_
          obtain ⟨a18, qa18, q15⟩ := bnd_some q15
          refine V_getR C0 8 0 fl_X6_72 c7.2 c7.1 rfl (rf_at qa18) dX6_shed_39 ?_
          refine V_bipush C0 (v := (21 : Int32)) (by decide) dX6_shed_42 ?_
          obtain ⟨v19, qv19, q15⟩ := bnd_some q15
          refine V_ri C0 (rf_lt qa18) (rf_kd qa18) qv19 dX6_shed_44 ?_
          refine V_aload_n C0 1 rfl rfl dX6_shed_45 ?_
          refine V_getR C0 5 0 fl_X6_15 ho0 hk0 rfl (rf_at qa1) dX6_shed_46 ?_
          refine V_iload_n C0 2 rfl rfl dX6_shed_49 ?_
          obtain ⟨a20, q21, q15⟩ := bn1_some q15
          refine V_callV C0 (st := [.int v19]) (As := [.int y1]) 9 (c_X10_unitAt G.l G.D G.cA G.ad G.bs G.X C0.2.2.2.2.2.2.2.2.2.1 C0.2.2.2.2.2.2.2.2.2.2.2.2 a1 y1 I L R a20 q21) lc_X10_unitAt lk_X6_38 (rf_lt qa1) (rf_kd qa1) ⟨_, rfl, rfl⟩ rfl (by rw [erm]; decide) (Nat.le_of_ble_eq_true rfl) dX6_shed_50 ?_
          show V G _ 53 [(3, .ref (G.ad a5)), (0, .ref (G.ad y0)), (1, .int y1), (2, .int y2)] [.ref (G.ad a20), .int v19] I L R
          obtain ⟨c22, q15⟩ := ite_some q15
          obtain ⟨a23, qa23, q15⟩ := bnd_some q15
          refine V_getR C0 8 0 fl_X6_72 c22.2 c22.1 rfl (rf_at qa23) dX6_shed_53 ?_
          refine V_bipush C0 (v := (21 : Int32)) (by decide) dX6_shed_56 ?_
          obtain ⟨v24, qv24, q15⟩ := bnd_some q15
          refine V_ri C0 (rf_lt qa23) (rf_kd qa23) qv24 dX6_shed_58 ?_
          obtain ⟨u25, q26, q15⟩ := bn1_some q15
          have k27 : V G f 64 [(0, .ref (G.ad y0)), (1, .int u25), (2, .int y2)] [] I L R := by
            cases q15
            exact V_sub [0, 1, 2] rfl k16
          refine V_icmp_lt C0 (tgt := 64) (by decide) dX6_shed_59 (fun c28 => ?_) (fun c28 => ?_)
          · have q26 := (if_pos c28).symm.trans q26
            cases q26
            exact V_sub [1, 2, 3] rfl k27
          · have q26 := (if_neg c28).symm.trans q26
            refine V_iload_n C0 3 rfl rfl dX6_shed_62 ?_
            refine V_istore_n C0 [(1, .int y2), (3, .ref (G.ad a5)), (0, .ref (G.ad y0)), (2, .int y2)] rfl (by rw [eNL]; decide) rfl dX6_shed_63 ?_
            cases q26
            exact V_sub [2, 0, 3] rfl k27
set_option maxRecDepth 100000 in
set_option maxHeartbeats 4000000 in
theorem c_X6_shed (l : Launch) (D : va_G) (cA : Nat → ClassId) (ad : Nat → Nat) (bs : Nat) (X : State → Prop) (hAd : Ax ad bs) (hX : Stb bs X) (N : Nat) (x0 : Nat) (I : MI) (L : ML) (R : MR) (I' : MI) (h : F_X6_shed N x0 I L R = some (I')) : Cn l D cA ad bs X yX6_shed cX6_shed 4 none 2 42 [.ref (ad x0)] I L R (none, I', L, R) := by
  refine Cn.ofV hAd hX [(0, .ref (ad x0))] rfl (Nat.le_of_ble_eq_true rfl) (by decide) ?_
  intro G el eD ecA ead ebs eX erm eNL C0
  subst el eD ecA ead ebs eX
  unfold F_X6_shed at h
  obtain ⟨c_x0, h⟩ := ite_some h
  refine V_iconst C0 (v := (-1 : Int32)) (by decide) dX6_shed_0 ?_
  refine V_istore_n C0 [(1, .int (-1 : Int32)), (0, .ref (G.ad x0))] rfl (by rw [eNL]; decide) rfl dX6_shed_1 ?_
  refine V_iconst C0 (v := (0 : Int32)) (by decide) dX6_shed_2 ?_
  refine V_istore_n C0 [(2, .int (0 : Int32)), (1, .int (-1 : Int32)), (0, .ref (G.ad x0))] rfl (by rw [eNL]; decide) rfl dX6_shed_3 ?_
  obtain ⟨z30, q31, h⟩ := bn1_some h
  refine V_sub [2, 1, 0] rfl (lp_X6_shed_4 C0 eNL erm N N x0 (-1 : Int32) (0 : Int32) I L R _ c_x0.1 c_x0.2 q31 _ ?_)
  show V G _ 70 [(0, .ref (G.ad x0)), (1, .int z30)] [] I L R
  refine V_iload_n C0 1 rfl rfl dX6_shed_70 ?_
  refine V_iconst C0 (v := (-1 : Int32)) (by decide) dX6_shed_71 ?_
  refine V_icmp_eq C0 (tgt := 90) (by decide) dX6_shed_72 (fun c32 => ?_) (fun c32 => ?_)
  · have h := (if_pos c32).symm.trans h
    cases h
    exact V_vret C0 dX6_shed_90
  · have h := (if_neg c32).symm.trans h
    refine V_aload_n C0 0 rfl rfl dX6_shed_75 ?_
    obtain ⟨a33, qa33, h⟩ := bnd_some h
    refine V_getR C0 5 0 fl_X6_15 c_x0.2 c_x0.1 rfl (rf_at qa33) dX6_shed_76 ?_
    refine V_iload_n C0 1 rfl rfl dX6_shed_79 ?_
    obtain ⟨a34, q35, h⟩ := bn1_some h
    refine V_callV C0 (st := []) (As := [.int z30]) 9 (c_X10_unitAt G.l G.D G.cA G.ad G.bs G.X C0.2.2.2.2.2.2.2.2.2.1 C0.2.2.2.2.2.2.2.2.2.2.2.2 a33 z30 I L R a34 q35) lc_X10_unitAt lk_X6_38 (rf_lt qa33) (rf_kd qa33) ⟨_, rfl, rfl⟩ rfl (by rw [erm]; decide) (Nat.le_of_ble_eq_true rfl) dX6_shed_80 ?_
    show V G _ 83 [(0, .ref (G.ad x0)), (1, .int z30)] [.ref (G.ad a34)] I L R
    obtain ⟨c36, h⟩ := ite_some h
    obtain ⟨a37, qa37, h⟩ := bnd_some h
    refine V_getR C0 8 0 fl_X6_72 c36.2 c36.1 rfl (rf_at qa37) dX6_shed_83 ?_
    refine V_bipush C0 (v := (22 : Int32)) (by decide) dX6_shed_86 ?_
    refine V_iconst C0 (v := (0 : Int32)) (by decide) dX6_shed_88 ?_
    obtain ⟨I38, qI38, h⟩ := bnd_some h
    refine V_wi C0 (rf_lt qa37) (rf_kd qa37) qI38 dX6_shed_89 ?_
    cases h
    exact V_vret C0 dX6_shed_90
theorem dX6_pour_0 : decode cX6_pour 0 = .ok (.aload_n 2, 1) := by decide +kernel
theorem dX6_pour_1 : decode cX6_pour 1 = .ok (.getfield 72, 3) := by decide +kernel
theorem dX6_pour_4 : decode cX6_pour 4 = .ok (.bipush 10, 2) := by decide +kernel
theorem dX6_pour_6 : decode cX6_pour 6 = .ok (.iaload, 1) := by decide +kernel
theorem dX6_pour_7 : decode cX6_pour 7 = .ok (.aload_n 3, 1) := by decide +kernel
theorem dX6_pour_8 : decode cX6_pour 8 = .ok (.getfield 72, 3) := by decide +kernel
theorem dX6_pour_11 : decode cX6_pour 11 = .ok (.bipush 10, 2) := by decide +kernel
theorem dX6_pour_13 : decode cX6_pour 13 = .ok (.iaload, 1) := by decide +kernel
theorem dX6_pour_14 : decode cX6_pour 14 = .ok (.isub, 1) := by decide +kernel
theorem dX6_pour_15 : decode cX6_pour 15 = .ok (.iconst 2, 1) := by decide +kernel
theorem dX6_pour_16 : decode cX6_pour 16 = .ok (.idiv, 1) := by decide +kernel
theorem dX6_pour_17 : decode cX6_pour 17 = .ok (.istore 4, 2) := by decide +kernel
theorem dX6_pour_19 : decode cX6_pour 19 = .ok (.aload_n 3, 1) := by decide +kernel
theorem dX6_pour_20 : decode cX6_pour 20 = .ok (.getfield 72, 3) := by decide +kernel
theorem dX6_pour_23 : decode cX6_pour 23 = .ok (.bipush 9, 2) := by decide +kernel
theorem dX6_pour_25 : decode cX6_pour 25 = .ok (.iaload, 1) := by decide +kernel
theorem dX6_pour_26 : decode cX6_pour 26 = .ok (.aload_n 3, 1) := by decide +kernel
theorem dX6_pour_27 : decode cX6_pour 27 = .ok (.getfield 72, 3) := by decide +kernel
theorem dX6_pour_30 : decode cX6_pour 30 = .ok (.bipush 10, 2) := by decide +kernel
theorem dX6_pour_32 : decode cX6_pour 32 = .ok (.iaload, 1) := by decide +kernel
theorem dX6_pour_33 : decode cX6_pour 33 = .ok (.isub, 1) := by decide +kernel
theorem dX6_pour_34 : decode cX6_pour 34 = .ok (.istore 5, 2) := by decide +kernel
theorem dX6_pour_36 : decode cX6_pour 36 = .ok (.iload_n 1, 1) := by decide +kernel
theorem dX6_pour_37 : decode cX6_pour 37 = .ok (.aload_n 2, 1) := by decide +kernel
theorem dX6_pour_38 : decode cX6_pour 38 = .ok (.getfield 72, 3) := by decide +kernel
theorem dX6_pour_41 : decode cX6_pour 41 = .ok (.bipush 10, 2) := by decide +kernel
theorem dX6_pour_43 : decode cX6_pour 43 = .ok (.iaload, 1) := by decide +kernel
theorem dX6_pour_44 : decode cX6_pour 44 = .ok (.invokestatic 98, 3) := by decide +kernel
theorem dX6_pour_47 : decode cX6_pour 47 = .ok (.iload 5, 2) := by decide +kernel
theorem dX6_pour_49 : decode cX6_pour 49 = .ok (.iload 4, 2) := by decide +kernel
theorem dX6_pour_51 : decode cX6_pour 51 = .ok (.invokestatic 98, 3) := by decide +kernel
theorem dX6_pour_54 : decode cX6_pour 54 = .ok (.invokestatic 98, 3) := by decide +kernel
theorem dX6_pour_57 : decode cX6_pour 57 = .ok (.istore 6, 2) := by decide +kernel
theorem dX6_pour_59 : decode cX6_pour 59 = .ok (.aload_n 2, 1) := by decide +kernel
theorem dX6_pour_60 : decode cX6_pour 60 = .ok (.getfield 72, 3) := by decide +kernel
theorem dX6_pour_63 : decode cX6_pour 63 = .ok (.bipush 10, 2) := by decide +kernel
theorem dX6_pour_65 : decode cX6_pour 65 = .ok (.dup2, 1) := by decide +kernel
theorem dX6_pour_66 : decode cX6_pour 66 = .ok (.iaload, 1) := by decide +kernel
theorem dX6_pour_67 : decode cX6_pour 67 = .ok (.iload 6, 2) := by decide +kernel
theorem dX6_pour_69 : decode cX6_pour 69 = .ok (.isub, 1) := by decide +kernel
theorem dX6_pour_70 : decode cX6_pour 70 = .ok (.iastore, 1) := by decide +kernel
theorem dX6_pour_71 : decode cX6_pour 71 = .ok (.aload_n 3, 1) := by decide +kernel
theorem dX6_pour_72 : decode cX6_pour 72 = .ok (.getfield 72, 3) := by decide +kernel
theorem dX6_pour_75 : decode cX6_pour 75 = .ok (.bipush 10, 2) := by decide +kernel
theorem dX6_pour_77 : decode cX6_pour 77 = .ok (.dup2, 1) := by decide +kernel
theorem dX6_pour_78 : decode cX6_pour 78 = .ok (.iaload, 1) := by decide +kernel
theorem dX6_pour_79 : decode cX6_pour 79 = .ok (.iload 6, 2) := by decide +kernel
theorem dX6_pour_81 : decode cX6_pour 81 = .ok (.iadd, 1) := by decide +kernel
theorem dX6_pour_82 : decode cX6_pour 82 = .ok (.iastore, 1) := by decide +kernel
theorem dX6_pour_83 : decode cX6_pour 83 = .ok (.return_, 1) := by decide +kernel
def F_X6_pour (x0 : Nat) (x1 : Int32) (x2 : Nat) (x3 : Nat) (I : MI) (L : ML) (R : MR) : Option (MI) :=
  if kd x0 = 5 ∧ x0 < NN then
  if kd x2 = 8 ∧ x2 < NN then
  if kd x3 = 8 ∧ x3 < NN then
  (rf R x2 0 20).bind fun a1 =>
  (ri I a1 (10 : Int32)).bind fun v2 =>
  (rf R x3 0 20).bind fun a3 =>
  (ri I a3 (10 : Int32)).bind fun v4 =>
  wr ((v2 - v4) / (2 : Int32)) fun (u5 : Int32) =>
  (ri I a3 (9 : Int32)).bind fun v6 =>
  (ri I a3 (10 : Int32)).bind fun v7 =>
  wr (v6 - v7) fun (u8 : Int32) =>
  (ri I a1 (10 : Int32)).bind fun v9 =>
  bn1 (F_J9_min_7cf53 x1 v9 I L R) fun v10 =>
  bn1 (F_J9_min_7cf53 u8 u5 I L R) fun v12 =>
  bn1 (F_J9_min_7cf53 v10 v12 I L R) fun v14 =>
  (ri I a1 (10 : Int32)).bind fun v16 =>
  (wi I a1 (10 : Int32) (v16 - v14)).bind fun I17 =>
  (ri I17 a3 (10 : Int32)).bind fun v18 =>
  (wi I17 a3 (10 : Int32) (v18 + v14)).bind fun I19 =>
  some (I19)
  else none
  else none
  else none
set_option maxRecDepth 100000 in
set_option maxHeartbeats 4000000 in
theorem c_X6_pour (l : Launch) (D : va_G) (cA : Nat → ClassId) (ad : Nat → Nat) (bs : Nat) (X : State → Prop) (hAd : Ax ad bs) (hX : Stb bs X) (x0 : Nat) (x1 : Int32) (x2 : Nat) (x3 : Nat) (I : MI) (L : ML) (R : MR) (I' : MI) (h : F_X6_pour x0 x1 x2 x3 I L R = some (I')) : Cn l D cA ad bs X yX6_pour cX6_pour 7 none 1 21 [.ref (ad x0), .int x1, .ref (ad x2), .ref (ad x3)] I L R (none, I', L, R) := by
  refine Cn.ofV hAd hX [(0, .ref (ad x0)), (1, .int x1), (2, .ref (ad x2)), (3, .ref (ad x3))] rfl (Nat.le_of_ble_eq_true rfl) (by decide) ?_
  intro G el eD ecA ead ebs eX erm eNL C0
  subst el eD ecA ead ebs eX
  unfold F_X6_pour at h
  obtain ⟨c_x0, h⟩ := ite_some h
  obtain ⟨c_x2, h⟩ := ite_some h
  obtain ⟨c_x3, h⟩ := ite_some h
  refine V_aload_n C0 2 rfl rfl dX6_pour_0 ?_
  obtain ⟨a1, qa1, h⟩ := bnd_some h
  refine V_getR C0 8 0 fl_X6_72 c_x2.2 c_x2.1 rfl (rf_at qa1) dX6_pour_1 ?_
  refine V_bipush C0 (v := (10 : Int32)) (by decide) dX6_pour_4 ?_
  obtain ⟨v2, qv2, h⟩ := bnd_some h
  refine V_ri C0 (rf_lt qa1) (rf_kd qa1) qv2 dX6_pour_6 ?_
  refine V_aload_n C0 3 rfl rfl dX6_pour_7 ?_
  obtain ⟨a3, qa3, h⟩ := bnd_some h
  refine V_getR C0 8 0 fl_X6_72 c_x3.2 c_x3.1 rfl (rf_at qa3) dX6_pour_8 ?_
  refine V_bipush C0 (v := (10 : Int32)) (by decide) dX6_pour_11 ?_
  obtain ⟨v4, qv4, h⟩ := bnd_some h
  refine V_ri C0 (rf_lt qa3) (rf_kd qa3) qv4 dX6_pour_13 ?_
  refine V_isub C0 dX6_pour_14 ?_
  refine V_iconst C0 (v := (2 : Int32)) (by decide) dX6_pour_15 ?_
  refine V_idiv C0 (by decide) dX6_pour_16 ?_
  obtain ⟨u5, eu5, h⟩ := wr_some h
  rw [← eu5]
  refine V_istore C0 [(4, .int u5), (0, .ref (G.ad x0)), (1, .int x1), (2, .ref (G.ad x2)), (3, .ref (G.ad x3))] (by rw [eNL]; decide) rfl dX6_pour_17 ?_
  refine V_aload_n C0 4 rfl rfl dX6_pour_19 ?_
  refine V_getR C0 8 0 fl_X6_72 c_x3.2 c_x3.1 rfl (rf_at qa3) dX6_pour_20 ?_
  refine V_bipush C0 (v := (9 : Int32)) (by decide) dX6_pour_23 ?_
  obtain ⟨v6, qv6, h⟩ := bnd_some h
  refine V_ri C0 (rf_lt qa3) (rf_kd qa3) qv6 dX6_pour_25 ?_
  refine V_aload_n C0 4 rfl rfl dX6_pour_26 ?_
  refine V_getR C0 8 0 fl_X6_72 c_x3.2 c_x3.1 rfl (rf_at qa3) dX6_pour_27 ?_
  refine V_bipush C0 (v := (10 : Int32)) (by decide) dX6_pour_30 ?_
  obtain ⟨v7, qv7, h⟩ := bnd_some h
  refine V_ri C0 (rf_lt qa3) (rf_kd qa3) qv7 dX6_pour_32 ?_
  refine V_isub C0 dX6_pour_33 ?_
  obtain ⟨u8, eu8, h⟩ := wr_some h
  rw [← eu8]
  refine V_istore C0 [(5, .int u8), (4, .int u5), (0, .ref (G.ad x0)), (1, .int x1), (2, .ref (G.ad x2)), (3, .ref (G.ad x3))] (by rw [eNL]; decide) rfl dX6_pour_34 ?_
  refine V_iload_n C0 3 rfl rfl dX6_pour_36 ?_
  refine V_aload_n C0 4 rfl rfl dX6_pour_37 ?_
  refine V_getR C0 8 0 fl_X6_72 c_x2.2 c_x2.1 rfl (rf_at qa1) dX6_pour_38 ?_
  refine V_bipush C0 (v := (10 : Int32)) (by decide) dX6_pour_41 ?_
  obtain ⟨v9, qv9, h⟩ := bnd_some h
  refine V_ri C0 (rf_lt qa1) (rf_kd qa1) qv9 dX6_pour_43 ?_
  obtain ⟨v10, q11, h⟩ := bn1_some h
  refine V_callS C0 (st := []) (As := [.int x1, .int v9]) (c_J9_min_7cf53 G.l G.D G.cA G.ad G.bs G.X C0.2.2.2.2.2.2.2.2.2.1 C0.2.2.2.2.2.2.2.2.2.2.2.2 x1 v9 I L R v10 q11) lc_J9_min_7cf53 lk_X6_98 rfl (by rw [erm]; decide) (Nat.le_of_ble_eq_true rfl) dX6_pour_44 ?_
  show V G _ 47 [(5, .int u8), (4, .int u5), (0, .ref (G.ad x0)), (1, .int x1), (2, .ref (G.ad x2)), (3, .ref (G.ad x3))] [.int v10] I L R
  refine V_iload C0 0 rfl dX6_pour_47 ?_
  refine V_iload C0 1 rfl dX6_pour_49 ?_
  obtain ⟨v12, q13, h⟩ := bn1_some h
  refine V_callS C0 (st := [.int v10]) (As := [.int u8, .int u5]) (c_J9_min_7cf53 G.l G.D G.cA G.ad G.bs G.X C0.2.2.2.2.2.2.2.2.2.1 C0.2.2.2.2.2.2.2.2.2.2.2.2 u8 u5 I L R v12 q13) lc_J9_min_7cf53 lk_X6_98 rfl (by rw [erm]; decide) (Nat.le_of_ble_eq_true rfl) dX6_pour_51 ?_
  show V G _ 54 [(5, .int u8), (4, .int u5), (0, .ref (G.ad x0)), (1, .int x1), (2, .ref (G.ad x2)), (3, .ref (G.ad x3))] [.int v12, .int v10] I L R
  obtain ⟨v14, q15, h⟩ := bn1_some h
  refine V_callS C0 (st := []) (As := [.int v10, .int v12]) (c_J9_min_7cf53 G.l G.D G.cA G.ad G.bs G.X C0.2.2.2.2.2.2.2.2.2.1 C0.2.2.2.2.2.2.2.2.2.2.2.2 v10 v12 I L R v14 q15) lc_J9_min_7cf53 lk_X6_98 rfl (by rw [erm]; decide) (Nat.le_of_ble_eq_true rfl) dX6_pour_54 ?_
  show V G _ 57 [(5, .int u8), (4, .int u5), (0, .ref (G.ad x0)), (1, .int x1), (2, .ref (G.ad x2)), (3, .ref (G.ad x3))] [.int v14] I L R
  refine V_istore C0 [(6, .int v14), (5, .int u8), (4, .int u5), (0, .ref (G.ad x0)), (1, .int x1), (2, .ref (G.ad x2)), (3, .ref (G.ad x3))] (by rw [eNL]; decide) rfl dX6_pour_57 ?_
  refine V_aload_n C0 5 rfl rfl dX6_pour_59 ?_
  refine V_getR C0 8 0 fl_X6_72 c_x2.2 c_x2.1 rfl (rf_at qa1) dX6_pour_60 ?_
  refine V_bipush C0 (v := (10 : Int32)) (by decide) dX6_pour_63 ?_
  refine V_dup2 C0 rfl rfl dX6_pour_65 ?_
  obtain ⟨v16, qv16, h⟩ := bnd_some h
  refine V_ri C0 (rf_lt qa1) (rf_kd qa1) qv16 dX6_pour_66 ?_
  refine V_iload C0 0 rfl dX6_pour_67 ?_
  refine V_isub C0 dX6_pour_69 ?_
  obtain ⟨I17, qI17, h⟩ := bnd_some h
  refine V_wi C0 (rf_lt qa1) (rf_kd qa1) qI17 dX6_pour_70 ?_
  refine V_aload_n C0 6 rfl rfl dX6_pour_71 ?_
  refine V_getR C0 8 0 fl_X6_72 c_x3.2 c_x3.1 rfl (rf_at qa3) dX6_pour_72 ?_
  refine V_bipush C0 (v := (10 : Int32)) (by decide) dX6_pour_75 ?_
  refine V_dup2 C0 rfl rfl dX6_pour_77 ?_
  obtain ⟨v18, qv18, h⟩ := bnd_some h
  refine V_ri C0 (rf_lt qa3) (rf_kd qa3) qv18 dX6_pour_78 ?_
  refine V_iload C0 0 rfl dX6_pour_79 ?_
  refine V_iadd C0 dX6_pour_81 ?_
  obtain ⟨I19, qI19, h⟩ := bnd_some h
  refine V_wi C0 (rf_lt qa3) (rf_kd qa3) qI19 dX6_pour_82 ?_
  cases h
  exact V_vret C0 dX6_pour_83
theorem dX6_levelTanks_0 : decode cX6_levelTanks 0 = .ok (.iconst 0, 1) := by decide +kernel
theorem dX6_levelTanks_1 : decode cX6_levelTanks 1 = .ok (.istore_n 1, 1) := by decide +kernel
theorem dX6_levelTanks_2 : decode cX6_levelTanks 2 = .ok (.iload_n 1, 1) := by decide +kernel
theorem dX6_levelTanks_3 : decode cX6_levelTanks 3 = .ok (.aload_n 0, 1) := by decide +kernel
theorem dX6_levelTanks_4 : decode cX6_levelTanks 4 = .ok (.getfield 15, 3) := by decide +kernel
theorem dX6_levelTanks_7 : decode cX6_levelTanks 7 = .ok (.invokevirtual 32, 3) := by decide +kernel
theorem dX6_levelTanks_10 : decode cX6_levelTanks 10 = .ok (.if_icmp .ge 133, 3) := by decide +kernel
theorem dX6_levelTanks_13 : decode cX6_levelTanks 13 = .ok (.aload_n 0, 1) := by decide +kernel
theorem dX6_levelTanks_14 : decode cX6_levelTanks 14 = .ok (.getfield 15, 3) := by decide +kernel
theorem dX6_levelTanks_17 : decode cX6_levelTanks 17 = .ok (.iload_n 1, 1) := by decide +kernel
theorem dX6_levelTanks_18 : decode cX6_levelTanks 18 = .ok (.invokevirtual 38, 3) := by decide +kernel
theorem dX6_levelTanks_21 : decode cX6_levelTanks 21 = .ok (.astore_n 2, 1) := by decide +kernel
theorem dX6_levelTanks_22 : decode cX6_levelTanks 22 = .ok (.aload_n 2, 1) := by decide +kernel
theorem dX6_levelTanks_23 : decode cX6_levelTanks 23 = .ok (.bipush 28, 2) := by decide +kernel
theorem dX6_levelTanks_25 : decode cX6_levelTanks 25 = .ok (.invokevirtual 42, 3) := by decide +kernel
theorem dX6_levelTanks_28 : decode cX6_levelTanks 28 = .ok (.ifCond .eq 109, 3) := by decide +kernel
theorem dX6_levelTanks_31 : decode cX6_levelTanks 31 = .ok (.aload_n 0, 1) := by decide +kernel
theorem dX6_levelTanks_32 : decode cX6_levelTanks 32 = .ok (.getfield 15, 3) := by decide +kernel
theorem dX6_levelTanks_35 : decode cX6_levelTanks 35 = .ok (.aload_n 2, 1) := by decide +kernel
theorem dX6_levelTanks_36 : decode cX6_levelTanks 36 = .ok (.getfield 72, 3) := by decide +kernel
theorem dX6_levelTanks_39 : decode cX6_levelTanks 39 = .ok (.bipush 59, 2) := by decide +kernel
theorem dX6_levelTanks_41 : decode cX6_levelTanks 41 = .ok (.iaload, 1) := by decide +kernel
theorem dX6_levelTanks_42 : decode cX6_levelTanks 42 = .ok (.invokevirtual 38, 3) := by decide +kernel
theorem dX6_levelTanks_45 : decode cX6_levelTanks 45 = .ok (.astore_n 3, 1) := by decide +kernel
theorem dX6_levelTanks_46 : decode cX6_levelTanks 46 = .ok (.aload_n 0, 1) := by decide +kernel
theorem dX6_levelTanks_47 : decode cX6_levelTanks 47 = .ok (.getfield 15, 3) := by decide +kernel
theorem dX6_levelTanks_50 : decode cX6_levelTanks 50 = .ok (.aload_n 2, 1) := by decide +kernel
theorem dX6_levelTanks_51 : decode cX6_levelTanks 51 = .ok (.getfield 72, 3) := by decide +kernel
theorem dX6_levelTanks_54 : decode cX6_levelTanks 54 = .ok (.bipush 60, 2) := by decide +kernel
theorem dX6_levelTanks_56 : decode cX6_levelTanks 56 = .ok (.iaload, 1) := by decide +kernel
theorem dX6_levelTanks_57 : decode cX6_levelTanks 57 = .ok (.invokevirtual 38, 3) := by decide +kernel
theorem dX6_levelTanks_60 : decode cX6_levelTanks 60 = .ok (.astore 4, 2) := by decide +kernel
theorem dX6_levelTanks_62 : decode cX6_levelTanks 62 = .ok (.aload_n 3, 1) := by decide +kernel
theorem dX6_levelTanks_63 : decode cX6_levelTanks 63 = .ok (.iconst 4, 1) := by decide +kernel
theorem dX6_levelTanks_64 : decode cX6_levelTanks 64 = .ok (.invokevirtual 42, 3) := by decide +kernel
theorem dX6_levelTanks_67 : decode cX6_levelTanks 67 = .ok (.ifCond .eq 70, 3) := by decide +kernel
theorem dX6_levelTanks_70 : decode cX6_levelTanks 70 = .ok (.aload 4, 2) := by decide +kernel
theorem dX6_levelTanks_72 : decode cX6_levelTanks 72 = .ok (.iconst 4, 1) := by decide +kernel
theorem dX6_levelTanks_73 : decode cX6_levelTanks 73 = .ok (.invokevirtual 42, 3) := by decide +kernel
theorem dX6_levelTanks_76 : decode cX6_levelTanks 76 = .ok (.ifCond .eq 61, 3) := by decide +kernel
theorem dX6_levelTanks_79 : decode cX6_levelTanks 79 = .ok (.aload_n 3, 1) := by decide +kernel
theorem dX6_levelTanks_80 : decode cX6_levelTanks 80 = .ok (.getfield 72, 3) := by decide +kernel
theorem dX6_levelTanks_83 : decode cX6_levelTanks 83 = .ok (.bipush 10, 2) := by decide +kernel
theorem dX6_levelTanks_85 : decode cX6_levelTanks 85 = .ok (.iaload, 1) := by decide +kernel
theorem dX6_levelTanks_86 : decode cX6_levelTanks 86 = .ok (.aload 4, 2) := by decide +kernel
theorem dX6_levelTanks_88 : decode cX6_levelTanks 88 = .ok (.getfield 72, 3) := by decide +kernel
theorem dX6_levelTanks_91 : decode cX6_levelTanks 91 = .ok (.bipush 10, 2) := by decide +kernel
theorem dX6_levelTanks_93 : decode cX6_levelTanks 93 = .ok (.iaload, 1) := by decide +kernel
theorem dX6_levelTanks_94 : decode cX6_levelTanks 94 = .ok (.if_icmp .lt 7, 3) := by decide +kernel
theorem dX6_levelTanks_97 : decode cX6_levelTanks 97 = .ok (.iconst 1, 1) := by decide +kernel
theorem dX6_levelTanks_98 : decode cX6_levelTanks 98 = .ok (.goto 4, 3) := by decide +kernel
theorem dX6_levelTanks_101 : decode cX6_levelTanks 101 = .ok (.iconst 0, 1) := by decide +kernel
theorem dX6_levelTanks_102 : decode cX6_levelTanks 102 = .ok (.istore 5, 2) := by decide +kernel
theorem dX6_levelTanks_104 : decode cX6_levelTanks 104 = .ok (.aload_n 0, 1) := by decide +kernel
theorem dX6_levelTanks_105 : decode cX6_levelTanks 105 = .ok (.aload_n 2, 1) := by decide +kernel
theorem dX6_levelTanks_106 : decode cX6_levelTanks 106 = .ok (.getfield 72, 3) := by decide +kernel
theorem dX6_levelTanks_109 : decode cX6_levelTanks 109 = .ok (.bipush 61, 2) := by decide +kernel
theorem dX6_levelTanks_111 : decode cX6_levelTanks 111 = .ok (.iaload, 1) := by decide +kernel
theorem dX6_levelTanks_112 : decode cX6_levelTanks 112 = .ok (.iload 5, 2) := by decide +kernel
theorem dX6_levelTanks_114 : decode cX6_levelTanks 114 = .ok (.ifCond .eq 7, 3) := by decide +kernel
theorem dX6_levelTanks_117 : decode cX6_levelTanks 117 = .ok (.aload_n 3, 1) := by decide +kernel
theorem dX6_levelTanks_118 : decode cX6_levelTanks 118 = .ok (.goto 5, 3) := by decide +kernel
theorem dX6_levelTanks_121 : decode cX6_levelTanks 121 = .ok (.aload 4, 2) := by decide +kernel
theorem dX6_levelTanks_123 : decode cX6_levelTanks 123 = .ok (.iload 5, 2) := by decide +kernel
theorem dX6_levelTanks_125 : decode cX6_levelTanks 125 = .ok (.ifCond .eq 8, 3) := by decide +kernel
theorem dX6_levelTanks_128 : decode cX6_levelTanks 128 = .ok (.aload 4, 2) := by decide +kernel
theorem dX6_levelTanks_130 : decode cX6_levelTanks 130 = .ok (.goto 4, 3) := by decide +kernel
theorem dX6_levelTanks_133 : decode cX6_levelTanks 133 = .ok (.aload_n 3, 1) := by decide +kernel
theorem dX6_levelTanks_134 : decode cX6_levelTanks 134 = .ok (.invokevirtual 104, 3) := by decide +kernel
theorem dX6_levelTanks_137 : decode cX6_levelTanks 137 = .ok (.iinc 1 1, 3) := by decide +kernel
theorem dX6_levelTanks_140 : decode cX6_levelTanks 140 = .ok (.goto (-138), 3) := by decide +kernel
theorem dX6_levelTanks_143 : decode cX6_levelTanks 143 = .ok (.return_, 1) := by decide +kernel
def LF_X6_levelTanks_2 (N : Nat) : Nat → Nat → Int32 → MI → ML → MR → Option (MI)
  | 0, _, _, _, _, _ => none
  | k + 1, y0, y1, I, L, R =>
    (rf R y0 0 9).bind fun a1 =>
    bn1 (F_X10_size a1 I L R) fun v2 =>
    if v2 ≤ y1 then
      some (I)
    else
      bn1 (F_X10_unitAt a1 y1 I L R) fun a5 =>
      if kd a5 = 8 ∧ a5 < NN then
      bn1 (F_X9_isWhole a5 (28 : Int32) I L R) fun b8 =>
      bn1 (
        if (b2i b8) = 0 then
          some (I)
        else
          (rf R a5 0 20).bind fun a14 =>
          (ri I a14 (59 : Int32)).bind fun v15 =>
          bn1 (F_X10_unitAt a1 v15 I L R) fun a16 =>
          if kd a16 = 8 ∧ a16 < NN then
          (ri I a14 (60 : Int32)).bind fun v19 =>
          bn1 (F_X10_unitAt a1 v19 I L R) fun a20 =>
          if kd a20 = 8 ∧ a20 < NN then
          bn1 (F_X9_isWhole a16 (4 : Int32) I L R) fun b23 =>
          bn1 (
            if (b2i b23) = 0 then
              some (I)
            else
              bn1 (F_X9_isWhole a20 (4 : Int32) I L R) fun b29 =>
              bn1 (
                if (b2i b29) = 0 then
                  some (I)
                else
                  (rf R a16 0 20).bind fun a35 =>
                  (ri I a35 (10 : Int32)).bind fun v36 =>
                  (rf R a20 0 20).bind fun a37 =>
                  (ri I a37 (10 : Int32)).bind fun v38 =>
                  bn1 (
                    if v36 < v38 then
                      some ((0 : Int32))
                    else
                      some ((1 : Int32))
                  ) fun (s39 : Int32) =>
                  (ri I a14 (61 : Int32)).bind fun v43 =>
                  bn1 (
                    if s39 = 0 then
                      some (a20)
                    else
                      some (a16)
                  ) fun (s44 : Nat) =>
                  if kd s44 = 8 ∧ s44 < NN then
                  bn1 (
                    if s39 = 0 then
                      some (a16)
                    else
                      some (a20)
                  ) fun (s49 : Nat) =>
                  if kd s49 = 8 ∧ s49 < NN then
                  bn1 (F_X6_pour y0 v43 s44 s49 I L R) fun I54 =>
                  some (I54)
                  else none
                  else none
              ) fun (I31 : MI) =>
              some (I31)
          ) fun (I25 : MI) =>
          some (I25)
          else none
          else none
      ) fun (I10 : MI) =>
      wr (y1 + (1 : Int32)) fun (u56 : Int32) =>
      LF_X6_levelTanks_2 N k y0 u56 I10 L R
      else none
def F_X6_levelTanks (N : Nat) (x0 : Nat) (I : MI) (L : ML) (R : MR) : Option (MI) :=
  if kd x0 = 5 ∧ x0 < NN then
  bn1 (LF_X6_levelTanks_2 N N x0 (0 : Int32) I L R) fun z57 =>
  some (z57)
  else none
set_option maxRecDepth 100000 in
set_option maxHeartbeats 4000000 in
theorem lp_X6_levelTanks_2 {G : Gm} (C0 : Cx G (yX6_levelTanks.cls) cX6_levelTanks none) (eNL : G.nL = 6) (erm : G.rm = ({ frames := 2, cells := 0, slots := 0, locals := 47 } : Room)) (N : Nat) : ∀ (k : Nat) (y0 : Nat) (y1 : Int32) (I : MI) (L : ML) (R : MR) (z : MI) (hk0 : kd y0 = 5) (ho0 : y0 < NN), LF_X6_levelTanks_2 N k y0 y1 I L R = some z → ∀ f : State → Prop, V G f 143 [] [] z L R → V G f 2 [(0, .ref (G.ad y0)), (1, .int y1)] [] I L R := by
  intro k
  induction k with
  | zero =>
    intro y0 y1 I L R q hk0 ho0 h
    exact absurd h (by simp [LF_X6_levelTanks_2])
  | succ k ih =>
    intro y0 y1 I L R q hk0 ho0 h f kx
    rw [LF_X6_levelTanks_2] at h
    refine V_iload_n C0 1 rfl rfl dX6_levelTanks_2 ?_
    refine V_aload_n C0 0 rfl rfl dX6_levelTanks_3 ?_
    obtain ⟨a1, qa1, h⟩ := bnd_some h
    refine V_getR C0 5 0 fl_X6_15 ho0 hk0 rfl (rf_at qa1) dX6_levelTanks_4 ?_
    obtain ⟨v2, q3, h⟩ := bn1_some h
    refine V_callV C0 (st := [.int y1]) (As := []) 9 (c_X10_size G.l G.D G.cA G.ad G.bs G.X C0.2.2.2.2.2.2.2.2.2.1 C0.2.2.2.2.2.2.2.2.2.2.2.2 a1 I L R v2 q3) lc_X10_size lk_X6_32 (rf_lt qa1) (rf_kd qa1) ⟨_, rfl, rfl⟩ rfl (by rw [erm]; decide) (Nat.le_of_ble_eq_true rfl) dX6_levelTanks_7 ?_
    show V G _ 10 [(0, .ref (G.ad y0)), (1, .int y1)] [.int v2, .int y1] I L R
    refine V_icmp_ge C0 (tgt := 143) (by decide) dX6_levelTanks_10 (fun c4 => ?_) (fun c4 => ?_)
    · have h := (if_pos c4).symm.trans h
      cases h
      exact V_sub [] rfl kx
    · have h := (if_neg c4).symm.trans h
      refine V_aload_n C0 0 rfl rfl dX6_levelTanks_13 ?_
      refine V_getR C0 5 0 fl_X6_15 ho0 hk0 rfl (rf_at qa1) dX6_levelTanks_14 ?_
      refine V_iload_n C0 1 rfl rfl dX6_levelTanks_17 ?_
      obtain ⟨a5, q6, h⟩ := bn1_some h
      refine V_callV C0 (st := []) (As := [.int y1]) 9 (c_X10_unitAt G.l G.D G.cA G.ad G.bs G.X C0.2.2.2.2.2.2.2.2.2.1 C0.2.2.2.2.2.2.2.2.2.2.2.2 a1 y1 I L R a5 q6) lc_X10_unitAt lk_X6_38 (rf_lt qa1) (rf_kd qa1) ⟨_, rfl, rfl⟩ rfl (by rw [erm]; decide) (Nat.le_of_ble_eq_true rfl) dX6_levelTanks_18 ?_
      show V G _ 21 [(0, .ref (G.ad y0)), (1, .int y1)] [.ref (G.ad a5)] I L R
      obtain ⟨c7, h⟩ := ite_some h
      refine V_astore_n C0 [(2, .ref (G.ad a5)), (0, .ref (G.ad y0)), (1, .int y1)] rfl (by rw [eNL]; decide) rfl dX6_levelTanks_21 ?_
      refine V_aload_n C0 0 rfl rfl dX6_levelTanks_22 ?_
      refine V_bipush C0 (v := (28 : Int32)) (by decide) dX6_levelTanks_23 ?_
      obtain ⟨b8, q9, h⟩ := bn1_some h
      refine V_callV C0 (st := []) (As := [.int (28 : Int32)]) 8 (c_X9_isWhole G.l G.D G.cA G.ad G.bs G.X C0.2.2.2.2.2.2.2.2.2.1 C0.2.2.2.2.2.2.2.2.2.2.2.2 a5 (28 : Int32) I L R b8 q9) lc_X9_isWhole lk_X6_42 c7.2 c7.1 ⟨_, rfl, rfl⟩ rfl (by rw [erm]; decide) (Nat.le_of_ble_eq_true rfl) dX6_levelTanks_25 ?_
      show V G _ 28 [(2, .ref (G.ad a5)), (0, .ref (G.ad y0)), (1, .int y1)] [.int (b2i b8)] I L R
      obtain ⟨I10, q11, h⟩ := bn1_some h
      have k12 : V G f 137 [(0, .ref (G.ad y0)), (1, .int y1)] [] I10 L R := by
        obtain ⟨u56, eu56, h⟩ := wr_some h
        refine V_iinc C0 1 [(1, .int u56), (0, .ref (G.ad y0))] rfl (n := 1) (by rw [eu56]; rfl) (by rw [eNL]; decide) rfl dX6_levelTanks_137 ?_
        refine V_goto C0 (tgt := 2) (by decide) dX6_levelTanks_140 ?_
        exact V_sub [1, 0] rfl (ih y0 u56 I10 L R _ hk0 ho0 h f kx)
      refine V_if_eq C0 (tgt := 137) (by decide) dX6_levelTanks_28 (fun c13 => ?_) (fun c13 => ?_)
      · have q11 := (if_pos c13).symm.trans q11
        cases q11
        exact V_sub [1, 2] rfl k12
      · have q11 := (if_neg c13).symm.trans q11
        refine V_aload_n C0 1 rfl rfl dX6_levelTanks_31 ?_
        refine V_getR C0 5 0 fl_X6_15 ho0 hk0 rfl (rf_at qa1) dX6_levelTanks_32 ?_
        refine V_aload_n C0 0 rfl rfl dX6_levelTanks_35 ?_
        obtain ⟨a14, qa14, q11⟩ := bnd_some q11
        refine V_getR C0 8 0 fl_X6_72 c7.2 c7.1 rfl (rf_at qa14) dX6_levelTanks_36 ?_
        refine V_bipush C0 (v := (59 : Int32)) (by decide) dX6_levelTanks_39 ?_
        obtain ⟨v15, qv15, q11⟩ := bnd_some q11
        refine V_ri C0 (rf_lt qa14) (rf_kd qa14) qv15 dX6_levelTanks_41 ?_
        obtain ⟨a16, q17, q11⟩ := bn1_some q11
        refine V_callV C0 (st := []) (As := [.int v15]) 9 (c_X10_unitAt G.l G.D G.cA G.ad G.bs G.X C0.2.2.2.2.2.2.2.2.2.1 C0.2.2.2.2.2.2.2.2.2.2.2.2 a1 v15 I L R a16 q17) lc_X10_unitAt lk_X6_38 (rf_lt qa1) (rf_kd qa1) ⟨_, rfl, rfl⟩ rfl (by rw [erm]; decide) (Nat.le_of_ble_eq_true rfl) dX6_levelTanks_42 ?_
        show V G _ 45 [(2, .ref (G.ad a5)), (0, .ref (G.ad y0)), (1, .int y1)] [.ref (G.ad a16)] I L R
        obtain ⟨c18, q11⟩ := ite_some q11
        refine V_astore_n C0 [(3, .ref (G.ad a16)), (2, .ref (G.ad a5)), (0, .ref (G.ad y0)), (1, .int y1)] rfl (by rw [eNL]; decide) rfl dX6_levelTanks_45 ?_
        refine V_aload_n C0 2 rfl rfl dX6_levelTanks_46 ?_
        refine V_getR C0 5 0 fl_X6_15 ho0 hk0 rfl (rf_at qa1) dX6_levelTanks_47 ?_
        refine V_aload_n C0 1 rfl rfl dX6_levelTanks_50 ?_
        refine V_getR C0 8 0 fl_X6_72 c7.2 c7.1 rfl (rf_at qa14) dX6_levelTanks_51 ?_
        refine V_bipush C0 (v := (60 : Int32)) (by decide) dX6_levelTanks_54 ?_
        obtain ⟨v19, qv19, q11⟩ := bnd_some q11
        refine V_ri C0 (rf_lt qa14) (rf_kd qa14) qv19 dX6_levelTanks_56 ?_
        obtain ⟨a20, q21, q11⟩ := bn1_some q11
        refine V_callV C0 (st := []) (As := [.int v19]) 9 (c_X10_unitAt G.l G.D G.cA G.ad G.bs G.X C0.2.2.2.2.2.2.2.2.2.1 C0.2.2.2.2.2.2.2.2.2.2.2.2 a1 v19 I L R a20 q21) lc_X10_unitAt lk_X6_38 (rf_lt qa1) (rf_kd qa1) ⟨_, rfl, rfl⟩ rfl (by rw [erm]; decide) (Nat.le_of_ble_eq_true rfl) dX6_levelTanks_57 ?_
        show V G _ 60 [(3, .ref (G.ad a16)), (2, .ref (G.ad a5)), (0, .ref (G.ad y0)), (1, .int y1)] [.ref (G.ad a20)] I L R
        obtain ⟨c22, q11⟩ := ite_some q11
        refine V_astore C0 [(4, .ref (G.ad a20)), (3, .ref (G.ad a16)), (2, .ref (G.ad a5)), (0, .ref (G.ad y0)), (1, .int y1)] (by rw [eNL]; decide) rfl dX6_levelTanks_60 ?_
        refine V_aload_n C0 1 rfl rfl dX6_levelTanks_62 ?_
        refine V_iconst C0 (v := (4 : Int32)) (by decide) dX6_levelTanks_63 ?_
        obtain ⟨b23, q24, q11⟩ := bn1_some q11
        refine V_callV C0 (st := []) (As := [.int (4 : Int32)]) 8 (c_X9_isWhole G.l G.D G.cA G.ad G.bs G.X C0.2.2.2.2.2.2.2.2.2.1 C0.2.2.2.2.2.2.2.2.2.2.2.2 a16 (4 : Int32) I L R b23 q24) lc_X9_isWhole lk_X6_42 c18.2 c18.1 ⟨_, rfl, rfl⟩ rfl (by rw [erm]; decide) (Nat.le_of_ble_eq_true rfl) dX6_levelTanks_64 ?_
        show V G _ 67 [(4, .ref (G.ad a20)), (3, .ref (G.ad a16)), (2, .ref (G.ad a5)), (0, .ref (G.ad y0)), (1, .int y1)] [.int (b2i b23)] I L R
        obtain ⟨I25, q26, q11⟩ := bn1_some q11
        have k27 : V G f 137 [(0, .ref (G.ad y0)), (1, .int y1)] [] I25 L R := by
          cases q11
          exact V_sub [0, 1] rfl k12
        refine V_if_eq C0 (tgt := 137) (by decide) dX6_levelTanks_67 (fun c28 => ?_) (fun c28 => ?_)
        · have q26 := (if_pos c28).symm.trans q26
          cases q26
          exact V_sub [3, 4] rfl k27
        · have q26 := (if_neg c28).symm.trans q26
          refine V_aload C0 0 rfl dX6_levelTanks_70 ?_
          refine V_iconst C0 (v := (4 : Int32)) (by decide) dX6_levelTanks_72 ?_
          obtain ⟨b29, q30, q26⟩ := bn1_some q26
          refine V_callV C0 (st := []) (As := [.int (4 : Int32)]) 8 (c_X9_isWhole G.l G.D G.cA G.ad G.bs G.X C0.2.2.2.2.2.2.2.2.2.1 C0.2.2.2.2.2.2.2.2.2.2.2.2 a20 (4 : Int32) I L R b29 q30) lc_X9_isWhole lk_X6_42 c22.2 c22.1 ⟨_, rfl, rfl⟩ rfl (by rw [erm]; decide) (Nat.le_of_ble_eq_true rfl) dX6_levelTanks_73 ?_
          show V G _ 76 [(4, .ref (G.ad a20)), (3, .ref (G.ad a16)), (2, .ref (G.ad a5)), (0, .ref (G.ad y0)), (1, .int y1)] [.int (b2i b29)] I L R
          obtain ⟨I31, q32, q26⟩ := bn1_some q26
          have k33 : V G f 137 [(0, .ref (G.ad y0)), (1, .int y1)] [] I31 L R := by
            cases q26
            exact V_sub [0, 1] rfl k27
          refine V_if_eq C0 (tgt := 137) (by decide) dX6_levelTanks_76 (fun c34 => ?_) (fun c34 => ?_)
          · have q32 := (if_pos c34).symm.trans q32
            cases q32
            exact V_sub [3, 4] rfl k33
          · have q32 := (if_neg c34).symm.trans q32
            refine V_aload_n C0 1 rfl rfl dX6_levelTanks_79 ?_
            obtain ⟨a35, qa35, q32⟩ := bnd_some q32
            refine V_getR C0 8 0 fl_X6_72 c18.2 c18.1 rfl (rf_at qa35) dX6_levelTanks_80 ?_
            refine V_bipush C0 (v := (10 : Int32)) (by decide) dX6_levelTanks_83 ?_
            obtain ⟨v36, qv36, q32⟩ := bnd_some q32
            refine V_ri C0 (rf_lt qa35) (rf_kd qa35) qv36 dX6_levelTanks_85 ?_
            refine V_aload C0 0 rfl dX6_levelTanks_86 ?_
            obtain ⟨a37, qa37, q32⟩ := bnd_some q32
            refine V_getR C0 8 0 fl_X6_72 c22.2 c22.1 rfl (rf_at qa37) dX6_levelTanks_88 ?_
            refine V_bipush C0 (v := (10 : Int32)) (by decide) dX6_levelTanks_91 ?_
            obtain ⟨v38, qv38, q32⟩ := bnd_some q32
            refine V_ri C0 (rf_lt qa37) (rf_kd qa37) qv38 dX6_levelTanks_93 ?_
            obtain ⟨s39, q40, q32⟩ := bn1_some q32
            have k41 : V G f 102 [(0, .ref (G.ad y0)), (1, .int y1), (2, .ref (G.ad a5)), (3, .ref (G.ad a16)), (4, .ref (G.ad a20))] [.int s39] I L R := by
              refine V_istore C0 [(5, .int s39), (0, .ref (G.ad y0)), (1, .int y1), (2, .ref (G.ad a5)), (3, .ref (G.ad a16)), (4, .ref (G.ad a20))] (by rw [eNL]; decide) rfl dX6_levelTanks_102 ?_
              refine V_aload_n C0 1 rfl rfl dX6_levelTanks_104 ?_
              refine V_aload_n C0 3 rfl rfl dX6_levelTanks_105 ?_
              refine V_getR C0 8 0 fl_X6_72 c7.2 c7.1 rfl (rf_at qa14) dX6_levelTanks_106 ?_
              refine V_bipush C0 (v := (61 : Int32)) (by decide) dX6_levelTanks_109 ?_
              obtain ⟨v43, qv43, q32⟩ := bnd_some q32
              refine V_ri C0 (rf_lt qa14) (rf_kd qa14) qv43 dX6_levelTanks_111 ?_
              refine V_iload C0 0 rfl dX6_levelTanks_112 ?_
              obtain ⟨s44, q45, q32⟩ := bn1_some q32
              obtain ⟨c48, q32⟩ := ite_some q32
              have k46 : V G f 123 [(0, .ref (G.ad y0)), (1, .int y1), (3, .ref (G.ad a16)), (4, .ref (G.ad a20)), (5, .int s39)] [.ref (G.ad s44), .int v43, .ref (G.ad y0)] I L R := by
                refine V_iload C0 4 rfl dX6_levelTanks_123 ?_
                obtain ⟨s49, q50, q32⟩ := bn1_some q32
                obtain ⟨c53, q32⟩ := ite_some q32
                have k51 : V G f 134 [(0, .ref (G.ad y0)), (1, .int y1)] [.ref (G.ad s49), .ref (G.ad s44), .int v43, .ref (G.ad y0)] I L R := by
                  obtain ⟨I54, q55, q32⟩ := bn1_some q32
                  refine V_callV C0 (st := []) (As := [.int v43, .ref (G.ad s44), .ref (G.ad s49)]) 5 (c_X6_pour G.l G.D G.cA G.ad G.bs G.X C0.2.2.2.2.2.2.2.2.2.1 C0.2.2.2.2.2.2.2.2.2.2.2.2 y0 v43 s44 s49 I L R I54 q55) lc_X6_pour lk_X6_104 ho0 hk0 ⟨_, rfl, rfl⟩ rfl (by rw [erm]; decide) (Nat.le_of_ble_eq_true rfl) dX6_levelTanks_134 ?_
                  show V G _ 137 [(0, .ref (G.ad y0)), (1, .int y1)] [] I54 L R
                  cases q32
                  exact V_sub [0, 1] rfl k33
                refine V_if_eq C0 (tgt := 133) (by decide) dX6_levelTanks_125 (fun c52 => ?_) (fun c52 => ?_)
                · have q50 := (if_pos c52).symm.trans q50
                  refine V_aload_n C0 2 rfl rfl dX6_levelTanks_133 ?_
                  cases q50
                  exact V_sub [0, 1] rfl k51
                · have q50 := (if_neg c52).symm.trans q50
                  refine V_aload C0 3 rfl dX6_levelTanks_128 ?_
                  refine V_goto C0 (tgt := 134) (by decide) dX6_levelTanks_130 ?_
                  cases q50
                  exact V_sub [0, 1] rfl k51
              refine V_if_eq C0 (tgt := 121) (by decide) dX6_levelTanks_114 (fun c47 => ?_) (fun c47 => ?_)
              · have q45 := (if_pos c47).symm.trans q45
                refine V_aload C0 5 rfl dX6_levelTanks_121 ?_
                cases q45
                exact V_sub [1, 2, 4, 5, 0] rfl k46
              · have q45 := (if_neg c47).symm.trans q45
                refine V_aload_n C0 4 rfl rfl dX6_levelTanks_117 ?_
                refine V_goto C0 (tgt := 123) (by decide) dX6_levelTanks_118 ?_
                cases q45
                exact V_sub [1, 2, 4, 5, 0] rfl k46
            refine V_icmp_lt C0 (tgt := 101) (by decide) dX6_levelTanks_94 (fun c42 => ?_) (fun c42 => ?_)
            · have q40 := (if_pos c42).symm.trans q40
              refine V_iconst C0 (v := (0 : Int32)) (by decide) dX6_levelTanks_101 ?_
              cases q40
              exact V_sub [3, 4, 2, 1, 0] rfl k41
            · have q40 := (if_neg c42).symm.trans q40
              refine V_iconst C0 (v := (1 : Int32)) (by decide) dX6_levelTanks_97 ?_
              refine V_goto C0 (tgt := 102) (by decide) dX6_levelTanks_98 ?_
              cases q40
              exact V_sub [3, 4, 2, 1, 0] rfl k41
set_option maxRecDepth 100000 in
set_option maxHeartbeats 4000000 in
theorem c_X6_levelTanks (l : Launch) (D : va_G) (cA : Nat → ClassId) (ad : Nat → Nat) (bs : Nat) (X : State → Prop) (hAd : Ax ad bs) (hX : Stb bs X) (N : Nat) (x0 : Nat) (I : MI) (L : ML) (R : MR) (I' : MI) (h : F_X6_levelTanks N x0 I L R = some (I')) : Cn l D cA ad bs X yX6_levelTanks cX6_levelTanks 6 none 2 47 [.ref (ad x0)] I L R (none, I', L, R) := by
  refine Cn.ofV hAd hX [(0, .ref (ad x0))] rfl (Nat.le_of_ble_eq_true rfl) (by decide) ?_
  intro G el eD ecA ead ebs eX erm eNL C0
  subst el eD ecA ead ebs eX
  unfold F_X6_levelTanks at h
  obtain ⟨c_x0, h⟩ := ite_some h
  refine V_iconst C0 (v := (0 : Int32)) (by decide) dX6_levelTanks_0 ?_
  refine V_istore_n C0 [(1, .int (0 : Int32)), (0, .ref (G.ad x0))] rfl (by rw [eNL]; decide) rfl dX6_levelTanks_1 ?_
  obtain ⟨z57, q58, h⟩ := bn1_some h
  refine V_sub [1, 0] rfl (lp_X6_levelTanks_2 C0 eNL erm N N x0 (0 : Int32) I L R _ c_x0.1 c_x0.2 q58 _ ?_)
  show V G _ 143 [] [] z57 L R
  cases h
  exact V_vret C0 dX6_levelTanks_143
theorem dX6_heatAlone_0 : decode cX6_heatAlone 0 = .ok (.aload_n 1, 1) := by decide +kernel
theorem dX6_heatAlone_1 : decode cX6_heatAlone 1 = .ok (.getfield 72, 3) := by decide +kernel
theorem dX6_heatAlone_4 : decode cX6_heatAlone 4 = .ok (.bipush 62, 2) := by decide +kernel
theorem dX6_heatAlone_6 : decode cX6_heatAlone 6 = .ok (.iaload, 1) := by decide +kernel
theorem dX6_heatAlone_7 : decode cX6_heatAlone 7 = .ok (.istore_n 3, 1) := by decide +kernel
theorem dX6_heatAlone_8 : decode cX6_heatAlone 8 = .ok (.aload_n 1, 1) := by decide +kernel
theorem dX6_heatAlone_9 : decode cX6_heatAlone 9 = .ok (.invokevirtual 124, 3) := by decide +kernel
theorem dX6_heatAlone_12 : decode cX6_heatAlone 12 = .ok (.istore 4, 2) := by decide +kernel
theorem dX6_heatAlone_14 : decode cX6_heatAlone 14 = .ok (.aload_n 1, 1) := by decide +kernel
theorem dX6_heatAlone_15 : decode cX6_heatAlone 15 = .ok (.bipush 6, 2) := by decide +kernel
theorem dX6_heatAlone_17 : decode cX6_heatAlone 17 = .ok (.invokevirtual 59, 3) := by decide +kernel
theorem dX6_heatAlone_20 : decode cX6_heatAlone 20 = .ok (.ifCond .eq 10, 3) := by decide +kernel
theorem dX6_heatAlone_23 : decode cX6_heatAlone 23 = .ok (.aload_n 1, 1) := by decide +kernel
theorem dX6_heatAlone_24 : decode cX6_heatAlone 24 = .ok (.invokevirtual 62, 3) := by decide +kernel
theorem dX6_heatAlone_27 : decode cX6_heatAlone 27 = .ok (.goto 4, 3) := by decide +kernel
theorem dX6_heatAlone_30 : decode cX6_heatAlone 30 = .ok (.iconst 0, 1) := by decide +kernel
theorem dX6_heatAlone_31 : decode cX6_heatAlone 31 = .ok (.istore 5, 2) := by decide +kernel
theorem dX6_heatAlone_33 : decode cX6_heatAlone 33 = .ok (.aload_n 1, 1) := by decide +kernel
theorem dX6_heatAlone_34 : decode cX6_heatAlone 34 = .ok (.bipush 7, 2) := by decide +kernel
theorem dX6_heatAlone_36 : decode cX6_heatAlone 36 = .ok (.invokevirtual 48, 3) := by decide +kernel
theorem dX6_heatAlone_39 : decode cX6_heatAlone 39 = .ok (.ifCond .eq 9, 3) := by decide +kernel
theorem dX6_heatAlone_42 : decode cX6_heatAlone 42 = .ok (.iconst 4, 1) := by decide +kernel
theorem dX6_heatAlone_43 : decode cX6_heatAlone 43 = .ok (.iload 5, 2) := by decide +kernel
theorem dX6_heatAlone_45 : decode cX6_heatAlone 45 = .ok (.imul, 1) := by decide +kernel
theorem dX6_heatAlone_46 : decode cX6_heatAlone 46 = .ok (.istore 5, 2) := by decide +kernel
theorem dX6_heatAlone_48 : decode cX6_heatAlone 48 = .ok (.iload 4, 2) := by decide +kernel
theorem dX6_heatAlone_50 : decode cX6_heatAlone 50 = .ok (.ifCond .le 14, 3) := by decide +kernel
theorem dX6_heatAlone_53 : decode cX6_heatAlone 53 = .ok (.iload 5, 2) := by decide +kernel
theorem dX6_heatAlone_55 : decode cX6_heatAlone 55 = .ok (.bipush 10, 2) := by decide +kernel
theorem dX6_heatAlone_57 : decode cX6_heatAlone 57 = .ok (.imul, 1) := by decide +kernel
theorem dX6_heatAlone_58 : decode cX6_heatAlone 58 = .ok (.iload 4, 2) := by decide +kernel
theorem dX6_heatAlone_60 : decode cX6_heatAlone 60 = .ok (.idiv, 1) := by decide +kernel
theorem dX6_heatAlone_61 : decode cX6_heatAlone 61 = .ok (.goto 4, 3) := by decide +kernel
theorem dX6_heatAlone_64 : decode cX6_heatAlone 64 = .ok (.iconst 0, 1) := by decide +kernel
theorem dX6_heatAlone_65 : decode cX6_heatAlone 65 = .ok (.istore 6, 2) := by decide +kernel
theorem dX6_heatAlone_67 : decode cX6_heatAlone 67 = .ok (.iconst 4, 1) := by decide +kernel
theorem dX6_heatAlone_68 : decode cX6_heatAlone 68 = .ok (.iload_n 2, 1) := by decide +kernel
theorem dX6_heatAlone_69 : decode cX6_heatAlone 69 = .ok (.imul, 1) := by decide +kernel
theorem dX6_heatAlone_70 : decode cX6_heatAlone 70 = .ok (.sipush 250, 3) := by decide +kernel
theorem dX6_heatAlone_73 : decode cX6_heatAlone 73 = .ok (.isub, 1) := by decide +kernel
theorem dX6_heatAlone_74 : decode cX6_heatAlone 74 = .ok (.istore 7, 2) := by decide +kernel
theorem dX6_heatAlone_76 : decode cX6_heatAlone 76 = .ok (.bipush 24, 2) := by decide +kernel
theorem dX6_heatAlone_78 : decode cX6_heatAlone 78 = .ok (.iload 4, 2) := by decide +kernel
theorem dX6_heatAlone_80 : decode cX6_heatAlone 80 = .ok (.iadd, 1) := by decide +kernel
theorem dX6_heatAlone_81 : decode cX6_heatAlone 81 = .ok (.ifCond .le 16, 3) := by decide +kernel
theorem dX6_heatAlone_84 : decode cX6_heatAlone 84 = .ok (.iload_n 3, 1) := by decide +kernel
theorem dX6_heatAlone_85 : decode cX6_heatAlone 85 = .ok (.iload 7, 2) := by decide +kernel
theorem dX6_heatAlone_87 : decode cX6_heatAlone 87 = .ok (.isub, 1) := by decide +kernel
theorem dX6_heatAlone_88 : decode cX6_heatAlone 88 = .ok (.bipush 24, 2) := by decide +kernel
theorem dX6_heatAlone_90 : decode cX6_heatAlone 90 = .ok (.iload 4, 2) := by decide +kernel
theorem dX6_heatAlone_92 : decode cX6_heatAlone 92 = .ok (.iadd, 1) := by decide +kernel
theorem dX6_heatAlone_93 : decode cX6_heatAlone 93 = .ok (.idiv, 1) := by decide +kernel
theorem dX6_heatAlone_94 : decode cX6_heatAlone 94 = .ok (.goto 4, 3) := by decide +kernel
theorem dX6_heatAlone_97 : decode cX6_heatAlone 97 = .ok (.iconst 0, 1) := by decide +kernel
theorem dX6_heatAlone_98 : decode cX6_heatAlone 98 = .ok (.istore 8, 2) := by decide +kernel
theorem dX6_heatAlone_100 : decode cX6_heatAlone 100 = .ok (.iload_n 3, 1) := by decide +kernel
theorem dX6_heatAlone_101 : decode cX6_heatAlone 101 = .ok (.iload 6, 2) := by decide +kernel
theorem dX6_heatAlone_103 : decode cX6_heatAlone 103 = .ok (.iadd, 1) := by decide +kernel
theorem dX6_heatAlone_104 : decode cX6_heatAlone 104 = .ok (.iload 8, 2) := by decide +kernel
theorem dX6_heatAlone_106 : decode cX6_heatAlone 106 = .ok (.isub, 1) := by decide +kernel
theorem dX6_heatAlone_107 : decode cX6_heatAlone 107 = .ok (.ireturn, 1) := by decide +kernel
def F_X6_heatAlone (N : Nat) (x0 : Nat) (x1 : Nat) (x2 : Int32) (I : MI) (L : ML) (R : MR) : Option (Int32) :=
  if kd x0 = 5 ∧ x0 < NN then
  if kd x1 = 8 ∧ x1 < NN then
  (rf R x1 0 20).bind fun a1 =>
  (ri I a1 (62 : Int32)).bind fun v2 =>
  bn1 (F_X9_mass N x1 I L R) fun v3 =>
  bn1 (F_X9_isOn x1 (6 : Int32) I L R) fun b5 =>
  bn1 (
    if (b2i b5) = 0 then
      some ((0 : Int32))
    else
      bn1 (F_X9_need N x1 I L R) fun v11 =>
      some (v11)
  ) fun (s7 : Int32) =>
  bn1 (F_X9_is x1 (7 : Int32) I L R) fun b13 =>
  bn1 (
    if (b2i b13) = 0 then
      some (s7)
    else
      wr ((4 : Int32) * s7) fun (u19 : Int32) =>
      some (u19)
  ) fun (u15 : Int32) =>
  bn1 (
    if v3 ≤ 0 then
      some ((0 : Int32))
    else
      if v3 = 0 then none else
      some (((u15 * (10 : Int32)) / v3))
  ) fun (s20 : Int32) =>
  wr (((4 : Int32) * x2) - (250 : Int32)) fun (u25 : Int32) =>
  bn1 (
    if ((24 : Int32) + v3) ≤ 0 then
      some ((0 : Int32))
    else
      if ((24 : Int32) + v3) = 0 then none else
      some (((v2 - u25) / ((24 : Int32) + v3)))
  ) fun (s26 : Int32) =>
  some (((v2 + s20) - s26))
  else none
  else none
set_option maxRecDepth 100000 in
set_option maxHeartbeats 4000000 in
theorem c_X6_heatAlone (l : Launch) (D : va_G) (cA : Nat → ClassId) (ad : Nat → Nat) (bs : Nat) (X : State → Prop) (hAd : Ax ad bs) (hX : Stb bs X) (N : Nat) (x0 : Nat) (x1 : Nat) (x2 : Int32) (I : MI) (L : ML) (R : MR) (r : Int32) (h : F_X6_heatAlone N x0 x1 x2 I L R = some (r)) : Cn l D cA ad bs X yX6_heatAlone cX6_heatAlone 9 (some .int) 2 42 [.ref (ad x0), .ref (ad x1), .int x2] I L R (some (.int r), I, L, R) := by
  refine Cn.ofV hAd hX [(0, .ref (ad x0)), (1, .ref (ad x1)), (2, .int x2)] rfl (Nat.le_of_ble_eq_true rfl) (by decide) ?_
  intro G el eD ecA ead ebs eX erm eNL C0
  subst el eD ecA ead ebs eX
  unfold F_X6_heatAlone at h
  obtain ⟨c_x0, h⟩ := ite_some h
  obtain ⟨c_x1, h⟩ := ite_some h
  refine V_aload_n C0 1 rfl rfl dX6_heatAlone_0 ?_
  obtain ⟨a1, qa1, h⟩ := bnd_some h
  refine V_getR C0 8 0 fl_X6_72 c_x1.2 c_x1.1 rfl (rf_at qa1) dX6_heatAlone_1 ?_
  refine V_bipush C0 (v := (62 : Int32)) (by decide) dX6_heatAlone_4 ?_
  obtain ⟨v2, qv2, h⟩ := bnd_some h
  refine V_ri C0 (rf_lt qa1) (rf_kd qa1) qv2 dX6_heatAlone_6 ?_
  refine V_istore_n C0 [(3, .int v2), (0, .ref (G.ad x0)), (1, .ref (G.ad x1)), (2, .int x2)] rfl (by rw [eNL]; decide) rfl dX6_heatAlone_7 ?_
  refine V_aload_n C0 2 rfl rfl dX6_heatAlone_8 ?_
  obtain ⟨v3, q4, h⟩ := bn1_some h
  refine V_callV C0 (st := []) (As := []) 8 (c_X9_mass G.l G.D G.cA G.ad G.bs G.X C0.2.2.2.2.2.2.2.2.2.1 C0.2.2.2.2.2.2.2.2.2.2.2.2 N x1 I L R v3 q4) lc_X9_mass lk_X6_124 c_x1.2 c_x1.1 ⟨_, rfl, rfl⟩ rfl (by rw [erm]; decide) (Nat.le_of_ble_eq_true rfl) dX6_heatAlone_9 ?_
  show V G _ 12 [(3, .int v2), (0, .ref (G.ad x0)), (1, .ref (G.ad x1)), (2, .int x2)] [.int v3] I L R
  refine V_istore C0 [(4, .int v3), (3, .int v2), (0, .ref (G.ad x0)), (1, .ref (G.ad x1)), (2, .int x2)] (by rw [eNL]; decide) rfl dX6_heatAlone_12 ?_
  refine V_aload_n C0 3 rfl rfl dX6_heatAlone_14 ?_
  refine V_bipush C0 (v := (6 : Int32)) (by decide) dX6_heatAlone_15 ?_
  obtain ⟨b5, q6, h⟩ := bn1_some h
  refine V_callV C0 (st := []) (As := [.int (6 : Int32)]) 8 (c_X9_isOn G.l G.D G.cA G.ad G.bs G.X C0.2.2.2.2.2.2.2.2.2.1 C0.2.2.2.2.2.2.2.2.2.2.2.2 x1 (6 : Int32) I L R b5 q6) lc_X9_isOn lk_X6_59 c_x1.2 c_x1.1 ⟨_, rfl, rfl⟩ rfl (by rw [erm]; decide) (Nat.le_of_ble_eq_true rfl) dX6_heatAlone_17 ?_
  show V G _ 20 [(4, .int v3), (3, .int v2), (0, .ref (G.ad x0)), (1, .ref (G.ad x1)), (2, .int x2)] [.int (b2i b5)] I L R
  obtain ⟨s7, q8, h⟩ := bn1_some h
  have k9 : V G (qf G (some (.int r), I, L, R)) 31 [(1, .ref (G.ad x1)), (2, .int x2), (3, .int v2), (4, .int v3)] [.int s7] I L R := by
    refine V_istore C0 [(5, .int s7), (1, .ref (G.ad x1)), (2, .int x2), (3, .int v2), (4, .int v3)] (by rw [eNL]; decide) rfl dX6_heatAlone_31 ?_
    refine V_aload_n C0 1 rfl rfl dX6_heatAlone_33 ?_
    refine V_bipush C0 (v := (7 : Int32)) (by decide) dX6_heatAlone_34 ?_
    obtain ⟨b13, q14, h⟩ := bn1_some h
    refine V_callV C0 (st := []) (As := [.int (7 : Int32)]) 8 (c_X9_is G.l G.D G.cA G.ad G.bs G.X C0.2.2.2.2.2.2.2.2.2.1 C0.2.2.2.2.2.2.2.2.2.2.2.2 x1 (7 : Int32) I L R b13 q14) lc_X9_is lk_X6_48 c_x1.2 c_x1.1 ⟨_, rfl, rfl⟩ rfl (by rw [erm]; decide) (Nat.le_of_ble_eq_true rfl) dX6_heatAlone_36 ?_
    show V G _ 39 [(5, .int s7), (1, .ref (G.ad x1)), (2, .int x2), (3, .int v2), (4, .int v3)] [.int (b2i b13)] I L R
    obtain ⟨u15, q16, h⟩ := bn1_some h
    have k17 : V G (qf G (some (.int r), I, L, R)) 48 [(2, .int x2), (3, .int v2), (4, .int v3), (5, .int u15)] [] I L R := by
      refine V_iload C0 2 rfl dX6_heatAlone_48 ?_
      obtain ⟨s20, q21, h⟩ := bn1_some h
      have k22 : V G (qf G (some (.int r), I, L, R)) 65 [(2, .int x2), (3, .int v2), (4, .int v3)] [.int s20] I L R := by
        refine V_istore C0 [(6, .int s20), (2, .int x2), (3, .int v2), (4, .int v3)] (by rw [eNL]; decide) rfl dX6_heatAlone_65 ?_
        refine V_iconst C0 (v := (4 : Int32)) (by decide) dX6_heatAlone_67 ?_
        refine V_iload_n C0 1 rfl rfl dX6_heatAlone_68 ?_
        refine V_imul C0 dX6_heatAlone_69 ?_
        refine V_sipush C0 (v := (250 : Int32)) (by decide) dX6_heatAlone_70 ?_
        refine V_isub C0 dX6_heatAlone_73 ?_
        obtain ⟨u25, eu25, h⟩ := wr_some h
        rw [← eu25]
        refine V_istore C0 [(7, .int u25), (6, .int s20), (2, .int x2), (3, .int v2), (4, .int v3)] (by rw [eNL]; decide) rfl dX6_heatAlone_74 ?_
        refine V_bipush C0 (v := (24 : Int32)) (by decide) dX6_heatAlone_76 ?_
        refine V_iload C0 4 rfl dX6_heatAlone_78 ?_
        refine V_iadd C0 dX6_heatAlone_80 ?_
        obtain ⟨s26, q27, h⟩ := bn1_some h
        have k28 : V G (qf G (some (.int r), I, L, R)) 98 [(3, .int v2), (6, .int s20)] [.int s26] I L R := by
          refine V_istore C0 [(8, .int s26), (3, .int v2), (6, .int s20)] (by rw [eNL]; decide) rfl dX6_heatAlone_98 ?_
          refine V_iload_n C0 1 rfl rfl dX6_heatAlone_100 ?_
          refine V_iload C0 2 rfl dX6_heatAlone_101 ?_
          refine V_iadd C0 dX6_heatAlone_103 ?_
          refine V_iload C0 0 rfl dX6_heatAlone_104 ?_
          refine V_isub C0 dX6_heatAlone_106 ?_
          cases h
          exact V_iret C0 dX6_heatAlone_107
        refine V_if_le C0 (tgt := 97) (by decide) dX6_heatAlone_81 (fun c29 => ?_) (fun c29 => ?_)
        · have q27 := (if_pos c29).symm.trans q27
          refine V_iconst C0 (v := (0 : Int32)) (by decide) dX6_heatAlone_97 ?_
          cases q27
          exact V_sub [3, 1] rfl k28
        · have q27 := (if_neg c29).symm.trans q27
          refine V_iload_n C0 3 rfl rfl dX6_heatAlone_84 ?_
          refine V_iload C0 0 rfl dX6_heatAlone_85 ?_
          refine V_isub C0 dX6_heatAlone_87 ?_
          refine V_bipush C0 (v := (24 : Int32)) (by decide) dX6_heatAlone_88 ?_
          refine V_iload C0 4 rfl dX6_heatAlone_90 ?_
          refine V_iadd C0 dX6_heatAlone_92 ?_
          obtain ⟨c30, q27⟩ := ite_none q27
          refine V_idiv C0 c30 dX6_heatAlone_93 ?_
          refine V_goto C0 (tgt := 98) (by decide) dX6_heatAlone_94 ?_
          cases q27
          exact V_sub [3, 1] rfl k28
      refine V_if_le C0 (tgt := 64) (by decide) dX6_heatAlone_50 (fun c23 => ?_) (fun c23 => ?_)
      · have q21 := (if_pos c23).symm.trans q21
        refine V_iconst C0 (v := (0 : Int32)) (by decide) dX6_heatAlone_64 ?_
        cases q21
        exact V_sub [0, 1, 2] rfl k22
      · have q21 := (if_neg c23).symm.trans q21
        refine V_iload C0 3 rfl dX6_heatAlone_53 ?_
        refine V_bipush C0 (v := (10 : Int32)) (by decide) dX6_heatAlone_55 ?_
        refine V_imul C0 dX6_heatAlone_57 ?_
        refine V_iload C0 2 rfl dX6_heatAlone_58 ?_
        obtain ⟨c24, q21⟩ := ite_none q21
        refine V_idiv C0 c24 dX6_heatAlone_60 ?_
        refine V_goto C0 (tgt := 65) (by decide) dX6_heatAlone_61 ?_
        cases q21
        exact V_sub [0, 1, 2] rfl k22
    refine V_if_eq C0 (tgt := 48) (by decide) dX6_heatAlone_39 (fun c18 => ?_) (fun c18 => ?_)
    · have q16 := (if_pos c18).symm.trans q16
      cases q16
      exact V_sub [2, 3, 4, 0] rfl k17
    · have q16 := (if_neg c18).symm.trans q16
      refine V_iconst C0 (v := (4 : Int32)) (by decide) dX6_heatAlone_42 ?_
      refine V_iload C0 0 rfl dX6_heatAlone_43 ?_
      refine V_imul C0 dX6_heatAlone_45 ?_
      obtain ⟨u19, eu19, q16⟩ := wr_some q16
      rw [← eu19]
      refine V_istore C0 [(5, .int u19), (1, .ref (G.ad x1)), (2, .int x2), (3, .int v2), (4, .int v3)] (by rw [eNL]; decide) rfl dX6_heatAlone_46 ?_
      cases q16
      exact V_sub [2, 3, 4, 0] rfl k17
  refine V_if_eq C0 (tgt := 30) (by decide) dX6_heatAlone_20 (fun c10 => ?_) (fun c10 => ?_)
  · have q8 := (if_pos c10).symm.trans q8
    refine V_iconst C0 (v := (0 : Int32)) (by decide) dX6_heatAlone_30 ?_
    cases q8
    exact V_sub [3, 4, 1, 0] rfl k9
  · have q8 := (if_neg c10).symm.trans q8
    refine V_aload_n C0 3 rfl rfl dX6_heatAlone_23 ?_
    obtain ⟨v11, q12, q8⟩ := bn1_some q8
    refine V_callV C0 (st := []) (As := []) 8 (c_X9_need G.l G.D G.cA G.ad G.bs G.X C0.2.2.2.2.2.2.2.2.2.1 C0.2.2.2.2.2.2.2.2.2.2.2.2 N x1 I L R v11 q12) lc_X9_need lk_X6_62 c_x1.2 c_x1.1 ⟨_, rfl, rfl⟩ rfl (by rw [erm]; decide) (Nat.le_of_ble_eq_true rfl) dX6_heatAlone_24 ?_
    show V G _ 27 [(4, .int v3), (3, .int v2), (0, .ref (G.ad x0)), (1, .ref (G.ad x1)), (2, .int x2)] [.int v11] I L R
    refine V_goto C0 (tgt := 31) (by decide) dX6_heatAlone_27 ?_
    cases q8
    exact V_sub [3, 4, 1, 0] rfl k9
theorem dX6_fromNeighbour_0 : decode cX6_fromNeighbour 0 = .ok (.aload_n 0, 1) := by decide +kernel
theorem dX6_fromNeighbour_1 : decode cX6_fromNeighbour 1 = .ok (.getfield 15, 3) := by decide +kernel
theorem dX6_fromNeighbour_4 : decode cX6_fromNeighbour 4 = .ok (.iload_n 2, 1) := by decide +kernel
theorem dX6_fromNeighbour_5 : decode cX6_fromNeighbour 5 = .ok (.invokevirtual 127, 3) := by decide +kernel
theorem dX6_fromNeighbour_8 : decode cX6_fromNeighbour 8 = .ok (.ifCond .ne 5, 3) := by decide +kernel
theorem dX6_fromNeighbour_11 : decode cX6_fromNeighbour 11 = .ok (.iconst 0, 1) := by decide +kernel
theorem dX6_fromNeighbour_12 : decode cX6_fromNeighbour 12 = .ok (.ireturn, 1) := by decide +kernel
theorem dX6_fromNeighbour_13 : decode cX6_fromNeighbour 13 = .ok (.aload_n 0, 1) := by decide +kernel
theorem dX6_fromNeighbour_14 : decode cX6_fromNeighbour 14 = .ok (.getfield 15, 3) := by decide +kernel
theorem dX6_fromNeighbour_17 : decode cX6_fromNeighbour 17 = .ok (.iload_n 2, 1) := by decide +kernel
theorem dX6_fromNeighbour_18 : decode cX6_fromNeighbour 18 = .ok (.invokevirtual 38, 3) := by decide +kernel
theorem dX6_fromNeighbour_21 : decode cX6_fromNeighbour 21 = .ok (.getfield 72, 3) := by decide +kernel
theorem dX6_fromNeighbour_24 : decode cX6_fromNeighbour 24 = .ok (.bipush 62, 2) := by decide +kernel
theorem dX6_fromNeighbour_26 : decode cX6_fromNeighbour 26 = .ok (.iaload, 1) := by decide +kernel
theorem dX6_fromNeighbour_27 : decode cX6_fromNeighbour 27 = .ok (.aload_n 0, 1) := by decide +kernel
theorem dX6_fromNeighbour_28 : decode cX6_fromNeighbour 28 = .ok (.getfield 15, 3) := by decide +kernel
theorem dX6_fromNeighbour_31 : decode cX6_fromNeighbour 31 = .ok (.iload_n 1, 1) := by decide +kernel
theorem dX6_fromNeighbour_32 : decode cX6_fromNeighbour 32 = .ok (.invokevirtual 38, 3) := by decide +kernel
theorem dX6_fromNeighbour_35 : decode cX6_fromNeighbour 35 = .ok (.getfield 72, 3) := by decide +kernel
theorem dX6_fromNeighbour_38 : decode cX6_fromNeighbour 38 = .ok (.bipush 62, 2) := by decide +kernel
theorem dX6_fromNeighbour_40 : decode cX6_fromNeighbour 40 = .ok (.iaload, 1) := by decide +kernel
theorem dX6_fromNeighbour_41 : decode cX6_fromNeighbour 41 = .ok (.isub, 1) := by decide +kernel
theorem dX6_fromNeighbour_42 : decode cX6_fromNeighbour 42 = .ok (.bipush 16, 2) := by decide +kernel
theorem dX6_fromNeighbour_44 : decode cX6_fromNeighbour 44 = .ok (.idiv, 1) := by decide +kernel
theorem dX6_fromNeighbour_45 : decode cX6_fromNeighbour 45 = .ok (.ireturn, 1) := by decide +kernel
def F_X6_fromNeighbour (x0 : Nat) (x1 : Int32) (x2 : Int32) (I : MI) (L : ML) (R : MR) : Option (Int32) :=
  if kd x0 = 5 ∧ x0 < NN then
  (rf R x0 0 9).bind fun a1 =>
  bn1 (F_X10_has a1 x2 I L R) fun b2 =>
  if (b2i b2) = 0 then
    some ((0 : Int32))
  else
    bn1 (F_X10_unitAt a1 x2 I L R) fun a5 =>
    if kd a5 = 8 ∧ a5 < NN then
    (rf R a5 0 20).bind fun a8 =>
    (ri I a8 (62 : Int32)).bind fun v9 =>
    bn1 (F_X10_unitAt a1 x1 I L R) fun a10 =>
    if kd a10 = 8 ∧ a10 < NN then
    (rf R a10 0 20).bind fun a13 =>
    (ri I a13 (62 : Int32)).bind fun v14 =>
    some (((v9 - v14) / (16 : Int32)))
    else none
    else none
  else none
set_option maxRecDepth 100000 in
set_option maxHeartbeats 4000000 in
theorem c_X6_fromNeighbour (l : Launch) (D : va_G) (cA : Nat → ClassId) (ad : Nat → Nat) (bs : Nat) (X : State → Prop) (hAd : Ax ad bs) (hX : Stb bs X) (x0 : Nat) (x1 : Int32) (x2 : Int32) (I : MI) (L : ML) (R : MR) (r : Int32) (h : F_X6_fromNeighbour x0 x1 x2 I L R = some (r)) : Cn l D cA ad bs X yX6_fromNeighbour cX6_fromNeighbour 3 (some .int) 2 42 [.ref (ad x0), .int x1, .int x2] I L R (some (.int r), I, L, R) := by
  refine Cn.ofV hAd hX [(0, .ref (ad x0)), (1, .int x1), (2, .int x2)] rfl (Nat.le_of_ble_eq_true rfl) (by decide) ?_
  intro G el eD ecA ead ebs eX erm eNL C0
  subst el eD ecA ead ebs eX
  unfold F_X6_fromNeighbour at h
  obtain ⟨c_x0, h⟩ := ite_some h
  refine V_aload_n C0 0 rfl rfl dX6_fromNeighbour_0 ?_
  obtain ⟨a1, qa1, h⟩ := bnd_some h
  refine V_getR C0 5 0 fl_X6_15 c_x0.2 c_x0.1 rfl (rf_at qa1) dX6_fromNeighbour_1 ?_
  refine V_iload_n C0 2 rfl rfl dX6_fromNeighbour_4 ?_
  obtain ⟨b2, q3, h⟩ := bn1_some h
  refine V_callV C0 (st := []) (As := [.int x2]) 9 (c_X10_has G.l G.D G.cA G.ad G.bs G.X C0.2.2.2.2.2.2.2.2.2.1 C0.2.2.2.2.2.2.2.2.2.2.2.2 a1 x2 I L R b2 q3) lc_X10_has lk_X6_127 (rf_lt qa1) (rf_kd qa1) ⟨_, rfl, rfl⟩ rfl (by rw [erm]; decide) (Nat.le_of_ble_eq_true rfl) dX6_fromNeighbour_5 ?_
  show V G _ 8 [(0, .ref (G.ad x0)), (1, .int x1), (2, .int x2)] [.int (b2i b2)] I L R
  refine V_if_ne C0 (tgt := 13) (by decide) dX6_fromNeighbour_8 (fun c4 => ?_) (fun c4 => ?_)
  · have h := (if_neg c4).symm.trans h
    refine V_aload_n C0 0 rfl rfl dX6_fromNeighbour_13 ?_
    refine V_getR C0 5 0 fl_X6_15 c_x0.2 c_x0.1 rfl (rf_at qa1) dX6_fromNeighbour_14 ?_
    refine V_iload_n C0 2 rfl rfl dX6_fromNeighbour_17 ?_
    obtain ⟨a5, q6, h⟩ := bn1_some h
    refine V_callV C0 (st := []) (As := [.int x2]) 9 (c_X10_unitAt G.l G.D G.cA G.ad G.bs G.X C0.2.2.2.2.2.2.2.2.2.1 C0.2.2.2.2.2.2.2.2.2.2.2.2 a1 x2 I L R a5 q6) lc_X10_unitAt lk_X6_38 (rf_lt qa1) (rf_kd qa1) ⟨_, rfl, rfl⟩ rfl (by rw [erm]; decide) (Nat.le_of_ble_eq_true rfl) dX6_fromNeighbour_18 ?_
    show V G _ 21 [(0, .ref (G.ad x0)), (1, .int x1), (2, .int x2)] [.ref (G.ad a5)] I L R
    obtain ⟨c7, h⟩ := ite_some h
    obtain ⟨a8, qa8, h⟩ := bnd_some h
    refine V_getR C0 8 0 fl_X6_72 c7.2 c7.1 rfl (rf_at qa8) dX6_fromNeighbour_21 ?_
    refine V_bipush C0 (v := (62 : Int32)) (by decide) dX6_fromNeighbour_24 ?_
    obtain ⟨v9, qv9, h⟩ := bnd_some h
    refine V_ri C0 (rf_lt qa8) (rf_kd qa8) qv9 dX6_fromNeighbour_26 ?_
    refine V_aload_n C0 0 rfl rfl dX6_fromNeighbour_27 ?_
    refine V_getR C0 5 0 fl_X6_15 c_x0.2 c_x0.1 rfl (rf_at qa1) dX6_fromNeighbour_28 ?_
    refine V_iload_n C0 1 rfl rfl dX6_fromNeighbour_31 ?_
    obtain ⟨a10, q11, h⟩ := bn1_some h
    refine V_callV C0 (st := [.int v9]) (As := [.int x1]) 9 (c_X10_unitAt G.l G.D G.cA G.ad G.bs G.X C0.2.2.2.2.2.2.2.2.2.1 C0.2.2.2.2.2.2.2.2.2.2.2.2 a1 x1 I L R a10 q11) lc_X10_unitAt lk_X6_38 (rf_lt qa1) (rf_kd qa1) ⟨_, rfl, rfl⟩ rfl (by rw [erm]; decide) (Nat.le_of_ble_eq_true rfl) dX6_fromNeighbour_32 ?_
    show V G _ 35 [(0, .ref (G.ad x0)), (1, .int x1), (2, .int x2)] [.ref (G.ad a10), .int v9] I L R
    obtain ⟨c12, h⟩ := ite_some h
    obtain ⟨a13, qa13, h⟩ := bnd_some h
    refine V_getR C0 8 0 fl_X6_72 c12.2 c12.1 rfl (rf_at qa13) dX6_fromNeighbour_35 ?_
    refine V_bipush C0 (v := (62 : Int32)) (by decide) dX6_fromNeighbour_38 ?_
    obtain ⟨v14, qv14, h⟩ := bnd_some h
    refine V_ri C0 (rf_lt qa13) (rf_kd qa13) qv14 dX6_fromNeighbour_40 ?_
    refine V_isub C0 dX6_fromNeighbour_41 ?_
    refine V_bipush C0 (v := (16 : Int32)) (by decide) dX6_fromNeighbour_42 ?_
    refine V_idiv C0 (by decide) dX6_fromNeighbour_44 ?_
    cases h
    exact V_iret C0 dX6_fromNeighbour_45
  · have h := (if_pos c4).symm.trans h
    refine V_iconst C0 (v := (0 : Int32)) (by decide) dX6_fromNeighbour_11 ?_
    cases h
    exact V_iret C0 dX6_fromNeighbour_12
theorem dX6_addHeat_0 : decode cX6_addHeat 0 = .ok (.iload_n 1, 1) := by decide +kernel
theorem dX6_addHeat_1 : decode cX6_addHeat 1 = .ok (.ifCond .lt 22, 3) := by decide +kernel
theorem dX6_addHeat_4 : decode cX6_addHeat 4 = .ok (.iload_n 1, 1) := by decide +kernel
theorem dX6_addHeat_5 : decode cX6_addHeat 5 = .ok (.aload_n 0, 1) := by decide +kernel
theorem dX6_addHeat_6 : decode cX6_addHeat 6 = .ok (.getfield 9, 3) := by decide +kernel
theorem dX6_addHeat_9 : decode cX6_addHeat 9 = .ok (.arraylength, 1) := by decide +kernel
theorem dX6_addHeat_10 : decode cX6_addHeat 10 = .ok (.if_icmp .ge 13, 3) := by decide +kernel
theorem dX6_addHeat_13 : decode cX6_addHeat 13 = .ok (.aload_n 0, 1) := by decide +kernel
theorem dX6_addHeat_14 : decode cX6_addHeat 14 = .ok (.getfield 9, 3) := by decide +kernel
theorem dX6_addHeat_17 : decode cX6_addHeat 17 = .ok (.iload_n 1, 1) := by decide +kernel
theorem dX6_addHeat_18 : decode cX6_addHeat 18 = .ok (.dup2, 1) := by decide +kernel
theorem dX6_addHeat_19 : decode cX6_addHeat 19 = .ok (.iaload, 1) := by decide +kernel
theorem dX6_addHeat_20 : decode cX6_addHeat 20 = .ok (.iload_n 2, 1) := by decide +kernel
theorem dX6_addHeat_21 : decode cX6_addHeat 21 = .ok (.iadd, 1) := by decide +kernel
theorem dX6_addHeat_22 : decode cX6_addHeat 22 = .ok (.iastore, 1) := by decide +kernel
theorem dX6_addHeat_23 : decode cX6_addHeat 23 = .ok (.return_, 1) := by decide +kernel
def F_X6_addHeat (x0 : Nat) (x1 : Int32) (x2 : Int32) (I : MI) (L : ML) (R : MR) : Option (MI) :=
  if kd x0 = 5 ∧ x0 < NN then
  if x1 < 0 then
    some (I)
  else
    (rf R x0 1 20).bind fun a2 =>
    if (Int32.ofNat (ln a2)) ≤ x1 then
      some (I)
    else
      (ri I a2 x1).bind fun v4 =>
      (wi I a2 x1 (v4 + x2)).bind fun I5 =>
      some (I5)
  else none
set_option maxRecDepth 100000 in
set_option maxHeartbeats 4000000 in
theorem c_X6_addHeat (l : Launch) (D : va_G) (cA : Nat → ClassId) (ad : Nat → Nat) (bs : Nat) (X : State → Prop) (hAd : Ax ad bs) (hX : Stb bs X) (x0 : Nat) (x1 : Int32) (x2 : Int32) (I : MI) (L : ML) (R : MR) (I' : MI) (h : F_X6_addHeat x0 x1 x2 I L R = some (I')) : Cn l D cA ad bs X yX6_addHeat cX6_addHeat 3 none 0 0 [.ref (ad x0), .int x1, .int x2] I L R (none, I', L, R) := by
  refine Cn.ofV hAd hX [(0, .ref (ad x0)), (1, .int x1), (2, .int x2)] rfl (Nat.le_of_ble_eq_true rfl) (by decide) ?_
  intro G el eD ecA ead ebs eX erm eNL C0
  subst el eD ecA ead ebs eX
  unfold F_X6_addHeat at h
  obtain ⟨c_x0, h⟩ := ite_some h
  refine V_iload_n C0 1 rfl rfl dX6_addHeat_0 ?_
  refine V_if_lt C0 (tgt := 23) (by decide) dX6_addHeat_1 (fun c1 => ?_) (fun c1 => ?_)
  · have h := (if_pos c1).symm.trans h
    cases h
    exact V_vret C0 dX6_addHeat_23
  · have h := (if_neg c1).symm.trans h
    refine V_iload_n C0 1 rfl rfl dX6_addHeat_4 ?_
    refine V_aload_n C0 0 rfl rfl dX6_addHeat_5 ?_
    obtain ⟨a2, qa2, h⟩ := bnd_some h
    refine V_getR C0 5 1 fl_X6_9 c_x0.2 c_x0.1 rfl (rf_at qa2) dX6_addHeat_6 ?_
    refine V_alen C0 (v := Int32.ofNat (ln a2)) (rf_lt qa2) (by rw [(rf_kd qa2)]; decide) rfl dX6_addHeat_9 ?_
    refine V_icmp_ge C0 (tgt := 23) (by decide) dX6_addHeat_10 (fun c3 => ?_) (fun c3 => ?_)
    · have h := (if_pos c3).symm.trans h
      cases h
      exact V_vret C0 dX6_addHeat_23
    · have h := (if_neg c3).symm.trans h
      refine V_aload_n C0 0 rfl rfl dX6_addHeat_13 ?_
      refine V_getR C0 5 1 fl_X6_9 c_x0.2 c_x0.1 rfl (rf_at qa2) dX6_addHeat_14 ?_
      refine V_iload_n C0 1 rfl rfl dX6_addHeat_17 ?_
      refine V_dup2 C0 rfl rfl dX6_addHeat_18 ?_
      obtain ⟨v4, qv4, h⟩ := bnd_some h
      refine V_ri C0 (rf_lt qa2) (rf_kd qa2) qv4 dX6_addHeat_19 ?_
      refine V_iload_n C0 2 rfl rfl dX6_addHeat_20 ?_
      refine V_iadd C0 dX6_addHeat_21 ?_
      obtain ⟨I5, qI5, h⟩ := bnd_some h
      refine V_wi C0 (rf_lt qa2) (rf_kd qa2) qI5 dX6_addHeat_22 ?_
      cases h
      exact V_vret C0 dX6_addHeat_23
theorem dX6_leadHeat_0 : decode cX6_leadHeat 0 = .ok (.aload_n 1, 1) := by decide +kernel
theorem dX6_leadHeat_1 : decode cX6_leadHeat 1 = .ok (.getfield 72, 3) := by decide +kernel
theorem dX6_leadHeat_4 : decode cX6_leadHeat 4 = .ok (.bipush 59, 2) := by decide +kernel
theorem dX6_leadHeat_6 : decode cX6_leadHeat 6 = .ok (.iaload, 1) := by decide +kernel
theorem dX6_leadHeat_7 : decode cX6_leadHeat 7 = .ok (.istore_n 2, 1) := by decide +kernel
theorem dX6_leadHeat_8 : decode cX6_leadHeat 8 = .ok (.aload_n 1, 1) := by decide +kernel
theorem dX6_leadHeat_9 : decode cX6_leadHeat 9 = .ok (.getfield 72, 3) := by decide +kernel
theorem dX6_leadHeat_12 : decode cX6_leadHeat 12 = .ok (.bipush 60, 2) := by decide +kernel
theorem dX6_leadHeat_14 : decode cX6_leadHeat 14 = .ok (.iaload, 1) := by decide +kernel
theorem dX6_leadHeat_15 : decode cX6_leadHeat 15 = .ok (.istore_n 3, 1) := by decide +kernel
theorem dX6_leadHeat_16 : decode cX6_leadHeat 16 = .ok (.iload_n 2, 1) := by decide +kernel
theorem dX6_leadHeat_17 : decode cX6_leadHeat 17 = .ok (.iload_n 3, 1) := by decide +kernel
theorem dX6_leadHeat_18 : decode cX6_leadHeat 18 = .ok (.if_icmp .eq 72, 3) := by decide +kernel
theorem dX6_leadHeat_21 : decode cX6_leadHeat 21 = .ok (.aload_n 0, 1) := by decide +kernel
theorem dX6_leadHeat_22 : decode cX6_leadHeat 22 = .ok (.getfield 15, 3) := by decide +kernel
theorem dX6_leadHeat_25 : decode cX6_leadHeat 25 = .ok (.iload_n 3, 1) := by decide +kernel
theorem dX6_leadHeat_26 : decode cX6_leadHeat 26 = .ok (.invokevirtual 38, 3) := by decide +kernel
theorem dX6_leadHeat_29 : decode cX6_leadHeat 29 = .ok (.getfield 72, 3) := by decide +kernel
theorem dX6_leadHeat_32 : decode cX6_leadHeat 32 = .ok (.bipush 62, 2) := by decide +kernel
theorem dX6_leadHeat_34 : decode cX6_leadHeat 34 = .ok (.iaload, 1) := by decide +kernel
theorem dX6_leadHeat_35 : decode cX6_leadHeat 35 = .ok (.aload_n 0, 1) := by decide +kernel
theorem dX6_leadHeat_36 : decode cX6_leadHeat 36 = .ok (.getfield 15, 3) := by decide +kernel
theorem dX6_leadHeat_39 : decode cX6_leadHeat 39 = .ok (.iload_n 2, 1) := by decide +kernel
theorem dX6_leadHeat_40 : decode cX6_leadHeat 40 = .ok (.invokevirtual 38, 3) := by decide +kernel
theorem dX6_leadHeat_43 : decode cX6_leadHeat 43 = .ok (.getfield 72, 3) := by decide +kernel
theorem dX6_leadHeat_46 : decode cX6_leadHeat 46 = .ok (.bipush 62, 2) := by decide +kernel
theorem dX6_leadHeat_48 : decode cX6_leadHeat 48 = .ok (.iaload, 1) := by decide +kernel
theorem dX6_leadHeat_49 : decode cX6_leadHeat 49 = .ok (.isub, 1) := by decide +kernel
theorem dX6_leadHeat_50 : decode cX6_leadHeat 50 = .ok (.istore 4, 2) := by decide +kernel
theorem dX6_leadHeat_52 : decode cX6_leadHeat 52 = .ok (.aload_n 0, 1) := by decide +kernel
theorem dX6_leadHeat_53 : decode cX6_leadHeat 53 = .ok (.iload_n 2, 1) := by decide +kernel
theorem dX6_leadHeat_54 : decode cX6_leadHeat 54 = .ok (.iload 4, 2) := by decide +kernel
theorem dX6_leadHeat_56 : decode cX6_leadHeat 56 = .ok (.aload_n 1, 1) := by decide +kernel
theorem dX6_leadHeat_57 : decode cX6_leadHeat 57 = .ok (.getfield 72, 3) := by decide +kernel
theorem dX6_leadHeat_60 : decode cX6_leadHeat 60 = .ok (.bipush 61, 2) := by decide +kernel
theorem dX6_leadHeat_62 : decode cX6_leadHeat 62 = .ok (.iaload, 1) := by decide +kernel
theorem dX6_leadHeat_63 : decode cX6_leadHeat 63 = .ok (.imul, 1) := by decide +kernel
theorem dX6_leadHeat_64 : decode cX6_leadHeat 64 = .ok (.bipush 64, 2) := by decide +kernel
theorem dX6_leadHeat_66 : decode cX6_leadHeat 66 = .ok (.idiv, 1) := by decide +kernel
theorem dX6_leadHeat_67 : decode cX6_leadHeat 67 = .ok (.invokevirtual 130, 3) := by decide +kernel
theorem dX6_leadHeat_70 : decode cX6_leadHeat 70 = .ok (.aload_n 0, 1) := by decide +kernel
theorem dX6_leadHeat_71 : decode cX6_leadHeat 71 = .ok (.iload_n 3, 1) := by decide +kernel
theorem dX6_leadHeat_72 : decode cX6_leadHeat 72 = .ok (.iconst 0, 1) := by decide +kernel
theorem dX6_leadHeat_73 : decode cX6_leadHeat 73 = .ok (.iload 4, 2) := by decide +kernel
theorem dX6_leadHeat_75 : decode cX6_leadHeat 75 = .ok (.isub, 1) := by decide +kernel
theorem dX6_leadHeat_76 : decode cX6_leadHeat 76 = .ok (.aload_n 1, 1) := by decide +kernel
theorem dX6_leadHeat_77 : decode cX6_leadHeat 77 = .ok (.getfield 72, 3) := by decide +kernel
theorem dX6_leadHeat_80 : decode cX6_leadHeat 80 = .ok (.bipush 61, 2) := by decide +kernel
theorem dX6_leadHeat_82 : decode cX6_leadHeat 82 = .ok (.iaload, 1) := by decide +kernel
theorem dX6_leadHeat_83 : decode cX6_leadHeat 83 = .ok (.imul, 1) := by decide +kernel
theorem dX6_leadHeat_84 : decode cX6_leadHeat 84 = .ok (.bipush 64, 2) := by decide +kernel
theorem dX6_leadHeat_86 : decode cX6_leadHeat 86 = .ok (.idiv, 1) := by decide +kernel
theorem dX6_leadHeat_87 : decode cX6_leadHeat 87 = .ok (.invokevirtual 130, 3) := by decide +kernel
theorem dX6_leadHeat_90 : decode cX6_leadHeat 90 = .ok (.return_, 1) := by decide +kernel
def F_X6_leadHeat (x0 : Nat) (x1 : Nat) (I : MI) (L : ML) (R : MR) : Option (MI) :=
  if kd x0 = 5 ∧ x0 < NN then
  if kd x1 = 8 ∧ x1 < NN then
  (rf R x1 0 20).bind fun a1 =>
  (ri I a1 (59 : Int32)).bind fun v2 =>
  (ri I a1 (60 : Int32)).bind fun v3 =>
  if v2 = v3 then
    some (I)
  else
    (rf R x0 0 9).bind fun a5 =>
    bn1 (F_X10_unitAt a5 v3 I L R) fun a6 =>
    if kd a6 = 8 ∧ a6 < NN then
    (rf R a6 0 20).bind fun a9 =>
    (ri I a9 (62 : Int32)).bind fun v10 =>
    bn1 (F_X10_unitAt a5 v2 I L R) fun a11 =>
    if kd a11 = 8 ∧ a11 < NN then
    (rf R a11 0 20).bind fun a14 =>
    (ri I a14 (62 : Int32)).bind fun v15 =>
    wr (v10 - v15) fun (u16 : Int32) =>
    (ri I a1 (61 : Int32)).bind fun v17 =>
    bn1 (F_X6_addHeat x0 v2 ((u16 * v17) / (64 : Int32)) I L R) fun I18 =>
    (ri I18 a1 (61 : Int32)).bind fun v20 =>
    bn1 (F_X6_addHeat x0 v3 ((((0 : Int32) - u16) * v20) / (64 : Int32)) I18 L R) fun I21 =>
    some (I21)
    else none
    else none
  else none
  else none
set_option maxRecDepth 100000 in
set_option maxHeartbeats 4000000 in
theorem c_X6_leadHeat (l : Launch) (D : va_G) (cA : Nat → ClassId) (ad : Nat → Nat) (bs : Nat) (X : State → Prop) (hAd : Ax ad bs) (hX : Stb bs X) (x0 : Nat) (x1 : Nat) (I : MI) (L : ML) (R : MR) (I' : MI) (h : F_X6_leadHeat x0 x1 I L R = some (I')) : Cn l D cA ad bs X yX6_leadHeat cX6_leadHeat 5 none 2 42 [.ref (ad x0), .ref (ad x1)] I L R (none, I', L, R) := by
  refine Cn.ofV hAd hX [(0, .ref (ad x0)), (1, .ref (ad x1))] rfl (Nat.le_of_ble_eq_true rfl) (by decide) ?_
  intro G el eD ecA ead ebs eX erm eNL C0
  subst el eD ecA ead ebs eX
  unfold F_X6_leadHeat at h
  obtain ⟨c_x0, h⟩ := ite_some h
  obtain ⟨c_x1, h⟩ := ite_some h
  refine V_aload_n C0 1 rfl rfl dX6_leadHeat_0 ?_
  obtain ⟨a1, qa1, h⟩ := bnd_some h
  refine V_getR C0 8 0 fl_X6_72 c_x1.2 c_x1.1 rfl (rf_at qa1) dX6_leadHeat_1 ?_
  refine V_bipush C0 (v := (59 : Int32)) (by decide) dX6_leadHeat_4 ?_
  obtain ⟨v2, qv2, h⟩ := bnd_some h
  refine V_ri C0 (rf_lt qa1) (rf_kd qa1) qv2 dX6_leadHeat_6 ?_
  refine V_istore_n C0 [(2, .int v2), (0, .ref (G.ad x0)), (1, .ref (G.ad x1))] rfl (by rw [eNL]; decide) rfl dX6_leadHeat_7 ?_
  refine V_aload_n C0 2 rfl rfl dX6_leadHeat_8 ?_
  refine V_getR C0 8 0 fl_X6_72 c_x1.2 c_x1.1 rfl (rf_at qa1) dX6_leadHeat_9 ?_
  refine V_bipush C0 (v := (60 : Int32)) (by decide) dX6_leadHeat_12 ?_
  obtain ⟨v3, qv3, h⟩ := bnd_some h
  refine V_ri C0 (rf_lt qa1) (rf_kd qa1) qv3 dX6_leadHeat_14 ?_
  refine V_istore_n C0 [(3, .int v3), (2, .int v2), (0, .ref (G.ad x0)), (1, .ref (G.ad x1))] rfl (by rw [eNL]; decide) rfl dX6_leadHeat_15 ?_
  refine V_iload_n C0 1 rfl rfl dX6_leadHeat_16 ?_
  refine V_iload_n C0 0 rfl rfl dX6_leadHeat_17 ?_
  refine V_icmp_eq C0 (tgt := 90) (by decide) dX6_leadHeat_18 (fun c4 => ?_) (fun c4 => ?_)
  · have h := (if_pos c4).symm.trans h
    cases h
    exact V_vret C0 dX6_leadHeat_90
  · have h := (if_neg c4).symm.trans h
    refine V_aload_n C0 2 rfl rfl dX6_leadHeat_21 ?_
    obtain ⟨a5, qa5, h⟩ := bnd_some h
    refine V_getR C0 5 0 fl_X6_15 c_x0.2 c_x0.1 rfl (rf_at qa5) dX6_leadHeat_22 ?_
    refine V_iload_n C0 0 rfl rfl dX6_leadHeat_25 ?_
    obtain ⟨a6, q7, h⟩ := bn1_some h
    refine V_callV C0 (st := []) (As := [.int v3]) 9 (c_X10_unitAt G.l G.D G.cA G.ad G.bs G.X C0.2.2.2.2.2.2.2.2.2.1 C0.2.2.2.2.2.2.2.2.2.2.2.2 a5 v3 I L R a6 q7) lc_X10_unitAt lk_X6_38 (rf_lt qa5) (rf_kd qa5) ⟨_, rfl, rfl⟩ rfl (by rw [erm]; decide) (Nat.le_of_ble_eq_true rfl) dX6_leadHeat_26 ?_
    show V G _ 29 [(3, .int v3), (2, .int v2), (0, .ref (G.ad x0)), (1, .ref (G.ad x1))] [.ref (G.ad a6)] I L R
    obtain ⟨c8, h⟩ := ite_some h
    obtain ⟨a9, qa9, h⟩ := bnd_some h
    refine V_getR C0 8 0 fl_X6_72 c8.2 c8.1 rfl (rf_at qa9) dX6_leadHeat_29 ?_
    refine V_bipush C0 (v := (62 : Int32)) (by decide) dX6_leadHeat_32 ?_
    obtain ⟨v10, qv10, h⟩ := bnd_some h
    refine V_ri C0 (rf_lt qa9) (rf_kd qa9) qv10 dX6_leadHeat_34 ?_
    refine V_aload_n C0 2 rfl rfl dX6_leadHeat_35 ?_
    refine V_getR C0 5 0 fl_X6_15 c_x0.2 c_x0.1 rfl (rf_at qa5) dX6_leadHeat_36 ?_
    refine V_iload_n C0 1 rfl rfl dX6_leadHeat_39 ?_
    obtain ⟨a11, q12, h⟩ := bn1_some h
    refine V_callV C0 (st := [.int v10]) (As := [.int v2]) 9 (c_X10_unitAt G.l G.D G.cA G.ad G.bs G.X C0.2.2.2.2.2.2.2.2.2.1 C0.2.2.2.2.2.2.2.2.2.2.2.2 a5 v2 I L R a11 q12) lc_X10_unitAt lk_X6_38 (rf_lt qa5) (rf_kd qa5) ⟨_, rfl, rfl⟩ rfl (by rw [erm]; decide) (Nat.le_of_ble_eq_true rfl) dX6_leadHeat_40 ?_
    show V G _ 43 [(3, .int v3), (2, .int v2), (0, .ref (G.ad x0)), (1, .ref (G.ad x1))] [.ref (G.ad a11), .int v10] I L R
    obtain ⟨c13, h⟩ := ite_some h
    obtain ⟨a14, qa14, h⟩ := bnd_some h
    refine V_getR C0 8 0 fl_X6_72 c13.2 c13.1 rfl (rf_at qa14) dX6_leadHeat_43 ?_
    refine V_bipush C0 (v := (62 : Int32)) (by decide) dX6_leadHeat_46 ?_
    obtain ⟨v15, qv15, h⟩ := bnd_some h
    refine V_ri C0 (rf_lt qa14) (rf_kd qa14) qv15 dX6_leadHeat_48 ?_
    refine V_isub C0 dX6_leadHeat_49 ?_
    obtain ⟨u16, eu16, h⟩ := wr_some h
    rw [← eu16]
    refine V_istore C0 [(4, .int u16), (3, .int v3), (2, .int v2), (0, .ref (G.ad x0)), (1, .ref (G.ad x1))] (by rw [eNL]; decide) rfl dX6_leadHeat_50 ?_
    refine V_aload_n C0 3 rfl rfl dX6_leadHeat_52 ?_
    refine V_iload_n C0 2 rfl rfl dX6_leadHeat_53 ?_
    refine V_iload C0 0 rfl dX6_leadHeat_54 ?_
    refine V_aload_n C0 4 rfl rfl dX6_leadHeat_56 ?_
    refine V_getR C0 8 0 fl_X6_72 c_x1.2 c_x1.1 rfl (rf_at qa1) dX6_leadHeat_57 ?_
    refine V_bipush C0 (v := (61 : Int32)) (by decide) dX6_leadHeat_60 ?_
    obtain ⟨v17, qv17, h⟩ := bnd_some h
    refine V_ri C0 (rf_lt qa1) (rf_kd qa1) qv17 dX6_leadHeat_62 ?_
    refine V_imul C0 dX6_leadHeat_63 ?_
    refine V_bipush C0 (v := (64 : Int32)) (by decide) dX6_leadHeat_64 ?_
    refine V_idiv C0 (by decide) dX6_leadHeat_66 ?_
    obtain ⟨I18, q19, h⟩ := bn1_some h
    refine V_callV C0 (st := []) (As := [.int v2, .int ((u16 * v17) / (64 : Int32))]) 5 (c_X6_addHeat G.l G.D G.cA G.ad G.bs G.X C0.2.2.2.2.2.2.2.2.2.1 C0.2.2.2.2.2.2.2.2.2.2.2.2 x0 v2 ((u16 * v17) / (64 : Int32)) I L R I18 q19) lc_X6_addHeat lk_X6_130 c_x0.2 c_x0.1 ⟨_, rfl, rfl⟩ rfl (by rw [erm]; decide) (Nat.le_of_ble_eq_true rfl) dX6_leadHeat_67 ?_
    show V G _ 70 [(4, .int u16), (3, .int v3), (2, .int v2), (0, .ref (G.ad x0)), (1, .ref (G.ad x1))] [] I18 L R
    refine V_aload_n C0 3 rfl rfl dX6_leadHeat_70 ?_
    refine V_iload_n C0 1 rfl rfl dX6_leadHeat_71 ?_
    refine V_iconst C0 (v := (0 : Int32)) (by decide) dX6_leadHeat_72 ?_
    refine V_iload C0 0 rfl dX6_leadHeat_73 ?_
    refine V_isub C0 dX6_leadHeat_75 ?_
    refine V_aload_n C0 4 rfl rfl dX6_leadHeat_76 ?_
    refine V_getR C0 8 0 fl_X6_72 c_x1.2 c_x1.1 rfl (rf_at qa1) dX6_leadHeat_77 ?_
    refine V_bipush C0 (v := (61 : Int32)) (by decide) dX6_leadHeat_80 ?_
    obtain ⟨v20, qv20, h⟩ := bnd_some h
    refine V_ri C0 (rf_lt qa1) (rf_kd qa1) qv20 dX6_leadHeat_82 ?_
    refine V_imul C0 dX6_leadHeat_83 ?_
    refine V_bipush C0 (v := (64 : Int32)) (by decide) dX6_leadHeat_84 ?_
    refine V_idiv C0 (by decide) dX6_leadHeat_86 ?_
    obtain ⟨I21, q22, h⟩ := bn1_some h
    refine V_callV C0 (st := []) (As := [.int v3, .int ((((0 : Int32) - u16) * v20) / (64 : Int32))]) 5 (c_X6_addHeat G.l G.D G.cA G.ad G.bs G.X C0.2.2.2.2.2.2.2.2.2.1 C0.2.2.2.2.2.2.2.2.2.2.2.2 x0 v3 ((((0 : Int32) - u16) * v20) / (64 : Int32)) I18 L R I21 q22) lc_X6_addHeat lk_X6_130 c_x0.2 c_x0.1 ⟨_, rfl, rfl⟩ rfl (by rw [erm]; decide) (Nat.le_of_ble_eq_true rfl) dX6_leadHeat_87 ?_
    show V G _ 90 [(4, .int u16), (3, .int v3), (2, .int v2), (0, .ref (G.ad x0)), (1, .ref (G.ad x1))] [] I21 L R
    cases h
    exact V_vret C0 dX6_leadHeat_90
theorem dX6_breakUnits_0 : decode cX6_breakUnits 0 = .ok (.iconst 0, 1) := by decide +kernel
theorem dX6_breakUnits_1 : decode cX6_breakUnits 1 = .ok (.istore_n 1, 1) := by decide +kernel
theorem dX6_breakUnits_2 : decode cX6_breakUnits 2 = .ok (.iload_n 1, 1) := by decide +kernel
theorem dX6_breakUnits_3 : decode cX6_breakUnits 3 = .ok (.aload_n 0, 1) := by decide +kernel
theorem dX6_breakUnits_4 : decode cX6_breakUnits 4 = .ok (.getfield 15, 3) := by decide +kernel
theorem dX6_breakUnits_7 : decode cX6_breakUnits 7 = .ok (.invokevirtual 32, 3) := by decide +kernel
theorem dX6_breakUnits_10 : decode cX6_breakUnits 10 = .ok (.if_icmp .ge 73, 3) := by decide +kernel
theorem dX6_breakUnits_13 : decode cX6_breakUnits 13 = .ok (.aload_n 0, 1) := by decide +kernel
theorem dX6_breakUnits_14 : decode cX6_breakUnits 14 = .ok (.getfield 15, 3) := by decide +kernel
theorem dX6_breakUnits_17 : decode cX6_breakUnits 17 = .ok (.iload_n 1, 1) := by decide +kernel
theorem dX6_breakUnits_18 : decode cX6_breakUnits 18 = .ok (.invokevirtual 38, 3) := by decide +kernel
theorem dX6_breakUnits_21 : decode cX6_breakUnits 21 = .ok (.astore_n 2, 1) := by decide +kernel
theorem dX6_breakUnits_22 : decode cX6_breakUnits 22 = .ok (.aload_n 2, 1) := by decide +kernel
theorem dX6_breakUnits_23 : decode cX6_breakUnits 23 = .ok (.getfield 72, 3) := by decide +kernel
theorem dX6_breakUnits_26 : decode cX6_breakUnits 26 = .ok (.bipush 63, 2) := by decide +kernel
theorem dX6_breakUnits_28 : decode cX6_breakUnits 28 = .ok (.iaload, 1) := by decide +kernel
theorem dX6_breakUnits_29 : decode cX6_breakUnits 29 = .ok (.ifCond .ne 48, 3) := by decide +kernel
theorem dX6_breakUnits_32 : decode cX6_breakUnits 32 = .ok (.aload_n 2, 1) := by decide +kernel
theorem dX6_breakUnits_33 : decode cX6_breakUnits 33 = .ok (.getfield 72, 3) := by decide +kernel
theorem dX6_breakUnits_36 : decode cX6_breakUnits 36 = .ok (.bipush 62, 2) := by decide +kernel
theorem dX6_breakUnits_38 : decode cX6_breakUnits 38 = .ok (.iaload, 1) := by decide +kernel
theorem dX6_breakUnits_39 : decode cX6_breakUnits 39 = .ok (.sipush (-200), 3) := by decide +kernel
theorem dX6_breakUnits_42 : decode cX6_breakUnits 42 = .ok (.sipush 900, 3) := by decide +kernel
theorem dX6_breakUnits_45 : decode cX6_breakUnits 45 = .ok (.invokestatic 134, 3) := by decide +kernel
theorem dX6_breakUnits_48 : decode cX6_breakUnits 48 = .ok (.ifCond .ne 29, 3) := by decide +kernel
theorem dX6_breakUnits_51 : decode cX6_breakUnits 51 = .ok (.aload_n 2, 1) := by decide +kernel
theorem dX6_breakUnits_52 : decode cX6_breakUnits 52 = .ok (.getfield 72, 3) := by decide +kernel
theorem dX6_breakUnits_55 : decode cX6_breakUnits 55 = .ok (.bipush 63, 2) := by decide +kernel
theorem dX6_breakUnits_57 : decode cX6_breakUnits 57 = .ok (.iconst 1, 1) := by decide +kernel
theorem dX6_breakUnits_58 : decode cX6_breakUnits 58 = .ok (.iastore, 1) := by decide +kernel
theorem dX6_breakUnits_59 : decode cX6_breakUnits 59 = .ok (.aload_n 2, 1) := by decide +kernel
theorem dX6_breakUnits_60 : decode cX6_breakUnits 60 = .ok (.getfield 72, 3) := by decide +kernel
theorem dX6_breakUnits_63 : decode cX6_breakUnits 63 = .ok (.bipush 22, 2) := by decide +kernel
theorem dX6_breakUnits_65 : decode cX6_breakUnits 65 = .ok (.iconst 0, 1) := by decide +kernel
theorem dX6_breakUnits_66 : decode cX6_breakUnits 66 = .ok (.iastore, 1) := by decide +kernel
theorem dX6_breakUnits_67 : decode cX6_breakUnits 67 = .ok (.aload_n 0, 1) := by decide +kernel
theorem dX6_breakUnits_68 : decode cX6_breakUnits 68 = .ok (.dup, 1) := by decide +kernel
theorem dX6_breakUnits_69 : decode cX6_breakUnits 69 = .ok (.getfield 29, 3) := by decide +kernel
theorem dX6_breakUnits_72 : decode cX6_breakUnits 72 = .ok (.iconst 1, 1) := by decide +kernel
theorem dX6_breakUnits_73 : decode cX6_breakUnits 73 = .ok (.iadd, 1) := by decide +kernel
theorem dX6_breakUnits_74 : decode cX6_breakUnits 74 = .ok (.putfield 29, 3) := by decide +kernel
theorem dX6_breakUnits_77 : decode cX6_breakUnits 77 = .ok (.iinc 1 1, 3) := by decide +kernel
theorem dX6_breakUnits_80 : decode cX6_breakUnits 80 = .ok (.goto (-78), 3) := by decide +kernel
theorem dX6_breakUnits_83 : decode cX6_breakUnits 83 = .ok (.return_, 1) := by decide +kernel
def LF_X6_breakUnits_2 (N : Nat) : Nat → Nat → Int32 → MI → ML → MR → Option (MI)
  | 0, _, _, _, _, _ => none
  | k + 1, y0, y1, I, L, R =>
    (rf R y0 0 9).bind fun a1 =>
    bn1 (F_X10_size a1 I L R) fun v2 =>
    if v2 ≤ y1 then
      some (I)
    else
      bn1 (F_X10_unitAt a1 y1 I L R) fun a5 =>
      if kd a5 = 8 ∧ a5 < NN then
      (rf R a5 0 20).bind fun a8 =>
      (ri I a8 (63 : Int32)).bind fun v9 =>
      bn1 (
        if v9 = 0 then
          (ri I a8 (62 : Int32)).bind fun v14 =>
          bn1 (F_X11_within v14 (-200 : Int32) (900 : Int32) I L R) fun b15 =>
          bn1 (
            if (b2i b15) = 0 then
              (wi I a8 (63 : Int32) (1 : Int32)).bind fun I21 =>
              (wi I21 a8 (22 : Int32) (0 : Int32)).bind fun I22 =>
              wr (uI I22 y0 5 ((I22 y0 5) + (1 : Int32))) fun (I23 : MI) =>
              some (I23)
            else
              some (I)
          ) fun (I17 : MI) =>
          some (I17)
        else
          some (I)
      ) fun (I10 : MI) =>
      wr (y1 + (1 : Int32)) fun (u24 : Int32) =>
      LF_X6_breakUnits_2 N k y0 u24 I10 L R
      else none
def F_X6_breakUnits (N : Nat) (x0 : Nat) (I : MI) (L : ML) (R : MR) : Option (MI) :=
  if kd x0 = 5 ∧ x0 < NN then
  bn1 (LF_X6_breakUnits_2 N N x0 (0 : Int32) I L R) fun z25 =>
  some (z25)
  else none
set_option maxRecDepth 100000 in
set_option maxHeartbeats 4000000 in
theorem lp_X6_breakUnits_2 {G : Gm} (C0 : Cx G (yX6_breakUnits.cls) cX6_breakUnits none) (eNL : G.nL = 3) (erm : G.rm = ({ frames := 2, cells := 0, slots := 0, locals := 42 } : Room)) (N : Nat) : ∀ (k : Nat) (y0 : Nat) (y1 : Int32) (I : MI) (L : ML) (R : MR) (z : MI) (hk0 : kd y0 = 5) (ho0 : y0 < NN), LF_X6_breakUnits_2 N k y0 y1 I L R = some z → ∀ f : State → Prop, V G f 83 [] [] z L R → V G f 2 [(0, .ref (G.ad y0)), (1, .int y1)] [] I L R := by
  intro k
  induction k with
  | zero =>
    intro y0 y1 I L R q hk0 ho0 h
    exact absurd h (by simp [LF_X6_breakUnits_2])
  | succ k ih =>
    intro y0 y1 I L R q hk0 ho0 h f kx
    rw [LF_X6_breakUnits_2] at h
    refine V_iload_n C0 1 rfl rfl dX6_breakUnits_2 ?_
    refine V_aload_n C0 0 rfl rfl dX6_breakUnits_3 ?_
    obtain ⟨a1, qa1, h⟩ := bnd_some h
    refine V_getR C0 5 0 fl_X6_15 ho0 hk0 rfl (rf_at qa1) dX6_breakUnits_4 ?_
    obtain ⟨v2, q3, h⟩ := bn1_some h
    refine V_callV C0 (st := [.int y1]) (As := []) 9 (c_X10_size G.l G.D G.cA G.ad G.bs G.X C0.2.2.2.2.2.2.2.2.2.1 C0.2.2.2.2.2.2.2.2.2.2.2.2 a1 I L R v2 q3) lc_X10_size lk_X6_32 (rf_lt qa1) (rf_kd qa1) ⟨_, rfl, rfl⟩ rfl (by rw [erm]; decide) (Nat.le_of_ble_eq_true rfl) dX6_breakUnits_7 ?_
    show V G _ 10 [(0, .ref (G.ad y0)), (1, .int y1)] [.int v2, .int y1] I L R
    refine V_icmp_ge C0 (tgt := 83) (by decide) dX6_breakUnits_10 (fun c4 => ?_) (fun c4 => ?_)
    · have h := (if_pos c4).symm.trans h
      cases h
      exact V_sub [] rfl kx
    · have h := (if_neg c4).symm.trans h
      refine V_aload_n C0 0 rfl rfl dX6_breakUnits_13 ?_
      refine V_getR C0 5 0 fl_X6_15 ho0 hk0 rfl (rf_at qa1) dX6_breakUnits_14 ?_
      refine V_iload_n C0 1 rfl rfl dX6_breakUnits_17 ?_
      obtain ⟨a5, q6, h⟩ := bn1_some h
      refine V_callV C0 (st := []) (As := [.int y1]) 9 (c_X10_unitAt G.l G.D G.cA G.ad G.bs G.X C0.2.2.2.2.2.2.2.2.2.1 C0.2.2.2.2.2.2.2.2.2.2.2.2 a1 y1 I L R a5 q6) lc_X10_unitAt lk_X6_38 (rf_lt qa1) (rf_kd qa1) ⟨_, rfl, rfl⟩ rfl (by rw [erm]; decide) (Nat.le_of_ble_eq_true rfl) dX6_breakUnits_18 ?_
      show V G _ 21 [(0, .ref (G.ad y0)), (1, .int y1)] [.ref (G.ad a5)] I L R
      obtain ⟨c7, h⟩ := ite_some h
      refine V_astore_n C0 [(2, .ref (G.ad a5)), (0, .ref (G.ad y0)), (1, .int y1)] rfl (by rw [eNL]; decide) rfl dX6_breakUnits_21 ?_
      refine V_aload_n C0 0 rfl rfl dX6_breakUnits_22 ?_
      obtain ⟨a8, qa8, h⟩ := bnd_some h
      refine V_getR C0 8 0 fl_X6_72 c7.2 c7.1 rfl (rf_at qa8) dX6_breakUnits_23 ?_
      refine V_bipush C0 (v := (63 : Int32)) (by decide) dX6_breakUnits_26 ?_
      obtain ⟨v9, qv9, h⟩ := bnd_some h
      refine V_ri C0 (rf_lt qa8) (rf_kd qa8) qv9 dX6_breakUnits_28 ?_
      obtain ⟨I10, q11, h⟩ := bn1_some h
      have k12 : V G f 77 [(0, .ref (G.ad y0)), (1, .int y1)] [] I10 L R := by
        obtain ⟨u24, eu24, h⟩ := wr_some h
        refine V_iinc C0 1 [(1, .int u24), (0, .ref (G.ad y0))] rfl (n := 1) (by rw [eu24]; rfl) (by rw [eNL]; decide) rfl dX6_breakUnits_77 ?_
        refine V_goto C0 (tgt := 2) (by decide) dX6_breakUnits_80 ?_
        exact V_sub [1, 0] rfl (ih y0 u24 I10 L R _ hk0 ho0 h f kx)
      refine V_if_ne C0 (tgt := 77) (by decide) dX6_breakUnits_29 (fun c13 => ?_) (fun c13 => ?_)
      · have q11 := (if_neg c13).symm.trans q11
        cases q11
        exact V_sub [1, 2] rfl k12
      · have q11 := (if_pos c13).symm.trans q11
        refine V_aload_n C0 0 rfl rfl dX6_breakUnits_32 ?_
        refine V_getR C0 8 0 fl_X6_72 c7.2 c7.1 rfl (rf_at qa8) dX6_breakUnits_33 ?_
        refine V_bipush C0 (v := (62 : Int32)) (by decide) dX6_breakUnits_36 ?_
        obtain ⟨v14, qv14, q11⟩ := bnd_some q11
        refine V_ri C0 (rf_lt qa8) (rf_kd qa8) qv14 dX6_breakUnits_38 ?_
        refine V_sipush C0 (v := (-200 : Int32)) (by decide) dX6_breakUnits_39 ?_
        refine V_sipush C0 (v := (900 : Int32)) (by decide) dX6_breakUnits_42 ?_
        obtain ⟨b15, q16, q11⟩ := bn1_some q11
        refine V_callS C0 (st := []) (As := [.int v14, .int (-200 : Int32), .int (900 : Int32)]) (c_X11_within G.l G.D G.cA G.ad G.bs G.X C0.2.2.2.2.2.2.2.2.2.1 C0.2.2.2.2.2.2.2.2.2.2.2.2 v14 (-200 : Int32) (900 : Int32) I L R b15 q16) lc_X11_within lk_X6_134 rfl (by rw [erm]; decide) (Nat.le_of_ble_eq_true rfl) dX6_breakUnits_45 ?_
        show V G _ 48 [(2, .ref (G.ad a5)), (0, .ref (G.ad y0)), (1, .int y1)] [.int (b2i b15)] I L R
        obtain ⟨I17, q18, q11⟩ := bn1_some q11
        have k19 : V G f 77 [(0, .ref (G.ad y0)), (1, .int y1)] [] I17 L R := by
          cases q11
          exact V_sub [0, 1] rfl k12
        refine V_if_ne C0 (tgt := 77) (by decide) dX6_breakUnits_48 (fun c20 => ?_) (fun c20 => ?_)
        · have q18 := (if_neg c20).symm.trans q18
          cases q18
          exact V_sub [1, 2] rfl k19
        · have q18 := (if_pos c20).symm.trans q18
          refine V_aload_n C0 0 rfl rfl dX6_breakUnits_51 ?_
          refine V_getR C0 8 0 fl_X6_72 c7.2 c7.1 rfl (rf_at qa8) dX6_breakUnits_52 ?_
          refine V_bipush C0 (v := (63 : Int32)) (by decide) dX6_breakUnits_55 ?_
          refine V_iconst C0 (v := (1 : Int32)) (by decide) dX6_breakUnits_57 ?_
          obtain ⟨I21, qI21, q18⟩ := bnd_some q18
          refine V_wi C0 (rf_lt qa8) (rf_kd qa8) qI21 dX6_breakUnits_58 ?_
          refine V_aload_n C0 0 rfl rfl dX6_breakUnits_59 ?_
          refine V_getR C0 8 0 fl_X6_72 c7.2 c7.1 rfl (rf_at qa8) dX6_breakUnits_60 ?_
          refine V_bipush C0 (v := (22 : Int32)) (by decide) dX6_breakUnits_63 ?_
          refine V_iconst C0 (v := (0 : Int32)) (by decide) dX6_breakUnits_65 ?_
          obtain ⟨I22, qI22, q18⟩ := bnd_some q18
          refine V_wi C0 (rf_lt qa8) (rf_kd qa8) qI22 dX6_breakUnits_66 ?_
          refine V_aload_n C0 1 rfl rfl dX6_breakUnits_67 ?_
          refine V_dup C0 rfl dX6_breakUnits_68 ?_
          refine V_getI C0 5 5 fl_X6_29 ho0 hk0 rfl dX6_breakUnits_69 ?_
          refine V_iconst C0 (v := (1 : Int32)) (by decide) dX6_breakUnits_72 ?_
          refine V_iadd C0 dX6_breakUnits_73 ?_
          obtain ⟨I23, eI23, q18⟩ := wr_some q18
          refine V_putI C0 5 5 fp_X6_29 ho0 hk0 rfl dX6_breakUnits_74 ?_
          rw [← eI23]
          cases q18
          exact V_sub [1, 2] rfl k19
set_option maxRecDepth 100000 in
set_option maxHeartbeats 4000000 in
theorem c_X6_breakUnits (l : Launch) (D : va_G) (cA : Nat → ClassId) (ad : Nat → Nat) (bs : Nat) (X : State → Prop) (hAd : Ax ad bs) (hX : Stb bs X) (N : Nat) (x0 : Nat) (I : MI) (L : ML) (R : MR) (I' : MI) (h : F_X6_breakUnits N x0 I L R = some (I')) : Cn l D cA ad bs X yX6_breakUnits cX6_breakUnits 3 none 2 42 [.ref (ad x0)] I L R (none, I', L, R) := by
  refine Cn.ofV hAd hX [(0, .ref (ad x0))] rfl (Nat.le_of_ble_eq_true rfl) (by decide) ?_
  intro G el eD ecA ead ebs eX erm eNL C0
  subst el eD ecA ead ebs eX
  unfold F_X6_breakUnits at h
  obtain ⟨c_x0, h⟩ := ite_some h
  refine V_iconst C0 (v := (0 : Int32)) (by decide) dX6_breakUnits_0 ?_
  refine V_istore_n C0 [(1, .int (0 : Int32)), (0, .ref (G.ad x0))] rfl (by rw [eNL]; decide) rfl dX6_breakUnits_1 ?_
  obtain ⟨z25, q26, h⟩ := bn1_some h
  refine V_sub [1, 0] rfl (lp_X6_breakUnits_2 C0 eNL erm N N x0 (0 : Int32) I L R _ c_x0.1 c_x0.2 q26 _ ?_)
  show V G _ 83 [] [] z25 L R
  cases h
  exact V_vret C0 dX6_breakUnits_83
theorem dX6_switchThermos_0 : decode cX6_switchThermos 0 = .ok (.iconst 0, 1) := by decide +kernel
theorem dX6_switchThermos_1 : decode cX6_switchThermos 1 = .ok (.istore_n 1, 1) := by decide +kernel
theorem dX6_switchThermos_2 : decode cX6_switchThermos 2 = .ok (.iload_n 1, 1) := by decide +kernel
theorem dX6_switchThermos_3 : decode cX6_switchThermos 3 = .ok (.aload_n 0, 1) := by decide +kernel
theorem dX6_switchThermos_4 : decode cX6_switchThermos 4 = .ok (.getfield 15, 3) := by decide +kernel
theorem dX6_switchThermos_7 : decode cX6_switchThermos 7 = .ok (.invokevirtual 32, 3) := by decide +kernel
theorem dX6_switchThermos_10 : decode cX6_switchThermos 10 = .ok (.if_icmp .ge 105, 3) := by decide +kernel
theorem dX6_switchThermos_13 : decode cX6_switchThermos 13 = .ok (.aload_n 0, 1) := by decide +kernel
theorem dX6_switchThermos_14 : decode cX6_switchThermos 14 = .ok (.getfield 15, 3) := by decide +kernel
theorem dX6_switchThermos_17 : decode cX6_switchThermos 17 = .ok (.iload_n 1, 1) := by decide +kernel
theorem dX6_switchThermos_18 : decode cX6_switchThermos 18 = .ok (.invokevirtual 38, 3) := by decide +kernel
theorem dX6_switchThermos_21 : decode cX6_switchThermos 21 = .ok (.astore_n 2, 1) := by decide +kernel
theorem dX6_switchThermos_22 : decode cX6_switchThermos 22 = .ok (.aload_n 2, 1) := by decide +kernel
theorem dX6_switchThermos_23 : decode cX6_switchThermos 23 = .ok (.bipush 8, 2) := by decide +kernel
theorem dX6_switchThermos_25 : decode cX6_switchThermos 25 = .ok (.invokevirtual 42, 3) := by decide +kernel
theorem dX6_switchThermos_28 : decode cX6_switchThermos 28 = .ok (.ifCond .eq 81, 3) := by decide +kernel
theorem dX6_switchThermos_31 : decode cX6_switchThermos 31 = .ok (.aload_n 0, 1) := by decide +kernel
theorem dX6_switchThermos_32 : decode cX6_switchThermos 32 = .ok (.getfield 15, 3) := by decide +kernel
theorem dX6_switchThermos_35 : decode cX6_switchThermos 35 = .ok (.aload_n 2, 1) := by decide +kernel
theorem dX6_switchThermos_36 : decode cX6_switchThermos 36 = .ok (.getfield 72, 3) := by decide +kernel
theorem dX6_switchThermos_39 : decode cX6_switchThermos 39 = .ok (.bipush 27, 2) := by decide +kernel
theorem dX6_switchThermos_41 : decode cX6_switchThermos 41 = .ok (.iaload, 1) := by decide +kernel
theorem dX6_switchThermos_42 : decode cX6_switchThermos 42 = .ok (.invokevirtual 38, 3) := by decide +kernel
theorem dX6_switchThermos_45 : decode cX6_switchThermos 45 = .ok (.getfield 72, 3) := by decide +kernel
theorem dX6_switchThermos_48 : decode cX6_switchThermos 48 = .ok (.bipush 62, 2) := by decide +kernel
theorem dX6_switchThermos_50 : decode cX6_switchThermos 50 = .ok (.iaload, 1) := by decide +kernel
theorem dX6_switchThermos_51 : decode cX6_switchThermos 51 = .ok (.istore_n 3, 1) := by decide +kernel
theorem dX6_switchThermos_52 : decode cX6_switchThermos 52 = .ok (.iload_n 3, 1) := by decide +kernel
theorem dX6_switchThermos_53 : decode cX6_switchThermos 53 = .ok (.aload_n 2, 1) := by decide +kernel
theorem dX6_switchThermos_54 : decode cX6_switchThermos 54 = .ok (.getfield 72, 3) := by decide +kernel
theorem dX6_switchThermos_57 : decode cX6_switchThermos 57 = .ok (.bipush 28, 2) := by decide +kernel
theorem dX6_switchThermos_59 : decode cX6_switchThermos 59 = .ok (.iaload, 1) := by decide +kernel
theorem dX6_switchThermos_60 : decode cX6_switchThermos 60 = .ok (.aload_n 2, 1) := by decide +kernel
theorem dX6_switchThermos_61 : decode cX6_switchThermos 61 = .ok (.getfield 72, 3) := by decide +kernel
theorem dX6_switchThermos_64 : decode cX6_switchThermos 64 = .ok (.bipush 26, 2) := by decide +kernel
theorem dX6_switchThermos_66 : decode cX6_switchThermos 66 = .ok (.iaload, 1) := by decide +kernel
theorem dX6_switchThermos_67 : decode cX6_switchThermos 67 = .ok (.isub, 1) := by decide +kernel
theorem dX6_switchThermos_68 : decode cX6_switchThermos 68 = .ok (.if_icmp .ge 14, 3) := by decide +kernel
theorem dX6_switchThermos_71 : decode cX6_switchThermos 71 = .ok (.aload_n 2, 1) := by decide +kernel
theorem dX6_switchThermos_72 : decode cX6_switchThermos 72 = .ok (.getfield 72, 3) := by decide +kernel
theorem dX6_switchThermos_75 : decode cX6_switchThermos 75 = .ok (.bipush 22, 2) := by decide +kernel
theorem dX6_switchThermos_77 : decode cX6_switchThermos 77 = .ok (.iconst 1, 1) := by decide +kernel
theorem dX6_switchThermos_78 : decode cX6_switchThermos 78 = .ok (.iastore, 1) := by decide +kernel
theorem dX6_switchThermos_79 : decode cX6_switchThermos 79 = .ok (.goto 30, 3) := by decide +kernel
theorem dX6_switchThermos_82 : decode cX6_switchThermos 82 = .ok (.iload_n 3, 1) := by decide +kernel
theorem dX6_switchThermos_83 : decode cX6_switchThermos 83 = .ok (.aload_n 2, 1) := by decide +kernel
theorem dX6_switchThermos_84 : decode cX6_switchThermos 84 = .ok (.getfield 72, 3) := by decide +kernel
theorem dX6_switchThermos_87 : decode cX6_switchThermos 87 = .ok (.bipush 28, 2) := by decide +kernel
theorem dX6_switchThermos_89 : decode cX6_switchThermos 89 = .ok (.iaload, 1) := by decide +kernel
theorem dX6_switchThermos_90 : decode cX6_switchThermos 90 = .ok (.aload_n 2, 1) := by decide +kernel
theorem dX6_switchThermos_91 : decode cX6_switchThermos 91 = .ok (.getfield 72, 3) := by decide +kernel
theorem dX6_switchThermos_94 : decode cX6_switchThermos 94 = .ok (.bipush 26, 2) := by decide +kernel
theorem dX6_switchThermos_96 : decode cX6_switchThermos 96 = .ok (.iaload, 1) := by decide +kernel
theorem dX6_switchThermos_97 : decode cX6_switchThermos 97 = .ok (.iadd, 1) := by decide +kernel
theorem dX6_switchThermos_98 : decode cX6_switchThermos 98 = .ok (.if_icmp .le 11, 3) := by decide +kernel
theorem dX6_switchThermos_101 : decode cX6_switchThermos 101 = .ok (.aload_n 2, 1) := by decide +kernel
theorem dX6_switchThermos_102 : decode cX6_switchThermos 102 = .ok (.getfield 72, 3) := by decide +kernel
theorem dX6_switchThermos_105 : decode cX6_switchThermos 105 = .ok (.bipush 22, 2) := by decide +kernel
theorem dX6_switchThermos_107 : decode cX6_switchThermos 107 = .ok (.iconst 0, 1) := by decide +kernel
theorem dX6_switchThermos_108 : decode cX6_switchThermos 108 = .ok (.iastore, 1) := by decide +kernel
theorem dX6_switchThermos_109 : decode cX6_switchThermos 109 = .ok (.iinc 1 1, 3) := by decide +kernel
theorem dX6_switchThermos_112 : decode cX6_switchThermos 112 = .ok (.goto (-110), 3) := by decide +kernel
theorem dX6_switchThermos_115 : decode cX6_switchThermos 115 = .ok (.return_, 1) := by decide +kernel
def LF_X6_switchThermos_2 (N : Nat) : Nat → Nat → Int32 → MI → ML → MR → Option (MI)
  | 0, _, _, _, _, _ => none
  | k + 1, y0, y1, I, L, R =>
    (rf R y0 0 9).bind fun a1 =>
    bn1 (F_X10_size a1 I L R) fun v2 =>
    if v2 ≤ y1 then
      some (I)
    else
      bn1 (F_X10_unitAt a1 y1 I L R) fun a5 =>
      if kd a5 = 8 ∧ a5 < NN then
      bn1 (F_X9_isWhole a5 (8 : Int32) I L R) fun b8 =>
      bn1 (
        if (b2i b8) = 0 then
          some (I)
        else
          (rf R a5 0 20).bind fun a14 =>
          (ri I a14 (27 : Int32)).bind fun v15 =>
          bn1 (F_X10_unitAt a1 v15 I L R) fun a16 =>
          if kd a16 = 8 ∧ a16 < NN then
          (rf R a16 0 20).bind fun a19 =>
          (ri I a19 (62 : Int32)).bind fun v20 =>
          (ri I a14 (28 : Int32)).bind fun v21 =>
          (ri I a14 (26 : Int32)).bind fun v22 =>
          bn1 (
            if (v21 - v22) ≤ v20 then
              (ri I a14 (28 : Int32)).bind fun v27 =>
              (ri I a14 (26 : Int32)).bind fun v28 =>
              bn1 (
                if v20 ≤ (v27 + v28) then
                  some (I)
                else
                  (wi I a14 (22 : Int32) (0 : Int32)).bind fun I33 =>
                  some (I33)
              ) fun (I29 : MI) =>
              some (I29)
            else
              (wi I a14 (22 : Int32) (1 : Int32)).bind fun I34 =>
              some (I34)
          ) fun (I23 : MI) =>
          some (I23)
          else none
      ) fun (I10 : MI) =>
      wr (y1 + (1 : Int32)) fun (u35 : Int32) =>
      LF_X6_switchThermos_2 N k y0 u35 I10 L R
      else none
def F_X6_switchThermos (N : Nat) (x0 : Nat) (I : MI) (L : ML) (R : MR) : Option (MI) :=
  if kd x0 = 5 ∧ x0 < NN then
  bn1 (LF_X6_switchThermos_2 N N x0 (0 : Int32) I L R) fun z36 =>
  some (z36)
  else none
set_option maxRecDepth 100000 in
set_option maxHeartbeats 4000000 in
theorem lp_X6_switchThermos_2 {G : Gm} (C0 : Cx G (yX6_switchThermos.cls) cX6_switchThermos none) (eNL : G.nL = 4) (erm : G.rm = ({ frames := 2, cells := 0, slots := 0, locals := 42 } : Room)) (N : Nat) : ∀ (k : Nat) (y0 : Nat) (y1 : Int32) (I : MI) (L : ML) (R : MR) (z : MI) (hk0 : kd y0 = 5) (ho0 : y0 < NN), LF_X6_switchThermos_2 N k y0 y1 I L R = some z → ∀ f : State → Prop, V G f 115 [] [] z L R → V G f 2 [(0, .ref (G.ad y0)), (1, .int y1)] [] I L R := by
  intro k
  induction k with
  | zero =>
    intro y0 y1 I L R q hk0 ho0 h
    exact absurd h (by simp [LF_X6_switchThermos_2])
  | succ k ih =>
    intro y0 y1 I L R q hk0 ho0 h f kx
    rw [LF_X6_switchThermos_2] at h
    refine V_iload_n C0 1 rfl rfl dX6_switchThermos_2 ?_
    refine V_aload_n C0 0 rfl rfl dX6_switchThermos_3 ?_
    obtain ⟨a1, qa1, h⟩ := bnd_some h
    refine V_getR C0 5 0 fl_X6_15 ho0 hk0 rfl (rf_at qa1) dX6_switchThermos_4 ?_
    obtain ⟨v2, q3, h⟩ := bn1_some h
    refine V_callV C0 (st := [.int y1]) (As := []) 9 (c_X10_size G.l G.D G.cA G.ad G.bs G.X C0.2.2.2.2.2.2.2.2.2.1 C0.2.2.2.2.2.2.2.2.2.2.2.2 a1 I L R v2 q3) lc_X10_size lk_X6_32 (rf_lt qa1) (rf_kd qa1) ⟨_, rfl, rfl⟩ rfl (by rw [erm]; decide) (Nat.le_of_ble_eq_true rfl) dX6_switchThermos_7 ?_
    show V G _ 10 [(0, .ref (G.ad y0)), (1, .int y1)] [.int v2, .int y1] I L R
    refine V_icmp_ge C0 (tgt := 115) (by decide) dX6_switchThermos_10 (fun c4 => ?_) (fun c4 => ?_)
    · have h := (if_pos c4).symm.trans h
      cases h
      exact V_sub [] rfl kx
    · have h := (if_neg c4).symm.trans h
      refine V_aload_n C0 0 rfl rfl dX6_switchThermos_13 ?_
      refine V_getR C0 5 0 fl_X6_15 ho0 hk0 rfl (rf_at qa1) dX6_switchThermos_14 ?_
      refine V_iload_n C0 1 rfl rfl dX6_switchThermos_17 ?_
      obtain ⟨a5, q6, h⟩ := bn1_some h
      refine V_callV C0 (st := []) (As := [.int y1]) 9 (c_X10_unitAt G.l G.D G.cA G.ad G.bs G.X C0.2.2.2.2.2.2.2.2.2.1 C0.2.2.2.2.2.2.2.2.2.2.2.2 a1 y1 I L R a5 q6) lc_X10_unitAt lk_X6_38 (rf_lt qa1) (rf_kd qa1) ⟨_, rfl, rfl⟩ rfl (by rw [erm]; decide) (Nat.le_of_ble_eq_true rfl) dX6_switchThermos_18 ?_
      show V G _ 21 [(0, .ref (G.ad y0)), (1, .int y1)] [.ref (G.ad a5)] I L R
      obtain ⟨c7, h⟩ := ite_some h
      refine V_astore_n C0 [(2, .ref (G.ad a5)), (0, .ref (G.ad y0)), (1, .int y1)] rfl (by rw [eNL]; decide) rfl dX6_switchThermos_21 ?_
      refine V_aload_n C0 0 rfl rfl dX6_switchThermos_22 ?_
      refine V_bipush C0 (v := (8 : Int32)) (by decide) dX6_switchThermos_23 ?_
      obtain ⟨b8, q9, h⟩ := bn1_some h
      refine V_callV C0 (st := []) (As := [.int (8 : Int32)]) 8 (c_X9_isWhole G.l G.D G.cA G.ad G.bs G.X C0.2.2.2.2.2.2.2.2.2.1 C0.2.2.2.2.2.2.2.2.2.2.2.2 a5 (8 : Int32) I L R b8 q9) lc_X9_isWhole lk_X6_42 c7.2 c7.1 ⟨_, rfl, rfl⟩ rfl (by rw [erm]; decide) (Nat.le_of_ble_eq_true rfl) dX6_switchThermos_25 ?_
      show V G _ 28 [(2, .ref (G.ad a5)), (0, .ref (G.ad y0)), (1, .int y1)] [.int (b2i b8)] I L R
      obtain ⟨I10, q11, h⟩ := bn1_some h
      have k12 : V G f 109 [(0, .ref (G.ad y0)), (1, .int y1)] [] I10 L R := by
        obtain ⟨u35, eu35, h⟩ := wr_some h
        refine V_iinc C0 1 [(1, .int u35), (0, .ref (G.ad y0))] rfl (n := 1) (by rw [eu35]; rfl) (by rw [eNL]; decide) rfl dX6_switchThermos_109 ?_
        refine V_goto C0 (tgt := 2) (by decide) dX6_switchThermos_112 ?_
        exact V_sub [1, 0] rfl (ih y0 u35 I10 L R _ hk0 ho0 h f kx)
      refine V_if_eq C0 (tgt := 109) (by decide) dX6_switchThermos_28 (fun c13 => ?_) (fun c13 => ?_)
      · have q11 := (if_pos c13).symm.trans q11
        cases q11
        exact V_sub [1, 2] rfl k12
      · have q11 := (if_neg c13).symm.trans q11
        refine V_aload_n C0 1 rfl rfl dX6_switchThermos_31 ?_
        refine V_getR C0 5 0 fl_X6_15 ho0 hk0 rfl (rf_at qa1) dX6_switchThermos_32 ?_
        refine V_aload_n C0 0 rfl rfl dX6_switchThermos_35 ?_
        obtain ⟨a14, qa14, q11⟩ := bnd_some q11
        refine V_getR C0 8 0 fl_X6_72 c7.2 c7.1 rfl (rf_at qa14) dX6_switchThermos_36 ?_
        refine V_bipush C0 (v := (27 : Int32)) (by decide) dX6_switchThermos_39 ?_
        obtain ⟨v15, qv15, q11⟩ := bnd_some q11
        refine V_ri C0 (rf_lt qa14) (rf_kd qa14) qv15 dX6_switchThermos_41 ?_
        obtain ⟨a16, q17, q11⟩ := bn1_some q11
        refine V_callV C0 (st := []) (As := [.int v15]) 9 (c_X10_unitAt G.l G.D G.cA G.ad G.bs G.X C0.2.2.2.2.2.2.2.2.2.1 C0.2.2.2.2.2.2.2.2.2.2.2.2 a1 v15 I L R a16 q17) lc_X10_unitAt lk_X6_38 (rf_lt qa1) (rf_kd qa1) ⟨_, rfl, rfl⟩ rfl (by rw [erm]; decide) (Nat.le_of_ble_eq_true rfl) dX6_switchThermos_42 ?_
        show V G _ 45 [(2, .ref (G.ad a5)), (0, .ref (G.ad y0)), (1, .int y1)] [.ref (G.ad a16)] I L R
        obtain ⟨c18, q11⟩ := ite_some q11
        obtain ⟨a19, qa19, q11⟩ := bnd_some q11
        refine V_getR C0 8 0 fl_X6_72 c18.2 c18.1 rfl (rf_at qa19) dX6_switchThermos_45 ?_
        refine V_bipush C0 (v := (62 : Int32)) (by decide) dX6_switchThermos_48 ?_
        obtain ⟨v20, qv20, q11⟩ := bnd_some q11
        refine V_ri C0 (rf_lt qa19) (rf_kd qa19) qv20 dX6_switchThermos_50 ?_
        refine V_istore_n C0 [(3, .int v20), (2, .ref (G.ad a5)), (0, .ref (G.ad y0)), (1, .int y1)] rfl (by rw [eNL]; decide) rfl dX6_switchThermos_51 ?_
        refine V_iload_n C0 0 rfl rfl dX6_switchThermos_52 ?_
        refine V_aload_n C0 1 rfl rfl dX6_switchThermos_53 ?_
        refine V_getR C0 8 0 fl_X6_72 c7.2 c7.1 rfl (rf_at qa14) dX6_switchThermos_54 ?_
        refine V_bipush C0 (v := (28 : Int32)) (by decide) dX6_switchThermos_57 ?_
        obtain ⟨v21, qv21, q11⟩ := bnd_some q11
        refine V_ri C0 (rf_lt qa14) (rf_kd qa14) qv21 dX6_switchThermos_59 ?_
        refine V_aload_n C0 1 rfl rfl dX6_switchThermos_60 ?_
        refine V_getR C0 8 0 fl_X6_72 c7.2 c7.1 rfl (rf_at qa14) dX6_switchThermos_61 ?_
        refine V_bipush C0 (v := (26 : Int32)) (by decide) dX6_switchThermos_64 ?_
        obtain ⟨v22, qv22, q11⟩ := bnd_some q11
        refine V_ri C0 (rf_lt qa14) (rf_kd qa14) qv22 dX6_switchThermos_66 ?_
        refine V_isub C0 dX6_switchThermos_67 ?_
        obtain ⟨I23, q24, q11⟩ := bn1_some q11
        have k25 : V G f 109 [(0, .ref (G.ad y0)), (1, .int y1)] [] I23 L R := by
          cases q11
          exact V_sub [0, 1] rfl k12
        refine V_icmp_ge C0 (tgt := 82) (by decide) dX6_switchThermos_68 (fun c26 => ?_) (fun c26 => ?_)
        · have q24 := (if_pos c26).symm.trans q24
          refine V_iload_n C0 0 rfl rfl dX6_switchThermos_82 ?_
          refine V_aload_n C0 1 rfl rfl dX6_switchThermos_83 ?_
          refine V_getR C0 8 0 fl_X6_72 c7.2 c7.1 rfl (rf_at qa14) dX6_switchThermos_84 ?_
          refine V_bipush C0 (v := (28 : Int32)) (by decide) dX6_switchThermos_87 ?_
          obtain ⟨v27, qv27, q24⟩ := bnd_some q24
          refine V_ri C0 (rf_lt qa14) (rf_kd qa14) qv27 dX6_switchThermos_89 ?_
          refine V_aload_n C0 1 rfl rfl dX6_switchThermos_90 ?_
          refine V_getR C0 8 0 fl_X6_72 c7.2 c7.1 rfl (rf_at qa14) dX6_switchThermos_91 ?_
          refine V_bipush C0 (v := (26 : Int32)) (by decide) dX6_switchThermos_94 ?_
          obtain ⟨v28, qv28, q24⟩ := bnd_some q24
          refine V_ri C0 (rf_lt qa14) (rf_kd qa14) qv28 dX6_switchThermos_96 ?_
          refine V_iadd C0 dX6_switchThermos_97 ?_
          obtain ⟨I29, q30, q24⟩ := bn1_some q24
          have k31 : V G f 109 [(0, .ref (G.ad y0)), (1, .int y1)] [] I29 L R := by
            cases q24
            exact V_sub [0, 1] rfl k25
          refine V_icmp_le C0 (tgt := 109) (by decide) dX6_switchThermos_98 (fun c32 => ?_) (fun c32 => ?_)
          · have q30 := (if_pos c32).symm.trans q30
            cases q30
            exact V_sub [2, 3] rfl k31
          · have q30 := (if_neg c32).symm.trans q30
            refine V_aload_n C0 1 rfl rfl dX6_switchThermos_101 ?_
            refine V_getR C0 8 0 fl_X6_72 c7.2 c7.1 rfl (rf_at qa14) dX6_switchThermos_102 ?_
            refine V_bipush C0 (v := (22 : Int32)) (by decide) dX6_switchThermos_105 ?_
            refine V_iconst C0 (v := (0 : Int32)) (by decide) dX6_switchThermos_107 ?_
            obtain ⟨I33, qI33, q30⟩ := bnd_some q30
            refine V_wi C0 (rf_lt qa14) (rf_kd qa14) qI33 dX6_switchThermos_108 ?_
            cases q30
            exact V_sub [2, 3] rfl k31
        · have q24 := (if_neg c26).symm.trans q24
          refine V_aload_n C0 1 rfl rfl dX6_switchThermos_71 ?_
          refine V_getR C0 8 0 fl_X6_72 c7.2 c7.1 rfl (rf_at qa14) dX6_switchThermos_72 ?_
          refine V_bipush C0 (v := (22 : Int32)) (by decide) dX6_switchThermos_75 ?_
          refine V_iconst C0 (v := (1 : Int32)) (by decide) dX6_switchThermos_77 ?_
          obtain ⟨I34, qI34, q24⟩ := bnd_some q24
          refine V_wi C0 (rf_lt qa14) (rf_kd qa14) qI34 dX6_switchThermos_78 ?_
          refine V_goto C0 (tgt := 109) (by decide) dX6_switchThermos_79 ?_
          cases q24
          exact V_sub [2, 3] rfl k25
set_option maxRecDepth 100000 in
set_option maxHeartbeats 4000000 in
theorem c_X6_switchThermos (l : Launch) (D : va_G) (cA : Nat → ClassId) (ad : Nat → Nat) (bs : Nat) (X : State → Prop) (hAd : Ax ad bs) (hX : Stb bs X) (N : Nat) (x0 : Nat) (I : MI) (L : ML) (R : MR) (I' : MI) (h : F_X6_switchThermos N x0 I L R = some (I')) : Cn l D cA ad bs X yX6_switchThermos cX6_switchThermos 4 none 2 42 [.ref (ad x0)] I L R (none, I', L, R) := by
  refine Cn.ofV hAd hX [(0, .ref (ad x0))] rfl (Nat.le_of_ble_eq_true rfl) (by decide) ?_
  intro G el eD ecA ead ebs eX erm eNL C0
  subst el eD ecA ead ebs eX
  unfold F_X6_switchThermos at h
  obtain ⟨c_x0, h⟩ := ite_some h
  refine V_iconst C0 (v := (0 : Int32)) (by decide) dX6_switchThermos_0 ?_
  refine V_istore_n C0 [(1, .int (0 : Int32)), (0, .ref (G.ad x0))] rfl (by rw [eNL]; decide) rfl dX6_switchThermos_1 ?_
  obtain ⟨z36, q37, h⟩ := bn1_some h
  refine V_sub [1, 0] rfl (lp_X6_switchThermos_2 C0 eNL erm N N x0 (0 : Int32) I L R _ c_x0.1 c_x0.2 q37 _ ?_)
  show V G _ 115 [] [] z36 L R
  cases h
  exact V_vret C0 dX6_switchThermos_115
theorem dX6_warm_0 : decode cX6_warm 0 = .ok (.iconst 0, 1) := by decide +kernel
theorem dX6_warm_1 : decode cX6_warm 1 = .ok (.istore_n 2, 1) := by decide +kernel
theorem dX6_warm_2 : decode cX6_warm 2 = .ok (.iload_n 2, 1) := by decide +kernel
theorem dX6_warm_3 : decode cX6_warm 3 = .ok (.aload_n 0, 1) := by decide +kernel
theorem dX6_warm_4 : decode cX6_warm 4 = .ok (.getfield 15, 3) := by decide +kernel
theorem dX6_warm_7 : decode cX6_warm 7 = .ok (.invokevirtual 32, 3) := by decide +kernel
theorem dX6_warm_10 : decode cX6_warm 10 = .ok (.if_icmp .ge 55, 3) := by decide +kernel
theorem dX6_warm_13 : decode cX6_warm 13 = .ok (.iload_n 2, 1) := by decide +kernel
theorem dX6_warm_14 : decode cX6_warm 14 = .ok (.aload_n 0, 1) := by decide +kernel
theorem dX6_warm_15 : decode cX6_warm 15 = .ok (.getfield 9, 3) := by decide +kernel
theorem dX6_warm_18 : decode cX6_warm 18 = .ok (.arraylength, 1) := by decide +kernel
theorem dX6_warm_19 : decode cX6_warm 19 = .ok (.if_icmp .ge 46, 3) := by decide +kernel
theorem dX6_warm_22 : decode cX6_warm 22 = .ok (.aload_n 0, 1) := by decide +kernel
theorem dX6_warm_23 : decode cX6_warm 23 = .ok (.getfield 9, 3) := by decide +kernel
theorem dX6_warm_26 : decode cX6_warm 26 = .ok (.iload_n 2, 1) := by decide +kernel
theorem dX6_warm_27 : decode cX6_warm 27 = .ok (.aload_n 0, 1) := by decide +kernel
theorem dX6_warm_28 : decode cX6_warm 28 = .ok (.aload_n 0, 1) := by decide +kernel
theorem dX6_warm_29 : decode cX6_warm 29 = .ok (.getfield 15, 3) := by decide +kernel
theorem dX6_warm_32 : decode cX6_warm 32 = .ok (.iload_n 2, 1) := by decide +kernel
theorem dX6_warm_33 : decode cX6_warm 33 = .ok (.invokevirtual 38, 3) := by decide +kernel
theorem dX6_warm_36 : decode cX6_warm 36 = .ok (.iload_n 1, 1) := by decide +kernel
theorem dX6_warm_37 : decode cX6_warm 37 = .ok (.invokevirtual 108, 3) := by decide +kernel
theorem dX6_warm_40 : decode cX6_warm 40 = .ok (.aload_n 0, 1) := by decide +kernel
theorem dX6_warm_41 : decode cX6_warm 41 = .ok (.iload_n 2, 1) := by decide +kernel
theorem dX6_warm_42 : decode cX6_warm 42 = .ok (.iload_n 2, 1) := by decide +kernel
theorem dX6_warm_43 : decode cX6_warm 43 = .ok (.iconst 1, 1) := by decide +kernel
theorem dX6_warm_44 : decode cX6_warm 44 = .ok (.isub, 1) := by decide +kernel
theorem dX6_warm_45 : decode cX6_warm 45 = .ok (.invokevirtual 111, 3) := by decide +kernel
theorem dX6_warm_48 : decode cX6_warm 48 = .ok (.iadd, 1) := by decide +kernel
theorem dX6_warm_49 : decode cX6_warm 49 = .ok (.aload_n 0, 1) := by decide +kernel
theorem dX6_warm_50 : decode cX6_warm 50 = .ok (.iload_n 2, 1) := by decide +kernel
theorem dX6_warm_51 : decode cX6_warm 51 = .ok (.iload_n 2, 1) := by decide +kernel
theorem dX6_warm_52 : decode cX6_warm 52 = .ok (.iconst 1, 1) := by decide +kernel
theorem dX6_warm_53 : decode cX6_warm 53 = .ok (.iadd, 1) := by decide +kernel
theorem dX6_warm_54 : decode cX6_warm 54 = .ok (.invokevirtual 111, 3) := by decide +kernel
theorem dX6_warm_57 : decode cX6_warm 57 = .ok (.iadd, 1) := by decide +kernel
theorem dX6_warm_58 : decode cX6_warm 58 = .ok (.iastore, 1) := by decide +kernel
theorem dX6_warm_59 : decode cX6_warm 59 = .ok (.iinc 2 1, 3) := by decide +kernel
theorem dX6_warm_62 : decode cX6_warm 62 = .ok (.goto (-60), 3) := by decide +kernel
theorem dX6_warm_65 : decode cX6_warm 65 = .ok (.iconst 0, 1) := by decide +kernel
theorem dX6_warm_66 : decode cX6_warm 66 = .ok (.istore_n 2, 1) := by decide +kernel
theorem dX6_warm_67 : decode cX6_warm 67 = .ok (.iload_n 2, 1) := by decide +kernel
theorem dX6_warm_68 : decode cX6_warm 68 = .ok (.aload_n 0, 1) := by decide +kernel
theorem dX6_warm_69 : decode cX6_warm 69 = .ok (.getfield 15, 3) := by decide +kernel
theorem dX6_warm_72 : decode cX6_warm 72 = .ok (.invokevirtual 32, 3) := by decide +kernel
theorem dX6_warm_75 : decode cX6_warm 75 = .ok (.if_icmp .ge 37, 3) := by decide +kernel
theorem dX6_warm_78 : decode cX6_warm 78 = .ok (.aload_n 0, 1) := by decide +kernel
theorem dX6_warm_79 : decode cX6_warm 79 = .ok (.getfield 15, 3) := by decide +kernel
theorem dX6_warm_82 : decode cX6_warm 82 = .ok (.iload_n 2, 1) := by decide +kernel
theorem dX6_warm_83 : decode cX6_warm 83 = .ok (.invokevirtual 38, 3) := by decide +kernel
theorem dX6_warm_86 : decode cX6_warm 86 = .ok (.bipush 27, 2) := by decide +kernel
theorem dX6_warm_88 : decode cX6_warm 88 = .ok (.invokevirtual 42, 3) := by decide +kernel
theorem dX6_warm_91 : decode cX6_warm 91 = .ok (.ifCond .eq 15, 3) := by decide +kernel
theorem dX6_warm_94 : decode cX6_warm 94 = .ok (.aload_n 0, 1) := by decide +kernel
theorem dX6_warm_95 : decode cX6_warm 95 = .ok (.aload_n 0, 1) := by decide +kernel
theorem dX6_warm_96 : decode cX6_warm 96 = .ok (.getfield 15, 3) := by decide +kernel
theorem dX6_warm_99 : decode cX6_warm 99 = .ok (.iload_n 2, 1) := by decide +kernel
theorem dX6_warm_100 : decode cX6_warm 100 = .ok (.invokevirtual 38, 3) := by decide +kernel
theorem dX6_warm_103 : decode cX6_warm 103 = .ok (.invokevirtual 114, 3) := by decide +kernel
theorem dX6_warm_106 : decode cX6_warm 106 = .ok (.iinc 2 1, 3) := by decide +kernel
theorem dX6_warm_109 : decode cX6_warm 109 = .ok (.goto (-42), 3) := by decide +kernel
theorem dX6_warm_112 : decode cX6_warm 112 = .ok (.iconst 0, 1) := by decide +kernel
theorem dX6_warm_113 : decode cX6_warm 113 = .ok (.istore_n 2, 1) := by decide +kernel
theorem dX6_warm_114 : decode cX6_warm 114 = .ok (.iload_n 2, 1) := by decide +kernel
theorem dX6_warm_115 : decode cX6_warm 115 = .ok (.aload_n 0, 1) := by decide +kernel
theorem dX6_warm_116 : decode cX6_warm 116 = .ok (.getfield 15, 3) := by decide +kernel
theorem dX6_warm_119 : decode cX6_warm 119 = .ok (.invokevirtual 32, 3) := by decide +kernel
theorem dX6_warm_122 : decode cX6_warm 122 = .ok (.if_icmp .ge 47, 3) := by decide +kernel
theorem dX6_warm_125 : decode cX6_warm 125 = .ok (.iload_n 2, 1) := by decide +kernel
theorem dX6_warm_126 : decode cX6_warm 126 = .ok (.aload_n 0, 1) := by decide +kernel
theorem dX6_warm_127 : decode cX6_warm 127 = .ok (.getfield 9, 3) := by decide +kernel
theorem dX6_warm_130 : decode cX6_warm 130 = .ok (.arraylength, 1) := by decide +kernel
theorem dX6_warm_131 : decode cX6_warm 131 = .ok (.if_icmp .ge 38, 3) := by decide +kernel
theorem dX6_warm_134 : decode cX6_warm 134 = .ok (.aload_n 0, 1) := by decide +kernel
theorem dX6_warm_135 : decode cX6_warm 135 = .ok (.getfield 15, 3) := by decide +kernel
theorem dX6_warm_138 : decode cX6_warm 138 = .ok (.iload_n 2, 1) := by decide +kernel
theorem dX6_warm_139 : decode cX6_warm 139 = .ok (.invokevirtual 38, 3) := by decide +kernel
theorem dX6_warm_142 : decode cX6_warm 142 = .ok (.getfield 72, 3) := by decide +kernel
theorem dX6_warm_145 : decode cX6_warm 145 = .ok (.bipush 62, 2) := by decide +kernel
theorem dX6_warm_147 : decode cX6_warm 147 = .ok (.aload_n 0, 1) := by decide +kernel
theorem dX6_warm_148 : decode cX6_warm 148 = .ok (.getfield 9, 3) := by decide +kernel
theorem dX6_warm_151 : decode cX6_warm 151 = .ok (.iload_n 2, 1) := by decide +kernel
theorem dX6_warm_152 : decode cX6_warm 152 = .ok (.iaload, 1) := by decide +kernel
theorem dX6_warm_153 : decode cX6_warm 153 = .ok (.sipush (-500), 3) := by decide +kernel
theorem dX6_warm_156 : decode cX6_warm 156 = .ok (.sipush 1500, 3) := by decide +kernel
theorem dX6_warm_159 : decode cX6_warm 159 = .ok (.invokestatic 83, 3) := by decide +kernel
theorem dX6_warm_162 : decode cX6_warm 162 = .ok (.iastore, 1) := by decide +kernel
theorem dX6_warm_163 : decode cX6_warm 163 = .ok (.iinc 2 1, 3) := by decide +kernel
theorem dX6_warm_166 : decode cX6_warm 166 = .ok (.goto (-52), 3) := by decide +kernel
theorem dX6_warm_169 : decode cX6_warm 169 = .ok (.aload_n 0, 1) := by decide +kernel
theorem dX6_warm_170 : decode cX6_warm 170 = .ok (.invokevirtual 118, 3) := by decide +kernel
theorem dX6_warm_173 : decode cX6_warm 173 = .ok (.aload_n 0, 1) := by decide +kernel
theorem dX6_warm_174 : decode cX6_warm 174 = .ok (.invokevirtual 121, 3) := by decide +kernel
theorem dX6_warm_177 : decode cX6_warm 177 = .ok (.return_, 1) := by decide +kernel
def LF_X6_warm_2 (N : Nat) : Nat → Nat → Int32 → Int32 → MI → ML → MR → Option (MI)
  | 0, _, _, _, _, _, _ => none
  | k + 1, y0, y1, y2, I, L, R =>
    (rf R y0 0 9).bind fun a1 =>
    bn1 (F_X10_size a1 I L R) fun v2 =>
    if v2 ≤ y2 then
      some (I)
    else
      (rf R y0 1 20).bind fun a5 =>
      if (Int32.ofNat (ln a5)) ≤ y2 then
        some (I)
      else
        bn1 (F_X10_unitAt a1 y2 I L R) fun a7 =>
        if kd a7 = 8 ∧ a7 < NN then
        bn1 (F_X6_heatAlone N y0 a7 y1 I L R) fun v10 =>
        bn1 (F_X6_fromNeighbour y0 y2 (y2 - (1 : Int32)) I L R) fun v12 =>
        bn1 (F_X6_fromNeighbour y0 y2 (y2 + (1 : Int32)) I L R) fun v14 =>
        (wi I a5 y2 ((v10 + v12) + v14)).bind fun I16 =>
        wr (y2 + (1 : Int32)) fun (u17 : Int32) =>
        LF_X6_warm_2 N k y0 y1 u17 I16 L R
        else none
def LF_X6_warm_67 (N : Nat) : Nat → Nat → Int32 → MI → ML → MR → Option (MI)
  | 0, _, _, _, _, _ => none
  | k + 1, y0, y2, I, L, R =>
    (rf R y0 0 9).bind fun a20 =>
    bn1 (F_X10_size a20 I L R) fun v21 =>
    if v21 ≤ y2 then
      some (I)
    else
      bn1 (F_X10_unitAt a20 y2 I L R) fun a24 =>
      if kd a24 = 8 ∧ a24 < NN then
      bn1 (F_X9_isWhole a24 (27 : Int32) I L R) fun b27 =>
      bn1 (
        if (b2i b27) = 0 then
          some (I)
        else
          bn1 (F_X10_unitAt a20 y2 I L R) fun a33 =>
          if kd a33 = 8 ∧ a33 < NN then
          bn1 (F_X6_leadHeat y0 a33 I L R) fun I36 =>
          some (I36)
          else none
      ) fun (I29 : MI) =>
      wr (y2 + (1 : Int32)) fun (u38 : Int32) =>
      LF_X6_warm_67 N k y0 u38 I29 L R
      else none
def LF_X6_warm_114 (N : Nat) : Nat → Nat → Int32 → MI → ML → MR → Option (MI)
  | 0, _, _, _, _, _ => none
  | k + 1, y0, y2, I, L, R =>
    (rf R y0 0 9).bind fun a41 =>
    bn1 (F_X10_size a41 I L R) fun v42 =>
    if v42 ≤ y2 then
      some (I)
    else
      (rf R y0 1 20).bind fun a45 =>
      if (Int32.ofNat (ln a45)) ≤ y2 then
        some (I)
      else
        bn1 (F_X10_unitAt a41 y2 I L R) fun a47 =>
        if kd a47 = 8 ∧ a47 < NN then
        (rf R a47 0 20).bind fun a50 =>
        (ri I a45 y2).bind fun v51 =>
        bn1 (F_X11_limit v51 (-500 : Int32) (1500 : Int32) I L R) fun v52 =>
        (wi I a50 (62 : Int32) v52).bind fun I54 =>
        wr (y2 + (1 : Int32)) fun (u55 : Int32) =>
        LF_X6_warm_114 N k y0 u55 I54 L R
        else none
def F_X6_warm (N : Nat) (x0 : Nat) (x1 : Int32) (I : MI) (L : ML) (R : MR) : Option (MI) :=
  if kd x0 = 5 ∧ x0 < NN then
  bn1 (LF_X6_warm_2 N N x0 x1 (0 : Int32) I L R) fun z18 =>
  bn1 (LF_X6_warm_67 N N x0 (0 : Int32) z18 L R) fun z39 =>
  bn1 (LF_X6_warm_114 N N x0 (0 : Int32) z39 L R) fun z56 =>
  bn1 (F_X6_breakUnits N x0 z56 L R) fun I58 =>
  bn1 (F_X6_switchThermos N x0 I58 L R) fun I60 =>
  some (I60)
  else none
set_option maxRecDepth 100000 in
set_option maxHeartbeats 4000000 in
theorem lp_X6_warm_2 {G : Gm} (C0 : Cx G (yX6_warm.cls) cX6_warm none) (eNL : G.nL = 3) (erm : G.rm = ({ frames := 3, cells := 0, slots := 0, locals := 70 } : Room)) (N : Nat) : ∀ (k : Nat) (y0 : Nat) (y1 : Int32) (y2 : Int32) (I : MI) (L : ML) (R : MR) (z : MI) (hk0 : kd y0 = 5) (ho0 : y0 < NN), LF_X6_warm_2 N k y0 y1 y2 I L R = some z → ∀ f : State → Prop, V G f 65 [(0, .ref (G.ad y0))] [] z L R → V G f 2 [(0, .ref (G.ad y0)), (1, .int y1), (2, .int y2)] [] I L R := by
  intro k
  induction k with
  | zero =>
    intro y0 y1 y2 I L R q hk0 ho0 h
    exact absurd h (by simp [LF_X6_warm_2])
  | succ k ih =>
    intro y0 y1 y2 I L R q hk0 ho0 h f kx
    rw [LF_X6_warm_2] at h
    refine V_iload_n C0 2 rfl rfl dX6_warm_2 ?_
    refine V_aload_n C0 0 rfl rfl dX6_warm_3 ?_
    obtain ⟨a1, qa1, h⟩ := bnd_some h
    refine V_getR C0 5 0 fl_X6_15 ho0 hk0 rfl (rf_at qa1) dX6_warm_4 ?_
    obtain ⟨v2, q3, h⟩ := bn1_some h
    refine V_callV C0 (st := [.int y2]) (As := []) 9 (c_X10_size G.l G.D G.cA G.ad G.bs G.X C0.2.2.2.2.2.2.2.2.2.1 C0.2.2.2.2.2.2.2.2.2.2.2.2 a1 I L R v2 q3) lc_X10_size lk_X6_32 (rf_lt qa1) (rf_kd qa1) ⟨_, rfl, rfl⟩ rfl (by rw [erm]; decide) (Nat.le_of_ble_eq_true rfl) dX6_warm_7 ?_
    show V G _ 10 [(0, .ref (G.ad y0)), (1, .int y1), (2, .int y2)] [.int v2, .int y2] I L R
    refine V_icmp_ge C0 (tgt := 65) (by decide) dX6_warm_10 (fun c4 => ?_) (fun c4 => ?_)
    · have h := (if_pos c4).symm.trans h
      cases h
      exact V_sub [0] rfl kx
    · have h := (if_neg c4).symm.trans h
      refine V_iload_n C0 2 rfl rfl dX6_warm_13 ?_
      refine V_aload_n C0 0 rfl rfl dX6_warm_14 ?_
      obtain ⟨a5, qa5, h⟩ := bnd_some h
      refine V_getR C0 5 1 fl_X6_9 ho0 hk0 rfl (rf_at qa5) dX6_warm_15 ?_
      refine V_alen C0 (v := Int32.ofNat (ln a5)) (rf_lt qa5) (by rw [(rf_kd qa5)]; decide) rfl dX6_warm_18 ?_
      refine V_icmp_ge C0 (tgt := 65) (by decide) dX6_warm_19 (fun c6 => ?_) (fun c6 => ?_)
      · have h := (if_pos c6).symm.trans h
        cases h
        exact V_sub [0] rfl kx
      · have h := (if_neg c6).symm.trans h
        refine V_aload_n C0 0 rfl rfl dX6_warm_22 ?_
        refine V_getR C0 5 1 fl_X6_9 ho0 hk0 rfl (rf_at qa5) dX6_warm_23 ?_
        refine V_iload_n C0 2 rfl rfl dX6_warm_26 ?_
        refine V_aload_n C0 0 rfl rfl dX6_warm_27 ?_
        refine V_aload_n C0 0 rfl rfl dX6_warm_28 ?_
        refine V_getR C0 5 0 fl_X6_15 ho0 hk0 rfl (rf_at qa1) dX6_warm_29 ?_
        refine V_iload_n C0 2 rfl rfl dX6_warm_32 ?_
        obtain ⟨a7, q8, h⟩ := bn1_some h
        refine V_callV C0 (st := [.ref (G.ad y0), .int y2, .ref (G.ad a5)]) (As := [.int y2]) 9 (c_X10_unitAt G.l G.D G.cA G.ad G.bs G.X C0.2.2.2.2.2.2.2.2.2.1 C0.2.2.2.2.2.2.2.2.2.2.2.2 a1 y2 I L R a7 q8) lc_X10_unitAt lk_X6_38 (rf_lt qa1) (rf_kd qa1) ⟨_, rfl, rfl⟩ rfl (by rw [erm]; decide) (Nat.le_of_ble_eq_true rfl) dX6_warm_33 ?_
        show V G _ 36 [(0, .ref (G.ad y0)), (1, .int y1), (2, .int y2)] [.ref (G.ad a7), .ref (G.ad y0), .int y2, .ref (G.ad a5)] I L R
        obtain ⟨c9, h⟩ := ite_some h
        refine V_iload_n C0 1 rfl rfl dX6_warm_36 ?_
        obtain ⟨v10, q11, h⟩ := bn1_some h
        refine V_callV C0 (st := [.int y2, .ref (G.ad a5)]) (As := [.ref (G.ad a7), .int y1]) 5 (c_X6_heatAlone G.l G.D G.cA G.ad G.bs G.X C0.2.2.2.2.2.2.2.2.2.1 C0.2.2.2.2.2.2.2.2.2.2.2.2 N y0 a7 y1 I L R v10 q11) lc_X6_heatAlone lk_X6_108 ho0 hk0 ⟨_, rfl, rfl⟩ rfl (by rw [erm]; decide) (Nat.le_of_ble_eq_true rfl) dX6_warm_37 ?_
        show V G _ 40 [(0, .ref (G.ad y0)), (1, .int y1), (2, .int y2)] [.int v10, .int y2, .ref (G.ad a5)] I L R
        refine V_aload_n C0 0 rfl rfl dX6_warm_40 ?_
        refine V_iload_n C0 2 rfl rfl dX6_warm_41 ?_
        refine V_iload_n C0 2 rfl rfl dX6_warm_42 ?_
        refine V_iconst C0 (v := (1 : Int32)) (by decide) dX6_warm_43 ?_
        refine V_isub C0 dX6_warm_44 ?_
        obtain ⟨v12, q13, h⟩ := bn1_some h
        refine V_callV C0 (st := [.int v10, .int y2, .ref (G.ad a5)]) (As := [.int y2, .int (y2 - (1 : Int32))]) 5 (c_X6_fromNeighbour G.l G.D G.cA G.ad G.bs G.X C0.2.2.2.2.2.2.2.2.2.1 C0.2.2.2.2.2.2.2.2.2.2.2.2 y0 y2 (y2 - (1 : Int32)) I L R v12 q13) lc_X6_fromNeighbour lk_X6_111 ho0 hk0 ⟨_, rfl, rfl⟩ rfl (by rw [erm]; decide) (Nat.le_of_ble_eq_true rfl) dX6_warm_45 ?_
        show V G _ 48 [(0, .ref (G.ad y0)), (1, .int y1), (2, .int y2)] [.int v12, .int v10, .int y2, .ref (G.ad a5)] I L R
        refine V_iadd C0 dX6_warm_48 ?_
        refine V_aload_n C0 0 rfl rfl dX6_warm_49 ?_
        refine V_iload_n C0 2 rfl rfl dX6_warm_50 ?_
        refine V_iload_n C0 2 rfl rfl dX6_warm_51 ?_
        refine V_iconst C0 (v := (1 : Int32)) (by decide) dX6_warm_52 ?_
        refine V_iadd C0 dX6_warm_53 ?_
        obtain ⟨v14, q15, h⟩ := bn1_some h
        refine V_callV C0 (st := [.int (v10 + v12), .int y2, .ref (G.ad a5)]) (As := [.int y2, .int (y2 + (1 : Int32))]) 5 (c_X6_fromNeighbour G.l G.D G.cA G.ad G.bs G.X C0.2.2.2.2.2.2.2.2.2.1 C0.2.2.2.2.2.2.2.2.2.2.2.2 y0 y2 (y2 + (1 : Int32)) I L R v14 q15) lc_X6_fromNeighbour lk_X6_111 ho0 hk0 ⟨_, rfl, rfl⟩ rfl (by rw [erm]; decide) (Nat.le_of_ble_eq_true rfl) dX6_warm_54 ?_
        show V G _ 57 [(0, .ref (G.ad y0)), (1, .int y1), (2, .int y2)] [.int v14, .int (v10 + v12), .int y2, .ref (G.ad a5)] I L R
        refine V_iadd C0 dX6_warm_57 ?_
        obtain ⟨I16, qI16, h⟩ := bnd_some h
        refine V_wi C0 (rf_lt qa5) (rf_kd qa5) qI16 dX6_warm_58 ?_
        obtain ⟨u17, eu17, h⟩ := wr_some h
        refine V_iinc C0 2 [(2, .int u17), (0, .ref (G.ad y0)), (1, .int y1)] rfl (n := 1) (by rw [eu17]; rfl) (by rw [eNL]; decide) rfl dX6_warm_59 ?_
        refine V_goto C0 (tgt := 2) (by decide) dX6_warm_62 ?_
        exact V_sub [1, 2, 0] rfl (ih y0 y1 u17 I16 L R _ hk0 ho0 h f kx)
set_option maxRecDepth 100000 in
set_option maxHeartbeats 4000000 in
theorem lp_X6_warm_67 {G : Gm} (C0 : Cx G (yX6_warm.cls) cX6_warm none) (eNL : G.nL = 3) (erm : G.rm = ({ frames := 3, cells := 0, slots := 0, locals := 70 } : Room)) (N : Nat) : ∀ (k : Nat) (y0 : Nat) (y2 : Int32) (I : MI) (L : ML) (R : MR) (z : MI) (hk0 : kd y0 = 5) (ho0 : y0 < NN), LF_X6_warm_67 N k y0 y2 I L R = some z → ∀ f : State → Prop, V G f 112 [(0, .ref (G.ad y0))] [] z L R → V G f 67 [(0, .ref (G.ad y0)), (2, .int y2)] [] I L R := by
  intro k
  induction k with
  | zero =>
    intro y0 y2 I L R q hk0 ho0 h
    exact absurd h (by simp [LF_X6_warm_67])
  | succ k ih =>
    intro y0 y2 I L R q hk0 ho0 h f kx
    rw [LF_X6_warm_67] at h
    refine V_iload_n C0 1 rfl rfl dX6_warm_67 ?_
    refine V_aload_n C0 0 rfl rfl dX6_warm_68 ?_
    obtain ⟨a20, qa20, h⟩ := bnd_some h
    refine V_getR C0 5 0 fl_X6_15 ho0 hk0 rfl (rf_at qa20) dX6_warm_69 ?_
    obtain ⟨v21, q22, h⟩ := bn1_some h
    refine V_callV C0 (st := [.int y2]) (As := []) 9 (c_X10_size G.l G.D G.cA G.ad G.bs G.X C0.2.2.2.2.2.2.2.2.2.1 C0.2.2.2.2.2.2.2.2.2.2.2.2 a20 I L R v21 q22) lc_X10_size lk_X6_32 (rf_lt qa20) (rf_kd qa20) ⟨_, rfl, rfl⟩ rfl (by rw [erm]; decide) (Nat.le_of_ble_eq_true rfl) dX6_warm_72 ?_
    show V G _ 75 [(0, .ref (G.ad y0)), (2, .int y2)] [.int v21, .int y2] I L R
    refine V_icmp_ge C0 (tgt := 112) (by decide) dX6_warm_75 (fun c23 => ?_) (fun c23 => ?_)
    · have h := (if_pos c23).symm.trans h
      cases h
      exact V_sub [0] rfl kx
    · have h := (if_neg c23).symm.trans h
      refine V_aload_n C0 0 rfl rfl dX6_warm_78 ?_
      refine V_getR C0 5 0 fl_X6_15 ho0 hk0 rfl (rf_at qa20) dX6_warm_79 ?_
      refine V_iload_n C0 1 rfl rfl dX6_warm_82 ?_
      obtain ⟨a24, q25, h⟩ := bn1_some h
      refine V_callV C0 (st := []) (As := [.int y2]) 9 (c_X10_unitAt G.l G.D G.cA G.ad G.bs G.X C0.2.2.2.2.2.2.2.2.2.1 C0.2.2.2.2.2.2.2.2.2.2.2.2 a20 y2 I L R a24 q25) lc_X10_unitAt lk_X6_38 (rf_lt qa20) (rf_kd qa20) ⟨_, rfl, rfl⟩ rfl (by rw [erm]; decide) (Nat.le_of_ble_eq_true rfl) dX6_warm_83 ?_
      show V G _ 86 [(0, .ref (G.ad y0)), (2, .int y2)] [.ref (G.ad a24)] I L R
      obtain ⟨c26, h⟩ := ite_some h
      refine V_bipush C0 (v := (27 : Int32)) (by decide) dX6_warm_86 ?_
      obtain ⟨b27, q28, h⟩ := bn1_some h
      refine V_callV C0 (st := []) (As := [.int (27 : Int32)]) 8 (c_X9_isWhole G.l G.D G.cA G.ad G.bs G.X C0.2.2.2.2.2.2.2.2.2.1 C0.2.2.2.2.2.2.2.2.2.2.2.2 a24 (27 : Int32) I L R b27 q28) lc_X9_isWhole lk_X6_42 c26.2 c26.1 ⟨_, rfl, rfl⟩ rfl (by rw [erm]; decide) (Nat.le_of_ble_eq_true rfl) dX6_warm_88 ?_
      show V G _ 91 [(0, .ref (G.ad y0)), (2, .int y2)] [.int (b2i b27)] I L R
      obtain ⟨I29, q30, h⟩ := bn1_some h
      have k31 : V G f 106 [(0, .ref (G.ad y0)), (2, .int y2)] [] I29 L R := by
        obtain ⟨u38, eu38, h⟩ := wr_some h
        refine V_iinc C0 1 [(2, .int u38), (0, .ref (G.ad y0))] rfl (n := 1) (by rw [eu38]; rfl) (by rw [eNL]; decide) rfl dX6_warm_106 ?_
        refine V_goto C0 (tgt := 67) (by decide) dX6_warm_109 ?_
        exact V_sub [1, 0] rfl (ih y0 u38 I29 L R _ hk0 ho0 h f kx)
      refine V_if_eq C0 (tgt := 106) (by decide) dX6_warm_91 (fun c32 => ?_) (fun c32 => ?_)
      · have q30 := (if_pos c32).symm.trans q30
        cases q30
        exact V_sub [0, 1] rfl k31
      · have q30 := (if_neg c32).symm.trans q30
        refine V_aload_n C0 0 rfl rfl dX6_warm_94 ?_
        refine V_aload_n C0 0 rfl rfl dX6_warm_95 ?_
        refine V_getR C0 5 0 fl_X6_15 ho0 hk0 rfl (rf_at qa20) dX6_warm_96 ?_
        refine V_iload_n C0 1 rfl rfl dX6_warm_99 ?_
        obtain ⟨a33, q34, q30⟩ := bn1_some q30
        refine V_callV C0 (st := [.ref (G.ad y0)]) (As := [.int y2]) 9 (c_X10_unitAt G.l G.D G.cA G.ad G.bs G.X C0.2.2.2.2.2.2.2.2.2.1 C0.2.2.2.2.2.2.2.2.2.2.2.2 a20 y2 I L R a33 q34) lc_X10_unitAt lk_X6_38 (rf_lt qa20) (rf_kd qa20) ⟨_, rfl, rfl⟩ rfl (by rw [erm]; decide) (Nat.le_of_ble_eq_true rfl) dX6_warm_100 ?_
        show V G _ 103 [(0, .ref (G.ad y0)), (2, .int y2)] [.ref (G.ad a33), .ref (G.ad y0)] I L R
        obtain ⟨c35, q30⟩ := ite_some q30
        obtain ⟨I36, q37, q30⟩ := bn1_some q30
        refine V_callV C0 (st := []) (As := [.ref (G.ad a33)]) 5 (c_X6_leadHeat G.l G.D G.cA G.ad G.bs G.X C0.2.2.2.2.2.2.2.2.2.1 C0.2.2.2.2.2.2.2.2.2.2.2.2 y0 a33 I L R I36 q37) lc_X6_leadHeat lk_X6_114 ho0 hk0 ⟨_, rfl, rfl⟩ rfl (by rw [erm]; decide) (Nat.le_of_ble_eq_true rfl) dX6_warm_103 ?_
        show V G _ 106 [(0, .ref (G.ad y0)), (2, .int y2)] [] I36 L R
        cases q30
        exact V_sub [0, 1] rfl k31
set_option maxRecDepth 100000 in
set_option maxHeartbeats 4000000 in
theorem lp_X6_warm_114 {G : Gm} (C0 : Cx G (yX6_warm.cls) cX6_warm none) (eNL : G.nL = 3) (erm : G.rm = ({ frames := 3, cells := 0, slots := 0, locals := 70 } : Room)) (N : Nat) : ∀ (k : Nat) (y0 : Nat) (y2 : Int32) (I : MI) (L : ML) (R : MR) (z : MI) (hk0 : kd y0 = 5) (ho0 : y0 < NN), LF_X6_warm_114 N k y0 y2 I L R = some z → ∀ f : State → Prop, V G f 169 [(0, .ref (G.ad y0))] [] z L R → V G f 114 [(0, .ref (G.ad y0)), (2, .int y2)] [] I L R := by
  intro k
  induction k with
  | zero =>
    intro y0 y2 I L R q hk0 ho0 h
    exact absurd h (by simp [LF_X6_warm_114])
  | succ k ih =>
    intro y0 y2 I L R q hk0 ho0 h f kx
    rw [LF_X6_warm_114] at h
    refine V_iload_n C0 1 rfl rfl dX6_warm_114 ?_
    refine V_aload_n C0 0 rfl rfl dX6_warm_115 ?_
    obtain ⟨a41, qa41, h⟩ := bnd_some h
    refine V_getR C0 5 0 fl_X6_15 ho0 hk0 rfl (rf_at qa41) dX6_warm_116 ?_
    obtain ⟨v42, q43, h⟩ := bn1_some h
    refine V_callV C0 (st := [.int y2]) (As := []) 9 (c_X10_size G.l G.D G.cA G.ad G.bs G.X C0.2.2.2.2.2.2.2.2.2.1 C0.2.2.2.2.2.2.2.2.2.2.2.2 a41 I L R v42 q43) lc_X10_size lk_X6_32 (rf_lt qa41) (rf_kd qa41) ⟨_, rfl, rfl⟩ rfl (by rw [erm]; decide) (Nat.le_of_ble_eq_true rfl) dX6_warm_119 ?_
    show V G _ 122 [(0, .ref (G.ad y0)), (2, .int y2)] [.int v42, .int y2] I L R
    refine V_icmp_ge C0 (tgt := 169) (by decide) dX6_warm_122 (fun c44 => ?_) (fun c44 => ?_)
    · have h := (if_pos c44).symm.trans h
      cases h
      exact V_sub [0] rfl kx
    · have h := (if_neg c44).symm.trans h
      refine V_iload_n C0 1 rfl rfl dX6_warm_125 ?_
      refine V_aload_n C0 0 rfl rfl dX6_warm_126 ?_
      obtain ⟨a45, qa45, h⟩ := bnd_some h
      refine V_getR C0 5 1 fl_X6_9 ho0 hk0 rfl (rf_at qa45) dX6_warm_127 ?_
      refine V_alen C0 (v := Int32.ofNat (ln a45)) (rf_lt qa45) (by rw [(rf_kd qa45)]; decide) rfl dX6_warm_130 ?_
      refine V_icmp_ge C0 (tgt := 169) (by decide) dX6_warm_131 (fun c46 => ?_) (fun c46 => ?_)
      · have h := (if_pos c46).symm.trans h
        cases h
        exact V_sub [0] rfl kx
      · have h := (if_neg c46).symm.trans h
        refine V_aload_n C0 0 rfl rfl dX6_warm_134 ?_
        refine V_getR C0 5 0 fl_X6_15 ho0 hk0 rfl (rf_at qa41) dX6_warm_135 ?_
        refine V_iload_n C0 1 rfl rfl dX6_warm_138 ?_
        obtain ⟨a47, q48, h⟩ := bn1_some h
        refine V_callV C0 (st := []) (As := [.int y2]) 9 (c_X10_unitAt G.l G.D G.cA G.ad G.bs G.X C0.2.2.2.2.2.2.2.2.2.1 C0.2.2.2.2.2.2.2.2.2.2.2.2 a41 y2 I L R a47 q48) lc_X10_unitAt lk_X6_38 (rf_lt qa41) (rf_kd qa41) ⟨_, rfl, rfl⟩ rfl (by rw [erm]; decide) (Nat.le_of_ble_eq_true rfl) dX6_warm_139 ?_
        show V G _ 142 [(0, .ref (G.ad y0)), (2, .int y2)] [.ref (G.ad a47)] I L R
        obtain ⟨c49, h⟩ := ite_some h
        obtain ⟨a50, qa50, h⟩ := bnd_some h
        refine V_getR C0 8 0 fl_X6_72 c49.2 c49.1 rfl (rf_at qa50) dX6_warm_142 ?_
        refine V_bipush C0 (v := (62 : Int32)) (by decide) dX6_warm_145 ?_
        refine V_aload_n C0 0 rfl rfl dX6_warm_147 ?_
        refine V_getR C0 5 1 fl_X6_9 ho0 hk0 rfl (rf_at qa45) dX6_warm_148 ?_
        refine V_iload_n C0 1 rfl rfl dX6_warm_151 ?_
        obtain ⟨v51, qv51, h⟩ := bnd_some h
        refine V_ri C0 (rf_lt qa45) (rf_kd qa45) qv51 dX6_warm_152 ?_
        refine V_sipush C0 (v := (-500 : Int32)) (by decide) dX6_warm_153 ?_
        refine V_sipush C0 (v := (1500 : Int32)) (by decide) dX6_warm_156 ?_
        obtain ⟨v52, q53, h⟩ := bn1_some h
        refine V_callS C0 (st := [.int (62 : Int32), .ref (G.ad a50)]) (As := [.int v51, .int (-500 : Int32), .int (1500 : Int32)]) (c_X11_limit G.l G.D G.cA G.ad G.bs G.X C0.2.2.2.2.2.2.2.2.2.1 C0.2.2.2.2.2.2.2.2.2.2.2.2 v51 (-500 : Int32) (1500 : Int32) I L R v52 q53) lc_X11_limit lk_X6_83 rfl (by rw [erm]; decide) (Nat.le_of_ble_eq_true rfl) dX6_warm_159 ?_
        show V G _ 162 [(0, .ref (G.ad y0)), (2, .int y2)] [.int v52, .int (62 : Int32), .ref (G.ad a50)] I L R
        obtain ⟨I54, qI54, h⟩ := bnd_some h
        refine V_wi C0 (rf_lt qa50) (rf_kd qa50) qI54 dX6_warm_162 ?_
        obtain ⟨u55, eu55, h⟩ := wr_some h
        refine V_iinc C0 1 [(2, .int u55), (0, .ref (G.ad y0))] rfl (n := 1) (by rw [eu55]; rfl) (by rw [eNL]; decide) rfl dX6_warm_163 ?_
        refine V_goto C0 (tgt := 114) (by decide) dX6_warm_166 ?_
        exact V_sub [1, 0] rfl (ih y0 u55 I54 L R _ hk0 ho0 h f kx)
set_option maxRecDepth 100000 in
set_option maxHeartbeats 4000000 in
theorem c_X6_warm (l : Launch) (D : va_G) (cA : Nat → ClassId) (ad : Nat → Nat) (bs : Nat) (X : State → Prop) (hAd : Ax ad bs) (hX : Stb bs X) (N : Nat) (x0 : Nat) (x1 : Int32) (I : MI) (L : ML) (R : MR) (I' : MI) (h : F_X6_warm N x0 x1 I L R = some (I')) : Cn l D cA ad bs X yX6_warm cX6_warm 3 none 3 70 [.ref (ad x0), .int x1] I L R (none, I', L, R) := by
  refine Cn.ofV hAd hX [(0, .ref (ad x0)), (1, .int x1)] rfl (Nat.le_of_ble_eq_true rfl) (by decide) ?_
  intro G el eD ecA ead ebs eX erm eNL C0
  subst el eD ecA ead ebs eX
  unfold F_X6_warm at h
  obtain ⟨c_x0, h⟩ := ite_some h
  refine V_iconst C0 (v := (0 : Int32)) (by decide) dX6_warm_0 ?_
  refine V_istore_n C0 [(2, .int (0 : Int32)), (0, .ref (G.ad x0)), (1, .int x1)] rfl (by rw [eNL]; decide) rfl dX6_warm_1 ?_
  obtain ⟨z18, q19, h⟩ := bn1_some h
  refine V_sub [1, 2, 0] rfl (lp_X6_warm_2 C0 eNL erm N N x0 x1 (0 : Int32) I L R _ c_x0.1 c_x0.2 q19 _ ?_)
  show V G _ 65 [(0, .ref (G.ad x0))] [] z18 L R
  refine V_iconst C0 (v := (0 : Int32)) (by decide) dX6_warm_65 ?_
  refine V_istore_n C0 [(2, .int (0 : Int32)), (0, .ref (G.ad x0))] rfl (by rw [eNL]; decide) rfl dX6_warm_66 ?_
  obtain ⟨z39, q40, h⟩ := bn1_some h
  refine V_sub [1, 0] rfl (lp_X6_warm_67 C0 eNL erm N N x0 (0 : Int32) z18 L R _ c_x0.1 c_x0.2 q40 _ ?_)
  show V G _ 112 [(0, .ref (G.ad x0))] [] z39 L R
  refine V_iconst C0 (v := (0 : Int32)) (by decide) dX6_warm_112 ?_
  refine V_istore_n C0 [(2, .int (0 : Int32)), (0, .ref (G.ad x0))] rfl (by rw [eNL]; decide) rfl dX6_warm_113 ?_
  obtain ⟨z56, q57, h⟩ := bn1_some h
  refine V_sub [1, 0] rfl (lp_X6_warm_114 C0 eNL erm N N x0 (0 : Int32) z39 L R _ c_x0.1 c_x0.2 q57 _ ?_)
  show V G _ 169 [(0, .ref (G.ad x0))] [] z56 L R
  refine V_aload_n C0 0 rfl rfl dX6_warm_169 ?_
  obtain ⟨I58, q59, h⟩ := bn1_some h
  refine V_callV C0 (st := []) (As := []) 5 (c_X6_breakUnits G.l G.D G.cA G.ad G.bs G.X C0.2.2.2.2.2.2.2.2.2.1 C0.2.2.2.2.2.2.2.2.2.2.2.2 N x0 z56 L R I58 q59) lc_X6_breakUnits lk_X6_118 c_x0.2 c_x0.1 ⟨_, rfl, rfl⟩ rfl (by rw [erm]; decide) (Nat.le_of_ble_eq_true rfl) dX6_warm_170 ?_
  show V G _ 173 [(0, .ref (G.ad x0))] [] I58 L R
  refine V_aload_n C0 0 rfl rfl dX6_warm_173 ?_
  obtain ⟨I60, q61, h⟩ := bn1_some h
  refine V_callV C0 (st := []) (As := []) 5 (c_X6_switchThermos G.l G.D G.cA G.ad G.bs G.X C0.2.2.2.2.2.2.2.2.2.1 C0.2.2.2.2.2.2.2.2.2.2.2.2 N x0 I58 L R I60 q61) lc_X6_switchThermos lk_X6_121 c_x0.2 c_x0.1 ⟨_, rfl, rfl⟩ rfl (by rw [erm]; decide) (Nat.le_of_ble_eq_true rfl) dX6_warm_174 ?_
  show V G _ 177 [(0, .ref (G.ad x0))] [] I60 L R
  cases h
  exact V_vret C0 dX6_warm_177
theorem dX2_charge_0 : decode cX2_charge 0 = .ok (.iconst 0, 1) := by decide +kernel
theorem dX2_charge_1 : decode cX2_charge 1 = .ok (.istore_n 1, 1) := by decide +kernel
theorem dX2_charge_2 : decode cX2_charge 2 = .ok (.iconst 0, 1) := by decide +kernel
theorem dX2_charge_3 : decode cX2_charge 3 = .ok (.istore_n 2, 1) := by decide +kernel
theorem dX2_charge_4 : decode cX2_charge 4 = .ok (.iconst 0, 1) := by decide +kernel
theorem dX2_charge_5 : decode cX2_charge 5 = .ok (.istore_n 3, 1) := by decide +kernel
theorem dX2_charge_6 : decode cX2_charge 6 = .ok (.iload_n 3, 1) := by decide +kernel
theorem dX2_charge_7 : decode cX2_charge 7 = .ok (.aload_n 0, 1) := by decide +kernel
theorem dX2_charge_8 : decode cX2_charge 8 = .ok (.getfield 15, 3) := by decide +kernel
theorem dX2_charge_11 : decode cX2_charge 11 = .ok (.invokevirtual 235, 3) := by decide +kernel
theorem dX2_charge_14 : decode cX2_charge 14 = .ok (.if_icmp .ge 50, 3) := by decide +kernel
theorem dX2_charge_17 : decode cX2_charge 17 = .ok (.aload_n 0, 1) := by decide +kernel
theorem dX2_charge_18 : decode cX2_charge 18 = .ok (.getfield 15, 3) := by decide +kernel
theorem dX2_charge_21 : decode cX2_charge 21 = .ok (.iload_n 3, 1) := by decide +kernel
theorem dX2_charge_22 : decode cX2_charge 22 = .ok (.invokevirtual 199, 3) := by decide +kernel
theorem dX2_charge_25 : decode cX2_charge 25 = .ok (.astore 4, 2) := by decide +kernel
theorem dX2_charge_27 : decode cX2_charge 27 = .ok (.aload 4, 2) := by decide +kernel
theorem dX2_charge_29 : decode cX2_charge 29 = .ok (.iconst 2, 1) := by decide +kernel
theorem dX2_charge_30 : decode cX2_charge 30 = .ok (.invokevirtual 232, 3) := by decide +kernel
theorem dX2_charge_33 : decode cX2_charge 33 = .ok (.ifCond .eq 25, 3) := by decide +kernel
theorem dX2_charge_36 : decode cX2_charge 36 = .ok (.iload_n 1, 1) := by decide +kernel
theorem dX2_charge_37 : decode cX2_charge 37 = .ok (.aload 4, 2) := by decide +kernel
theorem dX2_charge_39 : decode cX2_charge 39 = .ok (.getfield 205, 3) := by decide +kernel
theorem dX2_charge_42 : decode cX2_charge 42 = .ok (.bipush 10, 2) := by decide +kernel
theorem dX2_charge_44 : decode cX2_charge 44 = .ok (.iaload, 1) := by decide +kernel
theorem dX2_charge_45 : decode cX2_charge 45 = .ok (.iadd, 1) := by decide +kernel
theorem dX2_charge_46 : decode cX2_charge 46 = .ok (.istore_n 1, 1) := by decide +kernel
theorem dX2_charge_47 : decode cX2_charge 47 = .ok (.iload_n 2, 1) := by decide +kernel
theorem dX2_charge_48 : decode cX2_charge 48 = .ok (.aload 4, 2) := by decide +kernel
theorem dX2_charge_50 : decode cX2_charge 50 = .ok (.getfield 205, 3) := by decide +kernel
theorem dX2_charge_53 : decode cX2_charge 53 = .ok (.bipush 9, 2) := by decide +kernel
theorem dX2_charge_55 : decode cX2_charge 55 = .ok (.iaload, 1) := by decide +kernel
theorem dX2_charge_56 : decode cX2_charge 56 = .ok (.iadd, 1) := by decide +kernel
theorem dX2_charge_57 : decode cX2_charge 57 = .ok (.istore_n 2, 1) := by decide +kernel
theorem dX2_charge_58 : decode cX2_charge 58 = .ok (.iinc 3 1, 3) := by decide +kernel
theorem dX2_charge_61 : decode cX2_charge 61 = .ok (.goto (-55), 3) := by decide +kernel
theorem dX2_charge_64 : decode cX2_charge 64 = .ok (.iload_n 2, 1) := by decide +kernel
theorem dX2_charge_65 : decode cX2_charge 65 = .ok (.ifCond .le 12, 3) := by decide +kernel
theorem dX2_charge_68 : decode cX2_charge 68 = .ok (.bipush 100, 2) := by decide +kernel
theorem dX2_charge_70 : decode cX2_charge 70 = .ok (.iload_n 1, 1) := by decide +kernel
theorem dX2_charge_71 : decode cX2_charge 71 = .ok (.imul, 1) := by decide +kernel
theorem dX2_charge_72 : decode cX2_charge 72 = .ok (.iload_n 2, 1) := by decide +kernel
theorem dX2_charge_73 : decode cX2_charge 73 = .ok (.idiv, 1) := by decide +kernel
theorem dX2_charge_74 : decode cX2_charge 74 = .ok (.goto 4, 3) := by decide +kernel
theorem dX2_charge_77 : decode cX2_charge 77 = .ok (.iconst 0, 1) := by decide +kernel
theorem dX2_charge_78 : decode cX2_charge 78 = .ok (.ireturn, 1) := by decide +kernel
def LF_X2_charge_6 (N : Nat) : Nat → Nat → Int32 → Int32 → Int32 → MI → ML → MR → Option (Int32 × Int32)
  | 0, _, _, _, _, _, _, _ => none
  | k + 1, y0, y1, y2, y3, I, L, R =>
    (rf R y0 0 9).bind fun a1 =>
    bn1 (F_X10_size a1 I L R) fun v2 =>
    if v2 ≤ y3 then
      some (y1, y2)
    else
      bn1 (F_X10_unitAt a1 y3 I L R) fun a5 =>
      if kd a5 = 8 ∧ a5 < NN then
      bn1 (F_X9_is a5 (2 : Int32) I L R) fun b8 =>
      bn2 (
        if (b2i b8) = 0 then
          some (y1, y2)
        else
          (rf R a5 0 20).bind fun a15 =>
          (ri I a15 (10 : Int32)).bind fun v16 =>
          wr (y1 + v16) fun (u17 : Int32) =>
          (ri I a15 (9 : Int32)).bind fun v18 =>
          wr (y2 + v18) fun (u19 : Int32) =>
          some (u17, u19)
      ) fun (u10 : Int32) (u11 : Int32) =>
      wr (y3 + (1 : Int32)) fun (u20 : Int32) =>
      LF_X2_charge_6 N k y0 u10 u11 u20 I L R
      else none
def F_X2_charge (N : Nat) (x0 : Nat) (I : MI) (L : ML) (R : MR) : Option (Int32) :=
  if kd x0 = 2 ∧ x0 < NN then
  bn1 (LF_X2_charge_6 N N x0 (0 : Int32) (0 : Int32) (0 : Int32) I L R) fun z21 =>
  if z21.2 ≤ 0 then
    some ((0 : Int32))
  else
    if z21.2 = 0 then none else
    some ((((100 : Int32) * z21.1) / z21.2))
  else none
set_option maxRecDepth 100000 in
set_option maxHeartbeats 4000000 in
theorem lp_X2_charge_6 {G : Gm} (C0 : Cx G (yX2_charge.cls) cX2_charge (some .int)) (eNL : G.nL = 5) (erm : G.rm = ({ frames := 2, cells := 0, slots := 0, locals := 42 } : Room)) (N : Nat) : ∀ (k : Nat) (y0 : Nat) (y1 : Int32) (y2 : Int32) (y3 : Int32) (I : MI) (L : ML) (R : MR) (z : Int32 × Int32) (hk0 : kd y0 = 2) (ho0 : y0 < NN), LF_X2_charge_6 N k y0 y1 y2 y3 I L R = some z → ∀ f : State → Prop, V G f 64 [(1, .int z.1), (2, .int z.2)] [] I L R → V G f 6 [(0, .ref (G.ad y0)), (1, .int y1), (2, .int y2), (3, .int y3)] [] I L R := by
  intro k
  induction k with
  | zero =>
    intro y0 y1 y2 y3 I L R q hk0 ho0 h
    exact absurd h (by simp [LF_X2_charge_6])
  | succ k ih =>
    intro y0 y1 y2 y3 I L R q hk0 ho0 h f kx
    rw [LF_X2_charge_6] at h
    refine V_iload_n C0 3 rfl rfl dX2_charge_6 ?_
    refine V_aload_n C0 0 rfl rfl dX2_charge_7 ?_
    obtain ⟨a1, qa1, h⟩ := bnd_some h
    refine V_getR C0 2 0 fl_X2_15 ho0 hk0 rfl (rf_at qa1) dX2_charge_8 ?_
    obtain ⟨v2, q3, h⟩ := bn1_some h
    refine V_callV C0 (st := [.int y3]) (As := []) 9 (c_X10_size G.l G.D G.cA G.ad G.bs G.X C0.2.2.2.2.2.2.2.2.2.1 C0.2.2.2.2.2.2.2.2.2.2.2.2 a1 I L R v2 q3) lc_X10_size lk_X2_235 (rf_lt qa1) (rf_kd qa1) ⟨_, rfl, rfl⟩ rfl (by rw [erm]; decide) (Nat.le_of_ble_eq_true rfl) dX2_charge_11 ?_
    show V G _ 14 [(0, .ref (G.ad y0)), (1, .int y1), (2, .int y2), (3, .int y3)] [.int v2, .int y3] I L R
    refine V_icmp_ge C0 (tgt := 64) (by decide) dX2_charge_14 (fun c4 => ?_) (fun c4 => ?_)
    · have h := (if_pos c4).symm.trans h
      cases h
      exact V_sub [1, 2] rfl kx
    · have h := (if_neg c4).symm.trans h
      refine V_aload_n C0 0 rfl rfl dX2_charge_17 ?_
      refine V_getR C0 2 0 fl_X2_15 ho0 hk0 rfl (rf_at qa1) dX2_charge_18 ?_
      refine V_iload_n C0 3 rfl rfl dX2_charge_21 ?_
      obtain ⟨a5, q6, h⟩ := bn1_some h
      refine V_callV C0 (st := []) (As := [.int y3]) 9 (c_X10_unitAt G.l G.D G.cA G.ad G.bs G.X C0.2.2.2.2.2.2.2.2.2.1 C0.2.2.2.2.2.2.2.2.2.2.2.2 a1 y3 I L R a5 q6) lc_X10_unitAt lk_X2_199 (rf_lt qa1) (rf_kd qa1) ⟨_, rfl, rfl⟩ rfl (by rw [erm]; decide) (Nat.le_of_ble_eq_true rfl) dX2_charge_22 ?_
      show V G _ 25 [(0, .ref (G.ad y0)), (1, .int y1), (2, .int y2), (3, .int y3)] [.ref (G.ad a5)] I L R
      obtain ⟨c7, h⟩ := ite_some h
      refine V_astore C0 [(4, .ref (G.ad a5)), (0, .ref (G.ad y0)), (1, .int y1), (2, .int y2), (3, .int y3)] (by rw [eNL]; decide) rfl dX2_charge_25 ?_
      refine V_aload C0 0 rfl dX2_charge_27 ?_
      refine V_iconst C0 (v := (2 : Int32)) (by decide) dX2_charge_29 ?_
      obtain ⟨b8, q9, h⟩ := bn1_some h
      refine V_callV C0 (st := []) (As := [.int (2 : Int32)]) 8 (c_X9_is G.l G.D G.cA G.ad G.bs G.X C0.2.2.2.2.2.2.2.2.2.1 C0.2.2.2.2.2.2.2.2.2.2.2.2 a5 (2 : Int32) I L R b8 q9) lc_X9_is lk_X2_232 c7.2 c7.1 ⟨_, rfl, rfl⟩ rfl (by rw [erm]; decide) (Nat.le_of_ble_eq_true rfl) dX2_charge_30 ?_
      show V G _ 33 [(4, .ref (G.ad a5)), (0, .ref (G.ad y0)), (1, .int y1), (2, .int y2), (3, .int y3)] [.int (b2i b8)] I L R
      obtain ⟨u10, u11, q12, h⟩ := bn2_some h
      have k13 : V G f 58 [(0, .ref (G.ad y0)), (1, .int u10), (2, .int u11), (3, .int y3)] [] I L R := by
        obtain ⟨u20, eu20, h⟩ := wr_some h
        refine V_iinc C0 3 [(3, .int u20), (0, .ref (G.ad y0)), (1, .int u10), (2, .int u11)] rfl (n := 1) (by rw [eu20]; rfl) (by rw [eNL]; decide) rfl dX2_charge_58 ?_
        refine V_goto C0 (tgt := 6) (by decide) dX2_charge_61 ?_
        exact V_sub [1, 2, 3, 0] rfl (ih y0 u10 u11 u20 I L R _ hk0 ho0 h f kx)
      refine V_if_eq C0 (tgt := 58) (by decide) dX2_charge_33 (fun c14 => ?_) (fun c14 => ?_)
      · have q12 := (if_pos c14).symm.trans q12
        cases q12
        exact V_sub [1, 2, 3, 4] rfl k13
      · have q12 := (if_neg c14).symm.trans q12
        refine V_iload_n C0 2 rfl rfl dX2_charge_36 ?_
        refine V_aload C0 0 rfl dX2_charge_37 ?_
        obtain ⟨a15, qa15, q12⟩ := bnd_some q12
        refine V_getR C0 8 0 fl_X2_205 c7.2 c7.1 rfl (rf_at qa15) dX2_charge_39 ?_
        refine V_bipush C0 (v := (10 : Int32)) (by decide) dX2_charge_42 ?_
        obtain ⟨v16, qv16, q12⟩ := bnd_some q12
        refine V_ri C0 (rf_lt qa15) (rf_kd qa15) qv16 dX2_charge_44 ?_
        refine V_iadd C0 dX2_charge_45 ?_
        obtain ⟨u17, eu17, q12⟩ := wr_some q12
        rw [← eu17]
        refine V_istore_n C0 [(1, .int u17), (4, .ref (G.ad a5)), (0, .ref (G.ad y0)), (2, .int y2), (3, .int y3)] rfl (by rw [eNL]; decide) rfl dX2_charge_46 ?_
        refine V_iload_n C0 3 rfl rfl dX2_charge_47 ?_
        refine V_aload C0 1 rfl dX2_charge_48 ?_
        refine V_getR C0 8 0 fl_X2_205 c7.2 c7.1 rfl (rf_at qa15) dX2_charge_50 ?_
        refine V_bipush C0 (v := (9 : Int32)) (by decide) dX2_charge_53 ?_
        obtain ⟨v18, qv18, q12⟩ := bnd_some q12
        refine V_ri C0 (rf_lt qa15) (rf_kd qa15) qv18 dX2_charge_55 ?_
        refine V_iadd C0 dX2_charge_56 ?_
        obtain ⟨u19, eu19, q12⟩ := wr_some q12
        rw [← eu19]
        refine V_istore_n C0 [(2, .int u19), (1, .int u17), (4, .ref (G.ad a5)), (0, .ref (G.ad y0)), (3, .int y3)] rfl (by rw [eNL]; decide) rfl dX2_charge_57 ?_
        cases q12
        exact V_sub [3, 1, 0, 4] rfl k13
set_option maxRecDepth 100000 in
set_option maxHeartbeats 4000000 in
theorem c_X2_charge (l : Launch) (D : va_G) (cA : Nat → ClassId) (ad : Nat → Nat) (bs : Nat) (X : State → Prop) (hAd : Ax ad bs) (hX : Stb bs X) (N : Nat) (x0 : Nat) (I : MI) (L : ML) (R : MR) (r : Int32) (h : F_X2_charge N x0 I L R = some (r)) : Cn l D cA ad bs X yX2_charge cX2_charge 5 (some .int) 2 42 [.ref (ad x0)] I L R (some (.int r), I, L, R) := by
  refine Cn.ofV hAd hX [(0, .ref (ad x0))] rfl (Nat.le_of_ble_eq_true rfl) (by decide) ?_
  intro G el eD ecA ead ebs eX erm eNL C0
  subst el eD ecA ead ebs eX
  unfold F_X2_charge at h
  obtain ⟨c_x0, h⟩ := ite_some h
  refine V_iconst C0 (v := (0 : Int32)) (by decide) dX2_charge_0 ?_
  refine V_istore_n C0 [(1, .int (0 : Int32)), (0, .ref (G.ad x0))] rfl (by rw [eNL]; decide) rfl dX2_charge_1 ?_
  refine V_iconst C0 (v := (0 : Int32)) (by decide) dX2_charge_2 ?_
  refine V_istore_n C0 [(2, .int (0 : Int32)), (1, .int (0 : Int32)), (0, .ref (G.ad x0))] rfl (by rw [eNL]; decide) rfl dX2_charge_3 ?_
  refine V_iconst C0 (v := (0 : Int32)) (by decide) dX2_charge_4 ?_
  refine V_istore_n C0 [(3, .int (0 : Int32)), (2, .int (0 : Int32)), (1, .int (0 : Int32)), (0, .ref (G.ad x0))] rfl (by rw [eNL]; decide) rfl dX2_charge_5 ?_
  obtain ⟨z21, q22, h⟩ := bn1_some h
  refine V_sub [3, 2, 1, 0] rfl (lp_X2_charge_6 C0 eNL erm N N x0 (0 : Int32) (0 : Int32) (0 : Int32) I L R _ c_x0.1 c_x0.2 q22 _ ?_)
  show V G _ 64 [(1, .int z21.1), (2, .int z21.2)] [] I L R
  refine V_iload_n C0 1 rfl rfl dX2_charge_64 ?_
  refine V_if_le C0 (tgt := 77) (by decide) dX2_charge_65 (fun c23 => ?_) (fun c23 => ?_)
  · have h := (if_pos c23).symm.trans h
    refine V_iconst C0 (v := (0 : Int32)) (by decide) dX2_charge_77 ?_
    cases h
    exact V_iret C0 dX2_charge_78
  · have h := (if_neg c23).symm.trans h
    refine V_bipush C0 (v := (100 : Int32)) (by decide) dX2_charge_68 ?_
    refine V_iload_n C0 0 rfl rfl dX2_charge_70 ?_
    refine V_imul C0 dX2_charge_71 ?_
    refine V_iload_n C0 1 rfl rfl dX2_charge_72 ?_
    obtain ⟨c24, h⟩ := ite_none h
    refine V_idiv C0 c24 dX2_charge_73 ?_
    refine V_goto C0 (tgt := 78) (by decide) dX2_charge_74 ?_
    cases h
    exact V_iret C0 dX2_charge_78
theorem dX9_value_0 : decode cX9_value 0 = .ok (.iload_n 1, 1) := by decide +kernel
theorem dX9_value_1 : decode cX9_value 1 = .ok (.ifCond .lt 21, 3) := by decide +kernel
theorem dX9_value_4 : decode cX9_value 4 = .ok (.iload_n 1, 1) := by decide +kernel
theorem dX9_value_5 : decode cX9_value 5 = .ok (.aload_n 0, 1) := by decide +kernel
theorem dX9_value_6 : decode cX9_value 6 = .ok (.getfield 9, 3) := by decide +kernel
theorem dX9_value_9 : decode cX9_value 9 = .ok (.arraylength, 1) := by decide +kernel
theorem dX9_value_10 : decode cX9_value 10 = .ok (.if_icmp .ge 12, 3) := by decide +kernel
theorem dX9_value_13 : decode cX9_value 13 = .ok (.aload_n 0, 1) := by decide +kernel
theorem dX9_value_14 : decode cX9_value 14 = .ok (.getfield 9, 3) := by decide +kernel
theorem dX9_value_17 : decode cX9_value 17 = .ok (.iload_n 1, 1) := by decide +kernel
theorem dX9_value_18 : decode cX9_value 18 = .ok (.iaload, 1) := by decide +kernel
theorem dX9_value_19 : decode cX9_value 19 = .ok (.goto 4, 3) := by decide +kernel
theorem dX9_value_22 : decode cX9_value 22 = .ok (.iconst 0, 1) := by decide +kernel
theorem dX9_value_23 : decode cX9_value 23 = .ok (.ireturn, 1) := by decide +kernel
def F_X9_value (x0 : Nat) (x1 : Int32) (I : MI) (L : ML) (R : MR) : Option (Int32) :=
  if kd x0 = 8 ∧ x0 < NN then
  if x1 < 0 then
    some ((0 : Int32))
  else
    (rf R x0 0 20).bind fun a2 =>
    if (Int32.ofNat (ln a2)) ≤ x1 then
      some ((0 : Int32))
    else
      (ri I a2 x1).bind fun v4 =>
      some (v4)
  else none
set_option maxRecDepth 100000 in
set_option maxHeartbeats 4000000 in
theorem c_X9_value (l : Launch) (D : va_G) (cA : Nat → ClassId) (ad : Nat → Nat) (bs : Nat) (X : State → Prop) (hAd : Ax ad bs) (hX : Stb bs X) (x0 : Nat) (x1 : Int32) (I : MI) (L : ML) (R : MR) (r : Int32) (h : F_X9_value x0 x1 I L R = some (r)) : Cn l D cA ad bs X yX9_value cX9_value 2 (some .int) 0 0 [.ref (ad x0), .int x1] I L R (some (.int r), I, L, R) := by
  refine Cn.ofV hAd hX [(0, .ref (ad x0)), (1, .int x1)] rfl (Nat.le_of_ble_eq_true rfl) (by decide) ?_
  intro G el eD ecA ead ebs eX erm eNL C0
  subst el eD ecA ead ebs eX
  unfold F_X9_value at h
  obtain ⟨c_x0, h⟩ := ite_some h
  refine V_iload_n C0 1 rfl rfl dX9_value_0 ?_
  refine V_if_lt C0 (tgt := 22) (by decide) dX9_value_1 (fun c1 => ?_) (fun c1 => ?_)
  · have h := (if_pos c1).symm.trans h
    refine V_iconst C0 (v := (0 : Int32)) (by decide) dX9_value_22 ?_
    cases h
    exact V_iret C0 dX9_value_23
  · have h := (if_neg c1).symm.trans h
    refine V_iload_n C0 1 rfl rfl dX9_value_4 ?_
    refine V_aload_n C0 0 rfl rfl dX9_value_5 ?_
    obtain ⟨a2, qa2, h⟩ := bnd_some h
    refine V_getR C0 8 0 fl_X9_9 c_x0.2 c_x0.1 rfl (rf_at qa2) dX9_value_6 ?_
    refine V_alen C0 (v := Int32.ofNat (ln a2)) (rf_lt qa2) (by rw [(rf_kd qa2)]; decide) rfl dX9_value_9 ?_
    refine V_icmp_ge C0 (tgt := 22) (by decide) dX9_value_10 (fun c3 => ?_) (fun c3 => ?_)
    · have h := (if_pos c3).symm.trans h
      refine V_iconst C0 (v := (0 : Int32)) (by decide) dX9_value_22 ?_
      cases h
      exact V_iret C0 dX9_value_23
    · have h := (if_neg c3).symm.trans h
      refine V_aload_n C0 0 rfl rfl dX9_value_13 ?_
      refine V_getR C0 8 0 fl_X9_9 c_x0.2 c_x0.1 rfl (rf_at qa2) dX9_value_14 ?_
      refine V_iload_n C0 1 rfl rfl dX9_value_17 ?_
      obtain ⟨v4, qv4, h⟩ := bnd_some h
      refine V_ri C0 (rf_lt qa2) (rf_kd qa2) qv4 dX9_value_18 ?_
      refine V_goto C0 (tgt := 23) (by decide) dX9_value_19 ?_
      cases h
      exact V_iret C0 dX9_value_23
theorem dX2_countWith_0 : decode cX2_countWith 0 = .ok (.iconst 0, 1) := by decide +kernel
theorem dX2_countWith_1 : decode cX2_countWith 1 = .ok (.istore_n 3, 1) := by decide +kernel
theorem dX2_countWith_2 : decode cX2_countWith 2 = .ok (.iconst 0, 1) := by decide +kernel
theorem dX2_countWith_3 : decode cX2_countWith 3 = .ok (.istore 4, 2) := by decide +kernel
theorem dX2_countWith_5 : decode cX2_countWith 5 = .ok (.iload 4, 2) := by decide +kernel
theorem dX2_countWith_7 : decode cX2_countWith 7 = .ok (.aload_n 0, 1) := by decide +kernel
theorem dX2_countWith_8 : decode cX2_countWith 8 = .ok (.getfield 15, 3) := by decide +kernel
theorem dX2_countWith_11 : decode cX2_countWith 11 = .ok (.invokevirtual 235, 3) := by decide +kernel
theorem dX2_countWith_14 : decode cX2_countWith 14 = .ok (.if_icmp .ge 45, 3) := by decide +kernel
theorem dX2_countWith_17 : decode cX2_countWith 17 = .ok (.aload_n 0, 1) := by decide +kernel
theorem dX2_countWith_18 : decode cX2_countWith 18 = .ok (.getfield 15, 3) := by decide +kernel
theorem dX2_countWith_21 : decode cX2_countWith 21 = .ok (.iload 4, 2) := by decide +kernel
theorem dX2_countWith_23 : decode cX2_countWith 23 = .ok (.invokevirtual 199, 3) := by decide +kernel
theorem dX2_countWith_26 : decode cX2_countWith 26 = .ok (.iload_n 1, 1) := by decide +kernel
theorem dX2_countWith_27 : decode cX2_countWith 27 = .ok (.invokevirtual 232, 3) := by decide +kernel
theorem dX2_countWith_30 : decode cX2_countWith 30 = .ok (.ifCond .eq 23, 3) := by decide +kernel
theorem dX2_countWith_33 : decode cX2_countWith 33 = .ok (.aload_n 0, 1) := by decide +kernel
theorem dX2_countWith_34 : decode cX2_countWith 34 = .ok (.getfield 15, 3) := by decide +kernel
theorem dX2_countWith_37 : decode cX2_countWith 37 = .ok (.iload 4, 2) := by decide +kernel
theorem dX2_countWith_39 : decode cX2_countWith 39 = .ok (.invokevirtual 199, 3) := by decide +kernel
theorem dX2_countWith_42 : decode cX2_countWith 42 = .ok (.iload_n 2, 1) := by decide +kernel
theorem dX2_countWith_43 : decode cX2_countWith 43 = .ok (.invokevirtual 271, 3) := by decide +kernel
theorem dX2_countWith_46 : decode cX2_countWith 46 = .ok (.iconst 1, 1) := by decide +kernel
theorem dX2_countWith_47 : decode cX2_countWith 47 = .ok (.if_icmp .ne 6, 3) := by decide +kernel
theorem dX2_countWith_50 : decode cX2_countWith 50 = .ok (.iinc 3 1, 3) := by decide +kernel
theorem dX2_countWith_53 : decode cX2_countWith 53 = .ok (.iinc 4 1, 3) := by decide +kernel
theorem dX2_countWith_56 : decode cX2_countWith 56 = .ok (.goto (-51), 3) := by decide +kernel
theorem dX2_countWith_59 : decode cX2_countWith 59 = .ok (.iload_n 3, 1) := by decide +kernel
theorem dX2_countWith_60 : decode cX2_countWith 60 = .ok (.ireturn, 1) := by decide +kernel
def LF_X2_countWith_5 (N : Nat) : Nat → Nat → Int32 → Int32 → Int32 → Int32 → MI → ML → MR → Option (Int32)
  | 0, _, _, _, _, _, _, _, _ => none
  | k + 1, y0, y1, y2, y3, y4, I, L, R =>
    (rf R y0 0 9).bind fun a1 =>
    bn1 (F_X10_size a1 I L R) fun v2 =>
    if v2 ≤ y4 then
      some (y3)
    else
      bn1 (F_X10_unitAt a1 y4 I L R) fun a5 =>
      if kd a5 = 8 ∧ a5 < NN then
      bn1 (F_X9_is a5 y1 I L R) fun b8 =>
      bn1 (
        if (b2i b8) = 0 then
          some (y3)
        else
          bn1 (F_X10_unitAt a1 y4 I L R) fun a14 =>
          if kd a14 = 8 ∧ a14 < NN then
          bn1 (F_X9_value a14 y2 I L R) fun v17 =>
          bn1 (
            if v17 = (1 : Int32) then
              wr (y3 + (1 : Int32)) fun (u23 : Int32) =>
              some (u23)
            else
              some (y3)
          ) fun (u19 : Int32) =>
          some (u19)
          else none
      ) fun (u10 : Int32) =>
      wr (y4 + (1 : Int32)) fun (u24 : Int32) =>
      LF_X2_countWith_5 N k y0 y1 y2 u10 u24 I L R
      else none
def F_X2_countWith (N : Nat) (x0 : Nat) (x1 : Int32) (x2 : Int32) (I : MI) (L : ML) (R : MR) : Option (Int32) :=
  if kd x0 = 2 ∧ x0 < NN then
  bn1 (LF_X2_countWith_5 N N x0 x1 x2 (0 : Int32) (0 : Int32) I L R) fun z25 =>
  some (z25)
  else none
set_option maxRecDepth 100000 in
set_option maxHeartbeats 4000000 in
theorem lp_X2_countWith_5 {G : Gm} (C0 : Cx G (yX2_countWith.cls) cX2_countWith (some .int)) (eNL : G.nL = 5) (erm : G.rm = ({ frames := 2, cells := 0, slots := 0, locals := 42 } : Room)) (N : Nat) : ∀ (k : Nat) (y0 : Nat) (y1 : Int32) (y2 : Int32) (y3 : Int32) (y4 : Int32) (I : MI) (L : ML) (R : MR) (z : Int32) (hk0 : kd y0 = 2) (ho0 : y0 < NN), LF_X2_countWith_5 N k y0 y1 y2 y3 y4 I L R = some z → ∀ f : State → Prop, V G f 59 [(3, .int z)] [] I L R → V G f 5 [(0, .ref (G.ad y0)), (1, .int y1), (2, .int y2), (3, .int y3), (4, .int y4)] [] I L R := by
  intro k
  induction k with
  | zero =>
    intro y0 y1 y2 y3 y4 I L R q hk0 ho0 h
    exact absurd h (by simp [LF_X2_countWith_5])
  | succ k ih =>
    intro y0 y1 y2 y3 y4 I L R q hk0 ho0 h f kx
    rw [LF_X2_countWith_5] at h
    refine V_iload C0 4 rfl dX2_countWith_5 ?_
    refine V_aload_n C0 0 rfl rfl dX2_countWith_7 ?_
    obtain ⟨a1, qa1, h⟩ := bnd_some h
    refine V_getR C0 2 0 fl_X2_15 ho0 hk0 rfl (rf_at qa1) dX2_countWith_8 ?_
    obtain ⟨v2, q3, h⟩ := bn1_some h
    refine V_callV C0 (st := [.int y4]) (As := []) 9 (c_X10_size G.l G.D G.cA G.ad G.bs G.X C0.2.2.2.2.2.2.2.2.2.1 C0.2.2.2.2.2.2.2.2.2.2.2.2 a1 I L R v2 q3) lc_X10_size lk_X2_235 (rf_lt qa1) (rf_kd qa1) ⟨_, rfl, rfl⟩ rfl (by rw [erm]; decide) (Nat.le_of_ble_eq_true rfl) dX2_countWith_11 ?_
    show V G _ 14 [(0, .ref (G.ad y0)), (1, .int y1), (2, .int y2), (3, .int y3), (4, .int y4)] [.int v2, .int y4] I L R
    refine V_icmp_ge C0 (tgt := 59) (by decide) dX2_countWith_14 (fun c4 => ?_) (fun c4 => ?_)
    · have h := (if_pos c4).symm.trans h
      cases h
      exact V_sub [3] rfl kx
    · have h := (if_neg c4).symm.trans h
      refine V_aload_n C0 0 rfl rfl dX2_countWith_17 ?_
      refine V_getR C0 2 0 fl_X2_15 ho0 hk0 rfl (rf_at qa1) dX2_countWith_18 ?_
      refine V_iload C0 4 rfl dX2_countWith_21 ?_
      obtain ⟨a5, q6, h⟩ := bn1_some h
      refine V_callV C0 (st := []) (As := [.int y4]) 9 (c_X10_unitAt G.l G.D G.cA G.ad G.bs G.X C0.2.2.2.2.2.2.2.2.2.1 C0.2.2.2.2.2.2.2.2.2.2.2.2 a1 y4 I L R a5 q6) lc_X10_unitAt lk_X2_199 (rf_lt qa1) (rf_kd qa1) ⟨_, rfl, rfl⟩ rfl (by rw [erm]; decide) (Nat.le_of_ble_eq_true rfl) dX2_countWith_23 ?_
      show V G _ 26 [(0, .ref (G.ad y0)), (1, .int y1), (2, .int y2), (3, .int y3), (4, .int y4)] [.ref (G.ad a5)] I L R
      obtain ⟨c7, h⟩ := ite_some h
      refine V_iload_n C0 1 rfl rfl dX2_countWith_26 ?_
      obtain ⟨b8, q9, h⟩ := bn1_some h
      refine V_callV C0 (st := []) (As := [.int y1]) 8 (c_X9_is G.l G.D G.cA G.ad G.bs G.X C0.2.2.2.2.2.2.2.2.2.1 C0.2.2.2.2.2.2.2.2.2.2.2.2 a5 y1 I L R b8 q9) lc_X9_is lk_X2_232 c7.2 c7.1 ⟨_, rfl, rfl⟩ rfl (by rw [erm]; decide) (Nat.le_of_ble_eq_true rfl) dX2_countWith_27 ?_
      show V G _ 30 [(0, .ref (G.ad y0)), (1, .int y1), (2, .int y2), (3, .int y3), (4, .int y4)] [.int (b2i b8)] I L R
      obtain ⟨u10, q11, h⟩ := bn1_some h
      have k12 : V G f 53 [(0, .ref (G.ad y0)), (1, .int y1), (2, .int y2), (3, .int u10), (4, .int y4)] [] I L R := by
        obtain ⟨u24, eu24, h⟩ := wr_some h
        refine V_iinc C0 4 [(4, .int u24), (0, .ref (G.ad y0)), (1, .int y1), (2, .int y2), (3, .int u10)] rfl (n := 1) (by rw [eu24]; rfl) (by rw [eNL]; decide) rfl dX2_countWith_53 ?_
        refine V_goto C0 (tgt := 5) (by decide) dX2_countWith_56 ?_
        exact V_sub [1, 2, 3, 4, 0] rfl (ih y0 y1 y2 u10 u24 I L R _ hk0 ho0 h f kx)
      refine V_if_eq C0 (tgt := 53) (by decide) dX2_countWith_30 (fun c13 => ?_) (fun c13 => ?_)
      · have q11 := (if_pos c13).symm.trans q11
        cases q11
        exact V_sub [0, 1, 2, 3, 4] rfl k12
      · have q11 := (if_neg c13).symm.trans q11
        refine V_aload_n C0 0 rfl rfl dX2_countWith_33 ?_
        refine V_getR C0 2 0 fl_X2_15 ho0 hk0 rfl (rf_at qa1) dX2_countWith_34 ?_
        refine V_iload C0 4 rfl dX2_countWith_37 ?_
        obtain ⟨a14, q15, q11⟩ := bn1_some q11
        refine V_callV C0 (st := []) (As := [.int y4]) 9 (c_X10_unitAt G.l G.D G.cA G.ad G.bs G.X C0.2.2.2.2.2.2.2.2.2.1 C0.2.2.2.2.2.2.2.2.2.2.2.2 a1 y4 I L R a14 q15) lc_X10_unitAt lk_X2_199 (rf_lt qa1) (rf_kd qa1) ⟨_, rfl, rfl⟩ rfl (by rw [erm]; decide) (Nat.le_of_ble_eq_true rfl) dX2_countWith_39 ?_
        show V G _ 42 [(0, .ref (G.ad y0)), (1, .int y1), (2, .int y2), (3, .int y3), (4, .int y4)] [.ref (G.ad a14)] I L R
        obtain ⟨c16, q11⟩ := ite_some q11
        refine V_iload_n C0 2 rfl rfl dX2_countWith_42 ?_
        obtain ⟨v17, q18, q11⟩ := bn1_some q11
        refine V_callV C0 (st := []) (As := [.int y2]) 8 (c_X9_value G.l G.D G.cA G.ad G.bs G.X C0.2.2.2.2.2.2.2.2.2.1 C0.2.2.2.2.2.2.2.2.2.2.2.2 a14 y2 I L R v17 q18) lc_X9_value lk_X2_271 c16.2 c16.1 ⟨_, rfl, rfl⟩ rfl (by rw [erm]; decide) (Nat.le_of_ble_eq_true rfl) dX2_countWith_43 ?_
        show V G _ 46 [(0, .ref (G.ad y0)), (1, .int y1), (2, .int y2), (3, .int y3), (4, .int y4)] [.int v17] I L R
        refine V_iconst C0 (v := (1 : Int32)) (by decide) dX2_countWith_46 ?_
        obtain ⟨u19, q20, q11⟩ := bn1_some q11
        have k21 : V G f 53 [(0, .ref (G.ad y0)), (1, .int y1), (2, .int y2), (3, .int u19), (4, .int y4)] [] I L R := by
          cases q11
          exact V_sub [0, 1, 2, 3, 4] rfl k12
        refine V_icmp_ne C0 (tgt := 53) (by decide) dX2_countWith_47 (fun c22 => ?_) (fun c22 => ?_)
        · have q20 := (if_neg c22).symm.trans q20
          cases q20
          exact V_sub [0, 1, 2, 3, 4] rfl k21
        · have q20 := (if_pos c22).symm.trans q20
          obtain ⟨u23, eu23, q20⟩ := wr_some q20
          refine V_iinc C0 3 [(3, .int u23), (0, .ref (G.ad y0)), (1, .int y1), (2, .int y2), (4, .int y4)] rfl (n := 1) (by rw [eu23]; rfl) (by rw [eNL]; decide) rfl dX2_countWith_50 ?_
          cases q20
          exact V_sub [1, 2, 3, 0, 4] rfl k21
set_option maxRecDepth 100000 in
set_option maxHeartbeats 4000000 in
theorem c_X2_countWith (l : Launch) (D : va_G) (cA : Nat → ClassId) (ad : Nat → Nat) (bs : Nat) (X : State → Prop) (hAd : Ax ad bs) (hX : Stb bs X) (N : Nat) (x0 : Nat) (x1 : Int32) (x2 : Int32) (I : MI) (L : ML) (R : MR) (r : Int32) (h : F_X2_countWith N x0 x1 x2 I L R = some (r)) : Cn l D cA ad bs X yX2_countWith cX2_countWith 5 (some .int) 2 42 [.ref (ad x0), .int x1, .int x2] I L R (some (.int r), I, L, R) := by
  refine Cn.ofV hAd hX [(0, .ref (ad x0)), (1, .int x1), (2, .int x2)] rfl (Nat.le_of_ble_eq_true rfl) (by decide) ?_
  intro G el eD ecA ead ebs eX erm eNL C0
  subst el eD ecA ead ebs eX
  unfold F_X2_countWith at h
  obtain ⟨c_x0, h⟩ := ite_some h
  refine V_iconst C0 (v := (0 : Int32)) (by decide) dX2_countWith_0 ?_
  refine V_istore_n C0 [(3, .int (0 : Int32)), (0, .ref (G.ad x0)), (1, .int x1), (2, .int x2)] rfl (by rw [eNL]; decide) rfl dX2_countWith_1 ?_
  refine V_iconst C0 (v := (0 : Int32)) (by decide) dX2_countWith_2 ?_
  refine V_istore C0 [(4, .int (0 : Int32)), (3, .int (0 : Int32)), (0, .ref (G.ad x0)), (1, .int x1), (2, .int x2)] (by rw [eNL]; decide) rfl dX2_countWith_3 ?_
  obtain ⟨z25, q26, h⟩ := bn1_some h
  refine V_sub [2, 3, 4, 1, 0] rfl (lp_X2_countWith_5 C0 eNL erm N N x0 x1 x2 (0 : Int32) (0 : Int32) I L R _ c_x0.1 c_x0.2 q26 _ ?_)
  show V G _ 59 [(3, .int z25)] [] I L R
  refine V_iload_n C0 0 rfl rfl dX2_countWith_59 ?_
  cases h
  exact V_iret C0 dX2_countWith_60
theorem dX2_checkOf_0 : decode cX2_checkOf 0 = .ok (.iconst 0, 1) := by decide +kernel
theorem dX2_checkOf_1 : decode cX2_checkOf 1 = .ok (.istore_n 2, 1) := by decide +kernel
theorem dX2_checkOf_2 : decode cX2_checkOf 2 = .ok (.iconst 0, 1) := by decide +kernel
theorem dX2_checkOf_3 : decode cX2_checkOf 3 = .ok (.istore_n 3, 1) := by decide +kernel
theorem dX2_checkOf_4 : decode cX2_checkOf 4 = .ok (.iload_n 3, 1) := by decide +kernel
theorem dX2_checkOf_5 : decode cX2_checkOf 5 = .ok (.iload_n 1, 1) := by decide +kernel
theorem dX2_checkOf_6 : decode cX2_checkOf 6 = .ok (.if_icmp .ge 67, 3) := by decide +kernel
theorem dX2_checkOf_9 : decode cX2_checkOf 9 = .ok (.iload_n 3, 1) := by decide +kernel
theorem dX2_checkOf_10 : decode cX2_checkOf 10 = .ok (.aload_n 0, 1) := by decide +kernel
theorem dX2_checkOf_11 : decode cX2_checkOf 11 = .ok (.getfield 11, 3) := by decide +kernel
theorem dX2_checkOf_14 : decode cX2_checkOf 14 = .ok (.arraylength, 1) := by decide +kernel
theorem dX2_checkOf_15 : decode cX2_checkOf 15 = .ok (.if_icmp .ge 58, 3) := by decide +kernel
theorem dX2_checkOf_18 : decode cX2_checkOf 18 = .ok (.iload_n 2, 1) := by decide +kernel
theorem dX2_checkOf_19 : decode cX2_checkOf 19 = .ok (.aload_n 0, 1) := by decide +kernel
theorem dX2_checkOf_20 : decode cX2_checkOf 20 = .ok (.getfield 11, 3) := by decide +kernel
theorem dX2_checkOf_23 : decode cX2_checkOf 23 = .ok (.iload_n 3, 1) := by decide +kernel
theorem dX2_checkOf_24 : decode cX2_checkOf 24 = .ok (.iaload, 1) := by decide +kernel
theorem dX2_checkOf_25 : decode cX2_checkOf 25 = .ok (.ixor, 1) := by decide +kernel
theorem dX2_checkOf_26 : decode cX2_checkOf 26 = .ok (.istore_n 2, 1) := by decide +kernel
theorem dX2_checkOf_27 : decode cX2_checkOf 27 = .ok (.iconst 0, 1) := by decide +kernel
theorem dX2_checkOf_28 : decode cX2_checkOf 28 = .ok (.istore 4, 2) := by decide +kernel
theorem dX2_checkOf_30 : decode cX2_checkOf 30 = .ok (.iload 4, 2) := by decide +kernel
theorem dX2_checkOf_32 : decode cX2_checkOf 32 = .ok (.bipush 8, 2) := by decide +kernel
theorem dX2_checkOf_34 : decode cX2_checkOf 34 = .ok (.if_icmp .ge 33, 3) := by decide +kernel
theorem dX2_checkOf_37 : decode cX2_checkOf 37 = .ok (.iload_n 2, 1) := by decide +kernel
theorem dX2_checkOf_38 : decode cX2_checkOf 38 = .ok (.sipush 128, 3) := by decide +kernel
theorem dX2_checkOf_41 : decode cX2_checkOf 41 = .ok (.if_icmp .lt 16, 3) := by decide +kernel
theorem dX2_checkOf_44 : decode cX2_checkOf 44 = .ok (.iload_n 2, 1) := by decide +kernel
theorem dX2_checkOf_45 : decode cX2_checkOf 45 = .ok (.iconst 2, 1) := by decide +kernel
theorem dX2_checkOf_46 : decode cX2_checkOf 46 = .ok (.imul, 1) := by decide +kernel
theorem dX2_checkOf_47 : decode cX2_checkOf 47 = .ok (.sipush 256, 3) := by decide +kernel
theorem dX2_checkOf_50 : decode cX2_checkOf 50 = .ok (.irem, 1) := by decide +kernel
theorem dX2_checkOf_51 : decode cX2_checkOf 51 = .ok (.bipush 7, 2) := by decide +kernel
theorem dX2_checkOf_53 : decode cX2_checkOf 53 = .ok (.ixor, 1) := by decide +kernel
theorem dX2_checkOf_54 : decode cX2_checkOf 54 = .ok (.goto 6, 3) := by decide +kernel
theorem dX2_checkOf_57 : decode cX2_checkOf 57 = .ok (.iload_n 2, 1) := by decide +kernel
theorem dX2_checkOf_58 : decode cX2_checkOf 58 = .ok (.iconst 2, 1) := by decide +kernel
theorem dX2_checkOf_59 : decode cX2_checkOf 59 = .ok (.imul, 1) := by decide +kernel
theorem dX2_checkOf_60 : decode cX2_checkOf 60 = .ok (.istore_n 2, 1) := by decide +kernel
theorem dX2_checkOf_61 : decode cX2_checkOf 61 = .ok (.iinc 4 1, 3) := by decide +kernel
theorem dX2_checkOf_64 : decode cX2_checkOf 64 = .ok (.goto (-34), 3) := by decide +kernel
theorem dX2_checkOf_67 : decode cX2_checkOf 67 = .ok (.iinc 3 1, 3) := by decide +kernel
theorem dX2_checkOf_70 : decode cX2_checkOf 70 = .ok (.goto (-66), 3) := by decide +kernel
theorem dX2_checkOf_73 : decode cX2_checkOf 73 = .ok (.iload_n 2, 1) := by decide +kernel
theorem dX2_checkOf_74 : decode cX2_checkOf 74 = .ok (.ireturn, 1) := by decide +kernel
def LF_X2_checkOf_30 (N : Nat) : Nat → Nat → Int32 → Int32 → Int32 → Int32 → MI → ML → MR → Option (Int32)
  | 0, _, _, _, _, _, _, _, _ => none
  | k + 1, y0, y1, y2, y3, y4, I, L, R =>
    if (8 : Int32) ≤ y4 then
      some (y2)
    else
      bn1 (
        if y2 < (128 : Int32) then
          some ((y2 * (2 : Int32)))
        else
          some (((iR (y2 * (2 : Int32)) (256 : Int32)) ^^^ (7 : Int32)))
      ) fun (s7 : Int32) =>
      wr (y4 + (1 : Int32)) fun (u11 : Int32) =>
      LF_X2_checkOf_30 N k y0 y1 s7 y3 u11 I L R
def LF_X2_checkOf_4 (N : Nat) : Nat → Nat → Int32 → Int32 → Int32 → MI → ML → MR → Option (Int32)
  | 0, _, _, _, _, _, _, _ => none
  | k + 1, y0, y1, y2, y3, I, L, R =>
    if y1 ≤ y3 then
      some (y2)
    else
      (rf R y0 4 20).bind fun a2 =>
      if (Int32.ofNat (ln a2)) ≤ y3 then
        some (y2)
      else
        (ri I a2 y3).bind fun v4 =>
        wr (y2 ^^^ v4) fun (u5 : Int32) =>
        bn1 (LF_X2_checkOf_30 N N y0 y1 u5 y3 (0 : Int32) I L R) fun z12 =>
        wr (y3 + (1 : Int32)) fun (u14 : Int32) =>
        LF_X2_checkOf_4 N k y0 y1 z12 u14 I L R
def F_X2_checkOf (N : Nat) (x0 : Nat) (x1 : Int32) (I : MI) (L : ML) (R : MR) : Option (Int32) :=
  if kd x0 = 2 ∧ x0 < NN then
  bn1 (LF_X2_checkOf_4 N N x0 x1 (0 : Int32) (0 : Int32) I L R) fun z15 =>
  some (z15)
  else none
set_option maxRecDepth 100000 in
set_option maxHeartbeats 4000000 in
theorem lp_X2_checkOf_30 {G : Gm} (C0 : Cx G (yX2_checkOf.cls) cX2_checkOf (some .int)) (eNL : G.nL = 5) (erm : G.rm = ({ frames := 0, cells := 0, slots := 0, locals := 0 } : Room)) (N : Nat) : ∀ (k : Nat) (y0 : Nat) (y1 : Int32) (y2 : Int32) (y3 : Int32) (y4 : Int32) (I : MI) (L : ML) (R : MR) (z : Int32) (hk0 : kd y0 = 2) (ho0 : y0 < NN), LF_X2_checkOf_30 N k y0 y1 y2 y3 y4 I L R = some z → ∀ f : State → Prop, V G f 67 [(0, .ref (G.ad y0)), (1, .int y1), (2, .int z), (3, .int y3)] [] I L R → V G f 30 [(0, .ref (G.ad y0)), (1, .int y1), (2, .int y2), (3, .int y3), (4, .int y4)] [] I L R := by
  intro k
  induction k with
  | zero =>
    intro y0 y1 y2 y3 y4 I L R q hk0 ho0 h
    exact absurd h (by simp [LF_X2_checkOf_30])
  | succ k ih =>
    intro y0 y1 y2 y3 y4 I L R q hk0 ho0 h f kx
    rw [LF_X2_checkOf_30] at h
    refine V_iload C0 4 rfl dX2_checkOf_30 ?_
    refine V_bipush C0 (v := (8 : Int32)) (by decide) dX2_checkOf_32 ?_
    refine V_icmp_ge C0 (tgt := 67) (by decide) dX2_checkOf_34 (fun c6 => ?_) (fun c6 => ?_)
    · have h := (if_pos c6).symm.trans h
      cases h
      exact V_sub [0, 1, 2, 3] rfl kx
    · have h := (if_neg c6).symm.trans h
      refine V_iload_n C0 2 rfl rfl dX2_checkOf_37 ?_
      refine V_sipush C0 (v := (128 : Int32)) (by decide) dX2_checkOf_38 ?_
      obtain ⟨s7, q8, h⟩ := bn1_some h
      have k9 : V G f 60 [(0, .ref (G.ad y0)), (1, .int y1), (3, .int y3), (4, .int y4)] [.int s7] I L R := by
        refine V_istore_n C0 [(2, .int s7), (0, .ref (G.ad y0)), (1, .int y1), (3, .int y3), (4, .int y4)] rfl (by rw [eNL]; decide) rfl dX2_checkOf_60 ?_
        obtain ⟨u11, eu11, h⟩ := wr_some h
        refine V_iinc C0 4 [(4, .int u11), (2, .int s7), (0, .ref (G.ad y0)), (1, .int y1), (3, .int y3)] rfl (n := 1) (by rw [eu11]; rfl) (by rw [eNL]; decide) rfl dX2_checkOf_61 ?_
        refine V_goto C0 (tgt := 30) (by decide) dX2_checkOf_64 ?_
        exact V_sub [2, 3, 1, 4, 0] rfl (ih y0 y1 s7 y3 u11 I L R _ hk0 ho0 h f kx)
      refine V_icmp_lt C0 (tgt := 57) (by decide) dX2_checkOf_41 (fun c10 => ?_) (fun c10 => ?_)
      · have q8 := (if_pos c10).symm.trans q8
        refine V_iload_n C0 2 rfl rfl dX2_checkOf_57 ?_
        refine V_iconst C0 (v := (2 : Int32)) (by decide) dX2_checkOf_58 ?_
        refine V_imul C0 dX2_checkOf_59 ?_
        cases q8
        exact V_sub [0, 1, 3, 4] rfl k9
      · have q8 := (if_neg c10).symm.trans q8
        refine V_iload_n C0 2 rfl rfl dX2_checkOf_44 ?_
        refine V_iconst C0 (v := (2 : Int32)) (by decide) dX2_checkOf_45 ?_
        refine V_imul C0 dX2_checkOf_46 ?_
        refine V_sipush C0 (v := (256 : Int32)) (by decide) dX2_checkOf_47 ?_
        refine V_irem C0 (by decide) dX2_checkOf_50 ?_
        refine V_bipush C0 (v := (7 : Int32)) (by decide) dX2_checkOf_51 ?_
        refine V_ixor C0 dX2_checkOf_53 ?_
        refine V_goto C0 (tgt := 60) (by decide) dX2_checkOf_54 ?_
        cases q8
        exact V_sub [0, 1, 3, 4] rfl k9
set_option maxRecDepth 100000 in
set_option maxHeartbeats 4000000 in
theorem lp_X2_checkOf_4 {G : Gm} (C0 : Cx G (yX2_checkOf.cls) cX2_checkOf (some .int)) (eNL : G.nL = 5) (erm : G.rm = ({ frames := 0, cells := 0, slots := 0, locals := 0 } : Room)) (N : Nat) : ∀ (k : Nat) (y0 : Nat) (y1 : Int32) (y2 : Int32) (y3 : Int32) (I : MI) (L : ML) (R : MR) (z : Int32) (hk0 : kd y0 = 2) (ho0 : y0 < NN), LF_X2_checkOf_4 N k y0 y1 y2 y3 I L R = some z → ∀ f : State → Prop, V G f 73 [(2, .int z)] [] I L R → V G f 4 [(0, .ref (G.ad y0)), (1, .int y1), (2, .int y2), (3, .int y3)] [] I L R := by
  intro k
  induction k with
  | zero =>
    intro y0 y1 y2 y3 I L R q hk0 ho0 h
    exact absurd h (by simp [LF_X2_checkOf_4])
  | succ k ih =>
    intro y0 y1 y2 y3 I L R q hk0 ho0 h f kx
    rw [LF_X2_checkOf_4] at h
    refine V_iload_n C0 3 rfl rfl dX2_checkOf_4 ?_
    refine V_iload_n C0 1 rfl rfl dX2_checkOf_5 ?_
    refine V_icmp_ge C0 (tgt := 73) (by decide) dX2_checkOf_6 (fun c1 => ?_) (fun c1 => ?_)
    · have h := (if_pos c1).symm.trans h
      cases h
      exact V_sub [2] rfl kx
    · have h := (if_neg c1).symm.trans h
      refine V_iload_n C0 3 rfl rfl dX2_checkOf_9 ?_
      refine V_aload_n C0 0 rfl rfl dX2_checkOf_10 ?_
      obtain ⟨a2, qa2, h⟩ := bnd_some h
      refine V_getR C0 2 4 fl_X2_11 ho0 hk0 rfl (rf_at qa2) dX2_checkOf_11 ?_
      refine V_alen C0 (v := Int32.ofNat (ln a2)) (rf_lt qa2) (by rw [(rf_kd qa2)]; decide) rfl dX2_checkOf_14 ?_
      refine V_icmp_ge C0 (tgt := 73) (by decide) dX2_checkOf_15 (fun c3 => ?_) (fun c3 => ?_)
      · have h := (if_pos c3).symm.trans h
        cases h
        exact V_sub [2] rfl kx
      · have h := (if_neg c3).symm.trans h
        refine V_iload_n C0 2 rfl rfl dX2_checkOf_18 ?_
        refine V_aload_n C0 0 rfl rfl dX2_checkOf_19 ?_
        refine V_getR C0 2 4 fl_X2_11 ho0 hk0 rfl (rf_at qa2) dX2_checkOf_20 ?_
        refine V_iload_n C0 3 rfl rfl dX2_checkOf_23 ?_
        obtain ⟨v4, qv4, h⟩ := bnd_some h
        refine V_ri C0 (rf_lt qa2) (rf_kd qa2) qv4 dX2_checkOf_24 ?_
        refine V_ixor C0 dX2_checkOf_25 ?_
        obtain ⟨u5, eu5, h⟩ := wr_some h
        rw [← eu5]
        refine V_istore_n C0 [(2, .int u5), (0, .ref (G.ad y0)), (1, .int y1), (3, .int y3)] rfl (by rw [eNL]; decide) rfl dX2_checkOf_26 ?_
        refine V_iconst C0 (v := (0 : Int32)) (by decide) dX2_checkOf_27 ?_
        refine V_istore C0 [(4, .int (0 : Int32)), (2, .int u5), (0, .ref (G.ad y0)), (1, .int y1), (3, .int y3)] (by rw [eNL]; decide) rfl dX2_checkOf_28 ?_
        obtain ⟨z12, q13, h⟩ := bn1_some h
        refine V_sub [2, 3, 1, 4, 0] rfl (lp_X2_checkOf_30 C0 eNL erm N N y0 y1 u5 y3 (0 : Int32) I L R _ hk0 ho0 q13 _ ?_)
        show V G _ 67 [(0, .ref (G.ad y0)), (1, .int y1), (2, .int z12), (3, .int y3)] [] I L R
        obtain ⟨u14, eu14, h⟩ := wr_some h
        refine V_iinc C0 3 [(3, .int u14), (0, .ref (G.ad y0)), (1, .int y1), (2, .int z12)] rfl (n := 1) (by rw [eu14]; rfl) (by rw [eNL]; decide) rfl dX2_checkOf_67 ?_
        refine V_goto C0 (tgt := 4) (by decide) dX2_checkOf_70 ?_
        exact V_sub [1, 2, 3, 0] rfl (ih y0 y1 z12 u14 I L R _ hk0 ho0 h f kx)
set_option maxRecDepth 100000 in
set_option maxHeartbeats 4000000 in
theorem c_X2_checkOf (l : Launch) (D : va_G) (cA : Nat → ClassId) (ad : Nat → Nat) (bs : Nat) (X : State → Prop) (hAd : Ax ad bs) (hX : Stb bs X) (N : Nat) (x0 : Nat) (x1 : Int32) (I : MI) (L : ML) (R : MR) (r : Int32) (h : F_X2_checkOf N x0 x1 I L R = some (r)) : Cn l D cA ad bs X yX2_checkOf cX2_checkOf 5 (some .int) 0 0 [.ref (ad x0), .int x1] I L R (some (.int r), I, L, R) := by
  refine Cn.ofV hAd hX [(0, .ref (ad x0)), (1, .int x1)] rfl (Nat.le_of_ble_eq_true rfl) (by decide) ?_
  intro G el eD ecA ead ebs eX erm eNL C0
  subst el eD ecA ead ebs eX
  unfold F_X2_checkOf at h
  obtain ⟨c_x0, h⟩ := ite_some h
  refine V_iconst C0 (v := (0 : Int32)) (by decide) dX2_checkOf_0 ?_
  refine V_istore_n C0 [(2, .int (0 : Int32)), (0, .ref (G.ad x0)), (1, .int x1)] rfl (by rw [eNL]; decide) rfl dX2_checkOf_1 ?_
  refine V_iconst C0 (v := (0 : Int32)) (by decide) dX2_checkOf_2 ?_
  refine V_istore_n C0 [(3, .int (0 : Int32)), (2, .int (0 : Int32)), (0, .ref (G.ad x0)), (1, .int x1)] rfl (by rw [eNL]; decide) rfl dX2_checkOf_3 ?_
  obtain ⟨z15, q16, h⟩ := bn1_some h
  refine V_sub [2, 3, 1, 0] rfl (lp_X2_checkOf_4 C0 eNL erm N N x0 x1 (0 : Int32) (0 : Int32) I L R _ c_x0.1 c_x0.2 q16 _ ?_)
  show V G _ 73 [(2, .int z15)] [] I L R
  refine V_iload_n C0 0 rfl rfl dX2_checkOf_73 ?_
  cases h
  exact V_iret C0 dX2_checkOf_74
theorem dX2_fillFrame_0 : decode cX2_fillFrame 0 = .ok (.aload_n 0, 1) := by decide +kernel
theorem dX2_fillFrame_1 : decode cX2_fillFrame 1 = .ok (.getfield 11, 3) := by decide +kernel
theorem dX2_fillFrame_4 : decode cX2_fillFrame 4 = .ok (.iconst 0, 1) := by decide +kernel
theorem dX2_fillFrame_5 : decode cX2_fillFrame 5 = .ok (.sipush 165, 3) := by decide +kernel
theorem dX2_fillFrame_8 : decode cX2_fillFrame 8 = .ok (.iastore, 1) := by decide +kernel
theorem dX2_fillFrame_9 : decode cX2_fillFrame 9 = .ok (.aload_n 0, 1) := by decide +kernel
theorem dX2_fillFrame_10 : decode cX2_fillFrame 10 = .ok (.getfield 11, 3) := by decide +kernel
theorem dX2_fillFrame_13 : decode cX2_fillFrame 13 = .ok (.iconst 1, 1) := by decide +kernel
theorem dX2_fillFrame_14 : decode cX2_fillFrame 14 = .ok (.iload_n 1, 1) := by decide +kernel
theorem dX2_fillFrame_15 : decode cX2_fillFrame 15 = .ok (.sipush 256, 3) := by decide +kernel
theorem dX2_fillFrame_18 : decode cX2_fillFrame 18 = .ok (.idiv, 1) := by decide +kernel
theorem dX2_fillFrame_19 : decode cX2_fillFrame 19 = .ok (.sipush 256, 3) := by decide +kernel
theorem dX2_fillFrame_22 : decode cX2_fillFrame 22 = .ok (.invokestatic 92, 3) := by decide +kernel
theorem dX2_fillFrame_25 : decode cX2_fillFrame 25 = .ok (.iastore, 1) := by decide +kernel
theorem dX2_fillFrame_26 : decode cX2_fillFrame 26 = .ok (.aload_n 0, 1) := by decide +kernel
theorem dX2_fillFrame_27 : decode cX2_fillFrame 27 = .ok (.getfield 11, 3) := by decide +kernel
theorem dX2_fillFrame_30 : decode cX2_fillFrame 30 = .ok (.iconst 2, 1) := by decide +kernel
theorem dX2_fillFrame_31 : decode cX2_fillFrame 31 = .ok (.iload_n 1, 1) := by decide +kernel
theorem dX2_fillFrame_32 : decode cX2_fillFrame 32 = .ok (.sipush 256, 3) := by decide +kernel
theorem dX2_fillFrame_35 : decode cX2_fillFrame 35 = .ok (.invokestatic 92, 3) := by decide +kernel
theorem dX2_fillFrame_38 : decode cX2_fillFrame 38 = .ok (.iastore, 1) := by decide +kernel
theorem dX2_fillFrame_39 : decode cX2_fillFrame 39 = .ok (.aload_n 0, 1) := by decide +kernel
theorem dX2_fillFrame_40 : decode cX2_fillFrame 40 = .ok (.getfield 11, 3) := by decide +kernel
theorem dX2_fillFrame_43 : decode cX2_fillFrame 43 = .ok (.iconst 3, 1) := by decide +kernel
theorem dX2_fillFrame_44 : decode cX2_fillFrame 44 = .ok (.aload_n 0, 1) := by decide +kernel
theorem dX2_fillFrame_45 : decode cX2_fillFrame 45 = .ok (.getfield 61, 3) := by decide +kernel
theorem dX2_fillFrame_48 : decode cX2_fillFrame 48 = .ok (.iastore, 1) := by decide +kernel
theorem dX2_fillFrame_49 : decode cX2_fillFrame 49 = .ok (.aload_n 0, 1) := by decide +kernel
theorem dX2_fillFrame_50 : decode cX2_fillFrame 50 = .ok (.getfield 11, 3) := by decide +kernel
theorem dX2_fillFrame_53 : decode cX2_fillFrame 53 = .ok (.iconst 4, 1) := by decide +kernel
theorem dX2_fillFrame_54 : decode cX2_fillFrame 54 = .ok (.aload_n 0, 1) := by decide +kernel
theorem dX2_fillFrame_55 : decode cX2_fillFrame 55 = .ok (.invokevirtual 262, 3) := by decide +kernel
theorem dX2_fillFrame_58 : decode cX2_fillFrame 58 = .ok (.iastore, 1) := by decide +kernel
theorem dX2_fillFrame_59 : decode cX2_fillFrame 59 = .ok (.aload_n 0, 1) := by decide +kernel
theorem dX2_fillFrame_60 : decode cX2_fillFrame 60 = .ok (.getfield 11, 3) := by decide +kernel
theorem dX2_fillFrame_63 : decode cX2_fillFrame 63 = .ok (.iconst 5, 1) := by decide +kernel
theorem dX2_fillFrame_64 : decode cX2_fillFrame 64 = .ok (.aload_n 0, 1) := by decide +kernel
theorem dX2_fillFrame_65 : decode cX2_fillFrame 65 = .ok (.getfield 64, 3) := by decide +kernel
theorem dX2_fillFrame_68 : decode cX2_fillFrame 68 = .ok (.iastore, 1) := by decide +kernel
theorem dX2_fillFrame_69 : decode cX2_fillFrame 69 = .ok (.aload_n 0, 1) := by decide +kernel
theorem dX2_fillFrame_70 : decode cX2_fillFrame 70 = .ok (.getfield 11, 3) := by decide +kernel
theorem dX2_fillFrame_73 : decode cX2_fillFrame 73 = .ok (.bipush 6, 2) := by decide +kernel
theorem dX2_fillFrame_75 : decode cX2_fillFrame 75 = .ok (.aload_n 0, 1) := by decide +kernel
theorem dX2_fillFrame_76 : decode cX2_fillFrame 76 = .ok (.getfield 24, 3) := by decide +kernel
theorem dX2_fillFrame_79 : decode cX2_fillFrame 79 = .ok (.iconst 0, 1) := by decide +kernel
theorem dX2_fillFrame_80 : decode cX2_fillFrame 80 = .ok (.invokevirtual 123, 3) := by decide +kernel
theorem dX2_fillFrame_83 : decode cX2_fillFrame 83 = .ok (.bipush 16, 2) := by decide +kernel
theorem dX2_fillFrame_85 : decode cX2_fillFrame 85 = .ok (.idiv, 1) := by decide +kernel
theorem dX2_fillFrame_86 : decode cX2_fillFrame 86 = .ok (.iastore, 1) := by decide +kernel
theorem dX2_fillFrame_87 : decode cX2_fillFrame 87 = .ok (.aload_n 0, 1) := by decide +kernel
theorem dX2_fillFrame_88 : decode cX2_fillFrame 88 = .ok (.getfield 11, 3) := by decide +kernel
theorem dX2_fillFrame_91 : decode cX2_fillFrame 91 = .ok (.bipush 7, 2) := by decide +kernel
theorem dX2_fillFrame_93 : decode cX2_fillFrame 93 = .ok (.aload_n 0, 1) := by decide +kernel
theorem dX2_fillFrame_94 : decode cX2_fillFrame 94 = .ok (.getfield 24, 3) := by decide +kernel
theorem dX2_fillFrame_97 : decode cX2_fillFrame 97 = .ok (.iconst 1, 1) := by decide +kernel
theorem dX2_fillFrame_98 : decode cX2_fillFrame 98 = .ok (.invokevirtual 123, 3) := by decide +kernel
theorem dX2_fillFrame_101 : decode cX2_fillFrame 101 = .ok (.bipush 16, 2) := by decide +kernel
theorem dX2_fillFrame_103 : decode cX2_fillFrame 103 = .ok (.idiv, 1) := by decide +kernel
theorem dX2_fillFrame_104 : decode cX2_fillFrame 104 = .ok (.iastore, 1) := by decide +kernel
theorem dX2_fillFrame_105 : decode cX2_fillFrame 105 = .ok (.aload_n 0, 1) := by decide +kernel
theorem dX2_fillFrame_106 : decode cX2_fillFrame 106 = .ok (.getfield 11, 3) := by decide +kernel
theorem dX2_fillFrame_109 : decode cX2_fillFrame 109 = .ok (.bipush 8, 2) := by decide +kernel
theorem dX2_fillFrame_111 : decode cX2_fillFrame 111 = .ok (.aload_n 0, 1) := by decide +kernel
theorem dX2_fillFrame_112 : decode cX2_fillFrame 112 = .ok (.getfield 24, 3) := by decide +kernel
theorem dX2_fillFrame_115 : decode cX2_fillFrame 115 = .ok (.iconst 2, 1) := by decide +kernel
theorem dX2_fillFrame_116 : decode cX2_fillFrame 116 = .ok (.invokevirtual 123, 3) := by decide +kernel
theorem dX2_fillFrame_119 : decode cX2_fillFrame 119 = .ok (.bipush 16, 2) := by decide +kernel
theorem dX2_fillFrame_121 : decode cX2_fillFrame 121 = .ok (.idiv, 1) := by decide +kernel
theorem dX2_fillFrame_122 : decode cX2_fillFrame 122 = .ok (.iastore, 1) := by decide +kernel
theorem dX2_fillFrame_123 : decode cX2_fillFrame 123 = .ok (.aload_n 0, 1) := by decide +kernel
theorem dX2_fillFrame_124 : decode cX2_fillFrame 124 = .ok (.getfield 11, 3) := by decide +kernel
theorem dX2_fillFrame_127 : decode cX2_fillFrame 127 = .ok (.bipush 9, 2) := by decide +kernel
theorem dX2_fillFrame_129 : decode cX2_fillFrame 129 = .ok (.aload_n 0, 1) := by decide +kernel
theorem dX2_fillFrame_130 : decode cX2_fillFrame 130 = .ok (.iconst 0, 1) := by decide +kernel
theorem dX2_fillFrame_131 : decode cX2_fillFrame 131 = .ok (.bipush 63, 2) := by decide +kernel
theorem dX2_fillFrame_133 : decode cX2_fillFrame 133 = .ok (.invokevirtual 265, 3) := by decide +kernel
theorem dX2_fillFrame_136 : decode cX2_fillFrame 136 = .ok (.iastore, 1) := by decide +kernel
theorem dX2_fillFrame_137 : decode cX2_fillFrame 137 = .ok (.aload_n 0, 1) := by decide +kernel
theorem dX2_fillFrame_138 : decode cX2_fillFrame 138 = .ok (.getfield 11, 3) := by decide +kernel
theorem dX2_fillFrame_141 : decode cX2_fillFrame 141 = .ok (.bipush 10, 2) := by decide +kernel
theorem dX2_fillFrame_143 : decode cX2_fillFrame 143 = .ok (.aload_n 0, 1) := by decide +kernel
theorem dX2_fillFrame_144 : decode cX2_fillFrame 144 = .ok (.bipush 6, 2) := by decide +kernel
theorem dX2_fillFrame_146 : decode cX2_fillFrame 146 = .ok (.bipush 22, 2) := by decide +kernel
theorem dX2_fillFrame_148 : decode cX2_fillFrame 148 = .ok (.invokevirtual 265, 3) := by decide +kernel
theorem dX2_fillFrame_151 : decode cX2_fillFrame 151 = .ok (.iastore, 1) := by decide +kernel
theorem dX2_fillFrame_152 : decode cX2_fillFrame 152 = .ok (.aload_n 0, 1) := by decide +kernel
theorem dX2_fillFrame_153 : decode cX2_fillFrame 153 = .ok (.getfield 11, 3) := by decide +kernel
theorem dX2_fillFrame_156 : decode cX2_fillFrame 156 = .ok (.bipush 11, 2) := by decide +kernel
theorem dX2_fillFrame_158 : decode cX2_fillFrame 158 = .ok (.aload_n 0, 1) := by decide +kernel
theorem dX2_fillFrame_159 : decode cX2_fillFrame 159 = .ok (.bipush 11, 2) := by decide +kernel
theorem dX2_fillFrame_161 : decode cX2_fillFrame 161 = .ok (.invokevirtual 268, 3) := by decide +kernel
theorem dX2_fillFrame_164 : decode cX2_fillFrame 164 = .ok (.iastore, 1) := by decide +kernel
theorem dX2_fillFrame_165 : decode cX2_fillFrame 165 = .ok (.return_, 1) := by decide +kernel
def F_X2_fillFrame (N : Nat) (x0 : Nat) (x1 : Int32) (I : MI) (L : ML) (R : MR) : Option (MI) :=
  if kd x0 = 2 ∧ x0 < NN then
  (rf R x0 4 20).bind fun a1 =>
  (wi I a1 (0 : Int32) (165 : Int32)).bind fun I2 =>
  bn1 (F_J9_floorMod_7cf53 (x1 / (256 : Int32)) (256 : Int32) I2 L R) fun v3 =>
  (wi I2 a1 (1 : Int32) v3).bind fun I5 =>
  bn1 (F_J9_floorMod_7cf53 x1 (256 : Int32) I5 L R) fun v6 =>
  (wi I5 a1 (2 : Int32) v6).bind fun I8 =>
  (wi I8 a1 (3 : Int32) (I8 x0 7)).bind fun I9 =>
  bn1 (F_X2_charge N x0 I9 L R) fun v10 =>
  (wi I9 a1 (4 : Int32) v10).bind fun I12 =>
  (wi I12 a1 (5 : Int32) (I12 x0 8)).bind fun I13 =>
  (rf R x0 1 6).bind fun a14 =>
  bn1 (F_X7_angle a14 (0 : Int32) I13 L R) fun v15 =>
  (wi I13 a1 (6 : Int32) (v15 / (16 : Int32))).bind fun I17 =>
  bn1 (F_X7_angle a14 (1 : Int32) I17 L R) fun v18 =>
  (wi I17 a1 (7 : Int32) (v18 / (16 : Int32))).bind fun I20 =>
  bn1 (F_X7_angle a14 (2 : Int32) I20 L R) fun v21 =>
  (wi I20 a1 (8 : Int32) (v21 / (16 : Int32))).bind fun I23 =>
  bn1 (F_X2_countWith N x0 (0 : Int32) (63 : Int32) I23 L R) fun v24 =>
  (wi I23 a1 (9 : Int32) v24).bind fun I26 =>
  bn1 (F_X2_countWith N x0 (6 : Int32) (22 : Int32) I26 L R) fun v27 =>
  (wi I26 a1 (10 : Int32) v27).bind fun I29 =>
  bn1 (F_X2_checkOf N x0 (11 : Int32) I29 L R) fun v30 =>
  (wi I29 a1 (11 : Int32) v30).bind fun I32 =>
  some (I32)
  else none
set_option maxRecDepth 100000 in
set_option maxHeartbeats 4000000 in
theorem c_X2_fillFrame (l : Launch) (D : va_G) (cA : Nat → ClassId) (ad : Nat → Nat) (bs : Nat) (X : State → Prop) (hAd : Ax ad bs) (hX : Stb bs X) (N : Nat) (x0 : Nat) (x1 : Int32) (I : MI) (L : ML) (R : MR) (I' : MI) (h : F_X2_fillFrame N x0 x1 I L R = some (I')) : Cn l D cA ad bs X yX2_fillFrame cX2_fillFrame 2 none 3 66 [.ref (ad x0), .int x1] I L R (none, I', L, R) := by
  refine Cn.ofV hAd hX [(0, .ref (ad x0)), (1, .int x1)] rfl (Nat.le_of_ble_eq_true rfl) (by decide) ?_
  intro G el eD ecA ead ebs eX erm eNL C0
  subst el eD ecA ead ebs eX
  unfold F_X2_fillFrame at h
  obtain ⟨c_x0, h⟩ := ite_some h
  refine V_aload_n C0 0 rfl rfl dX2_fillFrame_0 ?_
  obtain ⟨a1, qa1, h⟩ := bnd_some h
  refine V_getR C0 2 4 fl_X2_11 c_x0.2 c_x0.1 rfl (rf_at qa1) dX2_fillFrame_1 ?_
  refine V_iconst C0 (v := (0 : Int32)) (by decide) dX2_fillFrame_4 ?_
  refine V_sipush C0 (v := (165 : Int32)) (by decide) dX2_fillFrame_5 ?_
  obtain ⟨I2, qI2, h⟩ := bnd_some h
  refine V_wi C0 (rf_lt qa1) (rf_kd qa1) qI2 dX2_fillFrame_8 ?_
  refine V_aload_n C0 0 rfl rfl dX2_fillFrame_9 ?_
  refine V_getR C0 2 4 fl_X2_11 c_x0.2 c_x0.1 rfl (rf_at qa1) dX2_fillFrame_10 ?_
  refine V_iconst C0 (v := (1 : Int32)) (by decide) dX2_fillFrame_13 ?_
  refine V_iload_n C0 1 rfl rfl dX2_fillFrame_14 ?_
  refine V_sipush C0 (v := (256 : Int32)) (by decide) dX2_fillFrame_15 ?_
  refine V_idiv C0 (by decide) dX2_fillFrame_18 ?_
  refine V_sipush C0 (v := (256 : Int32)) (by decide) dX2_fillFrame_19 ?_
  obtain ⟨v3, q4, h⟩ := bn1_some h
  refine V_callS C0 (st := [.int (1 : Int32), .ref (G.ad a1)]) (As := [.int (x1 / (256 : Int32)), .int (256 : Int32)]) (c_J9_floorMod_7cf53 G.l G.D G.cA G.ad G.bs G.X C0.2.2.2.2.2.2.2.2.2.1 C0.2.2.2.2.2.2.2.2.2.2.2.2 (x1 / (256 : Int32)) (256 : Int32) I2 L R v3 q4) lc_J9_floorMod_7cf53 lk_X2_92 rfl (by rw [erm]; decide) (Nat.le_of_ble_eq_true rfl) dX2_fillFrame_22 ?_
  show V G _ 25 [(0, .ref (G.ad x0)), (1, .int x1)] [.int v3, .int (1 : Int32), .ref (G.ad a1)] I2 L R
  obtain ⟨I5, qI5, h⟩ := bnd_some h
  refine V_wi C0 (rf_lt qa1) (rf_kd qa1) qI5 dX2_fillFrame_25 ?_
  refine V_aload_n C0 0 rfl rfl dX2_fillFrame_26 ?_
  refine V_getR C0 2 4 fl_X2_11 c_x0.2 c_x0.1 rfl (rf_at qa1) dX2_fillFrame_27 ?_
  refine V_iconst C0 (v := (2 : Int32)) (by decide) dX2_fillFrame_30 ?_
  refine V_iload_n C0 1 rfl rfl dX2_fillFrame_31 ?_
  refine V_sipush C0 (v := (256 : Int32)) (by decide) dX2_fillFrame_32 ?_
  obtain ⟨v6, q7, h⟩ := bn1_some h
  refine V_callS C0 (st := [.int (2 : Int32), .ref (G.ad a1)]) (As := [.int x1, .int (256 : Int32)]) (c_J9_floorMod_7cf53 G.l G.D G.cA G.ad G.bs G.X C0.2.2.2.2.2.2.2.2.2.1 C0.2.2.2.2.2.2.2.2.2.2.2.2 x1 (256 : Int32) I5 L R v6 q7) lc_J9_floorMod_7cf53 lk_X2_92 rfl (by rw [erm]; decide) (Nat.le_of_ble_eq_true rfl) dX2_fillFrame_35 ?_
  show V G _ 38 [(0, .ref (G.ad x0)), (1, .int x1)] [.int v6, .int (2 : Int32), .ref (G.ad a1)] I5 L R
  obtain ⟨I8, qI8, h⟩ := bnd_some h
  refine V_wi C0 (rf_lt qa1) (rf_kd qa1) qI8 dX2_fillFrame_38 ?_
  refine V_aload_n C0 0 rfl rfl dX2_fillFrame_39 ?_
  refine V_getR C0 2 4 fl_X2_11 c_x0.2 c_x0.1 rfl (rf_at qa1) dX2_fillFrame_40 ?_
  refine V_iconst C0 (v := (3 : Int32)) (by decide) dX2_fillFrame_43 ?_
  refine V_aload_n C0 0 rfl rfl dX2_fillFrame_44 ?_
  refine V_getI C0 2 7 fl_X2_61 c_x0.2 c_x0.1 rfl dX2_fillFrame_45 ?_
  obtain ⟨I9, qI9, h⟩ := bnd_some h
  refine V_wi C0 (rf_lt qa1) (rf_kd qa1) qI9 dX2_fillFrame_48 ?_
  refine V_aload_n C0 0 rfl rfl dX2_fillFrame_49 ?_
  refine V_getR C0 2 4 fl_X2_11 c_x0.2 c_x0.1 rfl (rf_at qa1) dX2_fillFrame_50 ?_
  refine V_iconst C0 (v := (4 : Int32)) (by decide) dX2_fillFrame_53 ?_
  refine V_aload_n C0 0 rfl rfl dX2_fillFrame_54 ?_
  obtain ⟨v10, q11, h⟩ := bn1_some h
  refine V_callV C0 (st := [.int (4 : Int32), .ref (G.ad a1)]) (As := []) 2 (c_X2_charge G.l G.D G.cA G.ad G.bs G.X C0.2.2.2.2.2.2.2.2.2.1 C0.2.2.2.2.2.2.2.2.2.2.2.2 N x0 I9 L R v10 q11) lc_X2_charge lk_X2_262 c_x0.2 c_x0.1 ⟨_, rfl, rfl⟩ rfl (by rw [erm]; decide) (Nat.le_of_ble_eq_true rfl) dX2_fillFrame_55 ?_
  show V G _ 58 [(0, .ref (G.ad x0)), (1, .int x1)] [.int v10, .int (4 : Int32), .ref (G.ad a1)] I9 L R
  obtain ⟨I12, qI12, h⟩ := bnd_some h
  refine V_wi C0 (rf_lt qa1) (rf_kd qa1) qI12 dX2_fillFrame_58 ?_
  refine V_aload_n C0 0 rfl rfl dX2_fillFrame_59 ?_
  refine V_getR C0 2 4 fl_X2_11 c_x0.2 c_x0.1 rfl (rf_at qa1) dX2_fillFrame_60 ?_
  refine V_iconst C0 (v := (5 : Int32)) (by decide) dX2_fillFrame_63 ?_
  refine V_aload_n C0 0 rfl rfl dX2_fillFrame_64 ?_
  refine V_getI C0 2 8 fl_X2_64 c_x0.2 c_x0.1 rfl dX2_fillFrame_65 ?_
  obtain ⟨I13, qI13, h⟩ := bnd_some h
  refine V_wi C0 (rf_lt qa1) (rf_kd qa1) qI13 dX2_fillFrame_68 ?_
  refine V_aload_n C0 0 rfl rfl dX2_fillFrame_69 ?_
  refine V_getR C0 2 4 fl_X2_11 c_x0.2 c_x0.1 rfl (rf_at qa1) dX2_fillFrame_70 ?_
  refine V_bipush C0 (v := (6 : Int32)) (by decide) dX2_fillFrame_73 ?_
  refine V_aload_n C0 0 rfl rfl dX2_fillFrame_75 ?_
  obtain ⟨a14, qa14, h⟩ := bnd_some h
  refine V_getR C0 2 1 fl_X2_24 c_x0.2 c_x0.1 rfl (rf_at qa14) dX2_fillFrame_76 ?_
  refine V_iconst C0 (v := (0 : Int32)) (by decide) dX2_fillFrame_79 ?_
  obtain ⟨v15, q16, h⟩ := bn1_some h
  refine V_callV C0 (st := [.int (6 : Int32), .ref (G.ad a1)]) (As := [.int (0 : Int32)]) 6 (c_X7_angle G.l G.D G.cA G.ad G.bs G.X C0.2.2.2.2.2.2.2.2.2.1 C0.2.2.2.2.2.2.2.2.2.2.2.2 a14 (0 : Int32) I13 L R v15 q16) lc_X7_angle lk_X2_123 (rf_lt qa14) (rf_kd qa14) ⟨_, rfl, rfl⟩ rfl (by rw [erm]; decide) (Nat.le_of_ble_eq_true rfl) dX2_fillFrame_80 ?_
  show V G _ 83 [(0, .ref (G.ad x0)), (1, .int x1)] [.int v15, .int (6 : Int32), .ref (G.ad a1)] I13 L R
  refine V_bipush C0 (v := (16 : Int32)) (by decide) dX2_fillFrame_83 ?_
  refine V_idiv C0 (by decide) dX2_fillFrame_85 ?_
  obtain ⟨I17, qI17, h⟩ := bnd_some h
  refine V_wi C0 (rf_lt qa1) (rf_kd qa1) qI17 dX2_fillFrame_86 ?_
  refine V_aload_n C0 0 rfl rfl dX2_fillFrame_87 ?_
  refine V_getR C0 2 4 fl_X2_11 c_x0.2 c_x0.1 rfl (rf_at qa1) dX2_fillFrame_88 ?_
  refine V_bipush C0 (v := (7 : Int32)) (by decide) dX2_fillFrame_91 ?_
  refine V_aload_n C0 0 rfl rfl dX2_fillFrame_93 ?_
  refine V_getR C0 2 1 fl_X2_24 c_x0.2 c_x0.1 rfl (rf_at qa14) dX2_fillFrame_94 ?_
  refine V_iconst C0 (v := (1 : Int32)) (by decide) dX2_fillFrame_97 ?_
  obtain ⟨v18, q19, h⟩ := bn1_some h
  refine V_callV C0 (st := [.int (7 : Int32), .ref (G.ad a1)]) (As := [.int (1 : Int32)]) 6 (c_X7_angle G.l G.D G.cA G.ad G.bs G.X C0.2.2.2.2.2.2.2.2.2.1 C0.2.2.2.2.2.2.2.2.2.2.2.2 a14 (1 : Int32) I17 L R v18 q19) lc_X7_angle lk_X2_123 (rf_lt qa14) (rf_kd qa14) ⟨_, rfl, rfl⟩ rfl (by rw [erm]; decide) (Nat.le_of_ble_eq_true rfl) dX2_fillFrame_98 ?_
  show V G _ 101 [(0, .ref (G.ad x0)), (1, .int x1)] [.int v18, .int (7 : Int32), .ref (G.ad a1)] I17 L R
  refine V_bipush C0 (v := (16 : Int32)) (by decide) dX2_fillFrame_101 ?_
  refine V_idiv C0 (by decide) dX2_fillFrame_103 ?_
  obtain ⟨I20, qI20, h⟩ := bnd_some h
  refine V_wi C0 (rf_lt qa1) (rf_kd qa1) qI20 dX2_fillFrame_104 ?_
  refine V_aload_n C0 0 rfl rfl dX2_fillFrame_105 ?_
  refine V_getR C0 2 4 fl_X2_11 c_x0.2 c_x0.1 rfl (rf_at qa1) dX2_fillFrame_106 ?_
  refine V_bipush C0 (v := (8 : Int32)) (by decide) dX2_fillFrame_109 ?_
  refine V_aload_n C0 0 rfl rfl dX2_fillFrame_111 ?_
  refine V_getR C0 2 1 fl_X2_24 c_x0.2 c_x0.1 rfl (rf_at qa14) dX2_fillFrame_112 ?_
  refine V_iconst C0 (v := (2 : Int32)) (by decide) dX2_fillFrame_115 ?_
  obtain ⟨v21, q22, h⟩ := bn1_some h
  refine V_callV C0 (st := [.int (8 : Int32), .ref (G.ad a1)]) (As := [.int (2 : Int32)]) 6 (c_X7_angle G.l G.D G.cA G.ad G.bs G.X C0.2.2.2.2.2.2.2.2.2.1 C0.2.2.2.2.2.2.2.2.2.2.2.2 a14 (2 : Int32) I20 L R v21 q22) lc_X7_angle lk_X2_123 (rf_lt qa14) (rf_kd qa14) ⟨_, rfl, rfl⟩ rfl (by rw [erm]; decide) (Nat.le_of_ble_eq_true rfl) dX2_fillFrame_116 ?_
  show V G _ 119 [(0, .ref (G.ad x0)), (1, .int x1)] [.int v21, .int (8 : Int32), .ref (G.ad a1)] I20 L R
  refine V_bipush C0 (v := (16 : Int32)) (by decide) dX2_fillFrame_119 ?_
  refine V_idiv C0 (by decide) dX2_fillFrame_121 ?_
  obtain ⟨I23, qI23, h⟩ := bnd_some h
  refine V_wi C0 (rf_lt qa1) (rf_kd qa1) qI23 dX2_fillFrame_122 ?_
  refine V_aload_n C0 0 rfl rfl dX2_fillFrame_123 ?_
  refine V_getR C0 2 4 fl_X2_11 c_x0.2 c_x0.1 rfl (rf_at qa1) dX2_fillFrame_124 ?_
  refine V_bipush C0 (v := (9 : Int32)) (by decide) dX2_fillFrame_127 ?_
  refine V_aload_n C0 0 rfl rfl dX2_fillFrame_129 ?_
  refine V_iconst C0 (v := (0 : Int32)) (by decide) dX2_fillFrame_130 ?_
  refine V_bipush C0 (v := (63 : Int32)) (by decide) dX2_fillFrame_131 ?_
  obtain ⟨v24, q25, h⟩ := bn1_some h
  refine V_callV C0 (st := [.int (9 : Int32), .ref (G.ad a1)]) (As := [.int (0 : Int32), .int (63 : Int32)]) 2 (c_X2_countWith G.l G.D G.cA G.ad G.bs G.X C0.2.2.2.2.2.2.2.2.2.1 C0.2.2.2.2.2.2.2.2.2.2.2.2 N x0 (0 : Int32) (63 : Int32) I23 L R v24 q25) lc_X2_countWith lk_X2_265 c_x0.2 c_x0.1 ⟨_, rfl, rfl⟩ rfl (by rw [erm]; decide) (Nat.le_of_ble_eq_true rfl) dX2_fillFrame_133 ?_
  show V G _ 136 [(0, .ref (G.ad x0)), (1, .int x1)] [.int v24, .int (9 : Int32), .ref (G.ad a1)] I23 L R
  obtain ⟨I26, qI26, h⟩ := bnd_some h
  refine V_wi C0 (rf_lt qa1) (rf_kd qa1) qI26 dX2_fillFrame_136 ?_
  refine V_aload_n C0 0 rfl rfl dX2_fillFrame_137 ?_
  refine V_getR C0 2 4 fl_X2_11 c_x0.2 c_x0.1 rfl (rf_at qa1) dX2_fillFrame_138 ?_
  refine V_bipush C0 (v := (10 : Int32)) (by decide) dX2_fillFrame_141 ?_
  refine V_aload_n C0 0 rfl rfl dX2_fillFrame_143 ?_
  refine V_bipush C0 (v := (6 : Int32)) (by decide) dX2_fillFrame_144 ?_
  refine V_bipush C0 (v := (22 : Int32)) (by decide) dX2_fillFrame_146 ?_
  obtain ⟨v27, q28, h⟩ := bn1_some h
  refine V_callV C0 (st := [.int (10 : Int32), .ref (G.ad a1)]) (As := [.int (6 : Int32), .int (22 : Int32)]) 2 (c_X2_countWith G.l G.D G.cA G.ad G.bs G.X C0.2.2.2.2.2.2.2.2.2.1 C0.2.2.2.2.2.2.2.2.2.2.2.2 N x0 (6 : Int32) (22 : Int32) I26 L R v27 q28) lc_X2_countWith lk_X2_265 c_x0.2 c_x0.1 ⟨_, rfl, rfl⟩ rfl (by rw [erm]; decide) (Nat.le_of_ble_eq_true rfl) dX2_fillFrame_148 ?_
  show V G _ 151 [(0, .ref (G.ad x0)), (1, .int x1)] [.int v27, .int (10 : Int32), .ref (G.ad a1)] I26 L R
  obtain ⟨I29, qI29, h⟩ := bnd_some h
  refine V_wi C0 (rf_lt qa1) (rf_kd qa1) qI29 dX2_fillFrame_151 ?_
  refine V_aload_n C0 0 rfl rfl dX2_fillFrame_152 ?_
  refine V_getR C0 2 4 fl_X2_11 c_x0.2 c_x0.1 rfl (rf_at qa1) dX2_fillFrame_153 ?_
  refine V_bipush C0 (v := (11 : Int32)) (by decide) dX2_fillFrame_156 ?_
  refine V_aload_n C0 0 rfl rfl dX2_fillFrame_158 ?_
  refine V_bipush C0 (v := (11 : Int32)) (by decide) dX2_fillFrame_159 ?_
  obtain ⟨v30, q31, h⟩ := bn1_some h
  refine V_callV C0 (st := [.int (11 : Int32), .ref (G.ad a1)]) (As := [.int (11 : Int32)]) 2 (c_X2_checkOf G.l G.D G.cA G.ad G.bs G.X C0.2.2.2.2.2.2.2.2.2.1 C0.2.2.2.2.2.2.2.2.2.2.2.2 N x0 (11 : Int32) I29 L R v30 q31) lc_X2_checkOf lk_X2_268 c_x0.2 c_x0.1 ⟨_, rfl, rfl⟩ rfl (by rw [erm]; decide) (Nat.le_of_ble_eq_true rfl) dX2_fillFrame_161 ?_
  show V G _ 164 [(0, .ref (G.ad x0)), (1, .int x1)] [.int v30, .int (11 : Int32), .ref (G.ad a1)] I29 L R
  obtain ⟨I32, qI32, h⟩ := bnd_some h
  refine V_wi C0 (rf_lt qa1) (rf_kd qa1) qI32 dX2_fillFrame_164 ?_
  cases h
  exact V_vret C0 dX2_fillFrame_165
theorem dX2_keepFrame_0 : decode cX2_keepFrame 0 = .ok (.iconst 0, 1) := by decide +kernel
theorem dX2_keepFrame_1 : decode cX2_keepFrame 1 = .ok (.istore_n 2, 1) := by decide +kernel
theorem dX2_keepFrame_2 : decode cX2_keepFrame 2 = .ok (.iload_n 2, 1) := by decide +kernel
theorem dX2_keepFrame_3 : decode cX2_keepFrame 3 = .ok (.aload_n 0, 1) := by decide +kernel
theorem dX2_keepFrame_4 : decode cX2_keepFrame 4 = .ok (.getfield 15, 3) := by decide +kernel
theorem dX2_keepFrame_7 : decode cX2_keepFrame 7 = .ok (.invokevirtual 235, 3) := by decide +kernel
theorem dX2_keepFrame_10 : decode cX2_keepFrame 10 = .ok (.if_icmp .ge 81, 3) := by decide +kernel
theorem dX2_keepFrame_13 : decode cX2_keepFrame 13 = .ok (.aload_n 0, 1) := by decide +kernel
theorem dX2_keepFrame_14 : decode cX2_keepFrame 14 = .ok (.getfield 15, 3) := by decide +kernel
theorem dX2_keepFrame_17 : decode cX2_keepFrame 17 = .ok (.iload_n 2, 1) := by decide +kernel
theorem dX2_keepFrame_18 : decode cX2_keepFrame 18 = .ok (.invokevirtual 199, 3) := by decide +kernel
theorem dX2_keepFrame_21 : decode cX2_keepFrame 21 = .ok (.astore_n 3, 1) := by decide +kernel
theorem dX2_keepFrame_22 : decode cX2_keepFrame 22 = .ok (.aload_n 3, 1) := by decide +kernel
theorem dX2_keepFrame_23 : decode cX2_keepFrame 23 = .ok (.iconst 5, 1) := by decide +kernel
theorem dX2_keepFrame_24 : decode cX2_keepFrame 24 = .ok (.invokevirtual 229, 3) := by decide +kernel
theorem dX2_keepFrame_27 : decode cX2_keepFrame 27 = .ok (.ifCond .eq 58, 3) := by decide +kernel
theorem dX2_keepFrame_30 : decode cX2_keepFrame 30 = .ok (.aload_n 3, 1) := by decide +kernel
theorem dX2_keepFrame_31 : decode cX2_keepFrame 31 = .ok (.bipush 12, 2) := by decide +kernel
theorem dX2_keepFrame_33 : decode cX2_keepFrame 33 = .ok (.invokevirtual 253, 3) := by decide +kernel
theorem dX2_keepFrame_36 : decode cX2_keepFrame 36 = .ok (.ifCond .eq 49, 3) := by decide +kernel
theorem dX2_keepFrame_39 : decode cX2_keepFrame 39 = .ok (.aload_n 0, 1) := by decide +kernel
theorem dX2_keepFrame_40 : decode cX2_keepFrame 40 = .ok (.iload_n 1, 1) := by decide +kernel
theorem dX2_keepFrame_41 : decode cX2_keepFrame 41 = .ok (.invokevirtual 259, 3) := by decide +kernel
theorem dX2_keepFrame_44 : decode cX2_keepFrame 44 = .ok (.iconst 0, 1) := by decide +kernel
theorem dX2_keepFrame_45 : decode cX2_keepFrame 45 = .ok (.istore 4, 2) := by decide +kernel
theorem dX2_keepFrame_47 : decode cX2_keepFrame 47 = .ok (.iload 4, 2) := by decide +kernel
theorem dX2_keepFrame_49 : decode cX2_keepFrame 49 = .ok (.aload_n 0, 1) := by decide +kernel
theorem dX2_keepFrame_50 : decode cX2_keepFrame 50 = .ok (.getfield 11, 3) := by decide +kernel
theorem dX2_keepFrame_53 : decode cX2_keepFrame 53 = .ok (.arraylength, 1) := by decide +kernel
theorem dX2_keepFrame_54 : decode cX2_keepFrame 54 = .ok (.if_icmp .ge 20, 3) := by decide +kernel
theorem dX2_keepFrame_57 : decode cX2_keepFrame 57 = .ok (.aload_n 3, 1) := by decide +kernel
theorem dX2_keepFrame_58 : decode cX2_keepFrame 58 = .ok (.aload_n 0, 1) := by decide +kernel
theorem dX2_keepFrame_59 : decode cX2_keepFrame 59 = .ok (.getfield 11, 3) := by decide +kernel
theorem dX2_keepFrame_62 : decode cX2_keepFrame 62 = .ok (.iload 4, 2) := by decide +kernel
theorem dX2_keepFrame_64 : decode cX2_keepFrame 64 = .ok (.iaload, 1) := by decide +kernel
theorem dX2_keepFrame_65 : decode cX2_keepFrame 65 = .ok (.invokevirtual 256, 3) := by decide +kernel
theorem dX2_keepFrame_68 : decode cX2_keepFrame 68 = .ok (.iinc 4 1, 3) := by decide +kernel
theorem dX2_keepFrame_71 : decode cX2_keepFrame 71 = .ok (.goto (-24), 3) := by decide +kernel
theorem dX2_keepFrame_74 : decode cX2_keepFrame 74 = .ok (.aload_n 0, 1) := by decide +kernel
theorem dX2_keepFrame_75 : decode cX2_keepFrame 75 = .ok (.dup, 1) := by decide +kernel
theorem dX2_keepFrame_76 : decode cX2_keepFrame 76 = .ok (.getfield 67, 3) := by decide +kernel
theorem dX2_keepFrame_79 : decode cX2_keepFrame 79 = .ok (.iconst 1, 1) := by decide +kernel
theorem dX2_keepFrame_80 : decode cX2_keepFrame 80 = .ok (.iadd, 1) := by decide +kernel
theorem dX2_keepFrame_81 : decode cX2_keepFrame 81 = .ok (.putfield 67, 3) := by decide +kernel
theorem dX2_keepFrame_84 : decode cX2_keepFrame 84 = .ok (.return_, 1) := by decide +kernel
theorem dX2_keepFrame_85 : decode cX2_keepFrame 85 = .ok (.iinc 2 1, 3) := by decide +kernel
theorem dX2_keepFrame_88 : decode cX2_keepFrame 88 = .ok (.goto (-86), 3) := by decide +kernel
theorem dX2_keepFrame_91 : decode cX2_keepFrame 91 = .ok (.aload_n 0, 1) := by decide +kernel
theorem dX2_keepFrame_92 : decode cX2_keepFrame 92 = .ok (.dup, 1) := by decide +kernel
theorem dX2_keepFrame_93 : decode cX2_keepFrame 93 = .ok (.getfield 70, 3) := by decide +kernel
theorem dX2_keepFrame_96 : decode cX2_keepFrame 96 = .ok (.iconst 1, 1) := by decide +kernel
theorem dX2_keepFrame_97 : decode cX2_keepFrame 97 = .ok (.iadd, 1) := by decide +kernel
theorem dX2_keepFrame_98 : decode cX2_keepFrame 98 = .ok (.putfield 70, 3) := by decide +kernel
theorem dX2_keepFrame_101 : decode cX2_keepFrame 101 = .ok (.return_, 1) := by decide +kernel
def LF_X2_keepFrame_47 (N : Nat) : Nat → Nat → Nat → Int32 → MI → ML → MR → Option (MI)
  | 0, _, _, _, _, _, _ => none
  | k + 1, y0, y3, y4, I, L, R =>
    (rf R y0 4 20).bind fun a18 =>
    if (Int32.ofNat (ln a18)) ≤ y4 then
      some (I)
    else
      (ri I a18 y4).bind fun v20 =>
      bn1 (F_X9_keepByte y3 v20 I L R) fun I21 =>
      wr (y4 + (1 : Int32)) fun (u23 : Int32) =>
      LF_X2_keepFrame_47 N k y0 y3 u23 I21 L R
def LF_X2_keepFrame_2 (N : Nat) : Nat → Nat → Int32 → Int32 → MI → ML → MR → Option (Sum (MI) (MI))
  | 0, _, _, _, _, _, _ => none
  | k + 1, y0, y1, y2, I, L, R =>
    (rf R y0 0 9).bind fun a1 =>
    bn1 (F_X10_size a1 I L R) fun v2 =>
    if v2 ≤ y2 then
      some (.inr (I))
    else
      bn1 (F_X10_unitAt a1 y2 I L R) fun a5 =>
      if kd a5 = 8 ∧ a5 < NN then
      bn1 (F_X9_isWhole a5 (5 : Int32) I L R) fun b8 =>
      if (b2i b8) = 0 then
        wr (y2 + (1 : Int32)) fun (u11 : Int32) =>
        LF_X2_keepFrame_2 N k y0 y1 u11 I L R
      else
        bn1 (F_X9_hasRoomFor a5 (12 : Int32) I L R) fun b12 =>
        if (b2i b12) = 0 then
          wr (y2 + (1 : Int32)) fun (u15 : Int32) =>
          LF_X2_keepFrame_2 N k y0 y1 u15 I L R
        else
          bn1 (F_X2_fillFrame N y0 y1 I L R) fun I16 =>
          bn1 (LF_X2_keepFrame_47 N N y0 a5 (0 : Int32) I16 L R) fun z24 =>
          wr (uI z24 y0 9 ((z24 y0 9) + (1 : Int32))) fun (I26 : MI) =>
          some (.inl (I26))
      else none
def F_X2_keepFrame (N : Nat) (x0 : Nat) (x1 : Int32) (I : MI) (L : ML) (R : MR) : Option (MI) :=
  if kd x0 = 2 ∧ x0 < NN then
  bsm (LF_X2_keepFrame_2 N N x0 x1 (0 : Int32) I L R) (fun z27 => some z27) fun z27 =>
  wr (uI z27 x0 10 ((z27 x0 10) + (1 : Int32))) fun (I29 : MI) =>
  some (I29)
  else none
set_option maxRecDepth 100000 in
set_option maxHeartbeats 4000000 in
theorem lp_X2_keepFrame_47 {G : Gm} (C0 : Cx G (yX2_keepFrame.cls) cX2_keepFrame none) (eNL : G.nL = 5) (erm : G.rm = ({ frames := 4, cells := 0, slots := 0, locals := 87 } : Room)) (N : Nat) : ∀ (k : Nat) (y0 : Nat) (y3 : Nat) (y4 : Int32) (I : MI) (L : ML) (R : MR) (z : MI) (hk0 : kd y0 = 2) (ho0 : y0 < NN) (hk3 : kd y3 = 8) (ho3 : y3 < NN), LF_X2_keepFrame_47 N k y0 y3 y4 I L R = some z → ∀ f : State → Prop, V G f 74 [(0, .ref (G.ad y0))] [] z L R → V G f 47 [(0, .ref (G.ad y0)), (3, .ref (G.ad y3)), (4, .int y4)] [] I L R := by
  intro k
  induction k with
  | zero =>
    intro y0 y3 y4 I L R q hk0 ho0 hk3 ho3 h
    exact absurd h (by simp [LF_X2_keepFrame_47])
  | succ k ih =>
    intro y0 y3 y4 I L R q hk0 ho0 hk3 ho3 h f kx
    rw [LF_X2_keepFrame_47] at h
    refine V_iload C0 2 rfl dX2_keepFrame_47 ?_
    refine V_aload_n C0 0 rfl rfl dX2_keepFrame_49 ?_
    obtain ⟨a18, qa18, h⟩ := bnd_some h
    refine V_getR C0 2 4 fl_X2_11 ho0 hk0 rfl (rf_at qa18) dX2_keepFrame_50 ?_
    refine V_alen C0 (v := Int32.ofNat (ln a18)) (rf_lt qa18) (by rw [(rf_kd qa18)]; decide) rfl dX2_keepFrame_53 ?_
    refine V_icmp_ge C0 (tgt := 74) (by decide) dX2_keepFrame_54 (fun c19 => ?_) (fun c19 => ?_)
    · have h := (if_pos c19).symm.trans h
      cases h
      exact V_sub [0] rfl kx
    · have h := (if_neg c19).symm.trans h
      refine V_aload_n C0 1 rfl rfl dX2_keepFrame_57 ?_
      refine V_aload_n C0 0 rfl rfl dX2_keepFrame_58 ?_
      refine V_getR C0 2 4 fl_X2_11 ho0 hk0 rfl (rf_at qa18) dX2_keepFrame_59 ?_
      refine V_iload C0 2 rfl dX2_keepFrame_62 ?_
      obtain ⟨v20, qv20, h⟩ := bnd_some h
      refine V_ri C0 (rf_lt qa18) (rf_kd qa18) qv20 dX2_keepFrame_64 ?_
      obtain ⟨I21, q22, h⟩ := bn1_some h
      refine V_callV C0 (st := []) (As := [.int v20]) 8 (c_X9_keepByte G.l G.D G.cA G.ad G.bs G.X C0.2.2.2.2.2.2.2.2.2.1 C0.2.2.2.2.2.2.2.2.2.2.2.2 y3 v20 I L R I21 q22) lc_X9_keepByte lk_X2_256 ho3 hk3 ⟨_, rfl, rfl⟩ rfl (by rw [erm]; decide) (Nat.le_of_ble_eq_true rfl) dX2_keepFrame_65 ?_
      show V G _ 68 [(0, .ref (G.ad y0)), (3, .ref (G.ad y3)), (4, .int y4)] [] I21 L R
      obtain ⟨u23, eu23, h⟩ := wr_some h
      refine V_iinc C0 2 [(4, .int u23), (0, .ref (G.ad y0)), (3, .ref (G.ad y3))] rfl (n := 1) (by rw [eu23]; rfl) (by rw [eNL]; decide) rfl dX2_keepFrame_68 ?_
      refine V_goto C0 (tgt := 47) (by decide) dX2_keepFrame_71 ?_
      exact V_sub [1, 2, 0] rfl (ih y0 y3 u23 I21 L R _ hk0 ho0 hk3 ho3 h f kx)
set_option maxRecDepth 100000 in
set_option maxHeartbeats 4000000 in
theorem lp_X2_keepFrame_2 {G : Gm} (C0 : Cx G (yX2_keepFrame.cls) cX2_keepFrame none) (eNL : G.nL = 5) (erm : G.rm = ({ frames := 4, cells := 0, slots := 0, locals := 87 } : Room)) (N : Nat) : ∀ (k : Nat) (y0 : Nat) (y1 : Int32) (y2 : Int32) (I : MI) (L : ML) (R : MR) (q : Sum (MI) (MI)) (hk0 : kd y0 = 2) (ho0 : y0 < NN), LF_X2_keepFrame_2 N k y0 y1 y2 I L R = some q → ∀ f : State → Prop, (∀ w, q = .inl w → f = qf G (none, w, L, R)) → (∀ z, q = .inr z → V G f 91 [(0, .ref (G.ad y0))] [] z L R) → V G f 2 [(0, .ref (G.ad y0)), (1, .int y1), (2, .int y2)] [] I L R := by
  intro k
  induction k with
  | zero =>
    intro y0 y1 y2 I L R q hk0 ho0 h
    exact absurd h (by simp [LF_X2_keepFrame_2])
  | succ k ih =>
    intro y0 y1 y2 I L R q hk0 ho0 h f kr kx
    rw [LF_X2_keepFrame_2] at h
    refine V_iload_n C0 2 rfl rfl dX2_keepFrame_2 ?_
    refine V_aload_n C0 0 rfl rfl dX2_keepFrame_3 ?_
    obtain ⟨a1, qa1, h⟩ := bnd_some h
    refine V_getR C0 2 0 fl_X2_15 ho0 hk0 rfl (rf_at qa1) dX2_keepFrame_4 ?_
    obtain ⟨v2, q3, h⟩ := bn1_some h
    refine V_callV C0 (st := [.int y2]) (As := []) 9 (c_X10_size G.l G.D G.cA G.ad G.bs G.X C0.2.2.2.2.2.2.2.2.2.1 C0.2.2.2.2.2.2.2.2.2.2.2.2 a1 I L R v2 q3) lc_X10_size lk_X2_235 (rf_lt qa1) (rf_kd qa1) ⟨_, rfl, rfl⟩ rfl (by rw [erm]; decide) (Nat.le_of_ble_eq_true rfl) dX2_keepFrame_7 ?_
    show V G _ 10 [(0, .ref (G.ad y0)), (1, .int y1), (2, .int y2)] [.int v2, .int y2] I L R
    refine V_icmp_ge C0 (tgt := 91) (by decide) dX2_keepFrame_10 (fun c4 => ?_) (fun c4 => ?_)
    · have h := (if_pos c4).symm.trans h
      cases h
      exact V_sub [0] rfl (kx _ rfl)
    · have h := (if_neg c4).symm.trans h
      refine V_aload_n C0 0 rfl rfl dX2_keepFrame_13 ?_
      refine V_getR C0 2 0 fl_X2_15 ho0 hk0 rfl (rf_at qa1) dX2_keepFrame_14 ?_
      refine V_iload_n C0 2 rfl rfl dX2_keepFrame_17 ?_
      obtain ⟨a5, q6, h⟩ := bn1_some h
      refine V_callV C0 (st := []) (As := [.int y2]) 9 (c_X10_unitAt G.l G.D G.cA G.ad G.bs G.X C0.2.2.2.2.2.2.2.2.2.1 C0.2.2.2.2.2.2.2.2.2.2.2.2 a1 y2 I L R a5 q6) lc_X10_unitAt lk_X2_199 (rf_lt qa1) (rf_kd qa1) ⟨_, rfl, rfl⟩ rfl (by rw [erm]; decide) (Nat.le_of_ble_eq_true rfl) dX2_keepFrame_18 ?_
      show V G _ 21 [(0, .ref (G.ad y0)), (1, .int y1), (2, .int y2)] [.ref (G.ad a5)] I L R
      obtain ⟨c7, h⟩ := ite_some h
      refine V_astore_n C0 [(3, .ref (G.ad a5)), (0, .ref (G.ad y0)), (1, .int y1), (2, .int y2)] rfl (by rw [eNL]; decide) rfl dX2_keepFrame_21 ?_
      refine V_aload_n C0 0 rfl rfl dX2_keepFrame_22 ?_
      refine V_iconst C0 (v := (5 : Int32)) (by decide) dX2_keepFrame_23 ?_
      obtain ⟨b8, q9, h⟩ := bn1_some h
      refine V_callV C0 (st := []) (As := [.int (5 : Int32)]) 8 (c_X9_isWhole G.l G.D G.cA G.ad G.bs G.X C0.2.2.2.2.2.2.2.2.2.1 C0.2.2.2.2.2.2.2.2.2.2.2.2 a5 (5 : Int32) I L R b8 q9) lc_X9_isWhole lk_X2_229 c7.2 c7.1 ⟨_, rfl, rfl⟩ rfl (by rw [erm]; decide) (Nat.le_of_ble_eq_true rfl) dX2_keepFrame_24 ?_
      show V G _ 27 [(3, .ref (G.ad a5)), (0, .ref (G.ad y0)), (1, .int y1), (2, .int y2)] [.int (b2i b8)] I L R
      refine V_if_eq C0 (tgt := 85) (by decide) dX2_keepFrame_27 (fun c10 => ?_) (fun c10 => ?_)
      · have h := (if_pos c10).symm.trans h
        obtain ⟨u11, eu11, h⟩ := wr_some h
        refine V_iinc C0 3 [(2, .int u11), (3, .ref (G.ad a5)), (0, .ref (G.ad y0)), (1, .int y1)] rfl (n := 1) (by rw [eu11]; rfl) (by rw [eNL]; decide) rfl dX2_keepFrame_85 ?_
        refine V_goto C0 (tgt := 2) (by decide) dX2_keepFrame_88 ?_
        exact V_sub [2, 3, 0] rfl (ih y0 y1 u11 I L R _ hk0 ho0 h f kr kx)
      · have h := (if_neg c10).symm.trans h
        refine V_aload_n C0 0 rfl rfl dX2_keepFrame_30 ?_
        refine V_bipush C0 (v := (12 : Int32)) (by decide) dX2_keepFrame_31 ?_
        obtain ⟨b12, q13, h⟩ := bn1_some h
        refine V_callV C0 (st := []) (As := [.int (12 : Int32)]) 8 (c_X9_hasRoomFor G.l G.D G.cA G.ad G.bs G.X C0.2.2.2.2.2.2.2.2.2.1 C0.2.2.2.2.2.2.2.2.2.2.2.2 a5 (12 : Int32) I L R b12 q13) lc_X9_hasRoomFor lk_X2_253 c7.2 c7.1 ⟨_, rfl, rfl⟩ rfl (by rw [erm]; decide) (Nat.le_of_ble_eq_true rfl) dX2_keepFrame_33 ?_
        show V G _ 36 [(3, .ref (G.ad a5)), (0, .ref (G.ad y0)), (1, .int y1), (2, .int y2)] [.int (b2i b12)] I L R
        refine V_if_eq C0 (tgt := 85) (by decide) dX2_keepFrame_36 (fun c14 => ?_) (fun c14 => ?_)
        · have h := (if_pos c14).symm.trans h
          obtain ⟨u15, eu15, h⟩ := wr_some h
          refine V_iinc C0 3 [(2, .int u15), (3, .ref (G.ad a5)), (0, .ref (G.ad y0)), (1, .int y1)] rfl (n := 1) (by rw [eu15]; rfl) (by rw [eNL]; decide) rfl dX2_keepFrame_85 ?_
          refine V_goto C0 (tgt := 2) (by decide) dX2_keepFrame_88 ?_
          exact V_sub [2, 3, 0] rfl (ih y0 y1 u15 I L R _ hk0 ho0 h f kr kx)
        · have h := (if_neg c14).symm.trans h
          refine V_aload_n C0 1 rfl rfl dX2_keepFrame_39 ?_
          refine V_iload_n C0 2 rfl rfl dX2_keepFrame_40 ?_
          obtain ⟨I16, q17, h⟩ := bn1_some h
          refine V_callV C0 (st := []) (As := [.int y1]) 2 (c_X2_fillFrame G.l G.D G.cA G.ad G.bs G.X C0.2.2.2.2.2.2.2.2.2.1 C0.2.2.2.2.2.2.2.2.2.2.2.2 N y0 y1 I L R I16 q17) lc_X2_fillFrame lk_X2_259 ho0 hk0 ⟨_, rfl, rfl⟩ rfl (by rw [erm]; decide) (Nat.le_of_ble_eq_true rfl) dX2_keepFrame_41 ?_
          show V G _ 44 [(3, .ref (G.ad a5)), (0, .ref (G.ad y0)), (1, .int y1), (2, .int y2)] [] I16 L R
          refine V_iconst C0 (v := (0 : Int32)) (by decide) dX2_keepFrame_44 ?_
          refine V_istore C0 [(4, .int (0 : Int32)), (3, .ref (G.ad a5)), (0, .ref (G.ad y0)), (1, .int y1), (2, .int y2)] (by rw [eNL]; decide) rfl dX2_keepFrame_45 ?_
          obtain ⟨z24, q25, h⟩ := bn1_some h
          refine V_sub [2, 1, 0] rfl (lp_X2_keepFrame_47 C0 eNL erm N N y0 a5 (0 : Int32) I16 L R _ hk0 ho0 c7.1 c7.2 q25 _ ?_)
          show V G _ 74 [(0, .ref (G.ad y0))] [] z24 L R
          refine V_aload_n C0 0 rfl rfl dX2_keepFrame_74 ?_
          refine V_dup C0 rfl dX2_keepFrame_75 ?_
          refine V_getI C0 2 9 fl_X2_67 ho0 hk0 rfl dX2_keepFrame_76 ?_
          refine V_iconst C0 (v := (1 : Int32)) (by decide) dX2_keepFrame_79 ?_
          refine V_iadd C0 dX2_keepFrame_80 ?_
          obtain ⟨I26, eI26, h⟩ := wr_some h
          refine V_putI C0 2 9 fp_X2_67 ho0 hk0 rfl dX2_keepFrame_81 ?_
          rw [← eI26]
          cases h
          rw [kr _ rfl]
          exact V_vret C0 dX2_keepFrame_84
set_option maxRecDepth 100000 in
set_option maxHeartbeats 4000000 in
theorem c_X2_keepFrame (l : Launch) (D : va_G) (cA : Nat → ClassId) (ad : Nat → Nat) (bs : Nat) (X : State → Prop) (hAd : Ax ad bs) (hX : Stb bs X) (N : Nat) (x0 : Nat) (x1 : Int32) (I : MI) (L : ML) (R : MR) (I' : MI) (h : F_X2_keepFrame N x0 x1 I L R = some (I')) : Cn l D cA ad bs X yX2_keepFrame cX2_keepFrame 5 none 4 87 [.ref (ad x0), .int x1] I L R (none, I', L, R) := by
  refine Cn.ofV hAd hX [(0, .ref (ad x0)), (1, .int x1)] rfl (Nat.le_of_ble_eq_true rfl) (by decide) ?_
  intro G el eD ecA ead ebs eX erm eNL C0
  subst el eD ecA ead ebs eX
  unfold F_X2_keepFrame at h
  obtain ⟨c_x0, h⟩ := ite_some h
  refine V_iconst C0 (v := (0 : Int32)) (by decide) dX2_keepFrame_0 ?_
  refine V_istore_n C0 [(2, .int (0 : Int32)), (0, .ref (G.ad x0)), (1, .int x1)] rfl (by rw [eNL]; decide) rfl dX2_keepFrame_1 ?_
  rcases bsm_some h with ⟨z27, q28, h⟩ | ⟨z27, q28, h⟩
  · refine V_sub [1, 2, 0] rfl (lp_X2_keepFrame_2 C0 eNL erm N N x0 x1 (0 : Int32) I L R _ c_x0.1 c_x0.2 q28 _ (fun w e => ?_) (fun _ e => by cases e))
    cases e
    cases h
    rfl
  · refine V_sub [1, 2, 0] rfl (lp_X2_keepFrame_2 C0 eNL erm N N x0 x1 (0 : Int32) I L R _ c_x0.1 c_x0.2 q28 _ (fun _ e => by cases e) (fun w e => ?_))
    cases e
    show V G _ 91 [(0, .ref (G.ad x0))] [] z27 L R
    refine V_aload_n C0 0 rfl rfl dX2_keepFrame_91 ?_
    refine V_dup C0 rfl dX2_keepFrame_92 ?_
    refine V_getI C0 2 10 fl_X2_70 c_x0.2 c_x0.1 rfl dX2_keepFrame_93 ?_
    refine V_iconst C0 (v := (1 : Int32)) (by decide) dX2_keepFrame_96 ?_
    refine V_iadd C0 dX2_keepFrame_97 ?_
    obtain ⟨I29, eI29, h⟩ := wr_some h
    refine V_putI C0 2 10 fp_X2_70 c_x0.2 c_x0.1 rfl dX2_keepFrame_98 ?_
    rw [← eI29]
    cases h
    exact V_vret C0 dX2_keepFrame_101
