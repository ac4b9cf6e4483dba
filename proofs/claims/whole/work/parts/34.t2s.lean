theorem dX8_isWord_0 : decode cX8_isWord 0 = .ok (.aload_n 0, 1) := by decide +kernel
theorem dX8_isWord_1 : decode cX8_isWord 1 = .ok (.getfield 38, 3) := by decide +kernel
theorem dX8_isWord_4 : decode cX8_isWord 4 = .ok (.iconst 1, 1) := by decide +kernel
theorem dX8_isWord_5 : decode cX8_isWord 5 = .ok (.if_icmp .ne 17, 3) := by decide +kernel
theorem dX8_isWord_8 : decode cX8_isWord 8 = .ok (.aload_n 0, 1) := by decide +kernel
theorem dX8_isWord_9 : decode cX8_isWord 9 = .ok (.getfield 34, 3) := by decide +kernel
theorem dX8_isWord_12 : decode cX8_isWord 12 = .ok (.aload_n 1, 1) := by decide +kernel
theorem dX8_isWord_13 : decode cX8_isWord 13 = .ok (.invokevirtual 41, 3) := by decide +kernel
theorem dX8_isWord_16 : decode cX8_isWord 16 = .ok (.invokestatic 46, 3) := by decide +kernel
theorem dX8_isWord_19 : decode cX8_isWord 19 = .ok (.ifCond .eq 5, 3) := by decide +kernel
theorem dX8_isWord_22 : decode cX8_isWord 22 = .ok (.iconst 0, 1) := by decide +kernel
theorem dX8_isWord_23 : decode cX8_isWord 23 = .ok (.ireturn, 1) := by decide +kernel
theorem dX8_isWord_24 : decode cX8_isWord 24 = .ok (.iconst 0, 1) := by decide +kernel
theorem dX8_isWord_25 : decode cX8_isWord 25 = .ok (.istore_n 2, 1) := by decide +kernel
theorem dX8_isWord_26 : decode cX8_isWord 26 = .ok (.iload_n 2, 1) := by decide +kernel
theorem dX8_isWord_27 : decode cX8_isWord 27 = .ok (.aload_n 1, 1) := by decide +kernel
theorem dX8_isWord_28 : decode cX8_isWord 28 = .ok (.invokevirtual 41, 3) := by decide +kernel
theorem dX8_isWord_31 : decode cX8_isWord 31 = .ok (.if_icmp .ge 27, 3) := by decide +kernel
theorem dX8_isWord_34 : decode cX8_isWord 34 = .ok (.aload_n 0, 1) := by decide +kernel
theorem dX8_isWord_35 : decode cX8_isWord 35 = .ok (.getfield 34, 3) := by decide +kernel
theorem dX8_isWord_38 : decode cX8_isWord 38 = .ok (.iload_n 2, 1) := by decide +kernel
theorem dX8_isWord_39 : decode cX8_isWord 39 = .ok (.invokestatic 46, 3) := by decide +kernel
theorem dX8_isWord_42 : decode cX8_isWord 42 = .ok (.aload_n 1, 1) := by decide +kernel
theorem dX8_isWord_43 : decode cX8_isWord 43 = .ok (.iload_n 2, 1) := by decide +kernel
theorem dX8_isWord_44 : decode cX8_isWord 44 = .ok (.invokevirtual 50, 3) := by decide +kernel
theorem dX8_isWord_47 : decode cX8_isWord 47 = .ok (.if_icmp .eq 5, 3) := by decide +kernel
theorem dX8_isWord_50 : decode cX8_isWord 50 = .ok (.iconst 0, 1) := by decide +kernel
theorem dX8_isWord_51 : decode cX8_isWord 51 = .ok (.ireturn, 1) := by decide +kernel
theorem dX8_isWord_52 : decode cX8_isWord 52 = .ok (.iinc 2 1, 3) := by decide +kernel
theorem dX8_isWord_55 : decode cX8_isWord 55 = .ok (.goto (-29), 3) := by decide +kernel
theorem dX8_isWord_58 : decode cX8_isWord 58 = .ok (.iconst 1, 1) := by decide +kernel
theorem dX8_isWord_59 : decode cX8_isWord 59 = .ok (.ireturn, 1) := by decide +kernel
def LF_X8_isWord_26 (N : Nat) : Nat → Nat → Nat → Int32 → MI → ML → MR → Option (Sum (Bool) (Unit))
  | 0, _, _, _, _, _, _ => none
  | k + 1, y0, y1, y2, I, L, R =>
    if (nI (sN y1)) ≤ y2 then
      some (.inr ())
    else
      bn1 (F_X11_letterOf (L y0 7) y2 I L R) fun v6 =>
      (sA y1 y2).bind fun v8 =>
      if v6 = v8 then
        wr (y2 + (1 : Int32)) fun (u10 : Int32) =>
        LF_X8_isWord_26 N k y0 y1 u10 I L R
      else
        some (.inl (false))
def F_X8_isWord (N : Nat) (x0 : Nat) (x1 : Nat) (I : MI) (L : ML) (R : MR) : Option (Bool) :=
  if kd x0 = 7 ∧ x0 < NN then
  if 400 ≤ x1 ∧ x1 < 439 then
  if (I x0 4) = (1 : Int32) then
    bn1 (F_X11_letterOf (L x0 7) (nI (sN x1)) I L R) fun v2 =>
    if v2 = 0 then
      bsm (LF_X8_isWord_26 N N x0 x1 (0 : Int32) I L R) (fun z11 => some z11) fun z11 =>
      some (true)
    else
      some (false)
  else
    some (false)
  else none
  else none
set_option maxRecDepth 100000 in
set_option maxHeartbeats 4000000 in
theorem lp_X8_isWord_26 {G : Gm} (C0 : Cx G (yX8_isWord.cls) cX8_isWord (some .boolean)) (eNL : G.nL = 3) (erm : G.rm = ({ frames := 5, cells := 0, slots := 0, locals := 106 } : Room)) (ht : Ssb G.ad G.bs G.X) (N : Nat) : ∀ (k : Nat) (y0 : Nat) (y1 : Nat) (y2 : Int32) (I : MI) (L : ML) (R : MR) (q : Sum (Bool) (Unit)) (hk0 : kd y0 = 7) (ho0 : y0 < NN) (hk1 : 400 ≤ y1 ∧ y1 < 439), LF_X8_isWord_26 N k y0 y1 y2 I L R = some q → ∀ f : State → Prop, (∀ w, q = .inl w → f = qf G (some (.int (b2i w)), I, L, R)) → (∀ z, q = .inr z → V G f 58 [] [] I L R) → V G f 26 [(0, .ref (G.ad y0)), (1, .ref (G.ad y1)), (2, .int y2)] [] I L R := by
  intro k
  induction k with
  | zero =>
    intro y0 y1 y2 I L R q hk0 ho0 hk1 h
    exact absurd h (by simp [LF_X8_isWord_26])
  | succ k ih =>
    intro y0 y1 y2 I L R q hk0 ho0 hk1 h f kr kx
    rw [LF_X8_isWord_26] at h
    have hsb := ht _ C0.2.2.2.2.2.2.2.2.2.2.2.1
    refine V_iload_n C0 2 rfl rfl dX8_isWord_26 ?_
    refine V_aload_n C0 1 rfl rfl dX8_isWord_27 ?_
    refine V_strlen C0 ht (st := [.int y2]) hk1 lk_X8_41 (by rw [erm]; decide) (Nat.le_of_ble_eq_true rfl) dX8_isWord_28 ?_
    refine V_icmp_ge C0 (tgt := 58) (by decide) dX8_isWord_31 (fun c5 => ?_) (fun c5 => ?_)
    · have h := (if_pos c5).symm.trans h
      cases h
      exact V_sub [] rfl (kx _ rfl)
    · have h := (if_neg c5).symm.trans h
      refine V_aload_n C0 0 rfl rfl dX8_isWord_34 ?_
      refine V_getL C0 7 7 fl_X8_34 ho0 hk0 rfl dX8_isWord_35 ?_
      refine V_iload_n C0 2 rfl rfl dX8_isWord_38 ?_
      obtain ⟨v6, q7, h⟩ := bn1_some h
      refine V_callS C0 (st := []) (As := [.long (L y0 7), .int y2]) (c_X11_letterOf G.l G.D G.cA G.ad G.bs G.X C0.2.2.2.2.2.2.2.2.2.1 C0.2.2.2.2.2.2.2.2.2.2.2.2 (L y0 7) y2 I L R v6 q7) lc_X11_letterOf lk_X8_46 rfl (by rw [erm]; decide) (Nat.le_of_ble_eq_true rfl) dX8_isWord_39 ?_
      show V G _ 42 [(0, .ref (G.ad y0)), (1, .ref (G.ad y1)), (2, .int y2)] [.int v6] I L R
      refine V_aload_n C0 1 rfl rfl dX8_isWord_42 ?_
      refine V_iload_n C0 2 rfl rfl dX8_isWord_43 ?_
      obtain ⟨v8, qv8, h⟩ := bnd_some h
      refine V_strAt C0 ht (st := [.int v6]) hk1 qv8 lk_X8_50 (by rw [erm]; decide) (Nat.le_of_ble_eq_true rfl) dX8_isWord_44 ?_
      refine V_icmp_eq C0 (tgt := 52) (by decide) dX8_isWord_47 (fun c9 => ?_) (fun c9 => ?_)
      · have h := (if_pos c9).symm.trans h
        obtain ⟨u10, eu10, h⟩ := wr_some h
        refine V_iinc C0 2 [(2, .int u10), (0, .ref (G.ad y0)), (1, .ref (G.ad y1))] rfl (n := 1) (by rw [eu10]; rfl) (by rw [eNL]; decide) rfl dX8_isWord_52 ?_
        refine V_goto C0 (tgt := 26) (by decide) dX8_isWord_55 ?_
        exact V_sub [1, 2, 0] rfl (ih y0 y1 u10 I L R _ hk0 ho0 hk1 h f kr kx)
      · have h := (if_neg c9).symm.trans h
        refine V_iconst C0 (v := (0 : Int32)) (by decide) dX8_isWord_50 ?_
        cases h
        rw [kr _ rfl]
        exact V_zret C0 (by decide) dX8_isWord_51
set_option maxRecDepth 100000 in
set_option maxHeartbeats 4000000 in
theorem c_X8_isWord (l : Launch) (D : va_G) (cA : Nat → ClassId) (ad : Nat → Nat) (bs : Nat) (X : State → Prop) (hAd : Ax ad bs) (hX : Stb bs X) (ht : Ssb ad bs X) (N : Nat) (x0 : Nat) (x1 : Nat) (I : MI) (L : ML) (R : MR) (r : Bool) (h : F_X8_isWord N x0 x1 I L R = some (r)) : Cn l D cA ad bs X yX8_isWord cX8_isWord 3 (some .boolean) 5 106 [.ref (ad x0), .ref (ad x1)] I L R (some (.int (b2i r)), I, L, R) := by
  refine Cn.ofV hAd hX [(0, .ref (ad x0)), (1, .ref (ad x1))] rfl (Nat.le_of_ble_eq_true rfl) (by decide) ?_
  intro G el eD ecA ead ebs eX erm eNL C0
  subst el eD ecA ead ebs eX
  have hsb := ht _ C0.2.2.2.2.2.2.2.2.2.2.2.1
  unfold F_X8_isWord at h
  obtain ⟨c_x0, h⟩ := ite_some h
  obtain ⟨c_x1, h⟩ := ite_some h
  refine V_aload_n C0 0 rfl rfl dX8_isWord_0 ?_
  refine V_getI C0 7 4 fl_X8_38 c_x0.2 c_x0.1 rfl dX8_isWord_1 ?_
  refine V_iconst C0 (v := (1 : Int32)) (by decide) dX8_isWord_4 ?_
  refine V_icmp_ne C0 (tgt := 22) (by decide) dX8_isWord_5 (fun c1 => ?_) (fun c1 => ?_)
  · have h := (if_neg c1).symm.trans h
    refine V_iconst C0 (v := (0 : Int32)) (by decide) dX8_isWord_22 ?_
    cases h
    exact V_zret C0 (by decide) dX8_isWord_23
  · have h := (if_pos c1).symm.trans h
    refine V_aload_n C0 0 rfl rfl dX8_isWord_8 ?_
    refine V_getL C0 7 7 fl_X8_34 c_x0.2 c_x0.1 rfl dX8_isWord_9 ?_
    refine V_aload_n C0 1 rfl rfl dX8_isWord_12 ?_
    refine V_strlen C0 ht (st := [.long (L x0 7)]) c_x1 lk_X8_41 (by rw [erm]; decide) (Nat.le_of_ble_eq_true rfl) dX8_isWord_13 ?_
    obtain ⟨v2, q3, h⟩ := bn1_some h
    refine V_callS C0 (st := []) (As := [.long (L x0 7), .int (nI (sN x1))]) (c_X11_letterOf G.l G.D G.cA G.ad G.bs G.X C0.2.2.2.2.2.2.2.2.2.1 C0.2.2.2.2.2.2.2.2.2.2.2.2 (L x0 7) (nI (sN x1)) I L R v2 q3) lc_X11_letterOf lk_X8_46 rfl (by rw [erm]; decide) (Nat.le_of_ble_eq_true rfl) dX8_isWord_16 ?_
    show V G _ 19 [(0, .ref (G.ad x0)), (1, .ref (G.ad x1))] [.int v2] I L R
    refine V_if_eq C0 (tgt := 24) (by decide) dX8_isWord_19 (fun c4 => ?_) (fun c4 => ?_)
    · have h := (if_pos c4).symm.trans h
      refine V_iconst C0 (v := (0 : Int32)) (by decide) dX8_isWord_24 ?_
      refine V_istore_n C0 [(2, .int (0 : Int32)), (0, .ref (G.ad x0)), (1, .ref (G.ad x1))] rfl (by rw [eNL]; decide) rfl dX8_isWord_25 ?_
      rcases bsm_some h with ⟨z11, q12, h⟩ | ⟨z11, q12, h⟩
      · refine V_sub [1, 2, 0] rfl (lp_X8_isWord_26 C0 eNL erm ht N N x0 x1 (0 : Int32) I L R _ c_x0.1 c_x0.2 c_x1 q12 _ (fun w e => ?_) (fun _ e => by cases e))
        cases e
        cases h
        rfl
      · refine V_sub [1, 2, 0] rfl (lp_X8_isWord_26 C0 eNL erm ht N N x0 x1 (0 : Int32) I L R _ c_x0.1 c_x0.2 c_x1 q12 _ (fun _ e => by cases e) (fun w e => ?_))
        cases e
        show V G _ 58 [] [] I L R
        refine V_iconst C0 (v := (1 : Int32)) (by decide) dX8_isWord_58 ?_
        cases h
        exact V_zret C0 (by decide) dX8_isWord_59
    · have h := (if_neg c4).symm.trans h
      refine V_iconst C0 (v := (0 : Int32)) (by decide) dX8_isWord_22 ?_
      cases h
      exact V_zret C0 (by decide) dX8_isWord_23
theorem dX4_readIn_0 : decode cX4_readIn 0 = .ok (.iconst 0, 1) := by decide +kernel
theorem dX4_readIn_1 : decode cX4_readIn 1 = .ok (.istore_n 1, 1) := by decide +kernel
theorem dX4_readIn_2 : decode cX4_readIn 2 = .ok (.iload_n 1, 1) := by decide +kernel
theorem dX4_readIn_3 : decode cX4_readIn 3 = .ok (.getstatic 108, 3) := by decide +kernel
theorem dX4_readIn_6 : decode cX4_readIn 6 = .ok (.arraylength, 1) := by decide +kernel
theorem dX4_readIn_7 : decode cX4_readIn 7 = .ok (.if_icmp .ge 30, 3) := by decide +kernel
theorem dX4_readIn_10 : decode cX4_readIn 10 = .ok (.aload_n 0, 1) := by decide +kernel
theorem dX4_readIn_11 : decode cX4_readIn 11 = .ok (.getstatic 108, 3) := by decide +kernel
theorem dX4_readIn_14 : decode cX4_readIn 14 = .ok (.iload_n 1, 1) := by decide +kernel
theorem dX4_readIn_15 : decode cX4_readIn 15 = .ok (.aaload, 1) := by decide +kernel
theorem dX4_readIn_16 : decode cX4_readIn 16 = .ok (.getfield 91, 3) := by decide +kernel
theorem dX4_readIn_19 : decode cX4_readIn 19 = .ok (.invokevirtual 111, 3) := by decide +kernel
theorem dX4_readIn_22 : decode cX4_readIn 22 = .ok (.ifCond .eq 9, 3) := by decide +kernel
theorem dX4_readIn_25 : decode cX4_readIn 25 = .ok (.getstatic 108, 3) := by decide +kernel
theorem dX4_readIn_28 : decode cX4_readIn 28 = .ok (.iload_n 1, 1) := by decide +kernel
theorem dX4_readIn_29 : decode cX4_readIn 29 = .ok (.aaload, 1) := by decide +kernel
theorem dX4_readIn_30 : decode cX4_readIn 30 = .ok (.areturn, 1) := by decide +kernel
theorem dX4_readIn_31 : decode cX4_readIn 31 = .ok (.iinc 1 1, 3) := by decide +kernel
theorem dX4_readIn_34 : decode cX4_readIn 34 = .ok (.goto (-32), 3) := by decide +kernel
theorem dX4_readIn_37 : decode cX4_readIn 37 = .ok (.aconst_null, 1) := by decide +kernel
theorem dX4_readIn_38 : decode cX4_readIn 38 = .ok (.areturn, 1) := by decide +kernel
def LF_X4_readIn_2 (N : Nat) : Nat → Nat → Int32 → MI → ML → MR → Option (Sum (Option Nat) (Unit))
  | 0, _, _, _, _, _ => none
  | k + 1, y0, y1, I, L, R =>
    if (22 : Int32) ≤ y1 then
      some (.inr ())
    else
      (rk y1).bind fun a2 =>
      bn1 (F_X8_isWord N y0 (a2 + 90) I L R) fun b3 =>
      if (b2i b3) = 0 then
        wr (y1 + (1 : Int32)) fun (u6 : Int32) =>
        LF_X4_readIn_2 N k y0 u6 I L R
      else
        (rk y1).bind fun a7 =>
        some (.inl ((some a7)))
def F_X4_readIn (N : Nat) (x0 : Nat) (I : MI) (L : ML) (R : MR) : Option (Option Nat) :=
  if kd x0 = 7 ∧ x0 < NN then
  bsm (LF_X4_readIn_2 N N x0 (0 : Int32) I L R) (fun z8 => some z8) fun z8 =>
  some (none)
  else none
set_option maxRecDepth 100000 in
set_option maxHeartbeats 4000000 in
theorem lp_X4_readIn_2 {G : Gm} (C0 : Cx G (yX4_readIn.cls) cX4_readIn (some (.object "SmallCraft$Kind"))) (eNL : G.nL = 2) (erm : G.rm = ({ frames := 6, cells := 0, slots := 0, locals := 128 } : Room)) (ht : Ssb G.ad G.bs G.X) (N : Nat) : ∀ (k : Nat) (y0 : Nat) (y1 : Int32) (I : MI) (L : ML) (R : MR) (q : Sum (Option Nat) (Unit)) (hk0 : kd y0 = 7) (ho0 : y0 < NN), LF_X4_readIn_2 N k y0 y1 I L R = some q → ∀ f : State → Prop, (∀ w, q = .inl w → f = qf G (some (va_rf (Option.map G.ad w)), I, L, R)) → (∀ z, q = .inr z → V G f 37 [] [] I L R) → V G f 2 [(0, .ref (G.ad y0)), (1, .int y1)] [] I L R := by
  intro k
  induction k with
  | zero =>
    intro y0 y1 I L R q hk0 ho0 h
    exact absurd h (by simp [LF_X4_readIn_2])
  | succ k ih =>
    intro y0 y1 I L R q hk0 ho0 h f kr kx
    rw [LF_X4_readIn_2] at h
    have hsb := ht _ C0.2.2.2.2.2.2.2.2.2.2.2.1
    refine V_iload_n C0 1 rfl rfl dX4_readIn_2 ?_
    refine V_gets C0 hsb.2.2.2.2.1.1 (Or.inl (gW_in _ (tb_3 _ (List.mem_of_getElem? (i := 168) rfl)) rfl)) dX4_readIn_3 ?_
    refine V_tlenB C0 (v := (22 : Int32)) hsb.2.2.2.2.1.2 (by decide) dX4_readIn_6 ?_
    refine V_icmp_ge C0 (tgt := 37) (by decide) dX4_readIn_7 (fun c1 => ?_) (fun c1 => ?_)
    · have h := (if_pos c1).symm.trans h
      cases h
      exact V_sub [] rfl (kx _ rfl)
    · have h := (if_neg c1).symm.trans h
      refine V_aload_n C0 0 rfl rfl dX4_readIn_10 ?_
      refine V_gets C0 hsb.2.2.2.2.1.1 (Or.inl (gW_in _ (tb_3 _ (List.mem_of_getElem? (i := 168) rfl)) rfl)) dX4_readIn_11 ?_
      refine V_iload_n C0 1 rfl rfl dX4_readIn_14 ?_
      obtain ⟨a2, qa2, h⟩ := bnd_some h
      refine V_rk C0 hsb qa2 dX4_readIn_15 ?_
      refine V_getOF C0 (kO hsb (rk_ok qa2)).2.1 (Or.inl (gW_in _ (tb_9 _ (List.mem_of_getElem? (i := 212) rfl)) rfl)) dX4_readIn_16 ?_
      obtain ⟨b3, q4, h⟩ := bn1_some h
      refine V_callV C0 (st := []) (As := [.ref (G.ad (a2 + 90))]) 7 (c_X8_isWord G.l G.D G.cA G.ad G.bs G.X C0.2.2.2.2.2.2.2.2.2.1 C0.2.2.2.2.2.2.2.2.2.2.2.2 ht N y0 (a2 + 90) I L R b3 q4) lc_X8_isWord lk_X4_111 ho0 hk0 ⟨_, rfl, rfl⟩ rfl (by rw [erm]; decide) (Nat.le_of_ble_eq_true rfl) dX4_readIn_19 ?_
      show V G _ 22 [(0, .ref (G.ad y0)), (1, .int y1)] [.int (b2i b3)] I L R
      refine V_if_eq C0 (tgt := 31) (by decide) dX4_readIn_22 (fun c5 => ?_) (fun c5 => ?_)
      · have h := (if_pos c5).symm.trans h
        obtain ⟨u6, eu6, h⟩ := wr_some h
        refine V_iinc C0 1 [(1, .int u6), (0, .ref (G.ad y0))] rfl (n := 1) (by rw [eu6]; rfl) (by rw [eNL]; decide) rfl dX4_readIn_31 ?_
        refine V_goto C0 (tgt := 2) (by decide) dX4_readIn_34 ?_
        exact V_sub [1, 0] rfl (ih y0 u6 I L R _ hk0 ho0 h f kr kx)
      · have h := (if_neg c5).symm.trans h
        refine V_gets C0 hsb.2.2.2.2.1.1 (Or.inl (gW_in _ (tb_3 _ (List.mem_of_getElem? (i := 168) rfl)) rfl)) dX4_readIn_25 ?_
        refine V_iload_n C0 1 rfl rfl dX4_readIn_28 ?_
        obtain ⟨a7, qa7, h⟩ := bnd_some h
        refine V_rk C0 hsb qa7 dX4_readIn_29 ?_
        cases h
        rw [kr _ rfl]
        exact V_aretN (some a7) C0 dX4_readIn_30
set_option maxRecDepth 100000 in
set_option maxHeartbeats 4000000 in
theorem c_X4_readIn (l : Launch) (D : va_G) (cA : Nat → ClassId) (ad : Nat → Nat) (bs : Nat) (X : State → Prop) (hAd : Ax ad bs) (hX : Stb bs X) (ht : Ssb ad bs X) (N : Nat) (x0 : Nat) (I : MI) (L : ML) (R : MR) (r : Option Nat) (h : F_X4_readIn N x0 I L R = some (r)) : Cn l D cA ad bs X yX4_readIn cX4_readIn 2 (some (.object "SmallCraft$Kind")) 6 128 [.ref (ad x0)] I L R (some (va_rf (Option.map ad r)), I, L, R) := by
  refine Cn.ofV hAd hX [(0, .ref (ad x0))] rfl (Nat.le_of_ble_eq_true rfl) (by decide) ?_
  intro G el eD ecA ead ebs eX erm eNL C0
  subst el eD ecA ead ebs eX
  have hsb := ht _ C0.2.2.2.2.2.2.2.2.2.2.2.1
  unfold F_X4_readIn at h
  obtain ⟨c_x0, h⟩ := ite_some h
  refine V_iconst C0 (v := (0 : Int32)) (by decide) dX4_readIn_0 ?_
  refine V_istore_n C0 [(1, .int (0 : Int32)), (0, .ref (G.ad x0))] rfl (by rw [eNL]; decide) rfl dX4_readIn_1 ?_
  rcases bsm_some h with ⟨z8, q9, h⟩ | ⟨z8, q9, h⟩
  · refine V_sub [1, 0] rfl (lp_X4_readIn_2 C0 eNL erm ht N N x0 (0 : Int32) I L R _ c_x0.1 c_x0.2 q9 _ (fun w e => ?_) (fun _ e => by cases e))
    cases e
    cases h
    rfl
  · refine V_sub [1, 0] rfl (lp_X4_readIn_2 C0 eNL erm ht N N x0 (0 : Int32) I L R _ c_x0.1 c_x0.2 q9 _ (fun _ e => by cases e) (fun w e => ?_))
    cases e
    show V G _ 37 [] [] I L R
    refine V_null C0 dX4_readIn_37 ?_
    cases h
    exact V_aretN none C0 dX4_readIn_38
theorem dX4_formOf_0 : decode cX4_formOf 0 = .ok (.iload_n 1, 1) := by decide +kernel
theorem dX4_formOf_1 : decode cX4_formOf 1 = .ok (.ifCond .ne 8, 3) := by decide +kernel
theorem dX4_formOf_4 : decode cX4_formOf 4 = .ok (.aload_n 0, 1) := by decide +kernel
theorem dX4_formOf_5 : decode cX4_formOf 5 = .ok (.getfield 99, 3) := by decide +kernel
theorem dX4_formOf_8 : decode cX4_formOf 8 = .ok (.ireturn, 1) := by decide +kernel
theorem dX4_formOf_9 : decode cX4_formOf 9 = .ok (.iload_n 1, 1) := by decide +kernel
theorem dX4_formOf_10 : decode cX4_formOf 10 = .ok (.iconst 1, 1) := by decide +kernel
theorem dX4_formOf_11 : decode cX4_formOf 11 = .ok (.if_icmp .ne 10, 3) := by decide +kernel
theorem dX4_formOf_14 : decode cX4_formOf 14 = .ok (.aload_n 0, 1) := by decide +kernel
theorem dX4_formOf_15 : decode cX4_formOf 15 = .ok (.getfield 102, 3) := by decide +kernel
theorem dX4_formOf_18 : decode cX4_formOf 18 = .ok (.goto 7, 3) := by decide +kernel
theorem dX4_formOf_21 : decode cX4_formOf 21 = .ok (.aload_n 0, 1) := by decide +kernel
theorem dX4_formOf_22 : decode cX4_formOf 22 = .ok (.getfield 105, 3) := by decide +kernel
theorem dX4_formOf_25 : decode cX4_formOf 25 = .ok (.ireturn, 1) := by decide +kernel
def F_X4_formOf (x0 : Nat) (x1 : Int32) (I : MI) (L : ML) (R : MR) : Option (Int32) :=
  if 310 ≤ x0 ∧ x0 < 332 then
  if x1 = 0 then
    some ((kF x0 1))
  else
    if x1 = (1 : Int32) then
      some ((kF x0 2))
    else
      some ((kF x0 3))
  else none
set_option maxRecDepth 100000 in
set_option maxHeartbeats 4000000 in
theorem c_X4_formOf (l : Launch) (D : va_G) (cA : Nat → ClassId) (ad : Nat → Nat) (bs : Nat) (X : State → Prop) (hAd : Ax ad bs) (hX : Stb bs X) (ht : Ssb ad bs X) (x0 : Nat) (x1 : Int32) (I : MI) (L : ML) (R : MR) (r : Int32) (h : F_X4_formOf x0 x1 I L R = some (r)) : Cn l D cA ad bs X yX4_formOf cX4_formOf 2 (some .int) 0 0 [.ref (ad x0), .int x1] I L R (some (.int r), I, L, R) := by
  refine Cn.ofV hAd hX [(0, .ref (ad x0)), (1, .int x1)] rfl (Nat.le_of_ble_eq_true rfl) (by decide) ?_
  intro G el eD ecA ead ebs eX erm eNL C0
  subst el eD ecA ead ebs eX
  have hsb := ht _ C0.2.2.2.2.2.2.2.2.2.2.2.1
  unfold F_X4_formOf at h
  obtain ⟨c_x0, h⟩ := ite_some h
  refine V_iload_n C0 1 rfl rfl dX4_formOf_0 ?_
  refine V_if_ne C0 (tgt := 9) (by decide) dX4_formOf_1 (fun c1 => ?_) (fun c1 => ?_)
  · have h := (if_neg c1).symm.trans h
    refine V_iload_n C0 1 rfl rfl dX4_formOf_9 ?_
    refine V_iconst C0 (v := (1 : Int32)) (by decide) dX4_formOf_10 ?_
    refine V_icmp_ne C0 (tgt := 21) (by decide) dX4_formOf_11 (fun c2 => ?_) (fun c2 => ?_)
    · have h := (if_neg c2).symm.trans h
      refine V_aload_n C0 0 rfl rfl dX4_formOf_21 ?_
      refine V_getOF C0 (kO hsb c_x0).2.2.2.2.2 (Or.inl (gW_in _ (tb_9 _ (List.mem_of_getElem? (i := 218) rfl)) rfl)) dX4_formOf_22 ?_
      cases h
      exact V_iret C0 dX4_formOf_25
    · have h := (if_pos c2).symm.trans h
      refine V_aload_n C0 0 rfl rfl dX4_formOf_14 ?_
      refine V_getOF C0 (kO hsb c_x0).2.2.2.2.1 (Or.inl (gW_in _ (tb_9 _ (List.mem_of_getElem? (i := 217) rfl)) rfl)) dX4_formOf_15 ?_
      refine V_goto C0 (tgt := 25) (by decide) dX4_formOf_18 ?_
      cases h
      exact V_iret C0 dX4_formOf_25
  · have h := (if_pos c1).symm.trans h
    refine V_aload_n C0 0 rfl rfl dX4_formOf_4 ?_
    refine V_getOF C0 (kO hsb c_x0).2.2.2.1 (Or.inl (gW_in _ (tb_9 _ (List.mem_of_getElem? (i := 216) rfl)) rfl)) dX4_formOf_5 ?_
    cases h
    exact V_iret C0 dX4_formOf_8
theorem dX0_readNumbers_0 : decode cX0_readNumbers 0 = .ok (.iconst 0, 1) := by decide +kernel
theorem dX0_readNumbers_1 : decode cX0_readNumbers 1 = .ok (.istore_n 3, 1) := by decide +kernel
theorem dX0_readNumbers_2 : decode cX0_readNumbers 2 = .ok (.iload_n 3, 1) := by decide +kernel
theorem dX0_readNumbers_3 : decode cX0_readNumbers 3 = .ok (.iconst 3, 1) := by decide +kernel
theorem dX0_readNumbers_4 : decode cX0_readNumbers 4 = .ok (.if_icmp .ge 87, 3) := by decide +kernel
theorem dX0_readNumbers_7 : decode cX0_readNumbers 7 = .ok (.aload_n 2, 1) := by decide +kernel
theorem dX0_readNumbers_8 : decode cX0_readNumbers 8 = .ok (.iload_n 3, 1) := by decide +kernel
theorem dX0_readNumbers_9 : decode cX0_readNumbers 9 = .ok (.invokevirtual 70, 3) := by decide +kernel
theorem dX0_readNumbers_12 : decode cX0_readNumbers 12 = .ok (.istore 4, 2) := by decide +kernel
theorem dX0_readNumbers_14 : decode cX0_readNumbers 14 = .ok (.iconst 3, 1) := by decide +kernel
theorem dX0_readNumbers_15 : decode cX0_readNumbers 15 = .ok (.aload_n 0, 1) := by decide +kernel
theorem dX0_readNumbers_16 : decode cX0_readNumbers 16 = .ok (.getfield 22, 3) := by decide +kernel
theorem dX0_readNumbers_19 : decode cX0_readNumbers 19 = .ok (.imul, 1) := by decide +kernel
theorem dX0_readNumbers_20 : decode cX0_readNumbers 20 = .ok (.iload_n 3, 1) := by decide +kernel
theorem dX0_readNumbers_21 : decode cX0_readNumbers 21 = .ok (.iadd, 1) := by decide +kernel
theorem dX0_readNumbers_22 : decode cX0_readNumbers 22 = .ok (.istore 5, 2) := by decide +kernel
theorem dX0_readNumbers_24 : decode cX0_readNumbers 24 = .ok (.iload 4, 2) := by decide +kernel
theorem dX0_readNumbers_26 : decode cX0_readNumbers 26 = .ok (.ifCond .eq 18, 3) := by decide +kernel
theorem dX0_readNumbers_29 : decode cX0_readNumbers 29 = .ok (.iload 5, 2) := by decide +kernel
theorem dX0_readNumbers_31 : decode cX0_readNumbers 31 = .ok (.ifCond .lt 13, 3) := by decide +kernel
theorem dX0_readNumbers_34 : decode cX0_readNumbers 34 = .ok (.iload 5, 2) := by decide +kernel
theorem dX0_readNumbers_36 : decode cX0_readNumbers 36 = .ok (.aload_n 0, 1) := by decide +kernel
theorem dX0_readNumbers_37 : decode cX0_readNumbers 37 = .ok (.getfield 19, 3) := by decide +kernel
theorem dX0_readNumbers_40 : decode cX0_readNumbers 40 = .ok (.arraylength, 1) := by decide +kernel
theorem dX0_readNumbers_41 : decode cX0_readNumbers 41 = .ok (.if_icmp .lt 5, 3) := by decide +kernel
theorem dX0_readNumbers_44 : decode cX0_readNumbers 44 = .ok (.iconst 1, 1) := by decide +kernel
theorem dX0_readNumbers_45 : decode cX0_readNumbers 45 = .ok (.ireturn, 1) := by decide +kernel
theorem dX0_readNumbers_46 : decode cX0_readNumbers 46 = .ok (.aload_n 1, 1) := by decide +kernel
theorem dX0_readNumbers_47 : decode cX0_readNumbers 47 = .ok (.invokevirtual 74, 3) := by decide +kernel
theorem dX0_readNumbers_50 : decode cX0_readNumbers 50 = .ok (.ifCond .ne 5, 3) := by decide +kernel
theorem dX0_readNumbers_53 : decode cX0_readNumbers 53 = .ok (.iconst 0, 1) := by decide +kernel
theorem dX0_readNumbers_54 : decode cX0_readNumbers 54 = .ok (.ireturn, 1) := by decide +kernel
theorem dX0_readNumbers_55 : decode cX0_readNumbers 55 = .ok (.aload_n 0, 1) := by decide +kernel
theorem dX0_readNumbers_56 : decode cX0_readNumbers 56 = .ok (.iload 4, 2) := by decide +kernel
theorem dX0_readNumbers_58 : decode cX0_readNumbers 58 = .ok (.aload_n 1, 1) := by decide +kernel
theorem dX0_readNumbers_59 : decode cX0_readNumbers 59 = .ok (.invokevirtual 77, 3) := by decide +kernel
theorem dX0_readNumbers_62 : decode cX0_readNumbers 62 = .ok (.invokevirtual 81, 3) := by decide +kernel
theorem dX0_readNumbers_65 : decode cX0_readNumbers 65 = .ok (.ifCond .ne 9, 3) := by decide +kernel
theorem dX0_readNumbers_68 : decode cX0_readNumbers 68 = .ok (.aload_n 1, 1) := by decide +kernel
theorem dX0_readNumbers_69 : decode cX0_readNumbers 69 = .ok (.iconst 5, 1) := by decide +kernel
theorem dX0_readNumbers_70 : decode cX0_readNumbers 70 = .ok (.invokevirtual 45, 3) := by decide +kernel
theorem dX0_readNumbers_73 : decode cX0_readNumbers 73 = .ok (.ireturn, 1) := by decide +kernel
theorem dX0_readNumbers_74 : decode cX0_readNumbers 74 = .ok (.aload_n 0, 1) := by decide +kernel
theorem dX0_readNumbers_75 : decode cX0_readNumbers 75 = .ok (.getfield 19, 3) := by decide +kernel
theorem dX0_readNumbers_78 : decode cX0_readNumbers 78 = .ok (.iload 5, 2) := by decide +kernel
theorem dX0_readNumbers_80 : decode cX0_readNumbers 80 = .ok (.aload_n 1, 1) := by decide +kernel
theorem dX0_readNumbers_81 : decode cX0_readNumbers 81 = .ok (.invokevirtual 77, 3) := by decide +kernel
theorem dX0_readNumbers_84 : decode cX0_readNumbers 84 = .ok (.iastore, 1) := by decide +kernel
theorem dX0_readNumbers_85 : decode cX0_readNumbers 85 = .ok (.iinc 3 1, 3) := by decide +kernel
theorem dX0_readNumbers_88 : decode cX0_readNumbers 88 = .ok (.goto (-86), 3) := by decide +kernel
theorem dX0_readNumbers_91 : decode cX0_readNumbers 91 = .ok (.iconst 1, 1) := by decide +kernel
theorem dX0_readNumbers_92 : decode cX0_readNumbers 92 = .ok (.ireturn, 1) := by decide +kernel
def LF_X0_readNumbers_2 (N : Nat) : Nat → Nat → Nat → Nat → Int32 → MI → ML → MR → Option (Sum (Bool × MI × ML) (MI × ML))
  | 0, _, _, _, _, _, _, _ => none
  | k + 1, y0, y1, y2, y3, I, L, R =>
    if (3 : Int32) ≤ y3 then
      some (.inr (I, L))
    else
      bn1 (F_X4_formOf y2 y3 I L R) fun v2 =>
      wr (((3 : Int32) * (I y0 3)) + y3) fun (u4 : Int32) =>
      if v2 = 0 then
        some (.inl (true, I, L))
      else
        if u4 < 0 then
          some (.inl (true, I, L))
        else
          (rf R y0 2 20).bind fun a7 =>
          if u4 < (Int32.ofNat (ln a7)) then
            bn3 (F_X8_takeNumber N y1 I L R) fun b9 I10 L11 =>
            if (b2i b9) = 0 then
              some (.inl (false, I10, L11))
            else
              bn1 (F_X8_number y1 I10 L11 R) fun v14 =>
              bn1 (F_X0_fits y0 v2 v14 I10 L11 R) fun b16 =>
              if (b2i b16) = 0 then
                bn2 (F_X8_refuse y1 (5 : Int32) I10 L11 R) fun b23 I24 =>
                some (.inl (b23, I24, L11))
              else
                bn1 (F_X8_number y1 I10 L11 R) fun v19 =>
                (wi I10 a7 u4 v19).bind fun I21 =>
                wr (y3 + (1 : Int32)) fun (u22 : Int32) =>
                LF_X0_readNumbers_2 N k y0 y1 y2 u22 I21 L11 R
          else
            some (.inl (true, I, L))
def F_X0_readNumbers (N : Nat) (x0 : Nat) (x1 : Nat) (x2 : Nat) (I : MI) (L : ML) (R : MR) : Option (Bool × MI × ML) :=
  if kd x0 = 0 ∧ x0 < NN then
  if kd x1 = 7 ∧ x1 < NN then
  if 310 ≤ x2 ∧ x2 < 332 then
  bsm (LF_X0_readNumbers_2 N N x0 x1 x2 (0 : Int32) I L R) (fun z26 => some z26) fun z26 =>
  some (true, z26.1, z26.2)
  else none
  else none
  else none
set_option maxRecDepth 100000 in
set_option maxHeartbeats 4000000 in
theorem lp_X0_readNumbers_2 {G : Gm} (C0 : Cx G (yX0_readNumbers.cls) cX0_readNumbers (some .boolean)) (eNL : G.nL = 6) (erm : G.rm = ({ frames := 4, cells := 0, slots := 0, locals := 84 } : Room)) (ht : Ssb G.ad G.bs G.X) (N : Nat) : ∀ (k : Nat) (y0 : Nat) (y1 : Nat) (y2 : Nat) (y3 : Int32) (I : MI) (L : ML) (R : MR) (q : Sum (Bool × MI × ML) (MI × ML)) (hk0 : kd y0 = 0) (ho0 : y0 < NN) (hk1 : kd y1 = 7) (ho1 : y1 < NN) (hk2 : 310 ≤ y2 ∧ y2 < 332), LF_X0_readNumbers_2 N k y0 y1 y2 y3 I L R = some q → ∀ f : State → Prop, (∀ w, q = .inl w → f = qf G (some (.int (b2i w.1)), w.2.1, w.2.2, R)) → (∀ z, q = .inr z → V G f 91 [] [] z.1 z.2 R) → V G f 2 [(0, .ref (G.ad y0)), (1, .ref (G.ad y1)), (2, .ref (G.ad y2)), (3, .int y3)] [] I L R := by
  intro k
  induction k with
  | zero =>
    intro y0 y1 y2 y3 I L R q hk0 ho0 hk1 ho1 hk2 h
    exact absurd h (by simp [LF_X0_readNumbers_2])
  | succ k ih =>
    intro y0 y1 y2 y3 I L R q hk0 ho0 hk1 ho1 hk2 h f kr kx
    rw [LF_X0_readNumbers_2] at h
    have hsb := ht _ C0.2.2.2.2.2.2.2.2.2.2.2.1
    refine V_iload_n C0 3 rfl rfl dX0_readNumbers_2 ?_
    refine V_iconst C0 (v := (3 : Int32)) (by decide) dX0_readNumbers_3 ?_
    refine V_icmp_ge C0 (tgt := 91) (by decide) dX0_readNumbers_4 (fun c1 => ?_) (fun c1 => ?_)
    · have h := (if_pos c1).symm.trans h
      cases h
      exact V_sub [] rfl (kx _ rfl)
    · have h := (if_neg c1).symm.trans h
      refine V_aload_n C0 2 rfl rfl dX0_readNumbers_7 ?_
      refine V_iload_n C0 3 rfl rfl dX0_readNumbers_8 ?_
      obtain ⟨v2, q3, h⟩ := bn1_some h
      refine V_callO C0 (st := []) (As := [.int y3]) (c_X4_formOf G.l G.D G.cA G.ad G.bs G.X C0.2.2.2.2.2.2.2.2.2.1 C0.2.2.2.2.2.2.2.2.2.2.2.2 ht y2 y3 I L R v2 q3) lc_X4_formOf lk_X0_70 (kO hsb hk2).1 rfl (by rw [erm]; decide) (Nat.le_of_ble_eq_true rfl) dX0_readNumbers_9 ?_
      show V G _ 12 [(0, .ref (G.ad y0)), (1, .ref (G.ad y1)), (2, .ref (G.ad y2)), (3, .int y3)] [.int v2] I L R
      refine V_istore C0 [(4, .int v2), (0, .ref (G.ad y0)), (1, .ref (G.ad y1)), (2, .ref (G.ad y2)), (3, .int y3)] (by rw [eNL]; decide) rfl dX0_readNumbers_12 ?_
      refine V_iconst C0 (v := (3 : Int32)) (by decide) dX0_readNumbers_14 ?_
      refine V_aload_n C0 1 rfl rfl dX0_readNumbers_15 ?_
      refine V_getI C0 0 3 fl_X0_22 ho0 hk0 rfl dX0_readNumbers_16 ?_
      refine V_imul C0 dX0_readNumbers_19 ?_
      refine V_iload_n C0 4 rfl rfl dX0_readNumbers_20 ?_
      refine V_iadd C0 dX0_readNumbers_21 ?_
      obtain ⟨u4, eu4, h⟩ := wr_some h
      rw [← eu4]
      refine V_istore C0 [(5, .int u4), (4, .int v2), (0, .ref (G.ad y0)), (1, .ref (G.ad y1)), (2, .ref (G.ad y2)), (3, .int y3)] (by rw [eNL]; decide) rfl dX0_readNumbers_22 ?_
      refine V_iload C0 1 rfl dX0_readNumbers_24 ?_
      refine V_if_eq C0 (tgt := 44) (by decide) dX0_readNumbers_26 (fun c5 => ?_) (fun c5 => ?_)
      · have h := (if_pos c5).symm.trans h
        refine V_iconst C0 (v := (1 : Int32)) (by decide) dX0_readNumbers_44 ?_
        cases h
        rw [kr _ rfl]
        exact V_zret (x := (1 : Int32)) C0 (by decide) dX0_readNumbers_45
      · have h := (if_neg c5).symm.trans h
        refine V_iload C0 0 rfl dX0_readNumbers_29 ?_
        refine V_if_lt C0 (tgt := 44) (by decide) dX0_readNumbers_31 (fun c6 => ?_) (fun c6 => ?_)
        · have h := (if_pos c6).symm.trans h
          refine V_iconst C0 (v := (1 : Int32)) (by decide) dX0_readNumbers_44 ?_
          cases h
          rw [kr _ rfl]
          exact V_zret (x := (1 : Int32)) C0 (by decide) dX0_readNumbers_45
        · have h := (if_neg c6).symm.trans h
          refine V_iload C0 0 rfl dX0_readNumbers_34 ?_
          refine V_aload_n C0 2 rfl rfl dX0_readNumbers_36 ?_
          obtain ⟨a7, qa7, h⟩ := bnd_some h
          refine V_getR C0 0 2 fl_X0_19 ho0 hk0 rfl (rf_at qa7) dX0_readNumbers_37 ?_
          refine V_alen C0 (v := Int32.ofNat (ln a7)) (rf_lt qa7) (by rw [(rf_kd qa7)]; decide) rfl dX0_readNumbers_40 ?_
          refine V_icmp_lt C0 (tgt := 46) (by decide) dX0_readNumbers_41 (fun c8 => ?_) (fun c8 => ?_)
          · have h := (if_pos c8).symm.trans h
            refine V_aload_n C0 3 rfl rfl dX0_readNumbers_46 ?_
            obtain ⟨b9, I10, L11, q12, h⟩ := bn3_some h
            refine V_callV C0 (st := []) (As := []) 7 (c_X8_takeNumber G.l G.D G.cA G.ad G.bs G.X C0.2.2.2.2.2.2.2.2.2.1 C0.2.2.2.2.2.2.2.2.2.2.2.2 N y1 I L R b9 I10 L11 q12) lc_X8_takeNumber lk_X0_74 ho1 hk1 ⟨_, rfl, rfl⟩ rfl (by rw [erm]; decide) (Nat.le_of_ble_eq_true rfl) dX0_readNumbers_47 ?_
            show V G _ 50 [(5, .int u4), (4, .int v2), (0, .ref (G.ad y0)), (1, .ref (G.ad y1)), (2, .ref (G.ad y2)), (3, .int y3)] [.int (b2i b9)] I10 L11 R
            refine V_if_ne C0 (tgt := 55) (by decide) dX0_readNumbers_50 (fun c13 => ?_) (fun c13 => ?_)
            · have h := (if_neg c13).symm.trans h
              refine V_aload_n C0 2 rfl rfl dX0_readNumbers_55 ?_
              refine V_iload C0 1 rfl dX0_readNumbers_56 ?_
              refine V_aload_n C0 3 rfl rfl dX0_readNumbers_58 ?_
              obtain ⟨v14, q15, h⟩ := bn1_some h
              refine V_callV C0 (st := [.int v2, .ref (G.ad y0)]) (As := []) 7 (c_X8_number G.l G.D G.cA G.ad G.bs G.X C0.2.2.2.2.2.2.2.2.2.1 C0.2.2.2.2.2.2.2.2.2.2.2.2 y1 I10 L11 R v14 q15) lc_X8_number lk_X0_77 ho1 hk1 ⟨_, rfl, rfl⟩ rfl (by rw [erm]; decide) (Nat.le_of_ble_eq_true rfl) dX0_readNumbers_59 ?_
              show V G _ 62 [(5, .int u4), (4, .int v2), (0, .ref (G.ad y0)), (1, .ref (G.ad y1)), (2, .ref (G.ad y2)), (3, .int y3)] [.int v14, .int v2, .ref (G.ad y0)] I10 L11 R
              obtain ⟨b16, q17, h⟩ := bn1_some h
              refine V_callV C0 (st := []) (As := [.int v2, .int v14]) 0 (c_X0_fits G.l G.D G.cA G.ad G.bs G.X C0.2.2.2.2.2.2.2.2.2.1 C0.2.2.2.2.2.2.2.2.2.2.2.2 y0 v2 v14 I10 L11 R b16 q17) lc_X0_fits lk_X0_81 ho0 hk0 ⟨_, rfl, rfl⟩ rfl (by rw [erm]; decide) (Nat.le_of_ble_eq_true rfl) dX0_readNumbers_62 ?_
              show V G _ 65 [(5, .int u4), (4, .int v2), (0, .ref (G.ad y0)), (1, .ref (G.ad y1)), (2, .ref (G.ad y2)), (3, .int y3)] [.int (b2i b16)] I10 L11 R
              refine V_if_ne C0 (tgt := 74) (by decide) dX0_readNumbers_65 (fun c18 => ?_) (fun c18 => ?_)
              · have h := (if_neg c18).symm.trans h
                refine V_aload_n C0 2 rfl rfl dX0_readNumbers_74 ?_
                refine V_getR C0 0 2 fl_X0_19 ho0 hk0 rfl (rf_at qa7) dX0_readNumbers_75 ?_
                refine V_iload C0 0 rfl dX0_readNumbers_78 ?_
                refine V_aload_n C0 3 rfl rfl dX0_readNumbers_80 ?_
                obtain ⟨v19, q20, h⟩ := bn1_some h
                refine V_callV C0 (st := [.int u4, .ref (G.ad a7)]) (As := []) 7 (c_X8_number G.l G.D G.cA G.ad G.bs G.X C0.2.2.2.2.2.2.2.2.2.1 C0.2.2.2.2.2.2.2.2.2.2.2.2 y1 I10 L11 R v19 q20) lc_X8_number lk_X0_77 ho1 hk1 ⟨_, rfl, rfl⟩ rfl (by rw [erm]; decide) (Nat.le_of_ble_eq_true rfl) dX0_readNumbers_81 ?_
                show V G _ 84 [(5, .int u4), (4, .int v2), (0, .ref (G.ad y0)), (1, .ref (G.ad y1)), (2, .ref (G.ad y2)), (3, .int y3)] [.int v19, .int u4, .ref (G.ad a7)] I10 L11 R
                obtain ⟨I21, qI21, h⟩ := bnd_some h
                refine V_wi C0 (rf_lt qa7) (rf_kd qa7) qI21 dX0_readNumbers_84 ?_
                obtain ⟨u22, eu22, h⟩ := wr_some h
                refine V_iinc C0 5 [(3, .int u22), (5, .int u4), (4, .int v2), (0, .ref (G.ad y0)), (1, .ref (G.ad y1)), (2, .ref (G.ad y2))] rfl (n := 1) (by rw [eu22]; rfl) (by rw [eNL]; decide) rfl dX0_readNumbers_85 ?_
                refine V_goto C0 (tgt := 2) (by decide) dX0_readNumbers_88 ?_
                exact V_sub [3, 4, 5, 0] rfl (ih y0 y1 y2 u22 I21 L11 R _ hk0 ho0 hk1 ho1 hk2 h f kr kx)
              · have h := (if_pos c18).symm.trans h
                refine V_aload_n C0 3 rfl rfl dX0_readNumbers_68 ?_
                refine V_iconst C0 (v := (5 : Int32)) (by decide) dX0_readNumbers_69 ?_
                obtain ⟨b23, I24, q25, h⟩ := bn2_some h
                refine V_callV C0 (st := []) (As := [.int (5 : Int32)]) 7 (c_X8_refuse G.l G.D G.cA G.ad G.bs G.X C0.2.2.2.2.2.2.2.2.2.1 C0.2.2.2.2.2.2.2.2.2.2.2.2 y1 (5 : Int32) I10 L11 R b23 I24 q25) lc_X8_refuse lk_X0_45 ho1 hk1 ⟨_, rfl, rfl⟩ rfl (by rw [erm]; decide) (Nat.le_of_ble_eq_true rfl) dX0_readNumbers_70 ?_
                show V G _ 73 [(5, .int u4), (4, .int v2), (0, .ref (G.ad y0)), (1, .ref (G.ad y1)), (2, .ref (G.ad y2)), (3, .int y3)] [.int (b2i b23)] I24 L11 R
                cases h
                rw [kr _ rfl]
                exact V_zret C0 (b2i01 _) dX0_readNumbers_73
            · have h := (if_pos c13).symm.trans h
              refine V_iconst C0 (v := (0 : Int32)) (by decide) dX0_readNumbers_53 ?_
              cases h
              rw [kr _ rfl]
              exact V_zret (x := (0 : Int32)) C0 (by decide) dX0_readNumbers_54
          · have h := (if_neg c8).symm.trans h
            refine V_iconst C0 (v := (1 : Int32)) (by decide) dX0_readNumbers_44 ?_
            cases h
            rw [kr _ rfl]
            exact V_zret (x := (1 : Int32)) C0 (by decide) dX0_readNumbers_45
set_option maxRecDepth 100000 in
set_option maxHeartbeats 4000000 in
theorem c_X0_readNumbers (l : Launch) (D : va_G) (cA : Nat → ClassId) (ad : Nat → Nat) (bs : Nat) (X : State → Prop) (hAd : Ax ad bs) (hX : Stb bs X) (ht : Ssb ad bs X) (N : Nat) (x0 : Nat) (x1 : Nat) (x2 : Nat) (I : MI) (L : ML) (R : MR) (r : Bool) (I' : MI) (L' : ML) (h : F_X0_readNumbers N x0 x1 x2 I L R = some (r, I', L')) : Cn l D cA ad bs X yX0_readNumbers cX0_readNumbers 6 (some .boolean) 4 84 [.ref (ad x0), .ref (ad x1), .ref (ad x2)] I L R (some (.int (b2i r)), I', L', R) := by
  refine Cn.ofV hAd hX [(0, .ref (ad x0)), (1, .ref (ad x1)), (2, .ref (ad x2))] rfl (Nat.le_of_ble_eq_true rfl) (by decide) ?_
  intro G el eD ecA ead ebs eX erm eNL C0
  subst el eD ecA ead ebs eX
  have hsb := ht _ C0.2.2.2.2.2.2.2.2.2.2.2.1
  unfold F_X0_readNumbers at h
  obtain ⟨c_x0, h⟩ := ite_some h
  obtain ⟨c_x1, h⟩ := ite_some h
  obtain ⟨c_x2, h⟩ := ite_some h
  refine V_iconst C0 (v := (0 : Int32)) (by decide) dX0_readNumbers_0 ?_
  refine V_istore_n C0 [(3, .int (0 : Int32)), (0, .ref (G.ad x0)), (1, .ref (G.ad x1)), (2, .ref (G.ad x2))] rfl (by rw [eNL]; decide) rfl dX0_readNumbers_1 ?_
  rcases bsm_some h with ⟨z26, q27, h⟩ | ⟨z26, q27, h⟩
  · refine V_sub [1, 2, 3, 0] rfl (lp_X0_readNumbers_2 C0 eNL erm ht N N x0 x1 x2 (0 : Int32) I L R _ c_x0.1 c_x0.2 c_x1.1 c_x1.2 c_x2 q27 _ (fun w e => ?_) (fun _ e => by cases e))
    cases e
    cases h
    rfl
  · refine V_sub [1, 2, 3, 0] rfl (lp_X0_readNumbers_2 C0 eNL erm ht N N x0 x1 x2 (0 : Int32) I L R _ c_x0.1 c_x0.2 c_x1.1 c_x1.2 c_x2 q27 _ (fun _ e => by cases e) (fun w e => ?_))
    cases e
    show V G _ 91 [] [] z26.1 z26.2 R
    refine V_iconst C0 (v := (1 : Int32)) (by decide) dX0_readNumbers_91 ?_
    cases h
    exact V_zret C0 (by decide) dX0_readNumbers_92
theorem dX0_readUnit_0 : decode cX0_readUnit 0 = .ok (.aload_n 1, 1) := by decide +kernel
theorem dX0_readUnit_1 : decode cX0_readUnit 1 = .ok (.invokestatic 39, 3) := by decide +kernel
theorem dX0_readUnit_4 : decode cX0_readUnit 4 = .ok (.astore_n 2, 1) := by decide +kernel
theorem dX0_readUnit_5 : decode cX0_readUnit 5 = .ok (.aload_n 2, 1) := by decide +kernel
theorem dX0_readUnit_6 : decode cX0_readUnit 6 = .ok (.ifnonnull 9, 3) := by decide +kernel
theorem dX0_readUnit_9 : decode cX0_readUnit 9 = .ok (.aload_n 1, 1) := by decide +kernel
theorem dX0_readUnit_10 : decode cX0_readUnit 10 = .ok (.iconst 2, 1) := by decide +kernel
theorem dX0_readUnit_11 : decode cX0_readUnit 11 = .ok (.invokevirtual 45, 3) := by decide +kernel
theorem dX0_readUnit_14 : decode cX0_readUnit 14 = .ok (.ireturn, 1) := by decide +kernel
theorem dX0_readUnit_15 : decode cX0_readUnit 15 = .ok (.aload_n 0, 1) := by decide +kernel
theorem dX0_readUnit_16 : decode cX0_readUnit 16 = .ok (.getfield 22, 3) := by decide +kernel
theorem dX0_readUnit_19 : decode cX0_readUnit 19 = .ok (.ifCond .lt 12, 3) := by decide +kernel
theorem dX0_readUnit_22 : decode cX0_readUnit 22 = .ok (.aload_n 0, 1) := by decide +kernel
theorem dX0_readUnit_23 : decode cX0_readUnit 23 = .ok (.getfield 22, 3) := by decide +kernel
theorem dX0_readUnit_26 : decode cX0_readUnit 26 = .ok (.bipush 20, 2) := by decide +kernel
theorem dX0_readUnit_28 : decode cX0_readUnit 28 = .ok (.if_icmp .lt 9, 3) := by decide +kernel
theorem dX0_readUnit_31 : decode cX0_readUnit 31 = .ok (.aload_n 1, 1) := by decide +kernel
theorem dX0_readUnit_32 : decode cX0_readUnit 32 = .ok (.iconst 4, 1) := by decide +kernel
theorem dX0_readUnit_33 : decode cX0_readUnit 33 = .ok (.invokevirtual 45, 3) := by decide +kernel
theorem dX0_readUnit_36 : decode cX0_readUnit 36 = .ok (.ireturn, 1) := by decide +kernel
theorem dX0_readUnit_37 : decode cX0_readUnit 37 = .ok (.aload_n 1, 1) := by decide +kernel
theorem dX0_readUnit_38 : decode cX0_readUnit 38 = .ok (.invokevirtual 26, 3) := by decide +kernel
theorem dX0_readUnit_41 : decode cX0_readUnit 41 = .ok (.aload_n 1, 1) := by decide +kernel
theorem dX0_readUnit_42 : decode cX0_readUnit 42 = .ok (.invokevirtual 49, 3) := by decide +kernel
theorem dX0_readUnit_45 : decode cX0_readUnit 45 = .ok (.ifCond .ne 9, 3) := by decide +kernel
theorem dX0_readUnit_48 : decode cX0_readUnit 48 = .ok (.aload_n 1, 1) := by decide +kernel
theorem dX0_readUnit_49 : decode cX0_readUnit 49 = .ok (.iconst 2, 1) := by decide +kernel
theorem dX0_readUnit_50 : decode cX0_readUnit 50 = .ok (.invokevirtual 45, 3) := by decide +kernel
theorem dX0_readUnit_53 : decode cX0_readUnit 53 = .ok (.ireturn, 1) := by decide +kernel
theorem dX0_readUnit_54 : decode cX0_readUnit 54 = .ok (.aload_n 0, 1) := by decide +kernel
theorem dX0_readUnit_55 : decode cX0_readUnit 55 = .ok (.aload_n 1, 1) := by decide +kernel
theorem dX0_readUnit_56 : decode cX0_readUnit 56 = .ok (.invokevirtual 52, 3) := by decide +kernel
theorem dX0_readUnit_59 : decode cX0_readUnit 59 = .ok (.invokevirtual 56, 3) := by decide +kernel
theorem dX0_readUnit_62 : decode cX0_readUnit 62 = .ok (.ifCond .eq 9, 3) := by decide +kernel
theorem dX0_readUnit_65 : decode cX0_readUnit 65 = .ok (.aload_n 1, 1) := by decide +kernel
theorem dX0_readUnit_66 : decode cX0_readUnit 66 = .ok (.iconst 3, 1) := by decide +kernel
theorem dX0_readUnit_67 : decode cX0_readUnit 67 = .ok (.invokevirtual 45, 3) := by decide +kernel
theorem dX0_readUnit_70 : decode cX0_readUnit 70 = .ok (.ireturn, 1) := by decide +kernel
theorem dX0_readUnit_71 : decode cX0_readUnit 71 = .ok (.aload_n 0, 1) := by decide +kernel
theorem dX0_readUnit_72 : decode cX0_readUnit 72 = .ok (.getfield 9, 3) := by decide +kernel
theorem dX0_readUnit_75 : decode cX0_readUnit 75 = .ok (.aload_n 0, 1) := by decide +kernel
theorem dX0_readUnit_76 : decode cX0_readUnit 76 = .ok (.getfield 22, 3) := by decide +kernel
theorem dX0_readUnit_79 : decode cX0_readUnit 79 = .ok (.aload_n 2, 1) := by decide +kernel
theorem dX0_readUnit_80 : decode cX0_readUnit 80 = .ok (.getfield 60, 3) := by decide +kernel
theorem dX0_readUnit_83 : decode cX0_readUnit 83 = .ok (.iastore, 1) := by decide +kernel
theorem dX0_readUnit_84 : decode cX0_readUnit 84 = .ok (.aload_n 0, 1) := by decide +kernel
theorem dX0_readUnit_85 : decode cX0_readUnit 85 = .ok (.getfield 15, 3) := by decide +kernel
theorem dX0_readUnit_88 : decode cX0_readUnit 88 = .ok (.aload_n 0, 1) := by decide +kernel
theorem dX0_readUnit_89 : decode cX0_readUnit 89 = .ok (.getfield 22, 3) := by decide +kernel
theorem dX0_readUnit_92 : decode cX0_readUnit 92 = .ok (.aload_n 1, 1) := by decide +kernel
theorem dX0_readUnit_93 : decode cX0_readUnit 93 = .ok (.invokevirtual 52, 3) := by decide +kernel
theorem dX0_readUnit_96 : decode cX0_readUnit 96 = .ok (.lastore, 1) := by decide +kernel
theorem dX0_readUnit_97 : decode cX0_readUnit 97 = .ok (.aload_n 0, 1) := by decide +kernel
theorem dX0_readUnit_98 : decode cX0_readUnit 98 = .ok (.aload_n 1, 1) := by decide +kernel
theorem dX0_readUnit_99 : decode cX0_readUnit 99 = .ok (.aload_n 2, 1) := by decide +kernel
theorem dX0_readUnit_100 : decode cX0_readUnit 100 = .ok (.invokevirtual 63, 3) := by decide +kernel
theorem dX0_readUnit_103 : decode cX0_readUnit 103 = .ok (.ifCond .eq 12, 3) := by decide +kernel
theorem dX0_readUnit_106 : decode cX0_readUnit 106 = .ok (.aload_n 1, 1) := by decide +kernel
theorem dX0_readUnit_107 : decode cX0_readUnit 107 = .ok (.bipush 59, 2) := by decide +kernel
theorem dX0_readUnit_109 : decode cX0_readUnit 109 = .ok (.invokevirtual 67, 3) := by decide +kernel
theorem dX0_readUnit_112 : decode cX0_readUnit 112 = .ok (.ifCond .ne 5, 3) := by decide +kernel
theorem dX0_readUnit_115 : decode cX0_readUnit 115 = .ok (.iconst 0, 1) := by decide +kernel
theorem dX0_readUnit_116 : decode cX0_readUnit 116 = .ok (.ireturn, 1) := by decide +kernel
theorem dX0_readUnit_117 : decode cX0_readUnit 117 = .ok (.aload_n 0, 1) := by decide +kernel
theorem dX0_readUnit_118 : decode cX0_readUnit 118 = .ok (.dup, 1) := by decide +kernel
theorem dX0_readUnit_119 : decode cX0_readUnit 119 = .ok (.getfield 22, 3) := by decide +kernel
theorem dX0_readUnit_122 : decode cX0_readUnit 122 = .ok (.iconst 1, 1) := by decide +kernel
theorem dX0_readUnit_123 : decode cX0_readUnit 123 = .ok (.iadd, 1) := by decide +kernel
theorem dX0_readUnit_124 : decode cX0_readUnit 124 = .ok (.putfield 22, 3) := by decide +kernel
theorem dX0_readUnit_127 : decode cX0_readUnit 127 = .ok (.iconst 1, 1) := by decide +kernel
theorem dX0_readUnit_128 : decode cX0_readUnit 128 = .ok (.ireturn, 1) := by decide +kernel
def F_X0_readUnit (N : Nat) (x0 : Nat) (x1 : Nat) (I : MI) (L : ML) (R : MR) : Option (Bool × MI × ML) :=
  if kd x0 = 0 ∧ x0 < NN then
  if kd x1 = 7 ∧ x1 < NN then
  bn1 (F_X4_readIn N x1 I L R) fun o1 =>
  bno o1 (
    bn2 (F_X8_refuse x1 (2 : Int32) I L R) fun b5 I6 =>
    some (b5, I6, L)
  ) fun a3 =>
  if 310 ≤ a3 ∧ a3 < 332 then
  if (I x0 3) < 0 then
    bn2 (F_X8_refuse x1 (4 : Int32) I L R) fun b9 I10 =>
    some (b9, I10, L)
  else
    if (I x0 3) < (20 : Int32) then
      bn2 (F_X8_next N x1 I L R) fun I13 L14 =>
      bn1 (F_X8_isAnyWord x1 I13 L14 R) fun b16 =>
      if (b2i b16) = 0 then
        bn2 (F_X8_refuse x1 (2 : Int32) I13 L14 R) fun b44 I45 =>
        some (b44, I45, L14)
      else
        bn1 (F_X8_wordRead x1 I13 L14 R) fun v19 =>
        bn1 (F_X0_isTaken N x0 v19 I13 L14 R) fun b21 =>
        if (b2i b21) = 0 then
          (rf R x0 0 20).bind fun a24 =>
          (wi I13 a24 (I13 x0 3) (kF a3 0)).bind fun I25 =>
          (rf R x0 1 21).bind fun a26 =>
          bn1 (F_X8_wordRead x1 I25 L14 R) fun v27 =>
          (wg L14 a26 (I25 x0 3) v27).bind fun L29 =>
          bn3 (F_X0_readNumbers N x0 x1 a3 I25 L29 R) fun b30 I31 L32 =>
          if (b2i b30) = 0 then
            some (false, I31, L32)
          else
            bn3 (F_X8_takeSign N x1 (59 : Int32) I31 L32 R) fun b35 I36 L37 =>
            if (b2i b35) = 0 then
              some (false, I36, L37)
            else
              wr (uI I36 x0 3 ((I36 x0 3) + (1 : Int32))) fun (I40 : MI) =>
              some (true, I40, L37)
        else
          bn2 (F_X8_refuse x1 (3 : Int32) I13 L14 R) fun b41 I42 =>
          some (b41, I42, L14)
    else
      bn2 (F_X8_refuse x1 (4 : Int32) I L R) fun b47 I48 =>
      some (b47, I48, L)
  else none
  else none
  else none
set_option maxRecDepth 100000 in
set_option maxHeartbeats 4000000 in
theorem c_X0_readUnit (l : Launch) (D : va_G) (cA : Nat → ClassId) (ad : Nat → Nat) (bs : Nat) (X : State → Prop) (hAd : Ax ad bs) (hX : Stb bs X) (ht : Ssb ad bs X) (N : Nat) (x0 : Nat) (x1 : Nat) (I : MI) (L : ML) (R : MR) (r : Bool) (I' : MI) (L' : ML) (h : F_X0_readUnit N x0 x1 I L R = some (r, I', L')) : Cn l D cA ad bs X yX0_readUnit cX0_readUnit 3 (some .boolean) 7 149 [.ref (ad x0), .ref (ad x1)] I L R (some (.int (b2i r)), I', L', R) := by
  refine Cn.ofV hAd hX [(0, .ref (ad x0)), (1, .ref (ad x1))] rfl (Nat.le_of_ble_eq_true rfl) (by decide) ?_
  intro G el eD ecA ead ebs eX erm eNL C0
  subst el eD ecA ead ebs eX
  have hsb := ht _ C0.2.2.2.2.2.2.2.2.2.2.2.1
  unfold F_X0_readUnit at h
  obtain ⟨c_x0, h⟩ := ite_some h
  obtain ⟨c_x1, h⟩ := ite_some h
  refine V_aload_n C0 1 rfl rfl dX0_readUnit_0 ?_
  obtain ⟨o1, q2, h⟩ := bn1_some h
  refine V_callS C0 (st := []) (As := [.ref (G.ad x1)]) (c_X4_readIn G.l G.D G.cA G.ad G.bs G.X C0.2.2.2.2.2.2.2.2.2.1 C0.2.2.2.2.2.2.2.2.2.2.2.2 ht N x1 I L R o1 q2) lc_X4_readIn lk_X0_39 rfl (by rw [erm]; decide) (Nat.le_of_ble_eq_true rfl) dX0_readUnit_1 ?_
  rcases bno_some h with ⟨e4, hb50⟩ | ⟨a3, e4, hb50⟩
  · subst e4
    show V G _ 4 [(0, .ref (G.ad x0)), (1, .ref (G.ad x1))] [.null] I L R
    have h := hb50
    refine V_astore_nN C0 [(2, .null), (0, .ref (G.ad x0)), (1, .ref (G.ad x1))] rfl (by rw [eNL]; decide) rfl dX0_readUnit_4 ?_
    refine V_aload_nN C0 0 rfl rfl dX0_readUnit_5 ?_
    refine V_ifnonnullN C0 dX0_readUnit_6 ?_
    refine V_aload_n C0 2 rfl rfl dX0_readUnit_9 ?_
    refine V_iconst C0 (v := (2 : Int32)) (by decide) dX0_readUnit_10 ?_
    obtain ⟨b5, I6, q7, h⟩ := bn2_some h
    refine V_callV C0 (st := []) (As := [.int (2 : Int32)]) 7 (c_X8_refuse G.l G.D G.cA G.ad G.bs G.X C0.2.2.2.2.2.2.2.2.2.1 C0.2.2.2.2.2.2.2.2.2.2.2.2 x1 (2 : Int32) I L R b5 I6 q7) lc_X8_refuse lk_X0_45 c_x1.2 c_x1.1 ⟨_, rfl, rfl⟩ rfl (by rw [erm]; decide) (Nat.le_of_ble_eq_true rfl) dX0_readUnit_11 ?_
    show V G _ 14 [(2, .null), (0, .ref (G.ad x0)), (1, .ref (G.ad x1))] [.int (b2i b5)] I6 L R
    cases h
    exact V_zret C0 (b2i01 _) dX0_readUnit_14
  · subst e4
    show V G _ 4 [(0, .ref (G.ad x0)), (1, .ref (G.ad x1))] [.ref (G.ad a3)] I L R
    have h := hb50
    obtain ⟨c_a3, h⟩ := ite_some h
    refine V_astore_n C0 [(2, .ref (G.ad a3)), (0, .ref (G.ad x0)), (1, .ref (G.ad x1))] rfl (by rw [eNL]; decide) rfl dX0_readUnit_4 ?_
    refine V_aload_n C0 0 rfl rfl dX0_readUnit_5 ?_
    refine V_ifnonnull C0 (tgt := 15) (by decide) dX0_readUnit_6 ?_
    refine V_aload_n C0 1 rfl rfl dX0_readUnit_15 ?_
    refine V_getI C0 0 3 fl_X0_22 c_x0.2 c_x0.1 rfl dX0_readUnit_16 ?_
    refine V_if_lt C0 (tgt := 31) (by decide) dX0_readUnit_19 (fun c8 => ?_) (fun c8 => ?_)
    · have h := (if_pos c8).symm.trans h
      refine V_aload_n C0 2 rfl rfl dX0_readUnit_31 ?_
      refine V_iconst C0 (v := (4 : Int32)) (by decide) dX0_readUnit_32 ?_
      obtain ⟨b9, I10, q11, h⟩ := bn2_some h
      refine V_callV C0 (st := []) (As := [.int (4 : Int32)]) 7 (c_X8_refuse G.l G.D G.cA G.ad G.bs G.X C0.2.2.2.2.2.2.2.2.2.1 C0.2.2.2.2.2.2.2.2.2.2.2.2 x1 (4 : Int32) I L R b9 I10 q11) lc_X8_refuse lk_X0_45 c_x1.2 c_x1.1 ⟨_, rfl, rfl⟩ rfl (by rw [erm]; decide) (Nat.le_of_ble_eq_true rfl) dX0_readUnit_33 ?_
      show V G _ 36 [(2, .ref (G.ad a3)), (0, .ref (G.ad x0)), (1, .ref (G.ad x1))] [.int (b2i b9)] I10 L R
      cases h
      exact V_zret C0 (b2i01 _) dX0_readUnit_36
    · have h := (if_neg c8).symm.trans h
      refine V_aload_n C0 1 rfl rfl dX0_readUnit_22 ?_
      refine V_getI C0 0 3 fl_X0_22 c_x0.2 c_x0.1 rfl dX0_readUnit_23 ?_
      refine V_bipush C0 (v := (20 : Int32)) (by decide) dX0_readUnit_26 ?_
      refine V_icmp_lt C0 (tgt := 37) (by decide) dX0_readUnit_28 (fun c12 => ?_) (fun c12 => ?_)
      · have h := (if_pos c12).symm.trans h
        refine V_aload_n C0 2 rfl rfl dX0_readUnit_37 ?_
        obtain ⟨I13, L14, q15, h⟩ := bn2_some h
        refine V_callV C0 (st := []) (As := []) 7 (c_X8_next G.l G.D G.cA G.ad G.bs G.X C0.2.2.2.2.2.2.2.2.2.1 C0.2.2.2.2.2.2.2.2.2.2.2.2 N x1 I L R I13 L14 q15) lc_X8_next lk_X0_26 c_x1.2 c_x1.1 ⟨_, rfl, rfl⟩ rfl (by rw [erm]; decide) (Nat.le_of_ble_eq_true rfl) dX0_readUnit_38 ?_
        show V G _ 41 [(2, .ref (G.ad a3)), (0, .ref (G.ad x0)), (1, .ref (G.ad x1))] [] I13 L14 R
        refine V_aload_n C0 2 rfl rfl dX0_readUnit_41 ?_
        obtain ⟨b16, q17, h⟩ := bn1_some h
        refine V_callV C0 (st := []) (As := []) 7 (c_X8_isAnyWord G.l G.D G.cA G.ad G.bs G.X C0.2.2.2.2.2.2.2.2.2.1 C0.2.2.2.2.2.2.2.2.2.2.2.2 x1 I13 L14 R b16 q17) lc_X8_isAnyWord lk_X0_49 c_x1.2 c_x1.1 ⟨_, rfl, rfl⟩ rfl (by rw [erm]; decide) (Nat.le_of_ble_eq_true rfl) dX0_readUnit_42 ?_
        show V G _ 45 [(2, .ref (G.ad a3)), (0, .ref (G.ad x0)), (1, .ref (G.ad x1))] [.int (b2i b16)] I13 L14 R
        refine V_if_ne C0 (tgt := 54) (by decide) dX0_readUnit_45 (fun c18 => ?_) (fun c18 => ?_)
        · have h := (if_neg c18).symm.trans h
          refine V_aload_n C0 1 rfl rfl dX0_readUnit_54 ?_
          refine V_aload_n C0 2 rfl rfl dX0_readUnit_55 ?_
          obtain ⟨v19, q20, h⟩ := bn1_some h
          refine V_callV C0 (st := [.ref (G.ad x0)]) (As := []) 7 (c_X8_wordRead G.l G.D G.cA G.ad G.bs G.X C0.2.2.2.2.2.2.2.2.2.1 C0.2.2.2.2.2.2.2.2.2.2.2.2 x1 I13 L14 R v19 q20) lc_X8_wordRead lk_X0_52 c_x1.2 c_x1.1 ⟨_, rfl, rfl⟩ rfl (by rw [erm]; decide) (Nat.le_of_ble_eq_true rfl) dX0_readUnit_56 ?_
          show V G _ 59 [(2, .ref (G.ad a3)), (0, .ref (G.ad x0)), (1, .ref (G.ad x1))] [.long v19, .ref (G.ad x0)] I13 L14 R
          obtain ⟨b21, q22, h⟩ := bn1_some h
          refine V_callV C0 (st := []) (As := [.long v19]) 0 (c_X0_isTaken G.l G.D G.cA G.ad G.bs G.X C0.2.2.2.2.2.2.2.2.2.1 C0.2.2.2.2.2.2.2.2.2.2.2.2 N x0 v19 I13 L14 R b21 q22) lc_X0_isTaken lk_X0_56 c_x0.2 c_x0.1 ⟨_, rfl, rfl⟩ rfl (by rw [erm]; decide) (Nat.le_of_ble_eq_true rfl) dX0_readUnit_59 ?_
          show V G _ 62 [(2, .ref (G.ad a3)), (0, .ref (G.ad x0)), (1, .ref (G.ad x1))] [.int (b2i b21)] I13 L14 R
          refine V_if_eq C0 (tgt := 71) (by decide) dX0_readUnit_62 (fun c23 => ?_) (fun c23 => ?_)
          · have h := (if_pos c23).symm.trans h
            refine V_aload_n C0 1 rfl rfl dX0_readUnit_71 ?_
            obtain ⟨a24, qa24, h⟩ := bnd_some h
            refine V_getR C0 0 0 fl_X0_9 c_x0.2 c_x0.1 rfl (rf_at qa24) dX0_readUnit_72 ?_
            refine V_aload_n C0 1 rfl rfl dX0_readUnit_75 ?_
            refine V_getI C0 0 3 fl_X0_22 c_x0.2 c_x0.1 rfl dX0_readUnit_76 ?_
            refine V_aload_n C0 0 rfl rfl dX0_readUnit_79 ?_
            refine V_getOF C0 (kO hsb c_a3).2.2.1 (Or.inr ⟨"SmallCraft", nW_in _ (tb_9 _ (List.mem_of_getElem? (i := 215) rfl)) rfl⟩) dX0_readUnit_80 ?_
            obtain ⟨I25, qI25, h⟩ := bnd_some h
            refine V_wi C0 (rf_lt qa24) (rf_kd qa24) qI25 dX0_readUnit_83 ?_
            refine V_aload_n C0 1 rfl rfl dX0_readUnit_84 ?_
            obtain ⟨a26, qa26, h⟩ := bnd_some h
            refine V_getR C0 0 1 fl_X0_15 c_x0.2 c_x0.1 rfl (rf_at qa26) dX0_readUnit_85 ?_
            refine V_aload_n C0 1 rfl rfl dX0_readUnit_88 ?_
            refine V_getI C0 0 3 fl_X0_22 c_x0.2 c_x0.1 rfl dX0_readUnit_89 ?_
            refine V_aload_n C0 2 rfl rfl dX0_readUnit_92 ?_
            obtain ⟨v27, q28, h⟩ := bn1_some h
            refine V_callV C0 (st := [.int (I25 x0 3), .ref (G.ad a26)]) (As := []) 7 (c_X8_wordRead G.l G.D G.cA G.ad G.bs G.X C0.2.2.2.2.2.2.2.2.2.1 C0.2.2.2.2.2.2.2.2.2.2.2.2 x1 I25 L14 R v27 q28) lc_X8_wordRead lk_X0_52 c_x1.2 c_x1.1 ⟨_, rfl, rfl⟩ rfl (by rw [erm]; decide) (Nat.le_of_ble_eq_true rfl) dX0_readUnit_93 ?_
            show V G _ 96 [(2, .ref (G.ad a3)), (0, .ref (G.ad x0)), (1, .ref (G.ad x1))] [.long v27, .int (I25 x0 3), .ref (G.ad a26)] I25 L14 R
            obtain ⟨L29, qL29, h⟩ := bnd_some h
            refine V_wg C0 (rf_lt qa26) (rf_kd qa26) qL29 dX0_readUnit_96 ?_
            refine V_aload_n C0 1 rfl rfl dX0_readUnit_97 ?_
            refine V_aload_n C0 2 rfl rfl dX0_readUnit_98 ?_
            refine V_aload_n C0 0 rfl rfl dX0_readUnit_99 ?_
            obtain ⟨b30, I31, L32, q33, h⟩ := bn3_some h
            refine V_callV C0 (st := []) (As := [.ref (G.ad x1), .ref (G.ad a3)]) 0 (c_X0_readNumbers G.l G.D G.cA G.ad G.bs G.X C0.2.2.2.2.2.2.2.2.2.1 C0.2.2.2.2.2.2.2.2.2.2.2.2 ht N x0 x1 a3 I25 L29 R b30 I31 L32 q33) lc_X0_readNumbers lk_X0_63 c_x0.2 c_x0.1 ⟨_, rfl, rfl⟩ rfl (by rw [erm]; decide) (Nat.le_of_ble_eq_true rfl) dX0_readUnit_100 ?_
            show V G _ 103 [(2, .ref (G.ad a3)), (0, .ref (G.ad x0)), (1, .ref (G.ad x1))] [.int (b2i b30)] I31 L32 R
            refine V_if_eq C0 (tgt := 115) (by decide) dX0_readUnit_103 (fun c34 => ?_) (fun c34 => ?_)
            · have h := (if_pos c34).symm.trans h
              refine V_iconst C0 (v := (0 : Int32)) (by decide) dX0_readUnit_115 ?_
              cases h
              exact V_zret C0 (by decide) dX0_readUnit_116
            · have h := (if_neg c34).symm.trans h
              refine V_aload_n C0 2 rfl rfl dX0_readUnit_106 ?_
              refine V_bipush C0 (v := (59 : Int32)) (by decide) dX0_readUnit_107 ?_
              obtain ⟨b35, I36, L37, q38, h⟩ := bn3_some h
              refine V_callV C0 (st := []) (As := [.int (59 : Int32)]) 7 (c_X8_takeSign G.l G.D G.cA G.ad G.bs G.X C0.2.2.2.2.2.2.2.2.2.1 C0.2.2.2.2.2.2.2.2.2.2.2.2 N x1 (59 : Int32) I31 L32 R b35 I36 L37 q38) lc_X8_takeSign lk_X0_67 c_x1.2 c_x1.1 ⟨_, rfl, rfl⟩ rfl (by rw [erm]; decide) (Nat.le_of_ble_eq_true rfl) dX0_readUnit_109 ?_
              show V G _ 112 [(2, .ref (G.ad a3)), (0, .ref (G.ad x0)), (1, .ref (G.ad x1))] [.int (b2i b35)] I36 L37 R
              refine V_if_ne C0 (tgt := 117) (by decide) dX0_readUnit_112 (fun c39 => ?_) (fun c39 => ?_)
              · have h := (if_neg c39).symm.trans h
                refine V_aload_n C0 1 rfl rfl dX0_readUnit_117 ?_
                refine V_dup C0 rfl dX0_readUnit_118 ?_
                refine V_getI C0 0 3 fl_X0_22 c_x0.2 c_x0.1 rfl dX0_readUnit_119 ?_
                refine V_iconst C0 (v := (1 : Int32)) (by decide) dX0_readUnit_122 ?_
                refine V_iadd C0 dX0_readUnit_123 ?_
                obtain ⟨I40, eI40, h⟩ := wr_some h
                refine V_putI C0 0 3 fp_X0_22 c_x0.2 c_x0.1 rfl dX0_readUnit_124 ?_
                rw [← eI40]
                refine V_iconst C0 (v := (1 : Int32)) (by decide) dX0_readUnit_127 ?_
                cases h
                exact V_zret C0 (by decide) dX0_readUnit_128
              · have h := (if_pos c39).symm.trans h
                refine V_iconst C0 (v := (0 : Int32)) (by decide) dX0_readUnit_115 ?_
                cases h
                exact V_zret C0 (by decide) dX0_readUnit_116
          · have h := (if_neg c23).symm.trans h
            refine V_aload_n C0 2 rfl rfl dX0_readUnit_65 ?_
            refine V_iconst C0 (v := (3 : Int32)) (by decide) dX0_readUnit_66 ?_
            obtain ⟨b41, I42, q43, h⟩ := bn2_some h
            refine V_callV C0 (st := []) (As := [.int (3 : Int32)]) 7 (c_X8_refuse G.l G.D G.cA G.ad G.bs G.X C0.2.2.2.2.2.2.2.2.2.1 C0.2.2.2.2.2.2.2.2.2.2.2.2 x1 (3 : Int32) I13 L14 R b41 I42 q43) lc_X8_refuse lk_X0_45 c_x1.2 c_x1.1 ⟨_, rfl, rfl⟩ rfl (by rw [erm]; decide) (Nat.le_of_ble_eq_true rfl) dX0_readUnit_67 ?_
            show V G _ 70 [(2, .ref (G.ad a3)), (0, .ref (G.ad x0)), (1, .ref (G.ad x1))] [.int (b2i b41)] I42 L14 R
            cases h
            exact V_zret C0 (b2i01 _) dX0_readUnit_70
        · have h := (if_pos c18).symm.trans h
          refine V_aload_n C0 2 rfl rfl dX0_readUnit_48 ?_
          refine V_iconst C0 (v := (2 : Int32)) (by decide) dX0_readUnit_49 ?_
          obtain ⟨b44, I45, q46, h⟩ := bn2_some h
          refine V_callV C0 (st := []) (As := [.int (2 : Int32)]) 7 (c_X8_refuse G.l G.D G.cA G.ad G.bs G.X C0.2.2.2.2.2.2.2.2.2.1 C0.2.2.2.2.2.2.2.2.2.2.2.2 x1 (2 : Int32) I13 L14 R b44 I45 q46) lc_X8_refuse lk_X0_45 c_x1.2 c_x1.1 ⟨_, rfl, rfl⟩ rfl (by rw [erm]; decide) (Nat.le_of_ble_eq_true rfl) dX0_readUnit_50 ?_
          show V G _ 53 [(2, .ref (G.ad a3)), (0, .ref (G.ad x0)), (1, .ref (G.ad x1))] [.int (b2i b44)] I45 L14 R
          cases h
          exact V_zret C0 (b2i01 _) dX0_readUnit_53
      · have h := (if_neg c12).symm.trans h
        refine V_aload_n C0 2 rfl rfl dX0_readUnit_31 ?_
        refine V_iconst C0 (v := (4 : Int32)) (by decide) dX0_readUnit_32 ?_
        obtain ⟨b47, I48, q49, h⟩ := bn2_some h
        refine V_callV C0 (st := []) (As := [.int (4 : Int32)]) 7 (c_X8_refuse G.l G.D G.cA G.ad G.bs G.X C0.2.2.2.2.2.2.2.2.2.1 C0.2.2.2.2.2.2.2.2.2.2.2.2 x1 (4 : Int32) I L R b47 I48 q49) lc_X8_refuse lk_X0_45 c_x1.2 c_x1.1 ⟨_, rfl, rfl⟩ rfl (by rw [erm]; decide) (Nat.le_of_ble_eq_true rfl) dX0_readUnit_33 ?_
        show V G _ 36 [(2, .ref (G.ad a3)), (0, .ref (G.ad x0)), (1, .ref (G.ad x1))] [.int (b2i b47)] I48 L R
        cases h
        exact V_zret C0 (b2i01 _) dX0_readUnit_36
theorem dX0_readFrom_0 : decode cX0_readFrom 0 = .ok (.aload_n 0, 1) := by decide +kernel
theorem dX0_readFrom_1 : decode cX0_readFrom 1 = .ok (.iconst 0, 1) := by decide +kernel
theorem dX0_readFrom_2 : decode cX0_readFrom 2 = .ok (.putfield 22, 3) := by decide +kernel
theorem dX0_readFrom_5 : decode cX0_readFrom 5 = .ok (.iconst 0, 1) := by decide +kernel
theorem dX0_readFrom_6 : decode cX0_readFrom 6 = .ok (.istore_n 2, 1) := by decide +kernel
theorem dX0_readFrom_7 : decode cX0_readFrom 7 = .ok (.iload_n 2, 1) := by decide +kernel
theorem dX0_readFrom_8 : decode cX0_readFrom 8 = .ok (.bipush 20, 2) := by decide +kernel
theorem dX0_readFrom_10 : decode cX0_readFrom 10 = .ok (.if_icmp .gt 32, 3) := by decide +kernel
theorem dX0_readFrom_13 : decode cX0_readFrom 13 = .ok (.aload_n 1, 1) := by decide +kernel
theorem dX0_readFrom_14 : decode cX0_readFrom 14 = .ok (.invokevirtual 26, 3) := by decide +kernel
theorem dX0_readFrom_17 : decode cX0_readFrom 17 = .ok (.aload_n 1, 1) := by decide +kernel
theorem dX0_readFrom_18 : decode cX0_readFrom 18 = .ok (.invokevirtual 31, 3) := by decide +kernel
theorem dX0_readFrom_21 : decode cX0_readFrom 21 = .ok (.ifCond .eq 5, 3) := by decide +kernel
theorem dX0_readFrom_24 : decode cX0_readFrom 24 = .ok (.iconst 1, 1) := by decide +kernel
theorem dX0_readFrom_25 : decode cX0_readFrom 25 = .ok (.ireturn, 1) := by decide +kernel
theorem dX0_readFrom_26 : decode cX0_readFrom 26 = .ok (.aload_n 0, 1) := by decide +kernel
theorem dX0_readFrom_27 : decode cX0_readFrom 27 = .ok (.aload_n 1, 1) := by decide +kernel
theorem dX0_readFrom_28 : decode cX0_readFrom 28 = .ok (.invokevirtual 35, 3) := by decide +kernel
theorem dX0_readFrom_31 : decode cX0_readFrom 31 = .ok (.ifCond .ne 5, 3) := by decide +kernel
theorem dX0_readFrom_34 : decode cX0_readFrom 34 = .ok (.iconst 0, 1) := by decide +kernel
theorem dX0_readFrom_35 : decode cX0_readFrom 35 = .ok (.ireturn, 1) := by decide +kernel
theorem dX0_readFrom_36 : decode cX0_readFrom 36 = .ok (.iinc 2 1, 3) := by decide +kernel
theorem dX0_readFrom_39 : decode cX0_readFrom 39 = .ok (.goto (-32), 3) := by decide +kernel
theorem dX0_readFrom_42 : decode cX0_readFrom 42 = .ok (.iconst 0, 1) := by decide +kernel
theorem dX0_readFrom_43 : decode cX0_readFrom 43 = .ok (.ireturn, 1) := by decide +kernel
def LF_X0_readFrom_7 (N : Nat) : Nat → Nat → Nat → Int32 → MI → ML → MR → Option (Sum (Bool × MI × ML) (MI × ML))
  | 0, _, _, _, _, _, _ => none
  | k + 1, y0, y1, y2, I, L, R =>
    if (20 : Int32) < y2 then
      some (.inr (I, L))
    else
      bn2 (F_X8_next N y1 I L R) fun I3 L4 =>
      bn1 (F_X8_isEnd y1 I3 L4 R) fun b6 =>
      if (b2i b6) = 0 then
        bn3 (F_X0_readUnit N y0 y1 I3 L4 R) fun b9 I10 L11 =>
        if (b2i b9) = 0 then
          some (.inl (false, I10, L11))
        else
          wr (y2 + (1 : Int32)) fun (u14 : Int32) =>
          LF_X0_readFrom_7 N k y0 y1 u14 I10 L11 R
      else
        some (.inl (true, I3, L4))
def F_X0_readFrom (N : Nat) (x0 : Nat) (x1 : Nat) (I : MI) (L : ML) (R : MR) : Option (Bool × MI × ML) :=
  if kd x0 = 0 ∧ x0 < NN then
  if kd x1 = 7 ∧ x1 < NN then
  wr (uI I x0 3 (0 : Int32)) fun (I1 : MI) =>
  bsm (LF_X0_readFrom_7 N N x0 x1 (0 : Int32) I1 L R) (fun z15 => some z15) fun z15 =>
  some (false, z15.1, z15.2)
  else none
  else none
set_option maxRecDepth 100000 in
set_option maxHeartbeats 4000000 in
theorem lp_X0_readFrom_7 {G : Gm} (C0 : Cx G (yX0_readFrom.cls) cX0_readFrom (some .boolean)) (eNL : G.nL = 3) (erm : G.rm = ({ frames := 8, cells := 0, slots := 0, locals := 171 } : Room)) (ht : Ssb G.ad G.bs G.X) (N : Nat) : ∀ (k : Nat) (y0 : Nat) (y1 : Nat) (y2 : Int32) (I : MI) (L : ML) (R : MR) (q : Sum (Bool × MI × ML) (MI × ML)) (hk0 : kd y0 = 0) (ho0 : y0 < NN) (hk1 : kd y1 = 7) (ho1 : y1 < NN), LF_X0_readFrom_7 N k y0 y1 y2 I L R = some q → ∀ f : State → Prop, (∀ w, q = .inl w → f = qf G (some (.int (b2i w.1)), w.2.1, w.2.2, R)) → (∀ z, q = .inr z → V G f 42 [] [] z.1 z.2 R) → V G f 7 [(0, .ref (G.ad y0)), (1, .ref (G.ad y1)), (2, .int y2)] [] I L R := by
  intro k
  induction k with
  | zero =>
    intro y0 y1 y2 I L R q hk0 ho0 hk1 ho1 h
    exact absurd h (by simp [LF_X0_readFrom_7])
  | succ k ih =>
    intro y0 y1 y2 I L R q hk0 ho0 hk1 ho1 h f kr kx
    rw [LF_X0_readFrom_7] at h
    have hsb := ht _ C0.2.2.2.2.2.2.2.2.2.2.2.1
    refine V_iload_n C0 2 rfl rfl dX0_readFrom_7 ?_
    refine V_bipush C0 (v := (20 : Int32)) (by decide) dX0_readFrom_8 ?_
    refine V_icmp_gt C0 (tgt := 42) (by decide) dX0_readFrom_10 (fun c2 => ?_) (fun c2 => ?_)
    · have h := (if_pos c2).symm.trans h
      cases h
      exact V_sub [] rfl (kx _ rfl)
    · have h := (if_neg c2).symm.trans h
      refine V_aload_n C0 1 rfl rfl dX0_readFrom_13 ?_
      obtain ⟨I3, L4, q5, h⟩ := bn2_some h
      refine V_callV C0 (st := []) (As := []) 7 (c_X8_next G.l G.D G.cA G.ad G.bs G.X C0.2.2.2.2.2.2.2.2.2.1 C0.2.2.2.2.2.2.2.2.2.2.2.2 N y1 I L R I3 L4 q5) lc_X8_next lk_X0_26 ho1 hk1 ⟨_, rfl, rfl⟩ rfl (by rw [erm]; decide) (Nat.le_of_ble_eq_true rfl) dX0_readFrom_14 ?_
      show V G _ 17 [(0, .ref (G.ad y0)), (1, .ref (G.ad y1)), (2, .int y2)] [] I3 L4 R
      refine V_aload_n C0 1 rfl rfl dX0_readFrom_17 ?_
      obtain ⟨b6, q7, h⟩ := bn1_some h
      refine V_callV C0 (st := []) (As := []) 7 (c_X8_isEnd G.l G.D G.cA G.ad G.bs G.X C0.2.2.2.2.2.2.2.2.2.1 C0.2.2.2.2.2.2.2.2.2.2.2.2 y1 I3 L4 R b6 q7) lc_X8_isEnd lk_X0_31 ho1 hk1 ⟨_, rfl, rfl⟩ rfl (by rw [erm]; decide) (Nat.le_of_ble_eq_true rfl) dX0_readFrom_18 ?_
      show V G _ 21 [(0, .ref (G.ad y0)), (1, .ref (G.ad y1)), (2, .int y2)] [.int (b2i b6)] I3 L4 R
      refine V_if_eq C0 (tgt := 26) (by decide) dX0_readFrom_21 (fun c8 => ?_) (fun c8 => ?_)
      · have h := (if_pos c8).symm.trans h
        refine V_aload_n C0 0 rfl rfl dX0_readFrom_26 ?_
        refine V_aload_n C0 1 rfl rfl dX0_readFrom_27 ?_
        obtain ⟨b9, I10, L11, q12, h⟩ := bn3_some h
        refine V_callV C0 (st := []) (As := [.ref (G.ad y1)]) 0 (c_X0_readUnit G.l G.D G.cA G.ad G.bs G.X C0.2.2.2.2.2.2.2.2.2.1 C0.2.2.2.2.2.2.2.2.2.2.2.2 ht N y0 y1 I3 L4 R b9 I10 L11 q12) lc_X0_readUnit lk_X0_35 ho0 hk0 ⟨_, rfl, rfl⟩ rfl (by rw [erm]; decide) (Nat.le_of_ble_eq_true rfl) dX0_readFrom_28 ?_
        show V G _ 31 [(0, .ref (G.ad y0)), (1, .ref (G.ad y1)), (2, .int y2)] [.int (b2i b9)] I10 L11 R
        refine V_if_ne C0 (tgt := 36) (by decide) dX0_readFrom_31 (fun c13 => ?_) (fun c13 => ?_)
        · have h := (if_neg c13).symm.trans h
          obtain ⟨u14, eu14, h⟩ := wr_some h
          refine V_iinc C0 2 [(2, .int u14), (0, .ref (G.ad y0)), (1, .ref (G.ad y1))] rfl (n := 1) (by rw [eu14]; rfl) (by rw [eNL]; decide) rfl dX0_readFrom_36 ?_
          refine V_goto C0 (tgt := 7) (by decide) dX0_readFrom_39 ?_
          exact V_sub [1, 2, 0] rfl (ih y0 y1 u14 I10 L11 R _ hk0 ho0 hk1 ho1 h f kr kx)
        · have h := (if_pos c13).symm.trans h
          refine V_iconst C0 (v := (0 : Int32)) (by decide) dX0_readFrom_34 ?_
          cases h
          rw [kr _ rfl]
          exact V_zret (x := (0 : Int32)) C0 (by decide) dX0_readFrom_35
      · have h := (if_neg c8).symm.trans h
        refine V_iconst C0 (v := (1 : Int32)) (by decide) dX0_readFrom_24 ?_
        cases h
        rw [kr _ rfl]
        exact V_zret (x := (1 : Int32)) C0 (by decide) dX0_readFrom_25
set_option maxRecDepth 100000 in
set_option maxHeartbeats 4000000 in
theorem c_X0_readFrom (l : Launch) (D : va_G) (cA : Nat → ClassId) (ad : Nat → Nat) (bs : Nat) (X : State → Prop) (hAd : Ax ad bs) (hX : Stb bs X) (ht : Ssb ad bs X) (N : Nat) (x0 : Nat) (x1 : Nat) (I : MI) (L : ML) (R : MR) (r : Bool) (I' : MI) (L' : ML) (h : F_X0_readFrom N x0 x1 I L R = some (r, I', L')) : Cn l D cA ad bs X yX0_readFrom cX0_readFrom 3 (some .boolean) 8 171 [.ref (ad x0), .ref (ad x1)] I L R (some (.int (b2i r)), I', L', R) := by
  refine Cn.ofV hAd hX [(0, .ref (ad x0)), (1, .ref (ad x1))] rfl (Nat.le_of_ble_eq_true rfl) (by decide) ?_
  intro G el eD ecA ead ebs eX erm eNL C0
  subst el eD ecA ead ebs eX
  have hsb := ht _ C0.2.2.2.2.2.2.2.2.2.2.2.1
  unfold F_X0_readFrom at h
  obtain ⟨c_x0, h⟩ := ite_some h
  obtain ⟨c_x1, h⟩ := ite_some h
  refine V_aload_n C0 0 rfl rfl dX0_readFrom_0 ?_
  refine V_iconst C0 (v := (0 : Int32)) (by decide) dX0_readFrom_1 ?_
  obtain ⟨I1, eI1, h⟩ := wr_some h
  refine V_putI C0 0 3 fp_X0_22 c_x0.2 c_x0.1 rfl dX0_readFrom_2 ?_
  rw [← eI1]
  refine V_iconst C0 (v := (0 : Int32)) (by decide) dX0_readFrom_5 ?_
  refine V_istore_n C0 [(2, .int (0 : Int32)), (0, .ref (G.ad x0)), (1, .ref (G.ad x1))] rfl (by rw [eNL]; decide) rfl dX0_readFrom_6 ?_
  rcases bsm_some h with ⟨z15, q16, h⟩ | ⟨z15, q16, h⟩
  · refine V_sub [1, 2, 0] rfl (lp_X0_readFrom_7 C0 eNL erm ht N N x0 x1 (0 : Int32) I1 L R _ c_x0.1 c_x0.2 c_x1.1 c_x1.2 q16 _ (fun w e => ?_) (fun _ e => by cases e))
    cases e
    cases h
    rfl
  · refine V_sub [1, 2, 0] rfl (lp_X0_readFrom_7 C0 eNL erm ht N N x0 x1 (0 : Int32) I1 L R _ c_x0.1 c_x0.2 c_x1.1 c_x1.2 q16 _ (fun _ e => by cases e) (fun w e => ?_))
    cases e
    show V G _ 42 [] [] z15.1 z15.2 R
    refine V_iconst C0 (v := (0 : Int32)) (by decide) dX0_readFrom_42 ?_
    cases h
    exact V_zret C0 (by decide) dX0_readFrom_43
theorem dX5_termOf_0 : decode cX5_termOf 0 = .ok (.aload_n 0, 1) := by decide +kernel
theorem dX5_termOf_1 : decode cX5_termOf 1 = .ok (.ldc 105, 2) := by decide +kernel
theorem dX5_termOf_3 : decode cX5_termOf 3 = .ok (.invokevirtual 49, 3) := by decide +kernel
theorem dX5_termOf_6 : decode cX5_termOf 6 = .ok (.ifCond .eq 5, 3) := by decide +kernel
theorem dX5_termOf_9 : decode cX5_termOf 9 = .ok (.iconst 0, 1) := by decide +kernel
theorem dX5_termOf_10 : decode cX5_termOf 10 = .ok (.ireturn, 1) := by decide +kernel
theorem dX5_termOf_11 : decode cX5_termOf 11 = .ok (.aload_n 0, 1) := by decide +kernel
theorem dX5_termOf_12 : decode cX5_termOf 12 = .ok (.ldc 107, 2) := by decide +kernel
theorem dX5_termOf_14 : decode cX5_termOf 14 = .ok (.invokevirtual 49, 3) := by decide +kernel
theorem dX5_termOf_17 : decode cX5_termOf 17 = .ok (.ifCond .eq 5, 3) := by decide +kernel
theorem dX5_termOf_20 : decode cX5_termOf 20 = .ok (.iconst 1, 1) := by decide +kernel
theorem dX5_termOf_21 : decode cX5_termOf 21 = .ok (.ireturn, 1) := by decide +kernel
theorem dX5_termOf_22 : decode cX5_termOf 22 = .ok (.aload_n 0, 1) := by decide +kernel
theorem dX5_termOf_23 : decode cX5_termOf 23 = .ok (.ldc 109, 2) := by decide +kernel
theorem dX5_termOf_25 : decode cX5_termOf 25 = .ok (.invokevirtual 49, 3) := by decide +kernel
theorem dX5_termOf_28 : decode cX5_termOf 28 = .ok (.ifCond .eq 5, 3) := by decide +kernel
theorem dX5_termOf_31 : decode cX5_termOf 31 = .ok (.iconst 2, 1) := by decide +kernel
theorem dX5_termOf_32 : decode cX5_termOf 32 = .ok (.ireturn, 1) := by decide +kernel
theorem dX5_termOf_33 : decode cX5_termOf 33 = .ok (.aload_n 0, 1) := by decide +kernel
theorem dX5_termOf_34 : decode cX5_termOf 34 = .ok (.ldc 111, 2) := by decide +kernel
theorem dX5_termOf_36 : decode cX5_termOf 36 = .ok (.invokevirtual 49, 3) := by decide +kernel
theorem dX5_termOf_39 : decode cX5_termOf 39 = .ok (.ifCond .eq 5, 3) := by decide +kernel
theorem dX5_termOf_42 : decode cX5_termOf 42 = .ok (.iconst 3, 1) := by decide +kernel
theorem dX5_termOf_43 : decode cX5_termOf 43 = .ok (.ireturn, 1) := by decide +kernel
theorem dX5_termOf_44 : decode cX5_termOf 44 = .ok (.aload_n 0, 1) := by decide +kernel
theorem dX5_termOf_45 : decode cX5_termOf 45 = .ok (.ldc 113, 2) := by decide +kernel
theorem dX5_termOf_47 : decode cX5_termOf 47 = .ok (.invokevirtual 49, 3) := by decide +kernel
theorem dX5_termOf_50 : decode cX5_termOf 50 = .ok (.ifCond .eq 5, 3) := by decide +kernel
theorem dX5_termOf_53 : decode cX5_termOf 53 = .ok (.iconst 4, 1) := by decide +kernel
theorem dX5_termOf_54 : decode cX5_termOf 54 = .ok (.ireturn, 1) := by decide +kernel
theorem dX5_termOf_55 : decode cX5_termOf 55 = .ok (.aload_n 0, 1) := by decide +kernel
theorem dX5_termOf_56 : decode cX5_termOf 56 = .ok (.ldc 115, 2) := by decide +kernel
theorem dX5_termOf_58 : decode cX5_termOf 58 = .ok (.invokevirtual 49, 3) := by decide +kernel
theorem dX5_termOf_61 : decode cX5_termOf 61 = .ok (.ifCond .eq 5, 3) := by decide +kernel
theorem dX5_termOf_64 : decode cX5_termOf 64 = .ok (.iconst 5, 1) := by decide +kernel
theorem dX5_termOf_65 : decode cX5_termOf 65 = .ok (.ireturn, 1) := by decide +kernel
theorem dX5_termOf_66 : decode cX5_termOf 66 = .ok (.aload_n 0, 1) := by decide +kernel
theorem dX5_termOf_67 : decode cX5_termOf 67 = .ok (.ldc 117, 2) := by decide +kernel
theorem dX5_termOf_69 : decode cX5_termOf 69 = .ok (.invokevirtual 49, 3) := by decide +kernel
theorem dX5_termOf_72 : decode cX5_termOf 72 = .ok (.ifCond .eq 8, 3) := by decide +kernel
theorem dX5_termOf_75 : decode cX5_termOf 75 = .ok (.bipush 6, 2) := by decide +kernel
theorem dX5_termOf_77 : decode cX5_termOf 77 = .ok (.goto 4, 3) := by decide +kernel
theorem dX5_termOf_80 : decode cX5_termOf 80 = .ok (.iconst (-1), 1) := by decide +kernel
theorem dX5_termOf_81 : decode cX5_termOf 81 = .ok (.ireturn, 1) := by decide +kernel
def F_X5_termOf (N : Nat) (x0 : Nat) (I : MI) (L : ML) (R : MR) : Option (Int32) :=
  if kd x0 = 7 ∧ x0 < NN then
  bn1 (F_X8_isWord N x0 425 I L R) fun b1 =>
  if (b2i b1) = 0 then
    bn1 (F_X8_isWord N x0 426 I L R) fun b4 =>
    if (b2i b4) = 0 then
      bn1 (F_X8_isWord N x0 427 I L R) fun b7 =>
      if (b2i b7) = 0 then
        bn1 (F_X8_isWord N x0 428 I L R) fun b10 =>
        if (b2i b10) = 0 then
          bn1 (F_X8_isWord N x0 429 I L R) fun b13 =>
          if (b2i b13) = 0 then
            bn1 (F_X8_isWord N x0 430 I L R) fun b16 =>
            if (b2i b16) = 0 then
              bn1 (F_X8_isWord N x0 431 I L R) fun b19 =>
              if (b2i b19) = 0 then
                some ((-1 : Int32))
              else
                some ((6 : Int32))
            else
              some ((5 : Int32))
          else
            some ((4 : Int32))
        else
          some ((3 : Int32))
      else
        some ((2 : Int32))
    else
      some ((1 : Int32))
  else
    some ((0 : Int32))
  else none
set_option maxRecDepth 100000 in
set_option maxHeartbeats 4000000 in
theorem c_X5_termOf (l : Launch) (D : va_G) (cA : Nat → ClassId) (ad : Nat → Nat) (bs : Nat) (X : State → Prop) (hAd : Ax ad bs) (hX : Stb bs X) (ht : Ssb ad bs X) (N : Nat) (x0 : Nat) (I : MI) (L : ML) (R : MR) (r : Int32) (h : F_X5_termOf N x0 I L R = some (r)) : Cn l D cA ad bs X yX5_termOf cX5_termOf 1 (some .int) 6 128 [.ref (ad x0)] I L R (some (.int r), I, L, R) := by
  refine Cn.ofV hAd hX [(0, .ref (ad x0))] rfl (Nat.le_of_ble_eq_true rfl) (by decide) ?_
  intro G el eD ecA ead ebs eX erm eNL C0
  subst el eD ecA ead ebs eX
  have hsb := ht _ C0.2.2.2.2.2.2.2.2.2.2.2.1
  unfold F_X5_termOf at h
  obtain ⟨c_x0, h⟩ := ite_some h
  refine V_aload_n C0 0 rfl rfl dX5_termOf_0 ?_
  refine V_ldcS C0 (q := G.ad 425) (hsb.2.2.2.2.2 ("SmallCraft$Plan", 105, "level", 25) (by decide)) dX5_termOf_1 ?_
  obtain ⟨b1, q2, h⟩ := bn1_some h
  refine V_callV C0 (st := []) (As := [.ref (G.ad 425)]) 7 (c_X8_isWord G.l G.D G.cA G.ad G.bs G.X C0.2.2.2.2.2.2.2.2.2.1 C0.2.2.2.2.2.2.2.2.2.2.2.2 ht N x0 425 I L R b1 q2) lc_X8_isWord lk_X5_49 c_x0.2 c_x0.1 ⟨_, rfl, rfl⟩ rfl (by rw [erm]; decide) (Nat.le_of_ble_eq_true rfl) dX5_termOf_3 ?_
  show V G _ 6 [(0, .ref (G.ad x0))] [.int (b2i b1)] I L R
  refine V_if_eq C0 (tgt := 11) (by decide) dX5_termOf_6 (fun c3 => ?_) (fun c3 => ?_)
  · have h := (if_pos c3).symm.trans h
    refine V_aload_n C0 0 rfl rfl dX5_termOf_11 ?_
    refine V_ldcS C0 (q := G.ad 426) (hsb.2.2.2.2.2 ("SmallCraft$Plan", 107, "heat", 26) (by decide)) dX5_termOf_12 ?_
    obtain ⟨b4, q5, h⟩ := bn1_some h
    refine V_callV C0 (st := []) (As := [.ref (G.ad 426)]) 7 (c_X8_isWord G.l G.D G.cA G.ad G.bs G.X C0.2.2.2.2.2.2.2.2.2.1 C0.2.2.2.2.2.2.2.2.2.2.2.2 ht N x0 426 I L R b4 q5) lc_X8_isWord lk_X5_49 c_x0.2 c_x0.1 ⟨_, rfl, rfl⟩ rfl (by rw [erm]; decide) (Nat.le_of_ble_eq_true rfl) dX5_termOf_14 ?_
    show V G _ 17 [(0, .ref (G.ad x0))] [.int (b2i b4)] I L R
    refine V_if_eq C0 (tgt := 22) (by decide) dX5_termOf_17 (fun c6 => ?_) (fun c6 => ?_)
    · have h := (if_pos c6).symm.trans h
      refine V_aload_n C0 0 rfl rfl dX5_termOf_22 ?_
      refine V_ldcS C0 (q := G.ad 427) (hsb.2.2.2.2.2 ("SmallCraft$Plan", 109, "speed", 27) (by decide)) dX5_termOf_23 ?_
      obtain ⟨b7, q8, h⟩ := bn1_some h
      refine V_callV C0 (st := []) (As := [.ref (G.ad 427)]) 7 (c_X8_isWord G.l G.D G.cA G.ad G.bs G.X C0.2.2.2.2.2.2.2.2.2.1 C0.2.2.2.2.2.2.2.2.2.2.2.2 ht N x0 427 I L R b7 q8) lc_X8_isWord lk_X5_49 c_x0.2 c_x0.1 ⟨_, rfl, rfl⟩ rfl (by rw [erm]; decide) (Nat.le_of_ble_eq_true rfl) dX5_termOf_25 ?_
      show V G _ 28 [(0, .ref (G.ad x0))] [.int (b2i b7)] I L R
      refine V_if_eq C0 (tgt := 33) (by decide) dX5_termOf_28 (fun c9 => ?_) (fun c9 => ?_)
      · have h := (if_pos c9).symm.trans h
        refine V_aload_n C0 0 rfl rfl dX5_termOf_33 ?_
        refine V_ldcS C0 (q := G.ad 428) (hsb.2.2.2.2.2 ("SmallCraft$Plan", 111, "reading", 28) (by decide)) dX5_termOf_34 ?_
        obtain ⟨b10, q11, h⟩ := bn1_some h
        refine V_callV C0 (st := []) (As := [.ref (G.ad 428)]) 7 (c_X8_isWord G.l G.D G.cA G.ad G.bs G.X C0.2.2.2.2.2.2.2.2.2.1 C0.2.2.2.2.2.2.2.2.2.2.2.2 ht N x0 428 I L R b10 q11) lc_X8_isWord lk_X5_49 c_x0.2 c_x0.1 ⟨_, rfl, rfl⟩ rfl (by rw [erm]; decide) (Nat.le_of_ble_eq_true rfl) dX5_termOf_36 ?_
        show V G _ 39 [(0, .ref (G.ad x0))] [.int (b2i b10)] I L R
        refine V_if_eq C0 (tgt := 44) (by decide) dX5_termOf_39 (fun c12 => ?_) (fun c12 => ?_)
        · have h := (if_pos c12).symm.trans h
          refine V_aload_n C0 0 rfl rfl dX5_termOf_44 ?_
          refine V_ldcS C0 (q := G.ad 429) (hsb.2.2.2.2.2 ("SmallCraft$Plan", 113, "light", 29) (by decide)) dX5_termOf_45 ?_
          obtain ⟨b13, q14, h⟩ := bn1_some h
          refine V_callV C0 (st := []) (As := [.ref (G.ad 429)]) 7 (c_X8_isWord G.l G.D G.cA G.ad G.bs G.X C0.2.2.2.2.2.2.2.2.2.1 C0.2.2.2.2.2.2.2.2.2.2.2.2 ht N x0 429 I L R b13 q14) lc_X8_isWord lk_X5_49 c_x0.2 c_x0.1 ⟨_, rfl, rfl⟩ rfl (by rw [erm]; decide) (Nat.le_of_ble_eq_true rfl) dX5_termOf_47 ?_
          show V G _ 50 [(0, .ref (G.ad x0))] [.int (b2i b13)] I L R
          refine V_if_eq C0 (tgt := 55) (by decide) dX5_termOf_50 (fun c15 => ?_) (fun c15 => ?_)
          · have h := (if_pos c15).symm.trans h
            refine V_aload_n C0 0 rfl rfl dX5_termOf_55 ?_
            refine V_ldcS C0 (q := G.ad 430) (hsb.2.2.2.2.2 ("SmallCraft$Plan", 115, "angle", 30) (by decide)) dX5_termOf_56 ?_
            obtain ⟨b16, q17, h⟩ := bn1_some h
            refine V_callV C0 (st := []) (As := [.ref (G.ad 430)]) 7 (c_X8_isWord G.l G.D G.cA G.ad G.bs G.X C0.2.2.2.2.2.2.2.2.2.1 C0.2.2.2.2.2.2.2.2.2.2.2.2 ht N x0 430 I L R b16 q17) lc_X8_isWord lk_X5_49 c_x0.2 c_x0.1 ⟨_, rfl, rfl⟩ rfl (by rw [erm]; decide) (Nat.le_of_ble_eq_true rfl) dX5_termOf_58 ?_
            show V G _ 61 [(0, .ref (G.ad x0))] [.int (b2i b16)] I L R
            refine V_if_eq C0 (tgt := 66) (by decide) dX5_termOf_61 (fun c18 => ?_) (fun c18 => ?_)
            · have h := (if_pos c18).symm.trans h
              refine V_aload_n C0 0 rfl rfl dX5_termOf_66 ?_
              refine V_ldcS C0 (q := G.ad 431) (hsb.2.2.2.2.2 ("SmallCraft$Plan", 117, "rate", 31) (by decide)) dX5_termOf_67 ?_
              obtain ⟨b19, q20, h⟩ := bn1_some h
              refine V_callV C0 (st := []) (As := [.ref (G.ad 431)]) 7 (c_X8_isWord G.l G.D G.cA G.ad G.bs G.X C0.2.2.2.2.2.2.2.2.2.1 C0.2.2.2.2.2.2.2.2.2.2.2.2 ht N x0 431 I L R b19 q20) lc_X8_isWord lk_X5_49 c_x0.2 c_x0.1 ⟨_, rfl, rfl⟩ rfl (by rw [erm]; decide) (Nat.le_of_ble_eq_true rfl) dX5_termOf_69 ?_
              show V G _ 72 [(0, .ref (G.ad x0))] [.int (b2i b19)] I L R
              refine V_if_eq C0 (tgt := 80) (by decide) dX5_termOf_72 (fun c21 => ?_) (fun c21 => ?_)
              · have h := (if_pos c21).symm.trans h
                refine V_iconst C0 (v := (-1 : Int32)) (by decide) dX5_termOf_80 ?_
                cases h
                exact V_iret C0 dX5_termOf_81
              · have h := (if_neg c21).symm.trans h
                refine V_bipush C0 (v := (6 : Int32)) (by decide) dX5_termOf_75 ?_
                refine V_goto C0 (tgt := 81) (by decide) dX5_termOf_77 ?_
                cases h
                exact V_iret C0 dX5_termOf_81
            · have h := (if_neg c18).symm.trans h
              refine V_iconst C0 (v := (5 : Int32)) (by decide) dX5_termOf_64 ?_
              cases h
              exact V_iret C0 dX5_termOf_65
          · have h := (if_neg c15).symm.trans h
            refine V_iconst C0 (v := (4 : Int32)) (by decide) dX5_termOf_53 ?_
            cases h
            exact V_iret C0 dX5_termOf_54
        · have h := (if_neg c12).symm.trans h
          refine V_iconst C0 (v := (3 : Int32)) (by decide) dX5_termOf_42 ?_
          cases h
          exact V_iret C0 dX5_termOf_43
      · have h := (if_neg c9).symm.trans h
        refine V_iconst C0 (v := (2 : Int32)) (by decide) dX5_termOf_31 ?_
        cases h
        exact V_iret C0 dX5_termOf_32
    · have h := (if_neg c6).symm.trans h
      refine V_iconst C0 (v := (1 : Int32)) (by decide) dX5_termOf_20 ?_
      cases h
      exact V_iret C0 dX5_termOf_21
  · have h := (if_neg c3).symm.trans h
    refine V_iconst C0 (v := (0 : Int32)) (by decide) dX5_termOf_9 ?_
    cases h
    exact V_iret C0 dX5_termOf_10
theorem dX5_readTerm_0 : decode cX5_readTerm 0 = .ok (.aload_n 1, 1) := by decide +kernel
theorem dX5_readTerm_1 : decode cX5_readTerm 1 = .ok (.invokevirtual 34, 3) := by decide +kernel
theorem dX5_readTerm_4 : decode cX5_readTerm 4 = .ok (.aload_n 3, 1) := by decide +kernel
theorem dX5_readTerm_5 : decode cX5_readTerm 5 = .ok (.aload_n 1, 1) := by decide +kernel
theorem dX5_readTerm_6 : decode cX5_readTerm 6 = .ok (.invokestatic 91, 3) := by decide +kernel
theorem dX5_readTerm_9 : decode cX5_readTerm 9 = .ok (.putfield 95, 3) := by decide +kernel
theorem dX5_readTerm_12 : decode cX5_readTerm 12 = .ok (.aload_n 3, 1) := by decide +kernel
theorem dX5_readTerm_13 : decode cX5_readTerm 13 = .ok (.getfield 95, 3) := by decide +kernel
theorem dX5_readTerm_16 : decode cX5_readTerm 16 = .ok (.tableswitch 167 0 6 #[44, 69, 94, 120, 146, 148, 148], 44) := by decide +kernel
theorem dX5_readTerm_60 : decode cX5_readTerm 60 = .ok (.aload_n 3, 1) := by decide +kernel
theorem dX5_readTerm_61 : decode cX5_readTerm 61 = .ok (.aload_n 0, 1) := by decide +kernel
theorem dX5_readTerm_62 : decode cX5_readTerm 62 = .ok (.aload_n 1, 1) := by decide +kernel
theorem dX5_readTerm_63 : decode cX5_readTerm 63 = .ok (.aload_n 2, 1) := by decide +kernel
theorem dX5_readTerm_64 : decode cX5_readTerm 64 = .ok (.iconst 1, 1) := by decide +kernel
theorem dX5_readTerm_65 : decode cX5_readTerm 65 = .ok (.invokevirtual 98, 3) := by decide +kernel
theorem dX5_readTerm_68 : decode cX5_readTerm 68 = .ok (.putfield 102, 3) := by decide +kernel
theorem dX5_readTerm_71 : decode cX5_readTerm 71 = .ok (.aload_n 3, 1) := by decide +kernel
theorem dX5_readTerm_72 : decode cX5_readTerm 72 = .ok (.getfield 102, 3) := by decide +kernel
theorem dX5_readTerm_75 : decode cX5_readTerm 75 = .ok (.iconst (-1), 1) := by decide +kernel
theorem dX5_readTerm_76 : decode cX5_readTerm 76 = .ok (.if_icmp .eq 7, 3) := by decide +kernel
theorem dX5_readTerm_79 : decode cX5_readTerm 79 = .ok (.iconst 1, 1) := by decide +kernel
theorem dX5_readTerm_80 : decode cX5_readTerm 80 = .ok (.goto 4, 3) := by decide +kernel
theorem dX5_readTerm_83 : decode cX5_readTerm 83 = .ok (.iconst 0, 1) := by decide +kernel
theorem dX5_readTerm_84 : decode cX5_readTerm 84 = .ok (.ireturn, 1) := by decide +kernel
theorem dX5_readTerm_85 : decode cX5_readTerm 85 = .ok (.aload_n 3, 1) := by decide +kernel
theorem dX5_readTerm_86 : decode cX5_readTerm 86 = .ok (.aload_n 0, 1) := by decide +kernel
theorem dX5_readTerm_87 : decode cX5_readTerm 87 = .ok (.aload_n 1, 1) := by decide +kernel
theorem dX5_readTerm_88 : decode cX5_readTerm 88 = .ok (.aload_n 2, 1) := by decide +kernel
theorem dX5_readTerm_89 : decode cX5_readTerm 89 = .ok (.iconst 0, 1) := by decide +kernel
theorem dX5_readTerm_90 : decode cX5_readTerm 90 = .ok (.invokevirtual 98, 3) := by decide +kernel
theorem dX5_readTerm_93 : decode cX5_readTerm 93 = .ok (.putfield 102, 3) := by decide +kernel
theorem dX5_readTerm_96 : decode cX5_readTerm 96 = .ok (.aload_n 3, 1) := by decide +kernel
theorem dX5_readTerm_97 : decode cX5_readTerm 97 = .ok (.getfield 102, 3) := by decide +kernel
theorem dX5_readTerm_100 : decode cX5_readTerm 100 = .ok (.iconst (-1), 1) := by decide +kernel
theorem dX5_readTerm_101 : decode cX5_readTerm 101 = .ok (.if_icmp .eq 7, 3) := by decide +kernel
theorem dX5_readTerm_104 : decode cX5_readTerm 104 = .ok (.iconst 1, 1) := by decide +kernel
theorem dX5_readTerm_105 : decode cX5_readTerm 105 = .ok (.goto 4, 3) := by decide +kernel
theorem dX5_readTerm_108 : decode cX5_readTerm 108 = .ok (.iconst 0, 1) := by decide +kernel
theorem dX5_readTerm_109 : decode cX5_readTerm 109 = .ok (.ireturn, 1) := by decide +kernel
theorem dX5_readTerm_110 : decode cX5_readTerm 110 = .ok (.aload_n 3, 1) := by decide +kernel
theorem dX5_readTerm_111 : decode cX5_readTerm 111 = .ok (.aload_n 0, 1) := by decide +kernel
theorem dX5_readTerm_112 : decode cX5_readTerm 112 = .ok (.aload_n 1, 1) := by decide +kernel
theorem dX5_readTerm_113 : decode cX5_readTerm 113 = .ok (.aload_n 2, 1) := by decide +kernel
theorem dX5_readTerm_114 : decode cX5_readTerm 114 = .ok (.bipush 16, 2) := by decide +kernel
theorem dX5_readTerm_116 : decode cX5_readTerm 116 = .ok (.invokevirtual 98, 3) := by decide +kernel
theorem dX5_readTerm_119 : decode cX5_readTerm 119 = .ok (.putfield 102, 3) := by decide +kernel
theorem dX5_readTerm_122 : decode cX5_readTerm 122 = .ok (.aload_n 3, 1) := by decide +kernel
theorem dX5_readTerm_123 : decode cX5_readTerm 123 = .ok (.getfield 102, 3) := by decide +kernel
theorem dX5_readTerm_126 : decode cX5_readTerm 126 = .ok (.iconst (-1), 1) := by decide +kernel
theorem dX5_readTerm_127 : decode cX5_readTerm 127 = .ok (.if_icmp .eq 7, 3) := by decide +kernel
theorem dX5_readTerm_130 : decode cX5_readTerm 130 = .ok (.iconst 1, 1) := by decide +kernel
theorem dX5_readTerm_131 : decode cX5_readTerm 131 = .ok (.goto 4, 3) := by decide +kernel
theorem dX5_readTerm_134 : decode cX5_readTerm 134 = .ok (.iconst 0, 1) := by decide +kernel
theorem dX5_readTerm_135 : decode cX5_readTerm 135 = .ok (.ireturn, 1) := by decide +kernel
theorem dX5_readTerm_136 : decode cX5_readTerm 136 = .ok (.aload_n 3, 1) := by decide +kernel
theorem dX5_readTerm_137 : decode cX5_readTerm 137 = .ok (.aload_n 0, 1) := by decide +kernel
theorem dX5_readTerm_138 : decode cX5_readTerm 138 = .ok (.aload_n 1, 1) := by decide +kernel
theorem dX5_readTerm_139 : decode cX5_readTerm 139 = .ok (.aload_n 2, 1) := by decide +kernel
theorem dX5_readTerm_140 : decode cX5_readTerm 140 = .ok (.bipush 9, 2) := by decide +kernel
theorem dX5_readTerm_142 : decode cX5_readTerm 142 = .ok (.invokevirtual 98, 3) := by decide +kernel
theorem dX5_readTerm_145 : decode cX5_readTerm 145 = .ok (.putfield 102, 3) := by decide +kernel
theorem dX5_readTerm_148 : decode cX5_readTerm 148 = .ok (.aload_n 3, 1) := by decide +kernel
theorem dX5_readTerm_149 : decode cX5_readTerm 149 = .ok (.getfield 102, 3) := by decide +kernel
theorem dX5_readTerm_152 : decode cX5_readTerm 152 = .ok (.iconst (-1), 1) := by decide +kernel
theorem dX5_readTerm_153 : decode cX5_readTerm 153 = .ok (.if_icmp .eq 7, 3) := by decide +kernel
theorem dX5_readTerm_156 : decode cX5_readTerm 156 = .ok (.iconst 1, 1) := by decide +kernel
theorem dX5_readTerm_157 : decode cX5_readTerm 157 = .ok (.goto 4, 3) := by decide +kernel
theorem dX5_readTerm_160 : decode cX5_readTerm 160 = .ok (.iconst 0, 1) := by decide +kernel
theorem dX5_readTerm_161 : decode cX5_readTerm 161 = .ok (.ireturn, 1) := by decide +kernel
theorem dX5_readTerm_162 : decode cX5_readTerm 162 = .ok (.iconst 1, 1) := by decide +kernel
theorem dX5_readTerm_163 : decode cX5_readTerm 163 = .ok (.ireturn, 1) := by decide +kernel
theorem dX5_readTerm_164 : decode cX5_readTerm 164 = .ok (.aload_n 1, 1) := by decide +kernel
theorem dX5_readTerm_165 : decode cX5_readTerm 165 = .ok (.iconst 0, 1) := by decide +kernel
theorem dX5_readTerm_166 : decode cX5_readTerm 166 = .ok (.iconst 2, 1) := by decide +kernel
theorem dX5_readTerm_167 : decode cX5_readTerm 167 = .ok (.invokevirtual 66, 3) := by decide +kernel
theorem dX5_readTerm_170 : decode cX5_readTerm 170 = .ok (.istore 4, 2) := by decide +kernel
theorem dX5_readTerm_172 : decode cX5_readTerm 172 = .ok (.aload_n 3, 1) := by decide +kernel
theorem dX5_readTerm_173 : decode cX5_readTerm 173 = .ok (.aload_n 1, 1) := by decide +kernel
theorem dX5_readTerm_174 : decode cX5_readTerm 174 = .ok (.invokevirtual 70, 3) := by decide +kernel
theorem dX5_readTerm_177 : decode cX5_readTerm 177 = .ok (.putfield 102, 3) := by decide +kernel
theorem dX5_readTerm_180 : decode cX5_readTerm 180 = .ok (.iload 4, 2) := by decide +kernel
theorem dX5_readTerm_182 : decode cX5_readTerm 182 = .ok (.ireturn, 1) := by decide +kernel
theorem dX5_readTerm_183 : decode cX5_readTerm 183 = .ok (.aload_n 1, 1) := by decide +kernel
theorem dX5_readTerm_184 : decode cX5_readTerm 184 = .ok (.iconst 2, 1) := by decide +kernel
theorem dX5_readTerm_185 : decode cX5_readTerm 185 = .ok (.invokevirtual 57, 3) := by decide +kernel
theorem dX5_readTerm_188 : decode cX5_readTerm 188 = .ok (.ireturn, 1) := by decide +kernel
def F_X5_readTerm (N : Nat) (x0 : Nat) (x1 : Nat) (x2 : Nat) (x3 : Nat) (I : MI) (L : ML) (R : MR) : Option (Bool × MI × ML) :=
  if kd x0 = 4 ∧ x0 < NN then
  if kd x1 = 7 ∧ x1 < NN then
  if kd x2 = 9 ∧ x2 < NN then
  if kd x3 = 3 ∧ x3 < NN then
  bn2 (F_X8_next N x1 I L R) fun I1 L2 =>
  bn1 (F_X5_termOf N x1 I1 L2 R) fun v4 =>
  wr (uI I1 x3 2 v4) fun (I6 : MI) =>
  wr (I6 x3 2) fun (u7 : Int32) =>
  if u7 = (0 : Int32) then
    bn3 (F_X5_readName N x0 x1 x2 (1 : Int32) I6 L2 R) fun v10 I11 L12 =>
    wr (uI I11 x3 3 v10) fun (I14 : MI) =>
    if (I14 x3 3) = (-1 : Int32) then
      some (false, I14, L12)
    else
      some (true, I14, L12)
  else
    if u7 = (1 : Int32) then
      bn3 (F_X5_readName N x0 x1 x2 (0 : Int32) I6 L2 R) fun v17 I18 L19 =>
      wr (uI I18 x3 3 v17) fun (I21 : MI) =>
      if (I21 x3 3) = (-1 : Int32) then
        some (false, I21, L19)
      else
        some (true, I21, L19)
    else
      if u7 = (2 : Int32) then
        bn3 (F_X5_readName N x0 x1 x2 (16 : Int32) I6 L2 R) fun v24 I25 L26 =>
        wr (uI I25 x3 3 v24) fun (I28 : MI) =>
        if (I28 x3 3) = (-1 : Int32) then
          some (false, I28, L26)
        else
          some (true, I28, L26)
      else
        if u7 = (3 : Int32) then
          bn3 (F_X5_readName N x0 x1 x2 (9 : Int32) I6 L2 R) fun v31 I32 L33 =>
          wr (uI I32 x3 3 v31) fun (I35 : MI) =>
          if (I35 x3 3) = (-1 : Int32) then
            some (false, I35, L33)
          else
            some (true, I35, L33)
        else
          if u7 = (4 : Int32) then
            some (true, I6, L2)
          else
            if u7 = (5 : Int32) then
              bn3 (F_X8_takeNumber_ N x1 (0 : Int32) (2 : Int32) I6 L2 R) fun b39 I40 L41 =>
              wr (b2i b39) fun (u43 : Int32) =>
              bn1 (F_X8_number x1 I40 L41 R) fun v44 =>
              wr (uI I40 x3 3 v44) fun (I46 : MI) =>
              (z01 u43).bind fun q47 =>
              some (q47, I46, L41)
            else
              if u7 = (6 : Int32) then
                bn3 (F_X8_takeNumber_ N x1 (0 : Int32) (2 : Int32) I6 L2 R) fun b49 I50 L51 =>
                wr (b2i b49) fun (u53 : Int32) =>
                bn1 (F_X8_number x1 I50 L51 R) fun v54 =>
                wr (uI I50 x3 3 v54) fun (I56 : MI) =>
                (z01 u53).bind fun q57 =>
                some (q57, I56, L51)
              else
                bn2 (F_X8_refuse x1 (2 : Int32) I6 L2 R) fun b58 I59 =>
                some (b58, I59, L2)
  else none
  else none
  else none
  else none
set_option maxRecDepth 100000 in
set_option maxHeartbeats 4000000 in
theorem c_X5_readTerm (l : Launch) (D : va_G) (cA : Nat → ClassId) (ad : Nat → Nat) (bs : Nat) (X : State → Prop) (hAd : Ax ad bs) (hX : Stb bs X) (ht : Ssb ad bs X) (N : Nat) (x0 : Nat) (x1 : Nat) (x2 : Nat) (x3 : Nat) (I : MI) (L : ML) (R : MR) (r : Bool) (I' : MI) (L' : ML) (h : F_X5_readTerm N x0 x1 x2 x3 I L R = some (r, I', L')) : Cn l D cA ad bs X yX5_readTerm cX5_readTerm 5 (some .boolean) 7 148 [.ref (ad x0), .ref (ad x1), .ref (ad x2), .ref (ad x3)] I L R (some (.int (b2i r)), I', L', R) := by
  refine Cn.ofV hAd hX [(0, .ref (ad x0)), (1, .ref (ad x1)), (2, .ref (ad x2)), (3, .ref (ad x3))] rfl (Nat.le_of_ble_eq_true rfl) (by decide) ?_
  intro G el eD ecA ead ebs eX erm eNL C0
  subst el eD ecA ead ebs eX
  have hsb := ht _ C0.2.2.2.2.2.2.2.2.2.2.2.1
  unfold F_X5_readTerm at h
  obtain ⟨c_x0, h⟩ := ite_some h
  obtain ⟨c_x1, h⟩ := ite_some h
  obtain ⟨c_x2, h⟩ := ite_some h
  obtain ⟨c_x3, h⟩ := ite_some h
  refine V_aload_n C0 1 rfl rfl dX5_readTerm_0 ?_
  obtain ⟨I1, L2, q3, h⟩ := bn2_some h
  refine V_callV C0 (st := []) (As := []) 7 (c_X8_next G.l G.D G.cA G.ad G.bs G.X C0.2.2.2.2.2.2.2.2.2.1 C0.2.2.2.2.2.2.2.2.2.2.2.2 N x1 I L R I1 L2 q3) lc_X8_next lk_X5_34 c_x1.2 c_x1.1 ⟨_, rfl, rfl⟩ rfl (by rw [erm]; decide) (Nat.le_of_ble_eq_true rfl) dX5_readTerm_1 ?_
  show V G _ 4 [(0, .ref (G.ad x0)), (1, .ref (G.ad x1)), (2, .ref (G.ad x2)), (3, .ref (G.ad x3))] [] I1 L2 R
  refine V_aload_n C0 3 rfl rfl dX5_readTerm_4 ?_
  refine V_aload_n C0 1 rfl rfl dX5_readTerm_5 ?_
  obtain ⟨v4, q5, h⟩ := bn1_some h
  refine V_callS C0 (st := [.ref (G.ad x3)]) (As := [.ref (G.ad x1)]) (c_X5_termOf G.l G.D G.cA G.ad G.bs G.X C0.2.2.2.2.2.2.2.2.2.1 C0.2.2.2.2.2.2.2.2.2.2.2.2 ht N x1 I1 L2 R v4 q5) lc_X5_termOf lk_X5_91 rfl (by rw [erm]; decide) (Nat.le_of_ble_eq_true rfl) dX5_readTerm_6 ?_
  show V G _ 9 [(0, .ref (G.ad x0)), (1, .ref (G.ad x1)), (2, .ref (G.ad x2)), (3, .ref (G.ad x3))] [.int v4, .ref (G.ad x3)] I1 L2 R
  obtain ⟨I6, eI6, h⟩ := wr_some h
  refine V_putI C0 3 2 fp_X5_95 c_x3.2 c_x3.1 rfl dX5_readTerm_9 ?_
  rw [← eI6]
  refine V_aload_n C0 3 rfl rfl dX5_readTerm_12 ?_
  refine V_getI C0 3 2 fl_X5_95 c_x3.2 c_x3.1 rfl dX5_readTerm_13 ?_
  obtain ⟨u7, eu7, h⟩ := wr_some h
  rw [← eu7]
  have nd8 := nd_0 u7
  by_cases c9 : u7 = (0 : Int32)
  · have h := (if_pos c9).symm.trans h
    refine V_tableC C0 (tgt := 60) (v := (0 : Int32)) c9 (by decide) (by decide) dX5_readTerm_16 ?_
    refine V_aload_n C0 3 rfl rfl dX5_readTerm_60 ?_
    refine V_aload_n C0 0 rfl rfl dX5_readTerm_61 ?_
    refine V_aload_n C0 1 rfl rfl dX5_readTerm_62 ?_
    refine V_aload_n C0 2 rfl rfl dX5_readTerm_63 ?_
    refine V_iconst C0 (v := (1 : Int32)) (by decide) dX5_readTerm_64 ?_
    obtain ⟨v10, I11, L12, q13, h⟩ := bn3_some h
    refine V_callV C0 (st := [.ref (G.ad x3)]) (As := [.ref (G.ad x1), .ref (G.ad x2), .int (1 : Int32)]) 4 (c_X5_readName G.l G.D G.cA G.ad G.bs G.X C0.2.2.2.2.2.2.2.2.2.1 C0.2.2.2.2.2.2.2.2.2.2.2.2 N x0 x1 x2 (1 : Int32) I6 L2 R v10 I11 L12 q13) lc_X5_readName lk_X5_98 c_x0.2 c_x0.1 ⟨_, rfl, rfl⟩ rfl (by rw [erm]; decide) (Nat.le_of_ble_eq_true rfl) dX5_readTerm_65 ?_
    show V G _ 68 [(0, .ref (G.ad x0)), (1, .ref (G.ad x1)), (2, .ref (G.ad x2)), (3, .ref (G.ad x3))] [.int v10, .ref (G.ad x3)] I11 L12 R
    obtain ⟨I14, eI14, h⟩ := wr_some h
    refine V_putI C0 3 3 fp_X5_102 c_x3.2 c_x3.1 rfl dX5_readTerm_68 ?_
    rw [← eI14]
    refine V_aload_n C0 3 rfl rfl dX5_readTerm_71 ?_
    refine V_getI C0 3 3 fl_X5_102 c_x3.2 c_x3.1 rfl dX5_readTerm_72 ?_
    refine V_iconst C0 (v := (-1 : Int32)) (by decide) dX5_readTerm_75 ?_
    refine V_icmp_eq C0 (tgt := 83) (by decide) dX5_readTerm_76 (fun c15 => ?_) (fun c15 => ?_)
    · have h := (if_pos c15).symm.trans h
      refine V_iconst C0 (v := (0 : Int32)) (by decide) dX5_readTerm_83 ?_
      cases h
      exact V_zret C0 (by decide) dX5_readTerm_84
    · have h := (if_neg c15).symm.trans h
      refine V_iconst C0 (v := (1 : Int32)) (by decide) dX5_readTerm_79 ?_
      refine V_goto C0 (tgt := 84) (by decide) dX5_readTerm_80 ?_
      cases h
      exact V_zret C0 (by decide) dX5_readTerm_84
  · have h := (if_neg c9).symm.trans h
    have nd8 := nd_add nd8 c9
    by_cases c16 : u7 = (1 : Int32)
    · have h := (if_pos c16).symm.trans h
      refine V_tableC C0 (tgt := 85) (v := (1 : Int32)) c16 (by decide) (by decide) dX5_readTerm_16 ?_
      refine V_aload_n C0 3 rfl rfl dX5_readTerm_85 ?_
      refine V_aload_n C0 0 rfl rfl dX5_readTerm_86 ?_
      refine V_aload_n C0 1 rfl rfl dX5_readTerm_87 ?_
      refine V_aload_n C0 2 rfl rfl dX5_readTerm_88 ?_
      refine V_iconst C0 (v := (0 : Int32)) (by decide) dX5_readTerm_89 ?_
      obtain ⟨v17, I18, L19, q20, h⟩ := bn3_some h
      refine V_callV C0 (st := [.ref (G.ad x3)]) (As := [.ref (G.ad x1), .ref (G.ad x2), .int (0 : Int32)]) 4 (c_X5_readName G.l G.D G.cA G.ad G.bs G.X C0.2.2.2.2.2.2.2.2.2.1 C0.2.2.2.2.2.2.2.2.2.2.2.2 N x0 x1 x2 (0 : Int32) I6 L2 R v17 I18 L19 q20) lc_X5_readName lk_X5_98 c_x0.2 c_x0.1 ⟨_, rfl, rfl⟩ rfl (by rw [erm]; decide) (Nat.le_of_ble_eq_true rfl) dX5_readTerm_90 ?_
      show V G _ 93 [(0, .ref (G.ad x0)), (1, .ref (G.ad x1)), (2, .ref (G.ad x2)), (3, .ref (G.ad x3))] [.int v17, .ref (G.ad x3)] I18 L19 R
      obtain ⟨I21, eI21, h⟩ := wr_some h
      refine V_putI C0 3 3 fp_X5_102 c_x3.2 c_x3.1 rfl dX5_readTerm_93 ?_
      rw [← eI21]
      refine V_aload_n C0 3 rfl rfl dX5_readTerm_96 ?_
      refine V_getI C0 3 3 fl_X5_102 c_x3.2 c_x3.1 rfl dX5_readTerm_97 ?_
      refine V_iconst C0 (v := (-1 : Int32)) (by decide) dX5_readTerm_100 ?_
      refine V_icmp_eq C0 (tgt := 108) (by decide) dX5_readTerm_101 (fun c22 => ?_) (fun c22 => ?_)
      · have h := (if_pos c22).symm.trans h
        refine V_iconst C0 (v := (0 : Int32)) (by decide) dX5_readTerm_108 ?_
        cases h
        exact V_zret C0 (by decide) dX5_readTerm_109
      · have h := (if_neg c22).symm.trans h
        refine V_iconst C0 (v := (1 : Int32)) (by decide) dX5_readTerm_104 ?_
        refine V_goto C0 (tgt := 109) (by decide) dX5_readTerm_105 ?_
        cases h
        exact V_zret C0 (by decide) dX5_readTerm_109
    · have h := (if_neg c16).symm.trans h
      have nd8 := nd_add nd8 c16
      by_cases c23 : u7 = (2 : Int32)
      · have h := (if_pos c23).symm.trans h
        refine V_tableC C0 (tgt := 110) (v := (2 : Int32)) c23 (by decide) (by decide) dX5_readTerm_16 ?_
        refine V_aload_n C0 3 rfl rfl dX5_readTerm_110 ?_
        refine V_aload_n C0 0 rfl rfl dX5_readTerm_111 ?_
        refine V_aload_n C0 1 rfl rfl dX5_readTerm_112 ?_
        refine V_aload_n C0 2 rfl rfl dX5_readTerm_113 ?_
        refine V_bipush C0 (v := (16 : Int32)) (by decide) dX5_readTerm_114 ?_
        obtain ⟨v24, I25, L26, q27, h⟩ := bn3_some h
        refine V_callV C0 (st := [.ref (G.ad x3)]) (As := [.ref (G.ad x1), .ref (G.ad x2), .int (16 : Int32)]) 4 (c_X5_readName G.l G.D G.cA G.ad G.bs G.X C0.2.2.2.2.2.2.2.2.2.1 C0.2.2.2.2.2.2.2.2.2.2.2.2 N x0 x1 x2 (16 : Int32) I6 L2 R v24 I25 L26 q27) lc_X5_readName lk_X5_98 c_x0.2 c_x0.1 ⟨_, rfl, rfl⟩ rfl (by rw [erm]; decide) (Nat.le_of_ble_eq_true rfl) dX5_readTerm_116 ?_
        show V G _ 119 [(0, .ref (G.ad x0)), (1, .ref (G.ad x1)), (2, .ref (G.ad x2)), (3, .ref (G.ad x3))] [.int v24, .ref (G.ad x3)] I25 L26 R
        obtain ⟨I28, eI28, h⟩ := wr_some h
        refine V_putI C0 3 3 fp_X5_102 c_x3.2 c_x3.1 rfl dX5_readTerm_119 ?_
        rw [← eI28]
        refine V_aload_n C0 3 rfl rfl dX5_readTerm_122 ?_
        refine V_getI C0 3 3 fl_X5_102 c_x3.2 c_x3.1 rfl dX5_readTerm_123 ?_
        refine V_iconst C0 (v := (-1 : Int32)) (by decide) dX5_readTerm_126 ?_
        refine V_icmp_eq C0 (tgt := 134) (by decide) dX5_readTerm_127 (fun c29 => ?_) (fun c29 => ?_)
        · have h := (if_pos c29).symm.trans h
          refine V_iconst C0 (v := (0 : Int32)) (by decide) dX5_readTerm_134 ?_
          cases h
          exact V_zret C0 (by decide) dX5_readTerm_135
        · have h := (if_neg c29).symm.trans h
          refine V_iconst C0 (v := (1 : Int32)) (by decide) dX5_readTerm_130 ?_
          refine V_goto C0 (tgt := 135) (by decide) dX5_readTerm_131 ?_
          cases h
          exact V_zret C0 (by decide) dX5_readTerm_135
      · have h := (if_neg c23).symm.trans h
        have nd8 := nd_add nd8 c23
        by_cases c30 : u7 = (3 : Int32)
        · have h := (if_pos c30).symm.trans h
          refine V_tableC C0 (tgt := 136) (v := (3 : Int32)) c30 (by decide) (by decide) dX5_readTerm_16 ?_
          refine V_aload_n C0 3 rfl rfl dX5_readTerm_136 ?_
          refine V_aload_n C0 0 rfl rfl dX5_readTerm_137 ?_
          refine V_aload_n C0 1 rfl rfl dX5_readTerm_138 ?_
          refine V_aload_n C0 2 rfl rfl dX5_readTerm_139 ?_
          refine V_bipush C0 (v := (9 : Int32)) (by decide) dX5_readTerm_140 ?_
          obtain ⟨v31, I32, L33, q34, h⟩ := bn3_some h
          refine V_callV C0 (st := [.ref (G.ad x3)]) (As := [.ref (G.ad x1), .ref (G.ad x2), .int (9 : Int32)]) 4 (c_X5_readName G.l G.D G.cA G.ad G.bs G.X C0.2.2.2.2.2.2.2.2.2.1 C0.2.2.2.2.2.2.2.2.2.2.2.2 N x0 x1 x2 (9 : Int32) I6 L2 R v31 I32 L33 q34) lc_X5_readName lk_X5_98 c_x0.2 c_x0.1 ⟨_, rfl, rfl⟩ rfl (by rw [erm]; decide) (Nat.le_of_ble_eq_true rfl) dX5_readTerm_142 ?_
          show V G _ 145 [(0, .ref (G.ad x0)), (1, .ref (G.ad x1)), (2, .ref (G.ad x2)), (3, .ref (G.ad x3))] [.int v31, .ref (G.ad x3)] I32 L33 R
          obtain ⟨I35, eI35, h⟩ := wr_some h
          refine V_putI C0 3 3 fp_X5_102 c_x3.2 c_x3.1 rfl dX5_readTerm_145 ?_
          rw [← eI35]
          refine V_aload_n C0 3 rfl rfl dX5_readTerm_148 ?_
          refine V_getI C0 3 3 fl_X5_102 c_x3.2 c_x3.1 rfl dX5_readTerm_149 ?_
          refine V_iconst C0 (v := (-1 : Int32)) (by decide) dX5_readTerm_152 ?_
          refine V_icmp_eq C0 (tgt := 160) (by decide) dX5_readTerm_153 (fun c36 => ?_) (fun c36 => ?_)
          · have h := (if_pos c36).symm.trans h
            refine V_iconst C0 (v := (0 : Int32)) (by decide) dX5_readTerm_160 ?_
            cases h
            exact V_zret C0 (by decide) dX5_readTerm_161
          · have h := (if_neg c36).symm.trans h
            refine V_iconst C0 (v := (1 : Int32)) (by decide) dX5_readTerm_156 ?_
            refine V_goto C0 (tgt := 161) (by decide) dX5_readTerm_157 ?_
            cases h
            exact V_zret C0 (by decide) dX5_readTerm_161
        · have h := (if_neg c30).symm.trans h
          have nd8 := nd_add nd8 c30
          by_cases c37 : u7 = (4 : Int32)
          · have h := (if_pos c37).symm.trans h
            refine V_tableC C0 (tgt := 162) (v := (4 : Int32)) c37 (by decide) (by decide) dX5_readTerm_16 ?_
            refine V_iconst C0 (v := (1 : Int32)) (by decide) dX5_readTerm_162 ?_
            cases h
            exact V_zret C0 (by decide) dX5_readTerm_163
          · have h := (if_neg c37).symm.trans h
            have nd8 := nd_add nd8 c37
            by_cases c38 : u7 = (5 : Int32)
            · have h := (if_pos c38).symm.trans h
              refine V_tableC C0 (tgt := 164) (v := (5 : Int32)) c38 (by decide) (by decide) dX5_readTerm_16 ?_
              refine V_aload_n C0 1 rfl rfl dX5_readTerm_164 ?_
              refine V_iconst C0 (v := (0 : Int32)) (by decide) dX5_readTerm_165 ?_
              refine V_iconst C0 (v := (2 : Int32)) (by decide) dX5_readTerm_166 ?_
              obtain ⟨b39, I40, L41, q42, h⟩ := bn3_some h
              refine V_callV C0 (st := []) (As := [.int (0 : Int32), .int (2 : Int32)]) 7 (c_X8_takeNumber_ G.l G.D G.cA G.ad G.bs G.X C0.2.2.2.2.2.2.2.2.2.1 C0.2.2.2.2.2.2.2.2.2.2.2.2 N x1 (0 : Int32) (2 : Int32) I6 L2 R b39 I40 L41 q42) lc_X8_takeNumber_ lk_X5_66 c_x1.2 c_x1.1 ⟨_, rfl, rfl⟩ rfl (by rw [erm]; decide) (Nat.le_of_ble_eq_true rfl) dX5_readTerm_167 ?_
              show V G _ 170 [(0, .ref (G.ad x0)), (1, .ref (G.ad x1)), (2, .ref (G.ad x2)), (3, .ref (G.ad x3))] [.int (b2i b39)] I40 L41 R
              obtain ⟨u43, eu43, h⟩ := wr_some h
              rw [← eu43]
              refine V_istore C0 [(4, .int u43), (0, .ref (G.ad x0)), (1, .ref (G.ad x1)), (2, .ref (G.ad x2)), (3, .ref (G.ad x3))] (by rw [eNL]; decide) rfl dX5_readTerm_170 ?_
              refine V_aload_n C0 4 rfl rfl dX5_readTerm_172 ?_
              refine V_aload_n C0 2 rfl rfl dX5_readTerm_173 ?_
              obtain ⟨v44, q45, h⟩ := bn1_some h
              refine V_callV C0 (st := [.ref (G.ad x3)]) (As := []) 7 (c_X8_number G.l G.D G.cA G.ad G.bs G.X C0.2.2.2.2.2.2.2.2.2.1 C0.2.2.2.2.2.2.2.2.2.2.2.2 x1 I40 L41 R v44 q45) lc_X8_number lk_X5_70 c_x1.2 c_x1.1 ⟨_, rfl, rfl⟩ rfl (by rw [erm]; decide) (Nat.le_of_ble_eq_true rfl) dX5_readTerm_174 ?_
              show V G _ 177 [(4, .int u43), (0, .ref (G.ad x0)), (1, .ref (G.ad x1)), (2, .ref (G.ad x2)), (3, .ref (G.ad x3))] [.int v44, .ref (G.ad x3)] I40 L41 R
              obtain ⟨I46, eI46, h⟩ := wr_some h
              refine V_putI C0 3 3 fp_X5_102 c_x3.2 c_x3.1 rfl dX5_readTerm_177 ?_
              rw [← eI46]
              refine V_iload C0 0 rfl dX5_readTerm_180 ?_
              obtain ⟨q47, qq47, h⟩ := bnd_some h
              rw [z01_b qq47]
              cases h
              exact V_zret C0 (b2i01 _) dX5_readTerm_182
            · have h := (if_neg c38).symm.trans h
              have nd8 := nd_add nd8 c38
              by_cases c48 : u7 = (6 : Int32)
              · have h := (if_pos c48).symm.trans h
                refine V_tableC C0 (tgt := 164) (v := (6 : Int32)) c48 (by decide) (by decide) dX5_readTerm_16 ?_
                refine V_aload_n C0 1 rfl rfl dX5_readTerm_164 ?_
                refine V_iconst C0 (v := (0 : Int32)) (by decide) dX5_readTerm_165 ?_
                refine V_iconst C0 (v := (2 : Int32)) (by decide) dX5_readTerm_166 ?_
                obtain ⟨b49, I50, L51, q52, h⟩ := bn3_some h
                refine V_callV C0 (st := []) (As := [.int (0 : Int32), .int (2 : Int32)]) 7 (c_X8_takeNumber_ G.l G.D G.cA G.ad G.bs G.X C0.2.2.2.2.2.2.2.2.2.1 C0.2.2.2.2.2.2.2.2.2.2.2.2 N x1 (0 : Int32) (2 : Int32) I6 L2 R b49 I50 L51 q52) lc_X8_takeNumber_ lk_X5_66 c_x1.2 c_x1.1 ⟨_, rfl, rfl⟩ rfl (by rw [erm]; decide) (Nat.le_of_ble_eq_true rfl) dX5_readTerm_167 ?_
                show V G _ 170 [(0, .ref (G.ad x0)), (1, .ref (G.ad x1)), (2, .ref (G.ad x2)), (3, .ref (G.ad x3))] [.int (b2i b49)] I50 L51 R
                obtain ⟨u53, eu53, h⟩ := wr_some h
                rw [← eu53]
                refine V_istore C0 [(4, .int u53), (0, .ref (G.ad x0)), (1, .ref (G.ad x1)), (2, .ref (G.ad x2)), (3, .ref (G.ad x3))] (by rw [eNL]; decide) rfl dX5_readTerm_170 ?_
                refine V_aload_n C0 4 rfl rfl dX5_readTerm_172 ?_
                refine V_aload_n C0 2 rfl rfl dX5_readTerm_173 ?_
                obtain ⟨v54, q55, h⟩ := bn1_some h
                refine V_callV C0 (st := [.ref (G.ad x3)]) (As := []) 7 (c_X8_number G.l G.D G.cA G.ad G.bs G.X C0.2.2.2.2.2.2.2.2.2.1 C0.2.2.2.2.2.2.2.2.2.2.2.2 x1 I50 L51 R v54 q55) lc_X8_number lk_X5_70 c_x1.2 c_x1.1 ⟨_, rfl, rfl⟩ rfl (by rw [erm]; decide) (Nat.le_of_ble_eq_true rfl) dX5_readTerm_174 ?_
                show V G _ 177 [(4, .int u53), (0, .ref (G.ad x0)), (1, .ref (G.ad x1)), (2, .ref (G.ad x2)), (3, .ref (G.ad x3))] [.int v54, .ref (G.ad x3)] I50 L51 R
                obtain ⟨I56, eI56, h⟩ := wr_some h
                refine V_putI C0 3 3 fp_X5_102 c_x3.2 c_x3.1 rfl dX5_readTerm_177 ?_
                rw [← eI56]
                refine V_iload C0 0 rfl dX5_readTerm_180 ?_
                obtain ⟨q57, qq57, h⟩ := bnd_some h
                rw [z01_b qq57]
                cases h
                exact V_zret C0 (b2i01 _) dX5_readTerm_182
              · have h := (if_neg c48).symm.trans h
                have nd8 := nd_add nd8 c48
                refine V_tableN C0 (tgt := 183) nd8 (by decide) (by decide) dX5_readTerm_16 ?_
                refine V_aload_n C0 1 rfl rfl dX5_readTerm_183 ?_
                refine V_iconst C0 (v := (2 : Int32)) (by decide) dX5_readTerm_184 ?_
                obtain ⟨b58, I59, q60, h⟩ := bn2_some h
                refine V_callV C0 (st := []) (As := [.int (2 : Int32)]) 7 (c_X8_refuse G.l G.D G.cA G.ad G.bs G.X C0.2.2.2.2.2.2.2.2.2.1 C0.2.2.2.2.2.2.2.2.2.2.2.2 x1 (2 : Int32) I6 L2 R b58 I59 q60) lc_X8_refuse lk_X5_57 c_x1.2 c_x1.1 ⟨_, rfl, rfl⟩ rfl (by rw [erm]; decide) (Nat.le_of_ble_eq_true rfl) dX5_readTerm_185 ?_
                show V G _ 188 [(0, .ref (G.ad x0)), (1, .ref (G.ad x1)), (2, .ref (G.ad x2)), (3, .ref (G.ad x3))] [.int (b2i b58)] I59 L2 R
                cases h
                exact V_zret C0 (b2i01 _) dX5_readTerm_188
theorem dX5_actOf_0 : decode cX5_actOf 0 = .ok (.aload_n 0, 1) := by decide +kernel
theorem dX5_actOf_1 : decode cX5_actOf 1 = .ok (.ldc 158, 2) := by decide +kernel
theorem dX5_actOf_3 : decode cX5_actOf 3 = .ok (.invokevirtual 49, 3) := by decide +kernel
theorem dX5_actOf_6 : decode cX5_actOf 6 = .ok (.ifCond .eq 5, 3) := by decide +kernel
theorem dX5_actOf_9 : decode cX5_actOf 9 = .ok (.iconst 0, 1) := by decide +kernel
theorem dX5_actOf_10 : decode cX5_actOf 10 = .ok (.ireturn, 1) := by decide +kernel
theorem dX5_actOf_11 : decode cX5_actOf 11 = .ok (.aload_n 0, 1) := by decide +kernel
theorem dX5_actOf_12 : decode cX5_actOf 12 = .ok (.ldc 160, 2) := by decide +kernel
theorem dX5_actOf_14 : decode cX5_actOf 14 = .ok (.invokevirtual 49, 3) := by decide +kernel
theorem dX5_actOf_17 : decode cX5_actOf 17 = .ok (.ifCond .eq 5, 3) := by decide +kernel
theorem dX5_actOf_20 : decode cX5_actOf 20 = .ok (.iconst 1, 1) := by decide +kernel
theorem dX5_actOf_21 : decode cX5_actOf 21 = .ok (.ireturn, 1) := by decide +kernel
theorem dX5_actOf_22 : decode cX5_actOf 22 = .ok (.aload_n 0, 1) := by decide +kernel
theorem dX5_actOf_23 : decode cX5_actOf 23 = .ok (.ldc 162, 2) := by decide +kernel
theorem dX5_actOf_25 : decode cX5_actOf 25 = .ok (.invokevirtual 49, 3) := by decide +kernel
theorem dX5_actOf_28 : decode cX5_actOf 28 = .ok (.ifCond .eq 5, 3) := by decide +kernel
theorem dX5_actOf_31 : decode cX5_actOf 31 = .ok (.iconst 2, 1) := by decide +kernel
theorem dX5_actOf_32 : decode cX5_actOf 32 = .ok (.ireturn, 1) := by decide +kernel
theorem dX5_actOf_33 : decode cX5_actOf 33 = .ok (.aload_n 0, 1) := by decide +kernel
theorem dX5_actOf_34 : decode cX5_actOf 34 = .ok (.ldc 164, 2) := by decide +kernel
theorem dX5_actOf_36 : decode cX5_actOf 36 = .ok (.invokevirtual 49, 3) := by decide +kernel
theorem dX5_actOf_39 : decode cX5_actOf 39 = .ok (.ifCond .eq 5, 3) := by decide +kernel
theorem dX5_actOf_42 : decode cX5_actOf 42 = .ok (.iconst 3, 1) := by decide +kernel
theorem dX5_actOf_43 : decode cX5_actOf 43 = .ok (.ireturn, 1) := by decide +kernel
theorem dX5_actOf_44 : decode cX5_actOf 44 = .ok (.aload_n 0, 1) := by decide +kernel
theorem dX5_actOf_45 : decode cX5_actOf 45 = .ok (.ldc 166, 2) := by decide +kernel
theorem dX5_actOf_47 : decode cX5_actOf 47 = .ok (.invokevirtual 49, 3) := by decide +kernel
theorem dX5_actOf_50 : decode cX5_actOf 50 = .ok (.ifCond .eq 5, 3) := by decide +kernel
theorem dX5_actOf_53 : decode cX5_actOf 53 = .ok (.iconst 4, 1) := by decide +kernel
theorem dX5_actOf_54 : decode cX5_actOf 54 = .ok (.ireturn, 1) := by decide +kernel
theorem dX5_actOf_55 : decode cX5_actOf 55 = .ok (.aload_n 0, 1) := by decide +kernel
theorem dX5_actOf_56 : decode cX5_actOf 56 = .ok (.ldc 168, 2) := by decide +kernel
theorem dX5_actOf_58 : decode cX5_actOf 58 = .ok (.invokevirtual 49, 3) := by decide +kernel
theorem dX5_actOf_61 : decode cX5_actOf 61 = .ok (.ifCond .eq 5, 3) := by decide +kernel
theorem dX5_actOf_64 : decode cX5_actOf 64 = .ok (.iconst 5, 1) := by decide +kernel
theorem dX5_actOf_65 : decode cX5_actOf 65 = .ok (.ireturn, 1) := by decide +kernel
theorem dX5_actOf_66 : decode cX5_actOf 66 = .ok (.aload_n 0, 1) := by decide +kernel
theorem dX5_actOf_67 : decode cX5_actOf 67 = .ok (.ldc 170, 2) := by decide +kernel
theorem dX5_actOf_69 : decode cX5_actOf 69 = .ok (.invokevirtual 49, 3) := by decide +kernel
theorem dX5_actOf_72 : decode cX5_actOf 72 = .ok (.ifCond .eq 8, 3) := by decide +kernel
theorem dX5_actOf_75 : decode cX5_actOf 75 = .ok (.bipush 6, 2) := by decide +kernel
theorem dX5_actOf_77 : decode cX5_actOf 77 = .ok (.goto 4, 3) := by decide +kernel
theorem dX5_actOf_80 : decode cX5_actOf 80 = .ok (.iconst (-1), 1) := by decide +kernel
theorem dX5_actOf_81 : decode cX5_actOf 81 = .ok (.ireturn, 1) := by decide +kernel
def F_X5_actOf (N : Nat) (x0 : Nat) (I : MI) (L : ML) (R : MR) : Option (Int32) :=
  if kd x0 = 7 ∧ x0 < NN then
  bn1 (F_X8_isWord N x0 432 I L R) fun b1 =>
  if (b2i b1) = 0 then
    bn1 (F_X8_isWord N x0 433 I L R) fun b4 =>
    if (b2i b4) = 0 then
      bn1 (F_X8_isWord N x0 434 I L R) fun b7 =>
      if (b2i b7) = 0 then
        bn1 (F_X8_isWord N x0 435 I L R) fun b10 =>
        if (b2i b10) = 0 then
          bn1 (F_X8_isWord N x0 436 I L R) fun b13 =>
          if (b2i b13) = 0 then
            bn1 (F_X8_isWord N x0 437 I L R) fun b16 =>
            if (b2i b16) = 0 then
              bn1 (F_X8_isWord N x0 438 I L R) fun b19 =>
              if (b2i b19) = 0 then
                some ((-1 : Int32))
              else
                some ((6 : Int32))
            else
              some ((5 : Int32))
          else
            some ((4 : Int32))
        else
          some ((3 : Int32))
      else
        some ((2 : Int32))
    else
      some ((1 : Int32))
  else
    some ((0 : Int32))
  else none
set_option maxRecDepth 100000 in
set_option maxHeartbeats 4000000 in
theorem c_X5_actOf (l : Launch) (D : va_G) (cA : Nat → ClassId) (ad : Nat → Nat) (bs : Nat) (X : State → Prop) (hAd : Ax ad bs) (hX : Stb bs X) (ht : Ssb ad bs X) (N : Nat) (x0 : Nat) (I : MI) (L : ML) (R : MR) (r : Int32) (h : F_X5_actOf N x0 I L R = some (r)) : Cn l D cA ad bs X yX5_actOf cX5_actOf 1 (some .int) 6 128 [.ref (ad x0)] I L R (some (.int r), I, L, R) := by
  refine Cn.ofV hAd hX [(0, .ref (ad x0))] rfl (Nat.le_of_ble_eq_true rfl) (by decide) ?_
  intro G el eD ecA ead ebs eX erm eNL C0
  subst el eD ecA ead ebs eX
  have hsb := ht _ C0.2.2.2.2.2.2.2.2.2.2.2.1
  unfold F_X5_actOf at h
  obtain ⟨c_x0, h⟩ := ite_some h
  refine V_aload_n C0 0 rfl rfl dX5_actOf_0 ?_
  refine V_ldcS C0 (q := G.ad 432) (hsb.2.2.2.2.2 ("SmallCraft$Plan", 158, "on", 32) (by decide)) dX5_actOf_1 ?_
  obtain ⟨b1, q2, h⟩ := bn1_some h
  refine V_callV C0 (st := []) (As := [.ref (G.ad 432)]) 7 (c_X8_isWord G.l G.D G.cA G.ad G.bs G.X C0.2.2.2.2.2.2.2.2.2.1 C0.2.2.2.2.2.2.2.2.2.2.2.2 ht N x0 432 I L R b1 q2) lc_X8_isWord lk_X5_49 c_x0.2 c_x0.1 ⟨_, rfl, rfl⟩ rfl (by rw [erm]; decide) (Nat.le_of_ble_eq_true rfl) dX5_actOf_3 ?_
  show V G _ 6 [(0, .ref (G.ad x0))] [.int (b2i b1)] I L R
  refine V_if_eq C0 (tgt := 11) (by decide) dX5_actOf_6 (fun c3 => ?_) (fun c3 => ?_)
  · have h := (if_pos c3).symm.trans h
    refine V_aload_n C0 0 rfl rfl dX5_actOf_11 ?_
    refine V_ldcS C0 (q := G.ad 433) (hsb.2.2.2.2.2 ("SmallCraft$Plan", 160, "off", 33) (by decide)) dX5_actOf_12 ?_
    obtain ⟨b4, q5, h⟩ := bn1_some h
    refine V_callV C0 (st := []) (As := [.ref (G.ad 433)]) 7 (c_X8_isWord G.l G.D G.cA G.ad G.bs G.X C0.2.2.2.2.2.2.2.2.2.1 C0.2.2.2.2.2.2.2.2.2.2.2.2 ht N x0 433 I L R b4 q5) lc_X8_isWord lk_X5_49 c_x0.2 c_x0.1 ⟨_, rfl, rfl⟩ rfl (by rw [erm]; decide) (Nat.le_of_ble_eq_true rfl) dX5_actOf_14 ?_
    show V G _ 17 [(0, .ref (G.ad x0))] [.int (b2i b4)] I L R
    refine V_if_eq C0 (tgt := 22) (by decide) dX5_actOf_17 (fun c6 => ?_) (fun c6 => ?_)
    · have h := (if_pos c6).symm.trans h
      refine V_aload_n C0 0 rfl rfl dX5_actOf_22 ?_
      refine V_ldcS C0 (q := G.ad 434) (hsb.2.2.2.2.2 ("SmallCraft$Plan", 162, "mode", 34) (by decide)) dX5_actOf_23 ?_
      obtain ⟨b7, q8, h⟩ := bn1_some h
      refine V_callV C0 (st := []) (As := [.ref (G.ad 434)]) 7 (c_X8_isWord G.l G.D G.cA G.ad G.bs G.X C0.2.2.2.2.2.2.2.2.2.1 C0.2.2.2.2.2.2.2.2.2.2.2.2 ht N x0 434 I L R b7 q8) lc_X8_isWord lk_X5_49 c_x0.2 c_x0.1 ⟨_, rfl, rfl⟩ rfl (by rw [erm]; decide) (Nat.le_of_ble_eq_true rfl) dX5_actOf_25 ?_
      show V G _ 28 [(0, .ref (G.ad x0))] [.int (b2i b7)] I L R
      refine V_if_eq C0 (tgt := 33) (by decide) dX5_actOf_28 (fun c9 => ?_) (fun c9 => ?_)
      · have h := (if_pos c9).symm.trans h
        refine V_aload_n C0 0 rfl rfl dX5_actOf_33 ?_
        refine V_ldcS C0 (q := G.ad 435) (hsb.2.2.2.2.2 ("SmallCraft$Plan", 164, "aim", 35) (by decide)) dX5_actOf_34 ?_
        obtain ⟨b10, q11, h⟩ := bn1_some h
        refine V_callV C0 (st := []) (As := [.ref (G.ad 435)]) 7 (c_X8_isWord G.l G.D G.cA G.ad G.bs G.X C0.2.2.2.2.2.2.2.2.2.1 C0.2.2.2.2.2.2.2.2.2.2.2.2 ht N x0 435 I L R b10 q11) lc_X8_isWord lk_X5_49 c_x0.2 c_x0.1 ⟨_, rfl, rfl⟩ rfl (by rw [erm]; decide) (Nat.le_of_ble_eq_true rfl) dX5_actOf_36 ?_
        show V G _ 39 [(0, .ref (G.ad x0))] [.int (b2i b10)] I L R
        refine V_if_eq C0 (tgt := 44) (by decide) dX5_actOf_39 (fun c12 => ?_) (fun c12 => ?_)
        · have h := (if_pos c12).symm.trans h
          refine V_aload_n C0 0 rfl rfl dX5_actOf_44 ?_
          refine V_ldcS C0 (q := G.ad 436) (hsb.2.2.2.2.2 ("SmallCraft$Plan", 166, "restart", 36) (by decide)) dX5_actOf_45 ?_
          obtain ⟨b13, q14, h⟩ := bn1_some h
          refine V_callV C0 (st := []) (As := [.ref (G.ad 436)]) 7 (c_X8_isWord G.l G.D G.cA G.ad G.bs G.X C0.2.2.2.2.2.2.2.2.2.1 C0.2.2.2.2.2.2.2.2.2.2.2.2 ht N x0 436 I L R b13 q14) lc_X8_isWord lk_X5_49 c_x0.2 c_x0.1 ⟨_, rfl, rfl⟩ rfl (by rw [erm]; decide) (Nat.le_of_ble_eq_true rfl) dX5_actOf_47 ?_
          show V G _ 50 [(0, .ref (G.ad x0))] [.int (b2i b13)] I L R
          refine V_if_eq C0 (tgt := 55) (by decide) dX5_actOf_50 (fun c15 => ?_) (fun c15 => ?_)
          · have h := (if_pos c15).symm.trans h
            refine V_aload_n C0 0 rfl rfl dX5_actOf_55 ?_
            refine V_ldcS C0 (q := G.ad 437) (hsb.2.2.2.2.2 ("SmallCraft$Plan", 168, "wipe", 37) (by decide)) dX5_actOf_56 ?_
            obtain ⟨b16, q17, h⟩ := bn1_some h
            refine V_callV C0 (st := []) (As := [.ref (G.ad 437)]) 7 (c_X8_isWord G.l G.D G.cA G.ad G.bs G.X C0.2.2.2.2.2.2.2.2.2.1 C0.2.2.2.2.2.2.2.2.2.2.2.2 ht N x0 437 I L R b16 q17) lc_X8_isWord lk_X5_49 c_x0.2 c_x0.1 ⟨_, rfl, rfl⟩ rfl (by rw [erm]; decide) (Nat.le_of_ble_eq_true rfl) dX5_actOf_58 ?_
            show V G _ 61 [(0, .ref (G.ad x0))] [.int (b2i b16)] I L R
            refine V_if_eq C0 (tgt := 66) (by decide) dX5_actOf_61 (fun c18 => ?_) (fun c18 => ?_)
            · have h := (if_pos c18).symm.trans h
              refine V_aload_n C0 0 rfl rfl dX5_actOf_66 ?_
              refine V_ldcS C0 (q := G.ad 438) (hsb.2.2.2.2.2 ("SmallCraft$Plan", 170, "stop", 38) (by decide)) dX5_actOf_67 ?_
              obtain ⟨b19, q20, h⟩ := bn1_some h
              refine V_callV C0 (st := []) (As := [.ref (G.ad 438)]) 7 (c_X8_isWord G.l G.D G.cA G.ad G.bs G.X C0.2.2.2.2.2.2.2.2.2.1 C0.2.2.2.2.2.2.2.2.2.2.2.2 ht N x0 438 I L R b19 q20) lc_X8_isWord lk_X5_49 c_x0.2 c_x0.1 ⟨_, rfl, rfl⟩ rfl (by rw [erm]; decide) (Nat.le_of_ble_eq_true rfl) dX5_actOf_69 ?_
              show V G _ 72 [(0, .ref (G.ad x0))] [.int (b2i b19)] I L R
              refine V_if_eq C0 (tgt := 80) (by decide) dX5_actOf_72 (fun c21 => ?_) (fun c21 => ?_)
              · have h := (if_pos c21).symm.trans h
                refine V_iconst C0 (v := (-1 : Int32)) (by decide) dX5_actOf_80 ?_
                cases h
                exact V_iret C0 dX5_actOf_81
              · have h := (if_neg c21).symm.trans h
                refine V_bipush C0 (v := (6 : Int32)) (by decide) dX5_actOf_75 ?_
                refine V_goto C0 (tgt := 81) (by decide) dX5_actOf_77 ?_
                cases h
                exact V_iret C0 dX5_actOf_81
            · have h := (if_neg c18).symm.trans h
              refine V_iconst C0 (v := (5 : Int32)) (by decide) dX5_actOf_64 ?_
              cases h
              exact V_iret C0 dX5_actOf_65
          · have h := (if_neg c15).symm.trans h
            refine V_iconst C0 (v := (4 : Int32)) (by decide) dX5_actOf_53 ?_
            cases h
            exact V_iret C0 dX5_actOf_54
        · have h := (if_neg c12).symm.trans h
          refine V_iconst C0 (v := (3 : Int32)) (by decide) dX5_actOf_42 ?_
          cases h
          exact V_iret C0 dX5_actOf_43
      · have h := (if_neg c9).symm.trans h
        refine V_iconst C0 (v := (2 : Int32)) (by decide) dX5_actOf_31 ?_
        cases h
        exact V_iret C0 dX5_actOf_32
    · have h := (if_neg c6).symm.trans h
      refine V_iconst C0 (v := (1 : Int32)) (by decide) dX5_actOf_20 ?_
      cases h
      exact V_iret C0 dX5_actOf_21
  · have h := (if_neg c3).symm.trans h
    refine V_iconst C0 (v := (0 : Int32)) (by decide) dX5_actOf_9 ?_
    cases h
    exact V_iret C0 dX5_actOf_10
theorem dX5_readAct_0 : decode cX5_readAct 0 = .ok (.aload_n 1, 1) := by decide +kernel
theorem dX5_readAct_1 : decode cX5_readAct 1 = .ok (.invokevirtual 34, 3) := by decide +kernel
theorem dX5_readAct_4 : decode cX5_readAct 4 = .ok (.aload_n 3, 1) := by decide +kernel
theorem dX5_readAct_5 : decode cX5_readAct 5 = .ok (.aload_n 1, 1) := by decide +kernel
theorem dX5_readAct_6 : decode cX5_readAct 6 = .ok (.invokestatic 146, 3) := by decide +kernel
theorem dX5_readAct_9 : decode cX5_readAct 9 = .ok (.putfield 149, 3) := by decide +kernel
theorem dX5_readAct_12 : decode cX5_readAct 12 = .ok (.aload_n 3, 1) := by decide +kernel
theorem dX5_readAct_13 : decode cX5_readAct 13 = .ok (.getfield 149, 3) := by decide +kernel
theorem dX5_readAct_16 : decode cX5_readAct 16 = .ok (.tableswitch 183 0 6 #[44, 44, 94, 133, 44, 69, 113], 44) := by decide +kernel
theorem dX5_readAct_60 : decode cX5_readAct 60 = .ok (.aload_n 3, 1) := by decide +kernel
theorem dX5_readAct_61 : decode cX5_readAct 61 = .ok (.aload_n 0, 1) := by decide +kernel
theorem dX5_readAct_62 : decode cX5_readAct 62 = .ok (.aload_n 1, 1) := by decide +kernel
theorem dX5_readAct_63 : decode cX5_readAct 63 = .ok (.aload_n 2, 1) := by decide +kernel
theorem dX5_readAct_64 : decode cX5_readAct 64 = .ok (.iconst 0, 1) := by decide +kernel
theorem dX5_readAct_65 : decode cX5_readAct 65 = .ok (.invokevirtual 98, 3) := by decide +kernel
theorem dX5_readAct_68 : decode cX5_readAct 68 = .ok (.putfield 152, 3) := by decide +kernel
theorem dX5_readAct_71 : decode cX5_readAct 71 = .ok (.aload_n 3, 1) := by decide +kernel
theorem dX5_readAct_72 : decode cX5_readAct 72 = .ok (.getfield 152, 3) := by decide +kernel
theorem dX5_readAct_75 : decode cX5_readAct 75 = .ok (.iconst (-1), 1) := by decide +kernel
theorem dX5_readAct_76 : decode cX5_readAct 76 = .ok (.if_icmp .eq 7, 3) := by decide +kernel
theorem dX5_readAct_79 : decode cX5_readAct 79 = .ok (.iconst 1, 1) := by decide +kernel
theorem dX5_readAct_80 : decode cX5_readAct 80 = .ok (.goto 4, 3) := by decide +kernel
theorem dX5_readAct_83 : decode cX5_readAct 83 = .ok (.iconst 0, 1) := by decide +kernel
theorem dX5_readAct_84 : decode cX5_readAct 84 = .ok (.ireturn, 1) := by decide +kernel
theorem dX5_readAct_85 : decode cX5_readAct 85 = .ok (.aload_n 3, 1) := by decide +kernel
theorem dX5_readAct_86 : decode cX5_readAct 86 = .ok (.aload_n 0, 1) := by decide +kernel
theorem dX5_readAct_87 : decode cX5_readAct 87 = .ok (.aload_n 1, 1) := by decide +kernel
theorem dX5_readAct_88 : decode cX5_readAct 88 = .ok (.aload_n 2, 1) := by decide +kernel
theorem dX5_readAct_89 : decode cX5_readAct 89 = .ok (.iconst 5, 1) := by decide +kernel
theorem dX5_readAct_90 : decode cX5_readAct 90 = .ok (.invokevirtual 98, 3) := by decide +kernel
theorem dX5_readAct_93 : decode cX5_readAct 93 = .ok (.putfield 152, 3) := by decide +kernel
theorem dX5_readAct_96 : decode cX5_readAct 96 = .ok (.aload_n 3, 1) := by decide +kernel
theorem dX5_readAct_97 : decode cX5_readAct 97 = .ok (.getfield 152, 3) := by decide +kernel
theorem dX5_readAct_100 : decode cX5_readAct 100 = .ok (.iconst (-1), 1) := by decide +kernel
theorem dX5_readAct_101 : decode cX5_readAct 101 = .ok (.if_icmp .eq 7, 3) := by decide +kernel
theorem dX5_readAct_104 : decode cX5_readAct 104 = .ok (.iconst 1, 1) := by decide +kernel
theorem dX5_readAct_105 : decode cX5_readAct 105 = .ok (.goto 4, 3) := by decide +kernel
theorem dX5_readAct_108 : decode cX5_readAct 108 = .ok (.iconst 0, 1) := by decide +kernel
theorem dX5_readAct_109 : decode cX5_readAct 109 = .ok (.ireturn, 1) := by decide +kernel
theorem dX5_readAct_110 : decode cX5_readAct 110 = .ok (.aload_n 1, 1) := by decide +kernel
theorem dX5_readAct_111 : decode cX5_readAct 111 = .ok (.iconst 0, 1) := by decide +kernel
theorem dX5_readAct_112 : decode cX5_readAct 112 = .ok (.iconst 3, 1) := by decide +kernel
theorem dX5_readAct_113 : decode cX5_readAct 113 = .ok (.invokevirtual 66, 3) := by decide +kernel
theorem dX5_readAct_116 : decode cX5_readAct 116 = .ok (.istore 4, 2) := by decide +kernel
theorem dX5_readAct_118 : decode cX5_readAct 118 = .ok (.aload_n 3, 1) := by decide +kernel
theorem dX5_readAct_119 : decode cX5_readAct 119 = .ok (.aload_n 1, 1) := by decide +kernel
theorem dX5_readAct_120 : decode cX5_readAct 120 = .ok (.invokevirtual 70, 3) := by decide +kernel
theorem dX5_readAct_123 : decode cX5_readAct 123 = .ok (.putfield 152, 3) := by decide +kernel
theorem dX5_readAct_126 : decode cX5_readAct 126 = .ok (.iload 4, 2) := by decide +kernel
theorem dX5_readAct_128 : decode cX5_readAct 128 = .ok (.ireturn, 1) := by decide +kernel
theorem dX5_readAct_129 : decode cX5_readAct 129 = .ok (.aload_n 1, 1) := by decide +kernel
theorem dX5_readAct_130 : decode cX5_readAct 130 = .ok (.iconst 0, 1) := by decide +kernel
theorem dX5_readAct_131 : decode cX5_readAct 131 = .ok (.bipush 29, 2) := by decide +kernel
theorem dX5_readAct_133 : decode cX5_readAct 133 = .ok (.invokevirtual 66, 3) := by decide +kernel
theorem dX5_readAct_136 : decode cX5_readAct 136 = .ok (.istore 4, 2) := by decide +kernel
theorem dX5_readAct_138 : decode cX5_readAct 138 = .ok (.aload_n 3, 1) := by decide +kernel
theorem dX5_readAct_139 : decode cX5_readAct 139 = .ok (.aload_n 1, 1) := by decide +kernel
theorem dX5_readAct_140 : decode cX5_readAct 140 = .ok (.invokevirtual 70, 3) := by decide +kernel
theorem dX5_readAct_143 : decode cX5_readAct 143 = .ok (.putfield 152, 3) := by decide +kernel
theorem dX5_readAct_146 : decode cX5_readAct 146 = .ok (.iload 4, 2) := by decide +kernel
theorem dX5_readAct_148 : decode cX5_readAct 148 = .ok (.ireturn, 1) := by decide +kernel
theorem dX5_readAct_149 : decode cX5_readAct 149 = .ok (.aload_n 1, 1) := by decide +kernel
theorem dX5_readAct_150 : decode cX5_readAct 150 = .ok (.iconst 0, 1) := by decide +kernel
theorem dX5_readAct_151 : decode cX5_readAct 151 = .ok (.iconst 2, 1) := by decide +kernel
theorem dX5_readAct_152 : decode cX5_readAct 152 = .ok (.invokevirtual 66, 3) := by decide +kernel
theorem dX5_readAct_155 : decode cX5_readAct 155 = .ok (.istore 4, 2) := by decide +kernel
theorem dX5_readAct_157 : decode cX5_readAct 157 = .ok (.aload_n 3, 1) := by decide +kernel
theorem dX5_readAct_158 : decode cX5_readAct 158 = .ok (.aload_n 1, 1) := by decide +kernel
theorem dX5_readAct_159 : decode cX5_readAct 159 = .ok (.invokevirtual 70, 3) := by decide +kernel
theorem dX5_readAct_162 : decode cX5_readAct 162 = .ok (.putfield 152, 3) := by decide +kernel
theorem dX5_readAct_165 : decode cX5_readAct 165 = .ok (.iload 4, 2) := by decide +kernel
theorem dX5_readAct_167 : decode cX5_readAct 167 = .ok (.ifCond .eq 18, 3) := by decide +kernel
theorem dX5_readAct_170 : decode cX5_readAct 170 = .ok (.aload_n 1, 1) := by decide +kernel
theorem dX5_readAct_171 : decode cX5_readAct 171 = .ok (.iconst 0, 1) := by decide +kernel
theorem dX5_readAct_172 : decode cX5_readAct 172 = .ok (.sipush 3599, 3) := by decide +kernel
theorem dX5_readAct_175 : decode cX5_readAct 175 = .ok (.invokevirtual 66, 3) := by decide +kernel
theorem dX5_readAct_178 : decode cX5_readAct 178 = .ok (.ifCond .eq 7, 3) := by decide +kernel
theorem dX5_readAct_181 : decode cX5_readAct 181 = .ok (.iconst 1, 1) := by decide +kernel
theorem dX5_readAct_182 : decode cX5_readAct 182 = .ok (.goto 4, 3) := by decide +kernel
theorem dX5_readAct_185 : decode cX5_readAct 185 = .ok (.iconst 0, 1) := by decide +kernel
theorem dX5_readAct_186 : decode cX5_readAct 186 = .ok (.istore 4, 2) := by decide +kernel
theorem dX5_readAct_188 : decode cX5_readAct 188 = .ok (.aload_n 3, 1) := by decide +kernel
theorem dX5_readAct_189 : decode cX5_readAct 189 = .ok (.aload_n 1, 1) := by decide +kernel
theorem dX5_readAct_190 : decode cX5_readAct 190 = .ok (.invokevirtual 70, 3) := by decide +kernel
theorem dX5_readAct_193 : decode cX5_readAct 193 = .ok (.putfield 155, 3) := by decide +kernel
theorem dX5_readAct_196 : decode cX5_readAct 196 = .ok (.iload 4, 2) := by decide +kernel
theorem dX5_readAct_198 : decode cX5_readAct 198 = .ok (.ireturn, 1) := by decide +kernel
theorem dX5_readAct_199 : decode cX5_readAct 199 = .ok (.aload_n 1, 1) := by decide +kernel
theorem dX5_readAct_200 : decode cX5_readAct 200 = .ok (.iconst 2, 1) := by decide +kernel
theorem dX5_readAct_201 : decode cX5_readAct 201 = .ok (.invokevirtual 57, 3) := by decide +kernel
theorem dX5_readAct_204 : decode cX5_readAct 204 = .ok (.ireturn, 1) := by decide +kernel
def F_X5_readAct (N : Nat) (x0 : Nat) (x1 : Nat) (x2 : Nat) (x3 : Nat) (I : MI) (L : ML) (R : MR) : Option (Bool × MI × ML) :=
  if kd x0 = 4 ∧ x0 < NN then
  if kd x1 = 7 ∧ x1 < NN then
  if kd x2 = 9 ∧ x2 < NN then
  if kd x3 = 3 ∧ x3 < NN then
  bn2 (F_X8_next N x1 I L R) fun I1 L2 =>
  bn1 (F_X5_actOf N x1 I1 L2 R) fun v4 =>
  wr (uI I1 x3 4 v4) fun (I6 : MI) =>
  wr (I6 x3 4) fun (u7 : Int32) =>
  if u7 = (0 : Int32) then
    bn3 (F_X5_readName N x0 x1 x2 (0 : Int32) I6 L2 R) fun v10 I11 L12 =>
    wr (uI I11 x3 5 v10) fun (I14 : MI) =>
    if (I14 x3 5) = (-1 : Int32) then
      some (false, I14, L12)
    else
      some (true, I14, L12)
  else
    if u7 = (1 : Int32) then
      bn3 (F_X5_readName N x0 x1 x2 (0 : Int32) I6 L2 R) fun v17 I18 L19 =>
      wr (uI I18 x3 5 v17) fun (I21 : MI) =>
      if (I21 x3 5) = (-1 : Int32) then
        some (false, I21, L19)
      else
        some (true, I21, L19)
    else
      if u7 = (2 : Int32) then
        bn3 (F_X8_takeNumber_ N x1 (0 : Int32) (3 : Int32) I6 L2 R) fun b24 I25 L26 =>
        wr (b2i b24) fun (u28 : Int32) =>
        bn1 (F_X8_number x1 I25 L26 R) fun v29 =>
        wr (uI I25 x3 5 v29) fun (I31 : MI) =>
        (z01 u28).bind fun q32 =>
        some (q32, I31, L26)
      else
        if u7 = (3 : Int32) then
          bn3 (F_X8_takeNumber_ N x1 (0 : Int32) (2 : Int32) I6 L2 R) fun b34 I35 L36 =>
          wr (b2i b34) fun (u38 : Int32) =>
          bn1 (F_X8_number x1 I35 L36 R) fun v39 =>
          wr (uI I35 x3 5 v39) fun (I41 : MI) =>
          bn3 (
            if u38 = 0 then
              some ((0 : Int32), I41, L36)
            else
              bn3 (F_X8_takeNumber_ N x1 (0 : Int32) (3599 : Int32) I41 L36 R) fun b48 I49 L50 =>
              bn1 (
                if (b2i b48) = 0 then
                  some ((0 : Int32))
                else
                  some ((1 : Int32))
              ) fun (s52 : Int32) =>
              some (s52, I49, L50)
          ) fun (s42 : Int32) (I43 : MI) (L44 : ML) =>
          bn1 (F_X8_number x1 I43 L44 R) fun v56 =>
          wr (uI I43 x3 6 v56) fun (I58 : MI) =>
          (z01 s42).bind fun q59 =>
          some (q59, I58, L44)
        else
          if u7 = (4 : Int32) then
            bn3 (F_X5_readName N x0 x1 x2 (0 : Int32) I6 L2 R) fun v61 I62 L63 =>
            wr (uI I62 x3 5 v61) fun (I65 : MI) =>
            if (I65 x3 5) = (-1 : Int32) then
              some (false, I65, L63)
            else
              some (true, I65, L63)
          else
            if u7 = (5 : Int32) then
              bn3 (F_X5_readName N x0 x1 x2 (5 : Int32) I6 L2 R) fun v68 I69 L70 =>
              wr (uI I69 x3 5 v68) fun (I72 : MI) =>
              if (I72 x3 5) = (-1 : Int32) then
                some (false, I72, L70)
              else
                some (true, I72, L70)
            else
              if u7 = (6 : Int32) then
                bn3 (F_X8_takeNumber_ N x1 (0 : Int32) (29 : Int32) I6 L2 R) fun b75 I76 L77 =>
                wr (b2i b75) fun (u79 : Int32) =>
                bn1 (F_X8_number x1 I76 L77 R) fun v80 =>
                wr (uI I76 x3 5 v80) fun (I82 : MI) =>
                (z01 u79).bind fun q83 =>
                some (q83, I82, L77)
              else
                bn2 (F_X8_refuse x1 (2 : Int32) I6 L2 R) fun b84 I85 =>
                some (b84, I85, L2)
  else none
  else none
  else none
  else none
set_option maxRecDepth 100000 in
set_option maxHeartbeats 4000000 in
theorem c_X5_readAct (l : Launch) (D : va_G) (cA : Nat → ClassId) (ad : Nat → Nat) (bs : Nat) (X : State → Prop) (hAd : Ax ad bs) (hX : Stb bs X) (ht : Ssb ad bs X) (N : Nat) (x0 : Nat) (x1 : Nat) (x2 : Nat) (x3 : Nat) (I : MI) (L : ML) (R : MR) (r : Bool) (I' : MI) (L' : ML) (h : F_X5_readAct N x0 x1 x2 x3 I L R = some (r, I', L')) : Cn l D cA ad bs X yX5_readAct cX5_readAct 5 (some .boolean) 7 148 [.ref (ad x0), .ref (ad x1), .ref (ad x2), .ref (ad x3)] I L R (some (.int (b2i r)), I', L', R) := by
  refine Cn.ofV hAd hX [(0, .ref (ad x0)), (1, .ref (ad x1)), (2, .ref (ad x2)), (3, .ref (ad x3))] rfl (Nat.le_of_ble_eq_true rfl) (by decide) ?_
  intro G el eD ecA ead ebs eX erm eNL C0
  subst el eD ecA ead ebs eX
  have hsb := ht _ C0.2.2.2.2.2.2.2.2.2.2.2.1
  unfold F_X5_readAct at h
  obtain ⟨c_x0, h⟩ := ite_some h
  obtain ⟨c_x1, h⟩ := ite_some h
  obtain ⟨c_x2, h⟩ := ite_some h
  obtain ⟨c_x3, h⟩ := ite_some h
  refine V_aload_n C0 1 rfl rfl dX5_readAct_0 ?_
  obtain ⟨I1, L2, q3, h⟩ := bn2_some h
  refine V_callV C0 (st := []) (As := []) 7 (c_X8_next G.l G.D G.cA G.ad G.bs G.X C0.2.2.2.2.2.2.2.2.2.1 C0.2.2.2.2.2.2.2.2.2.2.2.2 N x1 I L R I1 L2 q3) lc_X8_next lk_X5_34 c_x1.2 c_x1.1 ⟨_, rfl, rfl⟩ rfl (by rw [erm]; decide) (Nat.le_of_ble_eq_true rfl) dX5_readAct_1 ?_
  show V G _ 4 [(0, .ref (G.ad x0)), (1, .ref (G.ad x1)), (2, .ref (G.ad x2)), (3, .ref (G.ad x3))] [] I1 L2 R
  refine V_aload_n C0 3 rfl rfl dX5_readAct_4 ?_
  refine V_aload_n C0 1 rfl rfl dX5_readAct_5 ?_
  obtain ⟨v4, q5, h⟩ := bn1_some h
  refine V_callS C0 (st := [.ref (G.ad x3)]) (As := [.ref (G.ad x1)]) (c_X5_actOf G.l G.D G.cA G.ad G.bs G.X C0.2.2.2.2.2.2.2.2.2.1 C0.2.2.2.2.2.2.2.2.2.2.2.2 ht N x1 I1 L2 R v4 q5) lc_X5_actOf lk_X5_146 rfl (by rw [erm]; decide) (Nat.le_of_ble_eq_true rfl) dX5_readAct_6 ?_
  show V G _ 9 [(0, .ref (G.ad x0)), (1, .ref (G.ad x1)), (2, .ref (G.ad x2)), (3, .ref (G.ad x3))] [.int v4, .ref (G.ad x3)] I1 L2 R
  obtain ⟨I6, eI6, h⟩ := wr_some h
  refine V_putI C0 3 4 fp_X5_149 c_x3.2 c_x3.1 rfl dX5_readAct_9 ?_
  rw [← eI6]
  refine V_aload_n C0 3 rfl rfl dX5_readAct_12 ?_
  refine V_getI C0 3 4 fl_X5_149 c_x3.2 c_x3.1 rfl dX5_readAct_13 ?_
  obtain ⟨u7, eu7, h⟩ := wr_some h
  rw [← eu7]
  have nd8 := nd_0 u7
  by_cases c9 : u7 = (0 : Int32)
  · have h := (if_pos c9).symm.trans h
    refine V_tableC C0 (tgt := 60) (v := (0 : Int32)) c9 (by decide) (by decide) dX5_readAct_16 ?_
    refine V_aload_n C0 3 rfl rfl dX5_readAct_60 ?_
    refine V_aload_n C0 0 rfl rfl dX5_readAct_61 ?_
    refine V_aload_n C0 1 rfl rfl dX5_readAct_62 ?_
    refine V_aload_n C0 2 rfl rfl dX5_readAct_63 ?_
    refine V_iconst C0 (v := (0 : Int32)) (by decide) dX5_readAct_64 ?_
    obtain ⟨v10, I11, L12, q13, h⟩ := bn3_some h
    refine V_callV C0 (st := [.ref (G.ad x3)]) (As := [.ref (G.ad x1), .ref (G.ad x2), .int (0 : Int32)]) 4 (c_X5_readName G.l G.D G.cA G.ad G.bs G.X C0.2.2.2.2.2.2.2.2.2.1 C0.2.2.2.2.2.2.2.2.2.2.2.2 N x0 x1 x2 (0 : Int32) I6 L2 R v10 I11 L12 q13) lc_X5_readName lk_X5_98 c_x0.2 c_x0.1 ⟨_, rfl, rfl⟩ rfl (by rw [erm]; decide) (Nat.le_of_ble_eq_true rfl) dX5_readAct_65 ?_
    show V G _ 68 [(0, .ref (G.ad x0)), (1, .ref (G.ad x1)), (2, .ref (G.ad x2)), (3, .ref (G.ad x3))] [.int v10, .ref (G.ad x3)] I11 L12 R
    obtain ⟨I14, eI14, h⟩ := wr_some h
    refine V_putI C0 3 5 fp_X5_152 c_x3.2 c_x3.1 rfl dX5_readAct_68 ?_
    rw [← eI14]
    refine V_aload_n C0 3 rfl rfl dX5_readAct_71 ?_
    refine V_getI C0 3 5 fl_X5_152 c_x3.2 c_x3.1 rfl dX5_readAct_72 ?_
    refine V_iconst C0 (v := (-1 : Int32)) (by decide) dX5_readAct_75 ?_
    refine V_icmp_eq C0 (tgt := 83) (by decide) dX5_readAct_76 (fun c15 => ?_) (fun c15 => ?_)
    · have h := (if_pos c15).symm.trans h
      refine V_iconst C0 (v := (0 : Int32)) (by decide) dX5_readAct_83 ?_
      cases h
      exact V_zret C0 (by decide) dX5_readAct_84
    · have h := (if_neg c15).symm.trans h
      refine V_iconst C0 (v := (1 : Int32)) (by decide) dX5_readAct_79 ?_
      refine V_goto C0 (tgt := 84) (by decide) dX5_readAct_80 ?_
      cases h
      exact V_zret C0 (by decide) dX5_readAct_84
  · have h := (if_neg c9).symm.trans h
    have nd8 := nd_add nd8 c9
    by_cases c16 : u7 = (1 : Int32)
    · have h := (if_pos c16).symm.trans h
      refine V_tableC C0 (tgt := 60) (v := (1 : Int32)) c16 (by decide) (by decide) dX5_readAct_16 ?_
      refine V_aload_n C0 3 rfl rfl dX5_readAct_60 ?_
      refine V_aload_n C0 0 rfl rfl dX5_readAct_61 ?_
      refine V_aload_n C0 1 rfl rfl dX5_readAct_62 ?_
      refine V_aload_n C0 2 rfl rfl dX5_readAct_63 ?_
      refine V_iconst C0 (v := (0 : Int32)) (by decide) dX5_readAct_64 ?_
      obtain ⟨v17, I18, L19, q20, h⟩ := bn3_some h
      refine V_callV C0 (st := [.ref (G.ad x3)]) (As := [.ref (G.ad x1), .ref (G.ad x2), .int (0 : Int32)]) 4 (c_X5_readName G.l G.D G.cA G.ad G.bs G.X C0.2.2.2.2.2.2.2.2.2.1 C0.2.2.2.2.2.2.2.2.2.2.2.2 N x0 x1 x2 (0 : Int32) I6 L2 R v17 I18 L19 q20) lc_X5_readName lk_X5_98 c_x0.2 c_x0.1 ⟨_, rfl, rfl⟩ rfl (by rw [erm]; decide) (Nat.le_of_ble_eq_true rfl) dX5_readAct_65 ?_
      show V G _ 68 [(0, .ref (G.ad x0)), (1, .ref (G.ad x1)), (2, .ref (G.ad x2)), (3, .ref (G.ad x3))] [.int v17, .ref (G.ad x3)] I18 L19 R
      obtain ⟨I21, eI21, h⟩ := wr_some h
      refine V_putI C0 3 5 fp_X5_152 c_x3.2 c_x3.1 rfl dX5_readAct_68 ?_
      rw [← eI21]
      refine V_aload_n C0 3 rfl rfl dX5_readAct_71 ?_
      refine V_getI C0 3 5 fl_X5_152 c_x3.2 c_x3.1 rfl dX5_readAct_72 ?_
      refine V_iconst C0 (v := (-1 : Int32)) (by decide) dX5_readAct_75 ?_
      refine V_icmp_eq C0 (tgt := 83) (by decide) dX5_readAct_76 (fun c22 => ?_) (fun c22 => ?_)
      · have h := (if_pos c22).symm.trans h
        refine V_iconst C0 (v := (0 : Int32)) (by decide) dX5_readAct_83 ?_
        cases h
        exact V_zret C0 (by decide) dX5_readAct_84
      · have h := (if_neg c22).symm.trans h
        refine V_iconst C0 (v := (1 : Int32)) (by decide) dX5_readAct_79 ?_
        refine V_goto C0 (tgt := 84) (by decide) dX5_readAct_80 ?_
        cases h
        exact V_zret C0 (by decide) dX5_readAct_84
    · have h := (if_neg c16).symm.trans h
      have nd8 := nd_add nd8 c16
      by_cases c23 : u7 = (2 : Int32)
      · have h := (if_pos c23).symm.trans h
        refine V_tableC C0 (tgt := 110) (v := (2 : Int32)) c23 (by decide) (by decide) dX5_readAct_16 ?_
        refine V_aload_n C0 1 rfl rfl dX5_readAct_110 ?_
        refine V_iconst C0 (v := (0 : Int32)) (by decide) dX5_readAct_111 ?_
        refine V_iconst C0 (v := (3 : Int32)) (by decide) dX5_readAct_112 ?_
        obtain ⟨b24, I25, L26, q27, h⟩ := bn3_some h
        refine V_callV C0 (st := []) (As := [.int (0 : Int32), .int (3 : Int32)]) 7 (c_X8_takeNumber_ G.l G.D G.cA G.ad G.bs G.X C0.2.2.2.2.2.2.2.2.2.1 C0.2.2.2.2.2.2.2.2.2.2.2.2 N x1 (0 : Int32) (3 : Int32) I6 L2 R b24 I25 L26 q27) lc_X8_takeNumber_ lk_X5_66 c_x1.2 c_x1.1 ⟨_, rfl, rfl⟩ rfl (by rw [erm]; decide) (Nat.le_of_ble_eq_true rfl) dX5_readAct_113 ?_
        show V G _ 116 [(0, .ref (G.ad x0)), (1, .ref (G.ad x1)), (2, .ref (G.ad x2)), (3, .ref (G.ad x3))] [.int (b2i b24)] I25 L26 R
        obtain ⟨u28, eu28, h⟩ := wr_some h
        rw [← eu28]
        refine V_istore C0 [(4, .int u28), (0, .ref (G.ad x0)), (1, .ref (G.ad x1)), (2, .ref (G.ad x2)), (3, .ref (G.ad x3))] (by rw [eNL]; decide) rfl dX5_readAct_116 ?_
        refine V_aload_n C0 4 rfl rfl dX5_readAct_118 ?_
        refine V_aload_n C0 2 rfl rfl dX5_readAct_119 ?_
        obtain ⟨v29, q30, h⟩ := bn1_some h
        refine V_callV C0 (st := [.ref (G.ad x3)]) (As := []) 7 (c_X8_number G.l G.D G.cA G.ad G.bs G.X C0.2.2.2.2.2.2.2.2.2.1 C0.2.2.2.2.2.2.2.2.2.2.2.2 x1 I25 L26 R v29 q30) lc_X8_number lk_X5_70 c_x1.2 c_x1.1 ⟨_, rfl, rfl⟩ rfl (by rw [erm]; decide) (Nat.le_of_ble_eq_true rfl) dX5_readAct_120 ?_
        show V G _ 123 [(4, .int u28), (0, .ref (G.ad x0)), (1, .ref (G.ad x1)), (2, .ref (G.ad x2)), (3, .ref (G.ad x3))] [.int v29, .ref (G.ad x3)] I25 L26 R
        obtain ⟨I31, eI31, h⟩ := wr_some h
        refine V_putI C0 3 5 fp_X5_152 c_x3.2 c_x3.1 rfl dX5_readAct_123 ?_
        rw [← eI31]
        refine V_iload C0 0 rfl dX5_readAct_126 ?_
        obtain ⟨q32, qq32, h⟩ := bnd_some h
        rw [z01_b qq32]
        cases h
        exact V_zret C0 (b2i01 _) dX5_readAct_128
      · have h := (if_neg c23).symm.trans h
        have nd8 := nd_add nd8 c23
        by_cases c33 : u7 = (3 : Int32)
        · have h := (if_pos c33).symm.trans h
          refine V_tableC C0 (tgt := 149) (v := (3 : Int32)) c33 (by decide) (by decide) dX5_readAct_16 ?_
          refine V_aload_n C0 1 rfl rfl dX5_readAct_149 ?_
          refine V_iconst C0 (v := (0 : Int32)) (by decide) dX5_readAct_150 ?_
          refine V_iconst C0 (v := (2 : Int32)) (by decide) dX5_readAct_151 ?_
          obtain ⟨b34, I35, L36, q37, h⟩ := bn3_some h
          refine V_callV C0 (st := []) (As := [.int (0 : Int32), .int (2 : Int32)]) 7 (c_X8_takeNumber_ G.l G.D G.cA G.ad G.bs G.X C0.2.2.2.2.2.2.2.2.2.1 C0.2.2.2.2.2.2.2.2.2.2.2.2 N x1 (0 : Int32) (2 : Int32) I6 L2 R b34 I35 L36 q37) lc_X8_takeNumber_ lk_X5_66 c_x1.2 c_x1.1 ⟨_, rfl, rfl⟩ rfl (by rw [erm]; decide) (Nat.le_of_ble_eq_true rfl) dX5_readAct_152 ?_
          show V G _ 155 [(0, .ref (G.ad x0)), (1, .ref (G.ad x1)), (2, .ref (G.ad x2)), (3, .ref (G.ad x3))] [.int (b2i b34)] I35 L36 R
          obtain ⟨u38, eu38, h⟩ := wr_some h
          rw [← eu38]
          refine V_istore C0 [(4, .int u38), (0, .ref (G.ad x0)), (1, .ref (G.ad x1)), (2, .ref (G.ad x2)), (3, .ref (G.ad x3))] (by rw [eNL]; decide) rfl dX5_readAct_155 ?_
          refine V_aload_n C0 4 rfl rfl dX5_readAct_157 ?_
          refine V_aload_n C0 2 rfl rfl dX5_readAct_158 ?_
          obtain ⟨v39, q40, h⟩ := bn1_some h
          refine V_callV C0 (st := [.ref (G.ad x3)]) (As := []) 7 (c_X8_number G.l G.D G.cA G.ad G.bs G.X C0.2.2.2.2.2.2.2.2.2.1 C0.2.2.2.2.2.2.2.2.2.2.2.2 x1 I35 L36 R v39 q40) lc_X8_number lk_X5_70 c_x1.2 c_x1.1 ⟨_, rfl, rfl⟩ rfl (by rw [erm]; decide) (Nat.le_of_ble_eq_true rfl) dX5_readAct_159 ?_
          show V G _ 162 [(4, .int u38), (0, .ref (G.ad x0)), (1, .ref (G.ad x1)), (2, .ref (G.ad x2)), (3, .ref (G.ad x3))] [.int v39, .ref (G.ad x3)] I35 L36 R
          obtain ⟨I41, eI41, h⟩ := wr_some h
          refine V_putI C0 3 5 fp_X5_152 c_x3.2 c_x3.1 rfl dX5_readAct_162 ?_
          rw [← eI41]
          refine V_iload C0 0 rfl dX5_readAct_165 ?_
          obtain ⟨s42, I43, L44, q45, h⟩ := bn3_some h
          have k46 : V G (qf G (some (.int (b2i r)), I', L', R)) 186 [(1, .ref (G.ad x1)), (3, .ref (G.ad x3))] [.int s42] I43 L44 R := by
            refine V_istore C0 [(4, .int s42), (1, .ref (G.ad x1)), (3, .ref (G.ad x3))] (by rw [eNL]; decide) rfl dX5_readAct_186 ?_
            refine V_aload_n C0 2 rfl rfl dX5_readAct_188 ?_
            refine V_aload_n C0 1 rfl rfl dX5_readAct_189 ?_
            obtain ⟨v56, q57, h⟩ := bn1_some h
            refine V_callV C0 (st := [.ref (G.ad x3)]) (As := []) 7 (c_X8_number G.l G.D G.cA G.ad G.bs G.X C0.2.2.2.2.2.2.2.2.2.1 C0.2.2.2.2.2.2.2.2.2.2.2.2 x1 I43 L44 R v56 q57) lc_X8_number lk_X5_70 c_x1.2 c_x1.1 ⟨_, rfl, rfl⟩ rfl (by rw [erm]; decide) (Nat.le_of_ble_eq_true rfl) dX5_readAct_190 ?_
            show V G _ 193 [(4, .int s42), (1, .ref (G.ad x1)), (3, .ref (G.ad x3))] [.int v56, .ref (G.ad x3)] I43 L44 R
            obtain ⟨I58, eI58, h⟩ := wr_some h
            refine V_putI C0 3 6 fp_X5_155 c_x3.2 c_x3.1 rfl dX5_readAct_193 ?_
            rw [← eI58]
            refine V_iload C0 0 rfl dX5_readAct_196 ?_
            obtain ⟨q59, qq59, h⟩ := bnd_some h
            rw [z01_b qq59]
            cases h
            exact V_zret C0 (b2i01 _) dX5_readAct_198
          refine V_if_eq C0 (tgt := 185) (by decide) dX5_readAct_167 (fun c47 => ?_) (fun c47 => ?_)
          · have q45 := (if_pos c47).symm.trans q45
            refine V_iconst C0 (v := (0 : Int32)) (by decide) dX5_readAct_185 ?_
            cases q45
            exact V_sub [2, 4] rfl k46
          · have q45 := (if_neg c47).symm.trans q45
            refine V_aload_n C0 2 rfl rfl dX5_readAct_170 ?_
            refine V_iconst C0 (v := (0 : Int32)) (by decide) dX5_readAct_171 ?_
            refine V_sipush C0 (v := (3599 : Int32)) (by decide) dX5_readAct_172 ?_
            obtain ⟨b48, I49, L50, q51, q45⟩ := bn3_some q45
            refine V_callV C0 (st := []) (As := [.int (0 : Int32), .int (3599 : Int32)]) 7 (c_X8_takeNumber_ G.l G.D G.cA G.ad G.bs G.X C0.2.2.2.2.2.2.2.2.2.1 C0.2.2.2.2.2.2.2.2.2.2.2.2 N x1 (0 : Int32) (3599 : Int32) I41 L36 R b48 I49 L50 q51) lc_X8_takeNumber_ lk_X5_66 c_x1.2 c_x1.1 ⟨_, rfl, rfl⟩ rfl (by rw [erm]; decide) (Nat.le_of_ble_eq_true rfl) dX5_readAct_175 ?_
            show V G _ 178 [(4, .int u38), (0, .ref (G.ad x0)), (1, .ref (G.ad x1)), (2, .ref (G.ad x2)), (3, .ref (G.ad x3))] [.int (b2i b48)] I49 L50 R
            obtain ⟨s52, q53, q45⟩ := bn1_some q45
            have k54 : V G (qf G (some (.int (b2i r)), I', L', R)) 186 [(1, .ref (G.ad x1)), (3, .ref (G.ad x3))] [.int s52] I49 L50 R := by
              cases q45
              exact V_sub [0, 1] rfl k46
            refine V_if_eq C0 (tgt := 185) (by decide) dX5_readAct_178 (fun c55 => ?_) (fun c55 => ?_)
            · have q53 := (if_pos c55).symm.trans q53
              refine V_iconst C0 (v := (0 : Int32)) (by decide) dX5_readAct_185 ?_
              cases q53
              exact V_sub [2, 4] rfl k54
            · have q53 := (if_neg c55).symm.trans q53
              refine V_iconst C0 (v := (1 : Int32)) (by decide) dX5_readAct_181 ?_
              refine V_goto C0 (tgt := 186) (by decide) dX5_readAct_182 ?_
              cases q53
              exact V_sub [2, 4] rfl k54
        · have h := (if_neg c33).symm.trans h
          have nd8 := nd_add nd8 c33
          by_cases c60 : u7 = (4 : Int32)
          · have h := (if_pos c60).symm.trans h
            refine V_tableC C0 (tgt := 60) (v := (4 : Int32)) c60 (by decide) (by decide) dX5_readAct_16 ?_
            refine V_aload_n C0 3 rfl rfl dX5_readAct_60 ?_
            refine V_aload_n C0 0 rfl rfl dX5_readAct_61 ?_
            refine V_aload_n C0 1 rfl rfl dX5_readAct_62 ?_
            refine V_aload_n C0 2 rfl rfl dX5_readAct_63 ?_
            refine V_iconst C0 (v := (0 : Int32)) (by decide) dX5_readAct_64 ?_
            obtain ⟨v61, I62, L63, q64, h⟩ := bn3_some h
            refine V_callV C0 (st := [.ref (G.ad x3)]) (As := [.ref (G.ad x1), .ref (G.ad x2), .int (0 : Int32)]) 4 (c_X5_readName G.l G.D G.cA G.ad G.bs G.X C0.2.2.2.2.2.2.2.2.2.1 C0.2.2.2.2.2.2.2.2.2.2.2.2 N x0 x1 x2 (0 : Int32) I6 L2 R v61 I62 L63 q64) lc_X5_readName lk_X5_98 c_x0.2 c_x0.1 ⟨_, rfl, rfl⟩ rfl (by rw [erm]; decide) (Nat.le_of_ble_eq_true rfl) dX5_readAct_65 ?_
            show V G _ 68 [(0, .ref (G.ad x0)), (1, .ref (G.ad x1)), (2, .ref (G.ad x2)), (3, .ref (G.ad x3))] [.int v61, .ref (G.ad x3)] I62 L63 R
            obtain ⟨I65, eI65, h⟩ := wr_some h
            refine V_putI C0 3 5 fp_X5_152 c_x3.2 c_x3.1 rfl dX5_readAct_68 ?_
            rw [← eI65]
            refine V_aload_n C0 3 rfl rfl dX5_readAct_71 ?_
            refine V_getI C0 3 5 fl_X5_152 c_x3.2 c_x3.1 rfl dX5_readAct_72 ?_
            refine V_iconst C0 (v := (-1 : Int32)) (by decide) dX5_readAct_75 ?_
            refine V_icmp_eq C0 (tgt := 83) (by decide) dX5_readAct_76 (fun c66 => ?_) (fun c66 => ?_)
            · have h := (if_pos c66).symm.trans h
              refine V_iconst C0 (v := (0 : Int32)) (by decide) dX5_readAct_83 ?_
              cases h
              exact V_zret C0 (by decide) dX5_readAct_84
            · have h := (if_neg c66).symm.trans h
              refine V_iconst C0 (v := (1 : Int32)) (by decide) dX5_readAct_79 ?_
              refine V_goto C0 (tgt := 84) (by decide) dX5_readAct_80 ?_
              cases h
              exact V_zret C0 (by decide) dX5_readAct_84
          · have h := (if_neg c60).symm.trans h
            have nd8 := nd_add nd8 c60
            by_cases c67 : u7 = (5 : Int32)
            · have h := (if_pos c67).symm.trans h
              refine V_tableC C0 (tgt := 85) (v := (5 : Int32)) c67 (by decide) (by decide) dX5_readAct_16 ?_
              refine V_aload_n C0 3 rfl rfl dX5_readAct_85 ?_
              refine V_aload_n C0 0 rfl rfl dX5_readAct_86 ?_
              refine V_aload_n C0 1 rfl rfl dX5_readAct_87 ?_
              refine V_aload_n C0 2 rfl rfl dX5_readAct_88 ?_
              refine V_iconst C0 (v := (5 : Int32)) (by decide) dX5_readAct_89 ?_
              obtain ⟨v68, I69, L70, q71, h⟩ := bn3_some h
              refine V_callV C0 (st := [.ref (G.ad x3)]) (As := [.ref (G.ad x1), .ref (G.ad x2), .int (5 : Int32)]) 4 (c_X5_readName G.l G.D G.cA G.ad G.bs G.X C0.2.2.2.2.2.2.2.2.2.1 C0.2.2.2.2.2.2.2.2.2.2.2.2 N x0 x1 x2 (5 : Int32) I6 L2 R v68 I69 L70 q71) lc_X5_readName lk_X5_98 c_x0.2 c_x0.1 ⟨_, rfl, rfl⟩ rfl (by rw [erm]; decide) (Nat.le_of_ble_eq_true rfl) dX5_readAct_90 ?_
              show V G _ 93 [(0, .ref (G.ad x0)), (1, .ref (G.ad x1)), (2, .ref (G.ad x2)), (3, .ref (G.ad x3))] [.int v68, .ref (G.ad x3)] I69 L70 R
              obtain ⟨I72, eI72, h⟩ := wr_some h
              refine V_putI C0 3 5 fp_X5_152 c_x3.2 c_x3.1 rfl dX5_readAct_93 ?_
              rw [← eI72]
              refine V_aload_n C0 3 rfl rfl dX5_readAct_96 ?_
              refine V_getI C0 3 5 fl_X5_152 c_x3.2 c_x3.1 rfl dX5_readAct_97 ?_
              refine V_iconst C0 (v := (-1 : Int32)) (by decide) dX5_readAct_100 ?_
              refine V_icmp_eq C0 (tgt := 108) (by decide) dX5_readAct_101 (fun c73 => ?_) (fun c73 => ?_)
              · have h := (if_pos c73).symm.trans h
                refine V_iconst C0 (v := (0 : Int32)) (by decide) dX5_readAct_108 ?_
                cases h
                exact V_zret C0 (by decide) dX5_readAct_109
              · have h := (if_neg c73).symm.trans h
                refine V_iconst C0 (v := (1 : Int32)) (by decide) dX5_readAct_104 ?_
                refine V_goto C0 (tgt := 109) (by decide) dX5_readAct_105 ?_
                cases h
                exact V_zret C0 (by decide) dX5_readAct_109
            · have h := (if_neg c67).symm.trans h
              have nd8 := nd_add nd8 c67
              by_cases c74 : u7 = (6 : Int32)
              · have h := (if_pos c74).symm.trans h
                refine V_tableC C0 (tgt := 129) (v := (6 : Int32)) c74 (by decide) (by decide) dX5_readAct_16 ?_
                refine V_aload_n C0 1 rfl rfl dX5_readAct_129 ?_
                refine V_iconst C0 (v := (0 : Int32)) (by decide) dX5_readAct_130 ?_
                refine V_bipush C0 (v := (29 : Int32)) (by decide) dX5_readAct_131 ?_
                obtain ⟨b75, I76, L77, q78, h⟩ := bn3_some h
                refine V_callV C0 (st := []) (As := [.int (0 : Int32), .int (29 : Int32)]) 7 (c_X8_takeNumber_ G.l G.D G.cA G.ad G.bs G.X C0.2.2.2.2.2.2.2.2.2.1 C0.2.2.2.2.2.2.2.2.2.2.2.2 N x1 (0 : Int32) (29 : Int32) I6 L2 R b75 I76 L77 q78) lc_X8_takeNumber_ lk_X5_66 c_x1.2 c_x1.1 ⟨_, rfl, rfl⟩ rfl (by rw [erm]; decide) (Nat.le_of_ble_eq_true rfl) dX5_readAct_133 ?_
                show V G _ 136 [(0, .ref (G.ad x0)), (1, .ref (G.ad x1)), (2, .ref (G.ad x2)), (3, .ref (G.ad x3))] [.int (b2i b75)] I76 L77 R
                obtain ⟨u79, eu79, h⟩ := wr_some h
                rw [← eu79]
                refine V_istore C0 [(4, .int u79), (0, .ref (G.ad x0)), (1, .ref (G.ad x1)), (2, .ref (G.ad x2)), (3, .ref (G.ad x3))] (by rw [eNL]; decide) rfl dX5_readAct_136 ?_
                refine V_aload_n C0 4 rfl rfl dX5_readAct_138 ?_
                refine V_aload_n C0 2 rfl rfl dX5_readAct_139 ?_
                obtain ⟨v80, q81, h⟩ := bn1_some h
                refine V_callV C0 (st := [.ref (G.ad x3)]) (As := []) 7 (c_X8_number G.l G.D G.cA G.ad G.bs G.X C0.2.2.2.2.2.2.2.2.2.1 C0.2.2.2.2.2.2.2.2.2.2.2.2 x1 I76 L77 R v80 q81) lc_X8_number lk_X5_70 c_x1.2 c_x1.1 ⟨_, rfl, rfl⟩ rfl (by rw [erm]; decide) (Nat.le_of_ble_eq_true rfl) dX5_readAct_140 ?_
                show V G _ 143 [(4, .int u79), (0, .ref (G.ad x0)), (1, .ref (G.ad x1)), (2, .ref (G.ad x2)), (3, .ref (G.ad x3))] [.int v80, .ref (G.ad x3)] I76 L77 R
                obtain ⟨I82, eI82, h⟩ := wr_some h
                refine V_putI C0 3 5 fp_X5_152 c_x3.2 c_x3.1 rfl dX5_readAct_143 ?_
                rw [← eI82]
                refine V_iload C0 0 rfl dX5_readAct_146 ?_
                obtain ⟨q83, qq83, h⟩ := bnd_some h
                rw [z01_b qq83]
                cases h
                exact V_zret C0 (b2i01 _) dX5_readAct_148
              · have h := (if_neg c74).symm.trans h
                have nd8 := nd_add nd8 c74
                refine V_tableN C0 (tgt := 199) nd8 (by decide) (by decide) dX5_readAct_16 ?_
                refine V_aload_n C0 1 rfl rfl dX5_readAct_199 ?_
                refine V_iconst C0 (v := (2 : Int32)) (by decide) dX5_readAct_200 ?_
                obtain ⟨b84, I85, q86, h⟩ := bn2_some h
                refine V_callV C0 (st := []) (As := [.int (2 : Int32)]) 7 (c_X8_refuse G.l G.D G.cA G.ad G.bs G.X C0.2.2.2.2.2.2.2.2.2.1 C0.2.2.2.2.2.2.2.2.2.2.2.2 x1 (2 : Int32) I6 L2 R b84 I85 q86) lc_X8_refuse lk_X5_57 c_x1.2 c_x1.1 ⟨_, rfl, rfl⟩ rfl (by rw [erm]; decide) (Nat.le_of_ble_eq_true rfl) dX5_readAct_201 ?_
                show V G _ 204 [(0, .ref (G.ad x0)), (1, .ref (G.ad x1)), (2, .ref (G.ad x2)), (3, .ref (G.ad x3))] [.int (b2i b84)] I85 L2 R
                cases h
                exact V_zret C0 (b2i01 _) dX5_readAct_204
theorem dX5_readItem_0 : decode cX5_readItem 0 = .ok (.aload_n 1, 1) := by decide +kernel
theorem dX5_readItem_1 : decode cX5_readItem 1 = .ok (.ldc 47, 2) := by decide +kernel
theorem dX5_readItem_3 : decode cX5_readItem 3 = .ok (.invokevirtual 49, 3) := by decide +kernel
theorem dX5_readItem_6 : decode cX5_readItem 6 = .ok (.istore_n 3, 1) := by decide +kernel
theorem dX5_readItem_7 : decode cX5_readItem 7 = .ok (.aload_n 1, 1) := by decide +kernel
theorem dX5_readItem_8 : decode cX5_readItem 8 = .ok (.ldc 53, 2) := by decide +kernel
theorem dX5_readItem_10 : decode cX5_readItem 10 = .ok (.invokevirtual 49, 3) := by decide +kernel
theorem dX5_readItem_13 : decode cX5_readItem 13 = .ok (.istore 4, 2) := by decide +kernel
theorem dX5_readItem_15 : decode cX5_readItem 15 = .ok (.iload_n 3, 1) := by decide +kernel
theorem dX5_readItem_16 : decode cX5_readItem 16 = .ok (.ifCond .ne 23, 3) := by decide +kernel
theorem dX5_readItem_19 : decode cX5_readItem 19 = .ok (.iload 4, 2) := by decide +kernel
theorem dX5_readItem_21 : decode cX5_readItem 21 = .ok (.ifCond .ne 18, 3) := by decide +kernel
theorem dX5_readItem_24 : decode cX5_readItem 24 = .ok (.aload_n 1, 1) := by decide +kernel
theorem dX5_readItem_25 : decode cX5_readItem 25 = .ok (.ldc 55, 2) := by decide +kernel
theorem dX5_readItem_27 : decode cX5_readItem 27 = .ok (.invokevirtual 49, 3) := by decide +kernel
theorem dX5_readItem_30 : decode cX5_readItem 30 = .ok (.ifCond .ne 9, 3) := by decide +kernel
theorem dX5_readItem_33 : decode cX5_readItem 33 = .ok (.aload_n 1, 1) := by decide +kernel
theorem dX5_readItem_34 : decode cX5_readItem 34 = .ok (.iconst 2, 1) := by decide +kernel
theorem dX5_readItem_35 : decode cX5_readItem 35 = .ok (.invokevirtual 57, 3) := by decide +kernel
theorem dX5_readItem_38 : decode cX5_readItem 38 = .ok (.ireturn, 1) := by decide +kernel
theorem dX5_readItem_39 : decode cX5_readItem 39 = .ok (.aload_n 0, 1) := by decide +kernel
theorem dX5_readItem_40 : decode cX5_readItem 40 = .ok (.getfield 22, 3) := by decide +kernel
theorem dX5_readItem_43 : decode cX5_readItem 43 = .ok (.ifCond .lt 15, 3) := by decide +kernel
theorem dX5_readItem_46 : decode cX5_readItem 46 = .ok (.aload_n 0, 1) := by decide +kernel
theorem dX5_readItem_47 : decode cX5_readItem 47 = .ok (.getfield 22, 3) := by decide +kernel
theorem dX5_readItem_50 : decode cX5_readItem 50 = .ok (.aload_n 0, 1) := by decide +kernel
theorem dX5_readItem_51 : decode cX5_readItem 51 = .ok (.getfield 11, 3) := by decide +kernel
theorem dX5_readItem_54 : decode cX5_readItem 54 = .ok (.arraylength, 1) := by decide +kernel
theorem dX5_readItem_55 : decode cX5_readItem 55 = .ok (.if_icmp .lt 9, 3) := by decide +kernel
theorem dX5_readItem_58 : decode cX5_readItem 58 = .ok (.aload_n 1, 1) := by decide +kernel
theorem dX5_readItem_59 : decode cX5_readItem 59 = .ok (.iconst 4, 1) := by decide +kernel
theorem dX5_readItem_60 : decode cX5_readItem 60 = .ok (.invokevirtual 57, 3) := by decide +kernel
theorem dX5_readItem_63 : decode cX5_readItem 63 = .ok (.ireturn, 1) := by decide +kernel
theorem dX5_readItem_64 : decode cX5_readItem 64 = .ok (.aload_n 0, 1) := by decide +kernel
theorem dX5_readItem_65 : decode cX5_readItem 65 = .ok (.getfield 11, 3) := by decide +kernel
theorem dX5_readItem_68 : decode cX5_readItem 68 = .ok (.aload_n 0, 1) := by decide +kernel
theorem dX5_readItem_69 : decode cX5_readItem 69 = .ok (.getfield 22, 3) := by decide +kernel
theorem dX5_readItem_72 : decode cX5_readItem 72 = .ok (.aaload, 1) := by decide +kernel
theorem dX5_readItem_73 : decode cX5_readItem 73 = .ok (.astore 5, 2) := by decide +kernel
theorem dX5_readItem_75 : decode cX5_readItem 75 = .ok (.aload 5, 2) := by decide +kernel
theorem dX5_readItem_77 : decode cX5_readItem 77 = .ok (.invokevirtual 61, 3) := by decide +kernel
theorem dX5_readItem_80 : decode cX5_readItem 80 = .ok (.iload_n 3, 1) := by decide +kernel
theorem dX5_readItem_81 : decode cX5_readItem 81 = .ok (.ifCond .ne 8, 3) := by decide +kernel
theorem dX5_readItem_84 : decode cX5_readItem 84 = .ok (.iload 4, 2) := by decide +kernel
theorem dX5_readItem_86 : decode cX5_readItem 86 = .ok (.ifCond .eq 47, 3) := by decide +kernel
theorem dX5_readItem_89 : decode cX5_readItem 89 = .ok (.aload 5, 2) := by decide +kernel
theorem dX5_readItem_91 : decode cX5_readItem 91 = .ok (.iload_n 3, 1) := by decide +kernel
theorem dX5_readItem_92 : decode cX5_readItem 92 = .ok (.ifCond .eq 7, 3) := by decide +kernel
theorem dX5_readItem_95 : decode cX5_readItem 95 = .ok (.iconst 0, 1) := by decide +kernel
theorem dX5_readItem_96 : decode cX5_readItem 96 = .ok (.goto 4, 3) := by decide +kernel
theorem dX5_readItem_99 : decode cX5_readItem 99 = .ok (.iconst 1, 1) := by decide +kernel
theorem dX5_readItem_100 : decode cX5_readItem 100 = .ok (.putfield 64, 3) := by decide +kernel
theorem dX5_readItem_103 : decode cX5_readItem 103 = .ok (.aload_n 1, 1) := by decide +kernel
theorem dX5_readItem_104 : decode cX5_readItem 104 = .ok (.iload_n 3, 1) := by decide +kernel
theorem dX5_readItem_105 : decode cX5_readItem 105 = .ok (.ifCond .eq 7, 3) := by decide +kernel
theorem dX5_readItem_108 : decode cX5_readItem 108 = .ok (.iconst 0, 1) := by decide +kernel
theorem dX5_readItem_109 : decode cX5_readItem 109 = .ok (.goto 4, 3) := by decide +kernel
theorem dX5_readItem_112 : decode cX5_readItem 112 = .ok (.iconst 1, 1) := by decide +kernel
theorem dX5_readItem_113 : decode cX5_readItem 113 = .ok (.sipush 9999, 3) := by decide +kernel
theorem dX5_readItem_116 : decode cX5_readItem 116 = .ok (.invokevirtual 66, 3) := by decide +kernel
theorem dX5_readItem_119 : decode cX5_readItem 119 = .ok (.istore 6, 2) := by decide +kernel
theorem dX5_readItem_121 : decode cX5_readItem 121 = .ok (.aload 5, 2) := by decide +kernel
theorem dX5_readItem_123 : decode cX5_readItem 123 = .ok (.aload_n 1, 1) := by decide +kernel
theorem dX5_readItem_124 : decode cX5_readItem 124 = .ok (.invokevirtual 70, 3) := by decide +kernel
theorem dX5_readItem_127 : decode cX5_readItem 127 = .ok (.putfield 74, 3) := by decide +kernel
theorem dX5_readItem_130 : decode cX5_readItem 130 = .ok (.goto 31, 3) := by decide +kernel
theorem dX5_readItem_133 : decode cX5_readItem 133 = .ok (.aload_n 0, 1) := by decide +kernel
theorem dX5_readItem_134 : decode cX5_readItem 134 = .ok (.aload_n 1, 1) := by decide +kernel
theorem dX5_readItem_135 : decode cX5_readItem 135 = .ok (.aload_n 2, 1) := by decide +kernel
theorem dX5_readItem_136 : decode cX5_readItem 136 = .ok (.aload 5, 2) := by decide +kernel
theorem dX5_readItem_138 : decode cX5_readItem 138 = .ok (.invokevirtual 77, 3) := by decide +kernel
theorem dX5_readItem_141 : decode cX5_readItem 141 = .ok (.ifCond .eq 17, 3) := by decide +kernel
theorem dX5_readItem_144 : decode cX5_readItem 144 = .ok (.aload_n 0, 1) := by decide +kernel
theorem dX5_readItem_145 : decode cX5_readItem 145 = .ok (.aload_n 1, 1) := by decide +kernel
theorem dX5_readItem_146 : decode cX5_readItem 146 = .ok (.aload 5, 2) := by decide +kernel
theorem dX5_readItem_148 : decode cX5_readItem 148 = .ok (.invokevirtual 81, 3) := by decide +kernel
theorem dX5_readItem_151 : decode cX5_readItem 151 = .ok (.ifCond .eq 7, 3) := by decide +kernel
theorem dX5_readItem_154 : decode cX5_readItem 154 = .ok (.iconst 1, 1) := by decide +kernel
theorem dX5_readItem_155 : decode cX5_readItem 155 = .ok (.goto 4, 3) := by decide +kernel
theorem dX5_readItem_158 : decode cX5_readItem 158 = .ok (.iconst 0, 1) := by decide +kernel
theorem dX5_readItem_159 : decode cX5_readItem 159 = .ok (.istore 6, 2) := by decide +kernel
theorem dX5_readItem_161 : decode cX5_readItem 161 = .ok (.iload 6, 2) := by decide +kernel
theorem dX5_readItem_163 : decode cX5_readItem 163 = .ok (.ifCond .eq 23, 3) := by decide +kernel
theorem dX5_readItem_166 : decode cX5_readItem 166 = .ok (.aload_n 0, 1) := by decide +kernel
theorem dX5_readItem_167 : decode cX5_readItem 167 = .ok (.aload_n 1, 1) := by decide +kernel
theorem dX5_readItem_168 : decode cX5_readItem 168 = .ok (.aload_n 2, 1) := by decide +kernel
theorem dX5_readItem_169 : decode cX5_readItem 169 = .ok (.aload 5, 2) := by decide +kernel
theorem dX5_readItem_171 : decode cX5_readItem 171 = .ok (.invokevirtual 85, 3) := by decide +kernel
theorem dX5_readItem_174 : decode cX5_readItem 174 = .ok (.ifCond .eq 12, 3) := by decide +kernel
theorem dX5_readItem_177 : decode cX5_readItem 177 = .ok (.aload_n 1, 1) := by decide +kernel
theorem dX5_readItem_178 : decode cX5_readItem 178 = .ok (.bipush 59, 2) := by decide +kernel
theorem dX5_readItem_180 : decode cX5_readItem 180 = .ok (.invokevirtual 88, 3) := by decide +kernel
theorem dX5_readItem_183 : decode cX5_readItem 183 = .ok (.ifCond .ne 5, 3) := by decide +kernel
theorem dX5_readItem_186 : decode cX5_readItem 186 = .ok (.iconst 0, 1) := by decide +kernel
theorem dX5_readItem_187 : decode cX5_readItem 187 = .ok (.ireturn, 1) := by decide +kernel
theorem dX5_readItem_188 : decode cX5_readItem 188 = .ok (.aload_n 0, 1) := by decide +kernel
theorem dX5_readItem_189 : decode cX5_readItem 189 = .ok (.dup, 1) := by decide +kernel
theorem dX5_readItem_190 : decode cX5_readItem 190 = .ok (.getfield 22, 3) := by decide +kernel
theorem dX5_readItem_193 : decode cX5_readItem 193 = .ok (.iconst 1, 1) := by decide +kernel
theorem dX5_readItem_194 : decode cX5_readItem 194 = .ok (.iadd, 1) := by decide +kernel
theorem dX5_readItem_195 : decode cX5_readItem 195 = .ok (.putfield 22, 3) := by decide +kernel
theorem dX5_readItem_198 : decode cX5_readItem 198 = .ok (.iconst 1, 1) := by decide +kernel
theorem dX5_readItem_199 : decode cX5_readItem 199 = .ok (.ireturn, 1) := by decide +kernel
def F_X5_readItem (N : Nat) (x0 : Nat) (x1 : Nat) (x2 : Nat) (I : MI) (L : ML) (R : MR) : Option (Bool × MI × ML) :=
  if kd x0 = 4 ∧ x0 < NN then
  if kd x1 = 7 ∧ x1 < NN then
  if kd x2 = 9 ∧ x2 < NN then
  bn1 (F_X8_isWord N x1 422 I L R) fun b1 =>
  wr (b2i b1) fun (u3 : Int32) =>
  bn1 (F_X8_isWord N x1 423 I L R) fun b4 =>
  wr (b2i b4) fun (u6 : Int32) =>
  if u3 = 0 then
    if u6 = 0 then
      bn1 (F_X8_isWord N x1 424 I L R) fun b185 =>
      if (b2i b185) = 0 then
        bn2 (F_X8_refuse x1 (2 : Int32) I L R) fun b276 I277 =>
        some (b276, I277, L)
      else
        if (I x0 2) < 0 then
          bn2 (F_X8_refuse x1 (4 : Int32) I L R) fun b189 I190 =>
          some (b189, I190, L)
        else
          (rf R x0 0 24).bind fun a192 =>
          if (I x0 2) < (Int32.ofNat (ln a192)) then
            (ra R a192 (I x0 2) 3).bind fun a194 =>
            bn1 (F_X3_clear a194 I L R) fun I195 =>
            bn3 (
              if u3 = 0 then
                bn3 (
                  if u6 = 0 then
                    bn3 (F_X5_readTerm N x0 x1 x2 a194 I195 L R) fun b226 I227 L228 =>
                    bn3 (
                      if (b2i b226) = 0 then
                        some ((0 : Int32), I227, L228)
                      else
                        bn3 (F_X5_readBound N x0 x1 a194 I227 L228 R) fun b236 I237 L238 =>
                        bn1 (
                          if (b2i b236) = 0 then
                            some ((0 : Int32))
                          else
                            some ((1 : Int32))
                        ) fun (s240 : Int32) =>
                        some (s240, I237, L238)
                    ) fun (s230 : Int32) (I231 : MI) (L232 : ML) =>
                    some (s230, I231, L232)
                  else
                    bn1 (
                      if u3 = 0 then
                        some ((1 : Int32))
                      else
                        some ((0 : Int32))
                    ) fun (s244 : Int32) =>
                    wr (uI I195 a194 0 s244) fun (I248 : MI) =>
                    bn1 (
                      if u3 = 0 then
                        some ((1 : Int32))
                      else
                        some ((0 : Int32))
                    ) fun (s249 : Int32) =>
                    bn3 (F_X8_takeNumber_ N x1 s249 (9999 : Int32) I248 L R) fun b253 I254 L255 =>
                    wr (b2i b253) fun (u257 : Int32) =>
                    bn1 (F_X8_number x1 I254 L255 R) fun v258 =>
                    wr (uI I254 a194 1 v258) fun (I260 : MI) =>
                    some (u257, I260, L255)
                ) fun (u220 : Int32) (I221 : MI) (L222 : ML) =>
                some (u220, I221, L222)
              else
                bn1 (
                  if u3 = 0 then
                    some ((1 : Int32))
                  else
                    some ((0 : Int32))
                ) fun (s203 : Int32) =>
                wr (uI I195 a194 0 s203) fun (I207 : MI) =>
                bn1 (
                  if u3 = 0 then
                    some ((1 : Int32))
                  else
                    some ((0 : Int32))
                ) fun (s208 : Int32) =>
                bn3 (F_X8_takeNumber_ N x1 s208 (9999 : Int32) I207 L R) fun b212 I213 L214 =>
                wr (b2i b212) fun (u216 : Int32) =>
                bn1 (F_X8_number x1 I213 L214 R) fun v217 =>
                wr (uI I213 a194 1 v217) fun (I219 : MI) =>
                some (u216, I219, L214)
            ) fun (u197 : Int32) (I198 : MI) (L199 : ML) =>
            if u197 = 0 then
              some (false, I198, L199)
            else
              bn3 (F_X5_readAct N x0 x1 x2 a194 I198 L199 R) fun b262 I263 L264 =>
              if (b2i b262) = 0 then
                some (false, I263, L264)
              else
                bn3 (F_X8_takeSign N x1 (59 : Int32) I263 L264 R) fun b267 I268 L269 =>
                if (b2i b267) = 0 then
                  some (false, I268, L269)
                else
                  wr (uI I268 x0 2 ((I268 x0 2) + (1 : Int32))) fun (I272 : MI) =>
                  some (true, I272, L269)
          else
            bn2 (F_X8_refuse x1 (4 : Int32) I L R) fun b273 I274 =>
            some (b273, I274, L)
    else
      if (I x0 2) < 0 then
        bn2 (F_X8_refuse x1 (4 : Int32) I L R) fun b98 I99 =>
        some (b98, I99, L)
      else
        (rf R x0 0 24).bind fun a101 =>
        if (I x0 2) < (Int32.ofNat (ln a101)) then
          (ra R a101 (I x0 2) 3).bind fun a103 =>
          bn1 (F_X3_clear a103 I L R) fun I104 =>
          bn3 (
            if u3 = 0 then
              bn3 (
                if u6 = 0 then
                  bn3 (F_X5_readTerm N x0 x1 x2 a103 I104 L R) fun b135 I136 L137 =>
                  bn3 (
                    if (b2i b135) = 0 then
                      some ((0 : Int32), I136, L137)
                    else
                      bn3 (F_X5_readBound N x0 x1 a103 I136 L137 R) fun b145 I146 L147 =>
                      bn1 (
                        if (b2i b145) = 0 then
                          some ((0 : Int32))
                        else
                          some ((1 : Int32))
                      ) fun (s149 : Int32) =>
                      some (s149, I146, L147)
                  ) fun (s139 : Int32) (I140 : MI) (L141 : ML) =>
                  some (s139, I140, L141)
                else
                  bn1 (
                    if u3 = 0 then
                      some ((1 : Int32))
                    else
                      some ((0 : Int32))
                  ) fun (s153 : Int32) =>
                  wr (uI I104 a103 0 s153) fun (I157 : MI) =>
                  bn1 (
                    if u3 = 0 then
                      some ((1 : Int32))
                    else
                      some ((0 : Int32))
                  ) fun (s158 : Int32) =>
                  bn3 (F_X8_takeNumber_ N x1 s158 (9999 : Int32) I157 L R) fun b162 I163 L164 =>
                  wr (b2i b162) fun (u166 : Int32) =>
                  bn1 (F_X8_number x1 I163 L164 R) fun v167 =>
                  wr (uI I163 a103 1 v167) fun (I169 : MI) =>
                  some (u166, I169, L164)
              ) fun (u129 : Int32) (I130 : MI) (L131 : ML) =>
              some (u129, I130, L131)
            else
              bn1 (
                if u3 = 0 then
                  some ((1 : Int32))
                else
                  some ((0 : Int32))
              ) fun (s112 : Int32) =>
              wr (uI I104 a103 0 s112) fun (I116 : MI) =>
              bn1 (
                if u3 = 0 then
                  some ((1 : Int32))
                else
                  some ((0 : Int32))
              ) fun (s117 : Int32) =>
              bn3 (F_X8_takeNumber_ N x1 s117 (9999 : Int32) I116 L R) fun b121 I122 L123 =>
              wr (b2i b121) fun (u125 : Int32) =>
              bn1 (F_X8_number x1 I122 L123 R) fun v126 =>
              wr (uI I122 a103 1 v126) fun (I128 : MI) =>
              some (u125, I128, L123)
          ) fun (u106 : Int32) (I107 : MI) (L108 : ML) =>
          if u106 = 0 then
            some (false, I107, L108)
          else
            bn3 (F_X5_readAct N x0 x1 x2 a103 I107 L108 R) fun b171 I172 L173 =>
            if (b2i b171) = 0 then
              some (false, I172, L173)
            else
              bn3 (F_X8_takeSign N x1 (59 : Int32) I172 L173 R) fun b176 I177 L178 =>
              if (b2i b176) = 0 then
                some (false, I177, L178)
              else
                wr (uI I177 x0 2 ((I177 x0 2) + (1 : Int32))) fun (I181 : MI) =>
                some (true, I181, L178)
        else
          bn2 (F_X8_refuse x1 (4 : Int32) I L R) fun b182 I183 =>
          some (b182, I183, L)
  else
    if (I x0 2) < 0 then
      bn2 (F_X8_refuse x1 (4 : Int32) I L R) fun b9 I10 =>
      some (b9, I10, L)
    else
      (rf R x0 0 24).bind fun a12 =>
      if (I x0 2) < (Int32.ofNat (ln a12)) then
        (ra R a12 (I x0 2) 3).bind fun a14 =>
        bn1 (F_X3_clear a14 I L R) fun I15 =>
        bn3 (
          if u3 = 0 then
            bn3 (
              if u6 = 0 then
                bn3 (F_X5_readTerm N x0 x1 x2 a14 I15 L R) fun b46 I47 L48 =>
                bn3 (
                  if (b2i b46) = 0 then
                    some ((0 : Int32), I47, L48)
                  else
                    bn3 (F_X5_readBound N x0 x1 a14 I47 L48 R) fun b56 I57 L58 =>
                    bn1 (
                      if (b2i b56) = 0 then
                        some ((0 : Int32))
                      else
                        some ((1 : Int32))
                    ) fun (s60 : Int32) =>
                    some (s60, I57, L58)
                ) fun (s50 : Int32) (I51 : MI) (L52 : ML) =>
                some (s50, I51, L52)
              else
                bn1 (
                  if u3 = 0 then
                    some ((1 : Int32))
                  else
                    some ((0 : Int32))
                ) fun (s64 : Int32) =>
                wr (uI I15 a14 0 s64) fun (I68 : MI) =>
                bn1 (
                  if u3 = 0 then
                    some ((1 : Int32))
                  else
                    some ((0 : Int32))
                ) fun (s69 : Int32) =>
                bn3 (F_X8_takeNumber_ N x1 s69 (9999 : Int32) I68 L R) fun b73 I74 L75 =>
                wr (b2i b73) fun (u77 : Int32) =>
                bn1 (F_X8_number x1 I74 L75 R) fun v78 =>
                wr (uI I74 a14 1 v78) fun (I80 : MI) =>
                some (u77, I80, L75)
            ) fun (u40 : Int32) (I41 : MI) (L42 : ML) =>
            some (u40, I41, L42)
          else
            bn1 (
              if u3 = 0 then
                some ((1 : Int32))
              else
                some ((0 : Int32))
            ) fun (s23 : Int32) =>
            wr (uI I15 a14 0 s23) fun (I27 : MI) =>
            bn1 (
              if u3 = 0 then
                some ((1 : Int32))
              else
                some ((0 : Int32))
            ) fun (s28 : Int32) =>
            bn3 (F_X8_takeNumber_ N x1 s28 (9999 : Int32) I27 L R) fun b32 I33 L34 =>
            wr (b2i b32) fun (u36 : Int32) =>
            bn1 (F_X8_number x1 I33 L34 R) fun v37 =>
            wr (uI I33 a14 1 v37) fun (I39 : MI) =>
            some (u36, I39, L34)
        ) fun (u17 : Int32) (I18 : MI) (L19 : ML) =>
        if u17 = 0 then
          some (false, I18, L19)
        else
          bn3 (F_X5_readAct N x0 x1 x2 a14 I18 L19 R) fun b82 I83 L84 =>
          if (b2i b82) = 0 then
            some (false, I83, L84)
          else
            bn3 (F_X8_takeSign N x1 (59 : Int32) I83 L84 R) fun b87 I88 L89 =>
            if (b2i b87) = 0 then
              some (false, I88, L89)
            else
              wr (uI I88 x0 2 ((I88 x0 2) + (1 : Int32))) fun (I92 : MI) =>
              some (true, I92, L89)
      else
        bn2 (F_X8_refuse x1 (4 : Int32) I L R) fun b93 I94 =>
        some (b93, I94, L)
  else none
  else none
  else none
set_option maxRecDepth 100000 in
set_option maxHeartbeats 4000000 in
theorem c_X5_readItem (l : Launch) (D : va_G) (cA : Nat → ClassId) (ad : Nat → Nat) (bs : Nat) (X : State → Prop) (hAd : Ax ad bs) (hX : Stb bs X) (ht : Ssb ad bs X) (N : Nat) (x0 : Nat) (x1 : Nat) (x2 : Nat) (I : MI) (L : ML) (R : MR) (r : Bool) (I' : MI) (L' : ML) (h : F_X5_readItem N x0 x1 x2 I L R = some (r, I', L')) : Cn l D cA ad bs X yX5_readItem cX5_readItem 7 (some .boolean) 8 172 [.ref (ad x0), .ref (ad x1), .ref (ad x2)] I L R (some (.int (b2i r)), I', L', R) := by
  refine Cn.ofV hAd hX [(0, .ref (ad x0)), (1, .ref (ad x1)), (2, .ref (ad x2))] rfl (Nat.le_of_ble_eq_true rfl) (by decide) ?_
  intro G el eD ecA ead ebs eX erm eNL C0
  subst el eD ecA ead ebs eX
  have hsb := ht _ C0.2.2.2.2.2.2.2.2.2.2.2.1
  unfold F_X5_readItem at h
  obtain ⟨c_x0, h⟩ := ite_some h
  obtain ⟨c_x1, h⟩ := ite_some h
  obtain ⟨c_x2, h⟩ := ite_some h
  refine V_aload_n C0 1 rfl rfl dX5_readItem_0 ?_
  refine V_ldcS C0 (q := G.ad 422) (hsb.2.2.2.2.2 ("SmallCraft$Plan", 47, "at", 22) (by decide)) dX5_readItem_1 ?_
  obtain ⟨b1, q2, h⟩ := bn1_some h
  refine V_callV C0 (st := []) (As := [.ref (G.ad 422)]) 7 (c_X8_isWord G.l G.D G.cA G.ad G.bs G.X C0.2.2.2.2.2.2.2.2.2.1 C0.2.2.2.2.2.2.2.2.2.2.2.2 ht N x1 422 I L R b1 q2) lc_X8_isWord lk_X5_49 c_x1.2 c_x1.1 ⟨_, rfl, rfl⟩ rfl (by rw [erm]; decide) (Nat.le_of_ble_eq_true rfl) dX5_readItem_3 ?_
  show V G _ 6 [(0, .ref (G.ad x0)), (1, .ref (G.ad x1)), (2, .ref (G.ad x2))] [.int (b2i b1)] I L R
  obtain ⟨u3, eu3, h⟩ := wr_some h
  rw [← eu3]
  refine V_istore_n C0 [(3, .int u3), (0, .ref (G.ad x0)), (1, .ref (G.ad x1)), (2, .ref (G.ad x2))] rfl (by rw [eNL]; decide) rfl dX5_readItem_6 ?_
  refine V_aload_n C0 2 rfl rfl dX5_readItem_7 ?_
  refine V_ldcS C0 (q := G.ad 423) (hsb.2.2.2.2.2 ("SmallCraft$Plan", 53, "each", 23) (by decide)) dX5_readItem_8 ?_
  obtain ⟨b4, q5, h⟩ := bn1_some h
  refine V_callV C0 (st := []) (As := [.ref (G.ad 423)]) 7 (c_X8_isWord G.l G.D G.cA G.ad G.bs G.X C0.2.2.2.2.2.2.2.2.2.1 C0.2.2.2.2.2.2.2.2.2.2.2.2 ht N x1 423 I L R b4 q5) lc_X8_isWord lk_X5_49 c_x1.2 c_x1.1 ⟨_, rfl, rfl⟩ rfl (by rw [erm]; decide) (Nat.le_of_ble_eq_true rfl) dX5_readItem_10 ?_
  show V G _ 13 [(3, .int u3), (0, .ref (G.ad x0)), (1, .ref (G.ad x1)), (2, .ref (G.ad x2))] [.int (b2i b4)] I L R
  obtain ⟨u6, eu6, h⟩ := wr_some h
  rw [← eu6]
  refine V_istore C0 [(4, .int u6), (3, .int u3), (0, .ref (G.ad x0)), (1, .ref (G.ad x1)), (2, .ref (G.ad x2))] (by rw [eNL]; decide) rfl dX5_readItem_13 ?_
  refine V_iload_n C0 1 rfl rfl dX5_readItem_15 ?_
  refine V_if_ne C0 (tgt := 39) (by decide) dX5_readItem_16 (fun c7 => ?_) (fun c7 => ?_)
  · have h := (if_neg c7).symm.trans h
    refine V_aload_n C0 2 rfl rfl dX5_readItem_39 ?_
    refine V_getI C0 4 2 fl_X5_22 c_x0.2 c_x0.1 rfl dX5_readItem_40 ?_
    refine V_if_lt C0 (tgt := 58) (by decide) dX5_readItem_43 (fun c8 => ?_) (fun c8 => ?_)
    · have h := (if_pos c8).symm.trans h
      refine V_aload_n C0 3 rfl rfl dX5_readItem_58 ?_
      refine V_iconst C0 (v := (4 : Int32)) (by decide) dX5_readItem_59 ?_
      obtain ⟨b9, I10, q11, h⟩ := bn2_some h
      refine V_callV C0 (st := []) (As := [.int (4 : Int32)]) 7 (c_X8_refuse G.l G.D G.cA G.ad G.bs G.X C0.2.2.2.2.2.2.2.2.2.1 C0.2.2.2.2.2.2.2.2.2.2.2.2 x1 (4 : Int32) I L R b9 I10 q11) lc_X8_refuse lk_X5_57 c_x1.2 c_x1.1 ⟨_, rfl, rfl⟩ rfl (by rw [erm]; decide) (Nat.le_of_ble_eq_true rfl) dX5_readItem_60 ?_
      show V G _ 63 [(4, .int u6), (3, .int u3), (0, .ref (G.ad x0)), (1, .ref (G.ad x1)), (2, .ref (G.ad x2))] [.int (b2i b9)] I10 L R
      cases h
      exact V_zret C0 (b2i01 _) dX5_readItem_63
    · have h := (if_neg c8).symm.trans h
      refine V_aload_n C0 2 rfl rfl dX5_readItem_46 ?_
      refine V_getI C0 4 2 fl_X5_22 c_x0.2 c_x0.1 rfl dX5_readItem_47 ?_
      refine V_aload_n C0 2 rfl rfl dX5_readItem_50 ?_
      obtain ⟨a12, qa12, h⟩ := bnd_some h
      refine V_getR C0 4 0 fl_X5_11 c_x0.2 c_x0.1 rfl (rf_at qa12) dX5_readItem_51 ?_
      refine V_alen C0 (v := Int32.ofNat (ln a12)) (rf_lt qa12) (by rw [(rf_kd qa12)]; decide) rfl dX5_readItem_54 ?_
      refine V_icmp_lt C0 (tgt := 64) (by decide) dX5_readItem_55 (fun c13 => ?_) (fun c13 => ?_)
      · have h := (if_pos c13).symm.trans h
        refine V_aload_n C0 2 rfl rfl dX5_readItem_64 ?_
        refine V_getR C0 4 0 fl_X5_11 c_x0.2 c_x0.1 rfl (rf_at qa12) dX5_readItem_65 ?_
        refine V_aload_n C0 2 rfl rfl dX5_readItem_68 ?_
        refine V_getI C0 4 2 fl_X5_22 c_x0.2 c_x0.1 rfl dX5_readItem_69 ?_
        obtain ⟨a14, qa14, h⟩ := bnd_some h
        refine V_ra C0 (rf_lt qa12) (Or.inr (rf_kd qa12)) qa14 dX5_readItem_72 ?_
        refine V_astore C0 [(5, .ref (G.ad a14)), (4, .int u6), (3, .int u3), (0, .ref (G.ad x0)), (1, .ref (G.ad x1)), (2, .ref (G.ad x2))] (by rw [eNL]; decide) rfl dX5_readItem_73 ?_
        refine V_aload C0 0 rfl dX5_readItem_75 ?_
        obtain ⟨I15, q16, h⟩ := bn1_some h
        refine V_callV C0 (st := []) (As := []) 3 (c_X3_clear G.l G.D G.cA G.ad G.bs G.X C0.2.2.2.2.2.2.2.2.2.1 C0.2.2.2.2.2.2.2.2.2.2.2.2 a14 I L R I15 q16) lc_X3_clear lk_X5_61 (ra_lt qa14) (ra_kd qa14) ⟨_, rfl, rfl⟩ rfl (by rw [erm]; decide) (Nat.le_of_ble_eq_true rfl) dX5_readItem_77 ?_
        show V G _ 80 [(5, .ref (G.ad a14)), (4, .int u6), (3, .int u3), (0, .ref (G.ad x0)), (1, .ref (G.ad x1)), (2, .ref (G.ad x2))] [] I15 L R
        refine V_iload_n C0 2 rfl rfl dX5_readItem_80 ?_
        obtain ⟨u17, I18, L19, q20, h⟩ := bn3_some h
        have k21 : V G (qf G (some (.int (b2i r)), I', L', R)) 161 [(0, .ref (G.ad x0)), (1, .ref (G.ad x1)), (2, .ref (G.ad x2)), (5, .ref (G.ad a14)), (6, .int u17)] [] I18 L19 R := by
          refine V_iload C0 4 rfl dX5_readItem_161 ?_
          refine V_if_eq C0 (tgt := 186) (by decide) dX5_readItem_163 (fun c81 => ?_) (fun c81 => ?_)
          · have h := (if_pos c81).symm.trans h
            refine V_iconst C0 (v := (0 : Int32)) (by decide) dX5_readItem_186 ?_
            cases h
            exact V_zret C0 (by decide) dX5_readItem_187
          · have h := (if_neg c81).symm.trans h
            refine V_aload_n C0 0 rfl rfl dX5_readItem_166 ?_
            refine V_aload_n C0 1 rfl rfl dX5_readItem_167 ?_
            refine V_aload_n C0 2 rfl rfl dX5_readItem_168 ?_
            refine V_aload C0 3 rfl dX5_readItem_169 ?_
            obtain ⟨b82, I83, L84, q85, h⟩ := bn3_some h
            refine V_callV C0 (st := []) (As := [.ref (G.ad x1), .ref (G.ad x2), .ref (G.ad a14)]) 4 (c_X5_readAct G.l G.D G.cA G.ad G.bs G.X C0.2.2.2.2.2.2.2.2.2.1 C0.2.2.2.2.2.2.2.2.2.2.2.2 ht N x0 x1 x2 a14 I18 L19 R b82 I83 L84 q85) lc_X5_readAct lk_X5_85 c_x0.2 c_x0.1 ⟨_, rfl, rfl⟩ rfl (by rw [erm]; decide) (Nat.le_of_ble_eq_true rfl) dX5_readItem_171 ?_
            show V G _ 174 [(0, .ref (G.ad x0)), (1, .ref (G.ad x1)), (2, .ref (G.ad x2)), (5, .ref (G.ad a14)), (6, .int u17)] [.int (b2i b82)] I83 L84 R
            refine V_if_eq C0 (tgt := 186) (by decide) dX5_readItem_174 (fun c86 => ?_) (fun c86 => ?_)
            · have h := (if_pos c86).symm.trans h
              refine V_iconst C0 (v := (0 : Int32)) (by decide) dX5_readItem_186 ?_
              cases h
              exact V_zret C0 (by decide) dX5_readItem_187
            · have h := (if_neg c86).symm.trans h
              refine V_aload_n C0 1 rfl rfl dX5_readItem_177 ?_
              refine V_bipush C0 (v := (59 : Int32)) (by decide) dX5_readItem_178 ?_
              obtain ⟨b87, I88, L89, q90, h⟩ := bn3_some h
              refine V_callV C0 (st := []) (As := [.int (59 : Int32)]) 7 (c_X8_takeSign G.l G.D G.cA G.ad G.bs G.X C0.2.2.2.2.2.2.2.2.2.1 C0.2.2.2.2.2.2.2.2.2.2.2.2 N x1 (59 : Int32) I83 L84 R b87 I88 L89 q90) lc_X8_takeSign lk_X5_88 c_x1.2 c_x1.1 ⟨_, rfl, rfl⟩ rfl (by rw [erm]; decide) (Nat.le_of_ble_eq_true rfl) dX5_readItem_180 ?_
              show V G _ 183 [(0, .ref (G.ad x0)), (1, .ref (G.ad x1)), (2, .ref (G.ad x2)), (5, .ref (G.ad a14)), (6, .int u17)] [.int (b2i b87)] I88 L89 R
              refine V_if_ne C0 (tgt := 188) (by decide) dX5_readItem_183 (fun c91 => ?_) (fun c91 => ?_)
              · have h := (if_neg c91).symm.trans h
                refine V_aload_n C0 0 rfl rfl dX5_readItem_188 ?_
                refine V_dup C0 rfl dX5_readItem_189 ?_
                refine V_getI C0 4 2 fl_X5_22 c_x0.2 c_x0.1 rfl dX5_readItem_190 ?_
                refine V_iconst C0 (v := (1 : Int32)) (by decide) dX5_readItem_193 ?_
                refine V_iadd C0 dX5_readItem_194 ?_
                obtain ⟨I92, eI92, h⟩ := wr_some h
                refine V_putI C0 4 2 fp_X5_22 c_x0.2 c_x0.1 rfl dX5_readItem_195 ?_
                rw [← eI92]
                refine V_iconst C0 (v := (1 : Int32)) (by decide) dX5_readItem_198 ?_
                cases h
                exact V_zret C0 (by decide) dX5_readItem_199
              · have h := (if_pos c91).symm.trans h
                refine V_iconst C0 (v := (0 : Int32)) (by decide) dX5_readItem_186 ?_
                cases h
                exact V_zret C0 (by decide) dX5_readItem_187
        refine V_if_ne C0 (tgt := 89) (by decide) dX5_readItem_81 (fun c22 => ?_) (fun c22 => ?_)
        · have q20 := (if_neg c22).symm.trans q20
          refine V_aload C0 0 rfl dX5_readItem_89 ?_
          refine V_iload_n C0 2 rfl rfl dX5_readItem_91 ?_
          obtain ⟨s23, q24, q20⟩ := bn1_some q20
          have k25 : V G (qf G (some (.int (b2i r)), I', L', R)) 100 [(0, .ref (G.ad x0)), (1, .ref (G.ad x1)), (2, .ref (G.ad x2)), (3, .int u3), (5, .ref (G.ad a14))] [.int s23, .ref (G.ad a14)] I15 L R := by
            obtain ⟨I27, eI27, q20⟩ := wr_some q20
            refine V_putI C0 3 0 fp_X5_64 (ra_lt qa14) (ra_kd qa14) rfl dX5_readItem_100 ?_
            rw [← eI27]
            refine V_aload_n C0 1 rfl rfl dX5_readItem_103 ?_
            refine V_iload_n C0 3 rfl rfl dX5_readItem_104 ?_
            obtain ⟨s28, q29, q20⟩ := bn1_some q20
            have k30 : V G (qf G (some (.int (b2i r)), I', L', R)) 113 [(0, .ref (G.ad x0)), (1, .ref (G.ad x1)), (2, .ref (G.ad x2)), (5, .ref (G.ad a14))] [.int s28, .ref (G.ad x1)] I27 L R := by
              refine V_sipush C0 (v := (9999 : Int32)) (by decide) dX5_readItem_113 ?_
              obtain ⟨b32, I33, L34, q35, q20⟩ := bn3_some q20
              refine V_callV C0 (st := []) (As := [.int s28, .int (9999 : Int32)]) 7 (c_X8_takeNumber_ G.l G.D G.cA G.ad G.bs G.X C0.2.2.2.2.2.2.2.2.2.1 C0.2.2.2.2.2.2.2.2.2.2.2.2 N x1 s28 (9999 : Int32) I27 L R b32 I33 L34 q35) lc_X8_takeNumber_ lk_X5_66 c_x1.2 c_x1.1 ⟨_, rfl, rfl⟩ rfl (by rw [erm]; decide) (Nat.le_of_ble_eq_true rfl) dX5_readItem_116 ?_
              show V G _ 119 [(0, .ref (G.ad x0)), (1, .ref (G.ad x1)), (2, .ref (G.ad x2)), (5, .ref (G.ad a14))] [.int (b2i b32)] I33 L34 R
              obtain ⟨u36, eu36, q20⟩ := wr_some q20
              rw [← eu36]
              refine V_istore C0 [(6, .int u36), (0, .ref (G.ad x0)), (1, .ref (G.ad x1)), (2, .ref (G.ad x2)), (5, .ref (G.ad a14))] (by rw [eNL]; decide) rfl dX5_readItem_119 ?_
              refine V_aload C0 4 rfl dX5_readItem_121 ?_
              refine V_aload_n C0 2 rfl rfl dX5_readItem_123 ?_
              obtain ⟨v37, q38, q20⟩ := bn1_some q20
              refine V_callV C0 (st := [.ref (G.ad a14)]) (As := []) 7 (c_X8_number G.l G.D G.cA G.ad G.bs G.X C0.2.2.2.2.2.2.2.2.2.1 C0.2.2.2.2.2.2.2.2.2.2.2.2 x1 I33 L34 R v37 q38) lc_X8_number lk_X5_70 c_x1.2 c_x1.1 ⟨_, rfl, rfl⟩ rfl (by rw [erm]; decide) (Nat.le_of_ble_eq_true rfl) dX5_readItem_124 ?_
              show V G _ 127 [(6, .int u36), (0, .ref (G.ad x0)), (1, .ref (G.ad x1)), (2, .ref (G.ad x2)), (5, .ref (G.ad a14))] [.int v37, .ref (G.ad a14)] I33 L34 R
              obtain ⟨I39, eI39, q20⟩ := wr_some q20
              refine V_putI C0 3 1 fp_X5_74 (ra_lt qa14) (ra_kd qa14) rfl dX5_readItem_127 ?_
              rw [← eI39]
              refine V_goto C0 (tgt := 161) (by decide) dX5_readItem_130 ?_
              cases q20
              exact V_sub [1, 2, 3, 4, 0] rfl k21
            refine V_if_eq C0 (tgt := 112) (by decide) dX5_readItem_105 (fun c31 => ?_) (fun c31 => ?_)
            · have q29 := (if_pos c31).symm.trans q29
              refine V_iconst C0 (v := (1 : Int32)) (by decide) dX5_readItem_112 ?_
              cases q29
              exact V_sub [0, 1, 2, 4] rfl k30
            · have q29 := (if_neg c31).symm.trans q29
              refine V_iconst C0 (v := (0 : Int32)) (by decide) dX5_readItem_108 ?_
              refine V_goto C0 (tgt := 113) (by decide) dX5_readItem_109 ?_
              cases q29
              exact V_sub [0, 1, 2, 4] rfl k30
          refine V_if_eq C0 (tgt := 99) (by decide) dX5_readItem_92 (fun c26 => ?_) (fun c26 => ?_)
          · have q24 := (if_pos c26).symm.trans q24
            refine V_iconst C0 (v := (1 : Int32)) (by decide) dX5_readItem_99 ?_
            cases q24
            exact V_sub [3, 4, 5, 2, 0] rfl k25
          · have q24 := (if_neg c26).symm.trans q24
            refine V_iconst C0 (v := (0 : Int32)) (by decide) dX5_readItem_95 ?_
            refine V_goto C0 (tgt := 100) (by decide) dX5_readItem_96 ?_
            cases q24
            exact V_sub [3, 4, 5, 2, 0] rfl k25
        · have q20 := (if_pos c22).symm.trans q20
          refine V_iload C0 1 rfl dX5_readItem_84 ?_
          obtain ⟨u40, I41, L42, q43, q20⟩ := bn3_some q20
          have k44 : V G (qf G (some (.int (b2i r)), I', L', R)) 161 [(0, .ref (G.ad x0)), (1, .ref (G.ad x1)), (2, .ref (G.ad x2)), (5, .ref (G.ad a14)), (6, .int u40)] [] I41 L42 R := by
            cases q20
            exact V_sub [0, 1, 2, 3, 4] rfl k21
          refine V_if_eq C0 (tgt := 133) (by decide) dX5_readItem_86 (fun c45 => ?_) (fun c45 => ?_)
          · have q43 := (if_pos c45).symm.trans q43
            refine V_aload_n C0 3 rfl rfl dX5_readItem_133 ?_
            refine V_aload_n C0 4 rfl rfl dX5_readItem_134 ?_
            refine V_aload_n C0 5 rfl rfl dX5_readItem_135 ?_
            refine V_aload C0 0 rfl dX5_readItem_136 ?_
            obtain ⟨b46, I47, L48, q49, q43⟩ := bn3_some q43
            refine V_callV C0 (st := []) (As := [.ref (G.ad x1), .ref (G.ad x2), .ref (G.ad a14)]) 4 (c_X5_readTerm G.l G.D G.cA G.ad G.bs G.X C0.2.2.2.2.2.2.2.2.2.1 C0.2.2.2.2.2.2.2.2.2.2.2.2 ht N x0 x1 x2 a14 I15 L R b46 I47 L48 q49) lc_X5_readTerm lk_X5_77 c_x0.2 c_x0.1 ⟨_, rfl, rfl⟩ rfl (by rw [erm]; decide) (Nat.le_of_ble_eq_true rfl) dX5_readItem_138 ?_
            show V G _ 141 [(5, .ref (G.ad a14)), (4, .int u6), (3, .int u3), (0, .ref (G.ad x0)), (1, .ref (G.ad x1)), (2, .ref (G.ad x2))] [.int (b2i b46)] I47 L48 R
            obtain ⟨s50, I51, L52, q53, q43⟩ := bn3_some q43
            have k54 : V G (qf G (some (.int (b2i r)), I', L', R)) 159 [(0, .ref (G.ad x0)), (1, .ref (G.ad x1)), (2, .ref (G.ad x2)), (5, .ref (G.ad a14))] [.int s50] I51 L52 R := by
              refine V_istore C0 [(6, .int s50), (0, .ref (G.ad x0)), (1, .ref (G.ad x1)), (2, .ref (G.ad x2)), (5, .ref (G.ad a14))] (by rw [eNL]; decide) rfl dX5_readItem_159 ?_
              cases q43
              exact V_sub [1, 2, 3, 4, 0] rfl k44
            refine V_if_eq C0 (tgt := 158) (by decide) dX5_readItem_141 (fun c55 => ?_) (fun c55 => ?_)
            · have q53 := (if_pos c55).symm.trans q53
              refine V_iconst C0 (v := (0 : Int32)) (by decide) dX5_readItem_158 ?_
              cases q53
              exact V_sub [3, 4, 5, 0] rfl k54
            · have q53 := (if_neg c55).symm.trans q53
              refine V_aload_n C0 3 rfl rfl dX5_readItem_144 ?_
              refine V_aload_n C0 4 rfl rfl dX5_readItem_145 ?_
              refine V_aload C0 0 rfl dX5_readItem_146 ?_
              obtain ⟨b56, I57, L58, q59, q53⟩ := bn3_some q53
              refine V_callV C0 (st := []) (As := [.ref (G.ad x1), .ref (G.ad a14)]) 4 (c_X5_readBound G.l G.D G.cA G.ad G.bs G.X C0.2.2.2.2.2.2.2.2.2.1 C0.2.2.2.2.2.2.2.2.2.2.2.2 N x0 x1 a14 I47 L48 R b56 I57 L58 q59) lc_X5_readBound lk_X5_81 c_x0.2 c_x0.1 ⟨_, rfl, rfl⟩ rfl (by rw [erm]; decide) (Nat.le_of_ble_eq_true rfl) dX5_readItem_148 ?_
              show V G _ 151 [(5, .ref (G.ad a14)), (4, .int u6), (3, .int u3), (0, .ref (G.ad x0)), (1, .ref (G.ad x1)), (2, .ref (G.ad x2))] [.int (b2i b56)] I57 L58 R
              obtain ⟨s60, q61, q53⟩ := bn1_some q53
              have k62 : V G (qf G (some (.int (b2i r)), I', L', R)) 159 [(0, .ref (G.ad x0)), (1, .ref (G.ad x1)), (2, .ref (G.ad x2)), (5, .ref (G.ad a14))] [.int s60] I57 L58 R := by
                cases q53
                exact V_sub [0, 1, 2, 3] rfl k54
              refine V_if_eq C0 (tgt := 158) (by decide) dX5_readItem_151 (fun c63 => ?_) (fun c63 => ?_)
              · have q61 := (if_pos c63).symm.trans q61
                refine V_iconst C0 (v := (0 : Int32)) (by decide) dX5_readItem_158 ?_
                cases q61
                exact V_sub [3, 4, 5, 0] rfl k62
              · have q61 := (if_neg c63).symm.trans q61
                refine V_iconst C0 (v := (1 : Int32)) (by decide) dX5_readItem_154 ?_
                refine V_goto C0 (tgt := 159) (by decide) dX5_readItem_155 ?_
                cases q61
                exact V_sub [3, 4, 5, 0] rfl k62
          · have q43 := (if_neg c45).symm.trans q43
            refine V_aload C0 0 rfl dX5_readItem_89 ?_
            refine V_iload_n C0 2 rfl rfl dX5_readItem_91 ?_
            obtain ⟨s64, q65, q43⟩ := bn1_some q43
            have k66 : V G (qf G (some (.int (b2i r)), I', L', R)) 100 [(0, .ref (G.ad x0)), (1, .ref (G.ad x1)), (2, .ref (G.ad x2)), (3, .int u3), (5, .ref (G.ad a14))] [.int s64, .ref (G.ad a14)] I15 L R := by
              obtain ⟨I68, eI68, q43⟩ := wr_some q43
              refine V_putI C0 3 0 fp_X5_64 (ra_lt qa14) (ra_kd qa14) rfl dX5_readItem_100 ?_
              rw [← eI68]
              refine V_aload_n C0 1 rfl rfl dX5_readItem_103 ?_
              refine V_iload_n C0 3 rfl rfl dX5_readItem_104 ?_
              obtain ⟨s69, q70, q43⟩ := bn1_some q43
              have k71 : V G (qf G (some (.int (b2i r)), I', L', R)) 113 [(0, .ref (G.ad x0)), (1, .ref (G.ad x1)), (2, .ref (G.ad x2)), (5, .ref (G.ad a14))] [.int s69, .ref (G.ad x1)] I68 L R := by
                refine V_sipush C0 (v := (9999 : Int32)) (by decide) dX5_readItem_113 ?_
                obtain ⟨b73, I74, L75, q76, q43⟩ := bn3_some q43
                refine V_callV C0 (st := []) (As := [.int s69, .int (9999 : Int32)]) 7 (c_X8_takeNumber_ G.l G.D G.cA G.ad G.bs G.X C0.2.2.2.2.2.2.2.2.2.1 C0.2.2.2.2.2.2.2.2.2.2.2.2 N x1 s69 (9999 : Int32) I68 L R b73 I74 L75 q76) lc_X8_takeNumber_ lk_X5_66 c_x1.2 c_x1.1 ⟨_, rfl, rfl⟩ rfl (by rw [erm]; decide) (Nat.le_of_ble_eq_true rfl) dX5_readItem_116 ?_
                show V G _ 119 [(0, .ref (G.ad x0)), (1, .ref (G.ad x1)), (2, .ref (G.ad x2)), (5, .ref (G.ad a14))] [.int (b2i b73)] I74 L75 R
                obtain ⟨u77, eu77, q43⟩ := wr_some q43
                rw [← eu77]
                refine V_istore C0 [(6, .int u77), (0, .ref (G.ad x0)), (1, .ref (G.ad x1)), (2, .ref (G.ad x2)), (5, .ref (G.ad a14))] (by rw [eNL]; decide) rfl dX5_readItem_119 ?_
                refine V_aload C0 4 rfl dX5_readItem_121 ?_
                refine V_aload_n C0 2 rfl rfl dX5_readItem_123 ?_
                obtain ⟨v78, q79, q43⟩ := bn1_some q43
                refine V_callV C0 (st := [.ref (G.ad a14)]) (As := []) 7 (c_X8_number G.l G.D G.cA G.ad G.bs G.X C0.2.2.2.2.2.2.2.2.2.1 C0.2.2.2.2.2.2.2.2.2.2.2.2 x1 I74 L75 R v78 q79) lc_X8_number lk_X5_70 c_x1.2 c_x1.1 ⟨_, rfl, rfl⟩ rfl (by rw [erm]; decide) (Nat.le_of_ble_eq_true rfl) dX5_readItem_124 ?_
                show V G _ 127 [(6, .int u77), (0, .ref (G.ad x0)), (1, .ref (G.ad x1)), (2, .ref (G.ad x2)), (5, .ref (G.ad a14))] [.int v78, .ref (G.ad a14)] I74 L75 R
                obtain ⟨I80, eI80, q43⟩ := wr_some q43
                refine V_putI C0 3 1 fp_X5_74 (ra_lt qa14) (ra_kd qa14) rfl dX5_readItem_127 ?_
                rw [← eI80]
                refine V_goto C0 (tgt := 161) (by decide) dX5_readItem_130 ?_
                cases q43
                exact V_sub [1, 2, 3, 4, 0] rfl k44
              refine V_if_eq C0 (tgt := 112) (by decide) dX5_readItem_105 (fun c72 => ?_) (fun c72 => ?_)
              · have q70 := (if_pos c72).symm.trans q70
                refine V_iconst C0 (v := (1 : Int32)) (by decide) dX5_readItem_112 ?_
                cases q70
                exact V_sub [0, 1, 2, 4] rfl k71
              · have q70 := (if_neg c72).symm.trans q70
                refine V_iconst C0 (v := (0 : Int32)) (by decide) dX5_readItem_108 ?_
                refine V_goto C0 (tgt := 113) (by decide) dX5_readItem_109 ?_
                cases q70
                exact V_sub [0, 1, 2, 4] rfl k71
            refine V_if_eq C0 (tgt := 99) (by decide) dX5_readItem_92 (fun c67 => ?_) (fun c67 => ?_)
            · have q65 := (if_pos c67).symm.trans q65
              refine V_iconst C0 (v := (1 : Int32)) (by decide) dX5_readItem_99 ?_
              cases q65
              exact V_sub [3, 4, 5, 2, 0] rfl k66
            · have q65 := (if_neg c67).symm.trans q65
              refine V_iconst C0 (v := (0 : Int32)) (by decide) dX5_readItem_95 ?_
              refine V_goto C0 (tgt := 100) (by decide) dX5_readItem_96 ?_
              cases q65
              exact V_sub [3, 4, 5, 2, 0] rfl k66
      · have h := (if_neg c13).symm.trans h
        refine V_aload_n C0 3 rfl rfl dX5_readItem_58 ?_
        refine V_iconst C0 (v := (4 : Int32)) (by decide) dX5_readItem_59 ?_
        obtain ⟨b93, I94, q95, h⟩ := bn2_some h
        refine V_callV C0 (st := []) (As := [.int (4 : Int32)]) 7 (c_X8_refuse G.l G.D G.cA G.ad G.bs G.X C0.2.2.2.2.2.2.2.2.2.1 C0.2.2.2.2.2.2.2.2.2.2.2.2 x1 (4 : Int32) I L R b93 I94 q95) lc_X8_refuse lk_X5_57 c_x1.2 c_x1.1 ⟨_, rfl, rfl⟩ rfl (by rw [erm]; decide) (Nat.le_of_ble_eq_true rfl) dX5_readItem_60 ?_
        show V G _ 63 [(4, .int u6), (3, .int u3), (0, .ref (G.ad x0)), (1, .ref (G.ad x1)), (2, .ref (G.ad x2))] [.int (b2i b93)] I94 L R
        cases h
        exact V_zret C0 (b2i01 _) dX5_readItem_63
  · have h := (if_pos c7).symm.trans h
    refine V_iload C0 0 rfl dX5_readItem_19 ?_
    refine V_if_ne C0 (tgt := 39) (by decide) dX5_readItem_21 (fun c96 => ?_) (fun c96 => ?_)
    · have h := (if_neg c96).symm.trans h
      refine V_aload_n C0 2 rfl rfl dX5_readItem_39 ?_
      refine V_getI C0 4 2 fl_X5_22 c_x0.2 c_x0.1 rfl dX5_readItem_40 ?_
      refine V_if_lt C0 (tgt := 58) (by decide) dX5_readItem_43 (fun c97 => ?_) (fun c97 => ?_)
      · have h := (if_pos c97).symm.trans h
        refine V_aload_n C0 3 rfl rfl dX5_readItem_58 ?_
        refine V_iconst C0 (v := (4 : Int32)) (by decide) dX5_readItem_59 ?_
        obtain ⟨b98, I99, q100, h⟩ := bn2_some h
        refine V_callV C0 (st := []) (As := [.int (4 : Int32)]) 7 (c_X8_refuse G.l G.D G.cA G.ad G.bs G.X C0.2.2.2.2.2.2.2.2.2.1 C0.2.2.2.2.2.2.2.2.2.2.2.2 x1 (4 : Int32) I L R b98 I99 q100) lc_X8_refuse lk_X5_57 c_x1.2 c_x1.1 ⟨_, rfl, rfl⟩ rfl (by rw [erm]; decide) (Nat.le_of_ble_eq_true rfl) dX5_readItem_60 ?_
        show V G _ 63 [(4, .int u6), (3, .int u3), (0, .ref (G.ad x0)), (1, .ref (G.ad x1)), (2, .ref (G.ad x2))] [.int (b2i b98)] I99 L R
        cases h
        exact V_zret C0 (b2i01 _) dX5_readItem_63
      · have h := (if_neg c97).symm.trans h
        refine V_aload_n C0 2 rfl rfl dX5_readItem_46 ?_
        refine V_getI C0 4 2 fl_X5_22 c_x0.2 c_x0.1 rfl dX5_readItem_47 ?_
        refine V_aload_n C0 2 rfl rfl dX5_readItem_50 ?_
        obtain ⟨a101, qa101, h⟩ := bnd_some h
        refine V_getR C0 4 0 fl_X5_11 c_x0.2 c_x0.1 rfl (rf_at qa101) dX5_readItem_51 ?_
        refine V_alen C0 (v := Int32.ofNat (ln a101)) (rf_lt qa101) (by rw [(rf_kd qa101)]; decide) rfl dX5_readItem_54 ?_
        refine V_icmp_lt C0 (tgt := 64) (by decide) dX5_readItem_55 (fun c102 => ?_) (fun c102 => ?_)
        · have h := (if_pos c102).symm.trans h
          refine V_aload_n C0 2 rfl rfl dX5_readItem_64 ?_
          refine V_getR C0 4 0 fl_X5_11 c_x0.2 c_x0.1 rfl (rf_at qa101) dX5_readItem_65 ?_
          refine V_aload_n C0 2 rfl rfl dX5_readItem_68 ?_
          refine V_getI C0 4 2 fl_X5_22 c_x0.2 c_x0.1 rfl dX5_readItem_69 ?_
          obtain ⟨a103, qa103, h⟩ := bnd_some h
          refine V_ra C0 (rf_lt qa101) (Or.inr (rf_kd qa101)) qa103 dX5_readItem_72 ?_
          refine V_astore C0 [(5, .ref (G.ad a103)), (4, .int u6), (3, .int u3), (0, .ref (G.ad x0)), (1, .ref (G.ad x1)), (2, .ref (G.ad x2))] (by rw [eNL]; decide) rfl dX5_readItem_73 ?_
          refine V_aload C0 0 rfl dX5_readItem_75 ?_
          obtain ⟨I104, q105, h⟩ := bn1_some h
          refine V_callV C0 (st := []) (As := []) 3 (c_X3_clear G.l G.D G.cA G.ad G.bs G.X C0.2.2.2.2.2.2.2.2.2.1 C0.2.2.2.2.2.2.2.2.2.2.2.2 a103 I L R I104 q105) lc_X3_clear lk_X5_61 (ra_lt qa103) (ra_kd qa103) ⟨_, rfl, rfl⟩ rfl (by rw [erm]; decide) (Nat.le_of_ble_eq_true rfl) dX5_readItem_77 ?_
          show V G _ 80 [(5, .ref (G.ad a103)), (4, .int u6), (3, .int u3), (0, .ref (G.ad x0)), (1, .ref (G.ad x1)), (2, .ref (G.ad x2))] [] I104 L R
          refine V_iload_n C0 2 rfl rfl dX5_readItem_80 ?_
          obtain ⟨u106, I107, L108, q109, h⟩ := bn3_some h
          have k110 : V G (qf G (some (.int (b2i r)), I', L', R)) 161 [(0, .ref (G.ad x0)), (1, .ref (G.ad x1)), (2, .ref (G.ad x2)), (5, .ref (G.ad a103)), (6, .int u106)] [] I107 L108 R := by
            refine V_iload C0 4 rfl dX5_readItem_161 ?_
            refine V_if_eq C0 (tgt := 186) (by decide) dX5_readItem_163 (fun c170 => ?_) (fun c170 => ?_)
            · have h := (if_pos c170).symm.trans h
              refine V_iconst C0 (v := (0 : Int32)) (by decide) dX5_readItem_186 ?_
              cases h
              exact V_zret C0 (by decide) dX5_readItem_187
            · have h := (if_neg c170).symm.trans h
              refine V_aload_n C0 0 rfl rfl dX5_readItem_166 ?_
              refine V_aload_n C0 1 rfl rfl dX5_readItem_167 ?_
              refine V_aload_n C0 2 rfl rfl dX5_readItem_168 ?_
              refine V_aload C0 3 rfl dX5_readItem_169 ?_
              obtain ⟨b171, I172, L173, q174, h⟩ := bn3_some h
              refine V_callV C0 (st := []) (As := [.ref (G.ad x1), .ref (G.ad x2), .ref (G.ad a103)]) 4 (c_X5_readAct G.l G.D G.cA G.ad G.bs G.X C0.2.2.2.2.2.2.2.2.2.1 C0.2.2.2.2.2.2.2.2.2.2.2.2 ht N x0 x1 x2 a103 I107 L108 R b171 I172 L173 q174) lc_X5_readAct lk_X5_85 c_x0.2 c_x0.1 ⟨_, rfl, rfl⟩ rfl (by rw [erm]; decide) (Nat.le_of_ble_eq_true rfl) dX5_readItem_171 ?_
              show V G _ 174 [(0, .ref (G.ad x0)), (1, .ref (G.ad x1)), (2, .ref (G.ad x2)), (5, .ref (G.ad a103)), (6, .int u106)] [.int (b2i b171)] I172 L173 R
              refine V_if_eq C0 (tgt := 186) (by decide) dX5_readItem_174 (fun c175 => ?_) (fun c175 => ?_)
              · have h := (if_pos c175).symm.trans h
                refine V_iconst C0 (v := (0 : Int32)) (by decide) dX5_readItem_186 ?_
                cases h
                exact V_zret C0 (by decide) dX5_readItem_187
              · have h := (if_neg c175).symm.trans h
                refine V_aload_n C0 1 rfl rfl dX5_readItem_177 ?_
                refine V_bipush C0 (v := (59 : Int32)) (by decide) dX5_readItem_178 ?_
                obtain ⟨b176, I177, L178, q179, h⟩ := bn3_some h
                refine V_callV C0 (st := []) (As := [.int (59 : Int32)]) 7 (c_X8_takeSign G.l G.D G.cA G.ad G.bs G.X C0.2.2.2.2.2.2.2.2.2.1 C0.2.2.2.2.2.2.2.2.2.2.2.2 N x1 (59 : Int32) I172 L173 R b176 I177 L178 q179) lc_X8_takeSign lk_X5_88 c_x1.2 c_x1.1 ⟨_, rfl, rfl⟩ rfl (by rw [erm]; decide) (Nat.le_of_ble_eq_true rfl) dX5_readItem_180 ?_
                show V G _ 183 [(0, .ref (G.ad x0)), (1, .ref (G.ad x1)), (2, .ref (G.ad x2)), (5, .ref (G.ad a103)), (6, .int u106)] [.int (b2i b176)] I177 L178 R
                refine V_if_ne C0 (tgt := 188) (by decide) dX5_readItem_183 (fun c180 => ?_) (fun c180 => ?_)
                · have h := (if_neg c180).symm.trans h
                  refine V_aload_n C0 0 rfl rfl dX5_readItem_188 ?_
                  refine V_dup C0 rfl dX5_readItem_189 ?_
                  refine V_getI C0 4 2 fl_X5_22 c_x0.2 c_x0.1 rfl dX5_readItem_190 ?_
                  refine V_iconst C0 (v := (1 : Int32)) (by decide) dX5_readItem_193 ?_
                  refine V_iadd C0 dX5_readItem_194 ?_
                  obtain ⟨I181, eI181, h⟩ := wr_some h
                  refine V_putI C0 4 2 fp_X5_22 c_x0.2 c_x0.1 rfl dX5_readItem_195 ?_
                  rw [← eI181]
                  refine V_iconst C0 (v := (1 : Int32)) (by decide) dX5_readItem_198 ?_
                  cases h
                  exact V_zret C0 (by decide) dX5_readItem_199
                · have h := (if_pos c180).symm.trans h
                  refine V_iconst C0 (v := (0 : Int32)) (by decide) dX5_readItem_186 ?_
                  cases h
                  exact V_zret C0 (by decide) dX5_readItem_187
          refine V_if_ne C0 (tgt := 89) (by decide) dX5_readItem_81 (fun c111 => ?_) (fun c111 => ?_)
          · have q109 := (if_neg c111).symm.trans q109
            refine V_aload C0 0 rfl dX5_readItem_89 ?_
            refine V_iload_n C0 2 rfl rfl dX5_readItem_91 ?_
            obtain ⟨s112, q113, q109⟩ := bn1_some q109
            have k114 : V G (qf G (some (.int (b2i r)), I', L', R)) 100 [(0, .ref (G.ad x0)), (1, .ref (G.ad x1)), (2, .ref (G.ad x2)), (3, .int u3), (5, .ref (G.ad a103))] [.int s112, .ref (G.ad a103)] I104 L R := by
              obtain ⟨I116, eI116, q109⟩ := wr_some q109
              refine V_putI C0 3 0 fp_X5_64 (ra_lt qa103) (ra_kd qa103) rfl dX5_readItem_100 ?_
              rw [← eI116]
              refine V_aload_n C0 1 rfl rfl dX5_readItem_103 ?_
              refine V_iload_n C0 3 rfl rfl dX5_readItem_104 ?_
              obtain ⟨s117, q118, q109⟩ := bn1_some q109
              have k119 : V G (qf G (some (.int (b2i r)), I', L', R)) 113 [(0, .ref (G.ad x0)), (1, .ref (G.ad x1)), (2, .ref (G.ad x2)), (5, .ref (G.ad a103))] [.int s117, .ref (G.ad x1)] I116 L R := by
                refine V_sipush C0 (v := (9999 : Int32)) (by decide) dX5_readItem_113 ?_
                obtain ⟨b121, I122, L123, q124, q109⟩ := bn3_some q109
                refine V_callV C0 (st := []) (As := [.int s117, .int (9999 : Int32)]) 7 (c_X8_takeNumber_ G.l G.D G.cA G.ad G.bs G.X C0.2.2.2.2.2.2.2.2.2.1 C0.2.2.2.2.2.2.2.2.2.2.2.2 N x1 s117 (9999 : Int32) I116 L R b121 I122 L123 q124) lc_X8_takeNumber_ lk_X5_66 c_x1.2 c_x1.1 ⟨_, rfl, rfl⟩ rfl (by rw [erm]; decide) (Nat.le_of_ble_eq_true rfl) dX5_readItem_116 ?_
                show V G _ 119 [(0, .ref (G.ad x0)), (1, .ref (G.ad x1)), (2, .ref (G.ad x2)), (5, .ref (G.ad a103))] [.int (b2i b121)] I122 L123 R
                obtain ⟨u125, eu125, q109⟩ := wr_some q109
                rw [← eu125]
                refine V_istore C0 [(6, .int u125), (0, .ref (G.ad x0)), (1, .ref (G.ad x1)), (2, .ref (G.ad x2)), (5, .ref (G.ad a103))] (by rw [eNL]; decide) rfl dX5_readItem_119 ?_
                refine V_aload C0 4 rfl dX5_readItem_121 ?_
                refine V_aload_n C0 2 rfl rfl dX5_readItem_123 ?_
                obtain ⟨v126, q127, q109⟩ := bn1_some q109
                refine V_callV C0 (st := [.ref (G.ad a103)]) (As := []) 7 (c_X8_number G.l G.D G.cA G.ad G.bs G.X C0.2.2.2.2.2.2.2.2.2.1 C0.2.2.2.2.2.2.2.2.2.2.2.2 x1 I122 L123 R v126 q127) lc_X8_number lk_X5_70 c_x1.2 c_x1.1 ⟨_, rfl, rfl⟩ rfl (by rw [erm]; decide) (Nat.le_of_ble_eq_true rfl) dX5_readItem_124 ?_
                show V G _ 127 [(6, .int u125), (0, .ref (G.ad x0)), (1, .ref (G.ad x1)), (2, .ref (G.ad x2)), (5, .ref (G.ad a103))] [.int v126, .ref (G.ad a103)] I122 L123 R
                obtain ⟨I128, eI128, q109⟩ := wr_some q109
                refine V_putI C0 3 1 fp_X5_74 (ra_lt qa103) (ra_kd qa103) rfl dX5_readItem_127 ?_
                rw [← eI128]
                refine V_goto C0 (tgt := 161) (by decide) dX5_readItem_130 ?_
                cases q109
                exact V_sub [1, 2, 3, 4, 0] rfl k110
              refine V_if_eq C0 (tgt := 112) (by decide) dX5_readItem_105 (fun c120 => ?_) (fun c120 => ?_)
              · have q118 := (if_pos c120).symm.trans q118
                refine V_iconst C0 (v := (1 : Int32)) (by decide) dX5_readItem_112 ?_
                cases q118
                exact V_sub [0, 1, 2, 4] rfl k119
              · have q118 := (if_neg c120).symm.trans q118
                refine V_iconst C0 (v := (0 : Int32)) (by decide) dX5_readItem_108 ?_
                refine V_goto C0 (tgt := 113) (by decide) dX5_readItem_109 ?_
                cases q118
                exact V_sub [0, 1, 2, 4] rfl k119
            refine V_if_eq C0 (tgt := 99) (by decide) dX5_readItem_92 (fun c115 => ?_) (fun c115 => ?_)
            · have q113 := (if_pos c115).symm.trans q113
              refine V_iconst C0 (v := (1 : Int32)) (by decide) dX5_readItem_99 ?_
              cases q113
              exact V_sub [3, 4, 5, 2, 0] rfl k114
            · have q113 := (if_neg c115).symm.trans q113
              refine V_iconst C0 (v := (0 : Int32)) (by decide) dX5_readItem_95 ?_
              refine V_goto C0 (tgt := 100) (by decide) dX5_readItem_96 ?_
              cases q113
              exact V_sub [3, 4, 5, 2, 0] rfl k114
          · have q109 := (if_pos c111).symm.trans q109
            refine V_iload C0 1 rfl dX5_readItem_84 ?_
            obtain ⟨u129, I130, L131, q132, q109⟩ := bn3_some q109
            have k133 : V G (qf G (some (.int (b2i r)), I', L', R)) 161 [(0, .ref (G.ad x0)), (1, .ref (G.ad x1)), (2, .ref (G.ad x2)), (5, .ref (G.ad a103)), (6, .int u129)] [] I130 L131 R := by
              cases q109
              exact V_sub [0, 1, 2, 3, 4] rfl k110
            refine V_if_eq C0 (tgt := 133) (by decide) dX5_readItem_86 (fun c134 => ?_) (fun c134 => ?_)
            · have q132 := (if_pos c134).symm.trans q132
              refine V_aload_n C0 3 rfl rfl dX5_readItem_133 ?_
              refine V_aload_n C0 4 rfl rfl dX5_readItem_134 ?_
              refine V_aload_n C0 5 rfl rfl dX5_readItem_135 ?_
              refine V_aload C0 0 rfl dX5_readItem_136 ?_
              obtain ⟨b135, I136, L137, q138, q132⟩ := bn3_some q132
              refine V_callV C0 (st := []) (As := [.ref (G.ad x1), .ref (G.ad x2), .ref (G.ad a103)]) 4 (c_X5_readTerm G.l G.D G.cA G.ad G.bs G.X C0.2.2.2.2.2.2.2.2.2.1 C0.2.2.2.2.2.2.2.2.2.2.2.2 ht N x0 x1 x2 a103 I104 L R b135 I136 L137 q138) lc_X5_readTerm lk_X5_77 c_x0.2 c_x0.1 ⟨_, rfl, rfl⟩ rfl (by rw [erm]; decide) (Nat.le_of_ble_eq_true rfl) dX5_readItem_138 ?_
              show V G _ 141 [(5, .ref (G.ad a103)), (4, .int u6), (3, .int u3), (0, .ref (G.ad x0)), (1, .ref (G.ad x1)), (2, .ref (G.ad x2))] [.int (b2i b135)] I136 L137 R
              obtain ⟨s139, I140, L141, q142, q132⟩ := bn3_some q132
              have k143 : V G (qf G (some (.int (b2i r)), I', L', R)) 159 [(0, .ref (G.ad x0)), (1, .ref (G.ad x1)), (2, .ref (G.ad x2)), (5, .ref (G.ad a103))] [.int s139] I140 L141 R := by
                refine V_istore C0 [(6, .int s139), (0, .ref (G.ad x0)), (1, .ref (G.ad x1)), (2, .ref (G.ad x2)), (5, .ref (G.ad a103))] (by rw [eNL]; decide) rfl dX5_readItem_159 ?_
                cases q132
                exact V_sub [1, 2, 3, 4, 0] rfl k133
              refine V_if_eq C0 (tgt := 158) (by decide) dX5_readItem_141 (fun c144 => ?_) (fun c144 => ?_)
              · have q142 := (if_pos c144).symm.trans q142
                refine V_iconst C0 (v := (0 : Int32)) (by decide) dX5_readItem_158 ?_
                cases q142
                exact V_sub [3, 4, 5, 0] rfl k143
              · have q142 := (if_neg c144).symm.trans q142
                refine V_aload_n C0 3 rfl rfl dX5_readItem_144 ?_
                refine V_aload_n C0 4 rfl rfl dX5_readItem_145 ?_
                refine V_aload C0 0 rfl dX5_readItem_146 ?_
                obtain ⟨b145, I146, L147, q148, q142⟩ := bn3_some q142
                refine V_callV C0 (st := []) (As := [.ref (G.ad x1), .ref (G.ad a103)]) 4 (c_X5_readBound G.l G.D G.cA G.ad G.bs G.X C0.2.2.2.2.2.2.2.2.2.1 C0.2.2.2.2.2.2.2.2.2.2.2.2 N x0 x1 a103 I136 L137 R b145 I146 L147 q148) lc_X5_readBound lk_X5_81 c_x0.2 c_x0.1 ⟨_, rfl, rfl⟩ rfl (by rw [erm]; decide) (Nat.le_of_ble_eq_true rfl) dX5_readItem_148 ?_
                show V G _ 151 [(5, .ref (G.ad a103)), (4, .int u6), (3, .int u3), (0, .ref (G.ad x0)), (1, .ref (G.ad x1)), (2, .ref (G.ad x2))] [.int (b2i b145)] I146 L147 R
                obtain ⟨s149, q150, q142⟩ := bn1_some q142
                have k151 : V G (qf G (some (.int (b2i r)), I', L', R)) 159 [(0, .ref (G.ad x0)), (1, .ref (G.ad x1)), (2, .ref (G.ad x2)), (5, .ref (G.ad a103))] [.int s149] I146 L147 R := by
                  cases q142
                  exact V_sub [0, 1, 2, 3] rfl k143
                refine V_if_eq C0 (tgt := 158) (by decide) dX5_readItem_151 (fun c152 => ?_) (fun c152 => ?_)
                · have q150 := (if_pos c152).symm.trans q150
                  refine V_iconst C0 (v := (0 : Int32)) (by decide) dX5_readItem_158 ?_
                  cases q150
                  exact V_sub [3, 4, 5, 0] rfl k151
                · have q150 := (if_neg c152).symm.trans q150
                  refine V_iconst C0 (v := (1 : Int32)) (by decide) dX5_readItem_154 ?_
                  refine V_goto C0 (tgt := 159) (by decide) dX5_readItem_155 ?_
                  cases q150
                  exact V_sub [3, 4, 5, 0] rfl k151
            · have q132 := (if_neg c134).symm.trans q132
              refine V_aload C0 0 rfl dX5_readItem_89 ?_
              refine V_iload_n C0 2 rfl rfl dX5_readItem_91 ?_
              obtain ⟨s153, q154, q132⟩ := bn1_some q132
              have k155 : V G (qf G (some (.int (b2i r)), I', L', R)) 100 [(0, .ref (G.ad x0)), (1, .ref (G.ad x1)), (2, .ref (G.ad x2)), (3, .int u3), (5, .ref (G.ad a103))] [.int s153, .ref (G.ad a103)] I104 L R := by
                obtain ⟨I157, eI157, q132⟩ := wr_some q132
                refine V_putI C0 3 0 fp_X5_64 (ra_lt qa103) (ra_kd qa103) rfl dX5_readItem_100 ?_
                rw [← eI157]
                refine V_aload_n C0 1 rfl rfl dX5_readItem_103 ?_
                refine V_iload_n C0 3 rfl rfl dX5_readItem_104 ?_
                obtain ⟨s158, q159, q132⟩ := bn1_some q132
                have k160 : V G (qf G (some (.int (b2i r)), I', L', R)) 113 [(0, .ref (G.ad x0)), (1, .ref (G.ad x1)), (2, .ref (G.ad x2)), (5, .ref (G.ad a103))] [.int s158, .ref (G.ad x1)] I157 L R := by
                  refine V_sipush C0 (v := (9999 : Int32)) (by decide) dX5_readItem_113 ?_
                  obtain ⟨b162, I163, L164, q165, q132⟩ := bn3_some q132
                  refine V_callV C0 (st := []) (As := [.int s158, .int (9999 : Int32)]) 7 (c_X8_takeNumber_ G.l G.D G.cA G.ad G.bs G.X C0.2.2.2.2.2.2.2.2.2.1 C0.2.2.2.2.2.2.2.2.2.2.2.2 N x1 s158 (9999 : Int32) I157 L R b162 I163 L164 q165) lc_X8_takeNumber_ lk_X5_66 c_x1.2 c_x1.1 ⟨_, rfl, rfl⟩ rfl (by rw [erm]; decide) (Nat.le_of_ble_eq_true rfl) dX5_readItem_116 ?_
                  show V G _ 119 [(0, .ref (G.ad x0)), (1, .ref (G.ad x1)), (2, .ref (G.ad x2)), (5, .ref (G.ad a103))] [.int (b2i b162)] I163 L164 R
                  obtain ⟨u166, eu166, q132⟩ := wr_some q132
                  rw [← eu166]
                  refine V_istore C0 [(6, .int u166), (0, .ref (G.ad x0)), (1, .ref (G.ad x1)), (2, .ref (G.ad x2)), (5, .ref (G.ad a103))] (by rw [eNL]; decide) rfl dX5_readItem_119 ?_
                  refine V_aload C0 4 rfl dX5_readItem_121 ?_
                  refine V_aload_n C0 2 rfl rfl dX5_readItem_123 ?_
                  obtain ⟨v167, q168, q132⟩ := bn1_some q132
                  refine V_callV C0 (st := [.ref (G.ad a103)]) (As := []) 7 (c_X8_number G.l G.D G.cA G.ad G.bs G.X C0.2.2.2.2.2.2.2.2.2.1 C0.2.2.2.2.2.2.2.2.2.2.2.2 x1 I163 L164 R v167 q168) lc_X8_number lk_X5_70 c_x1.2 c_x1.1 ⟨_, rfl, rfl⟩ rfl (by rw [erm]; decide) (Nat.le_of_ble_eq_true rfl) dX5_readItem_124 ?_
                  show V G _ 127 [(6, .int u166), (0, .ref (G.ad x0)), (1, .ref (G.ad x1)), (2, .ref (G.ad x2)), (5, .ref (G.ad a103))] [.int v167, .ref (G.ad a103)] I163 L164 R
                  obtain ⟨I169, eI169, q132⟩ := wr_some q132
                  refine V_putI C0 3 1 fp_X5_74 (ra_lt qa103) (ra_kd qa103) rfl dX5_readItem_127 ?_
                  rw [← eI169]
                  refine V_goto C0 (tgt := 161) (by decide) dX5_readItem_130 ?_
                  cases q132
                  exact V_sub [1, 2, 3, 4, 0] rfl k133
                refine V_if_eq C0 (tgt := 112) (by decide) dX5_readItem_105 (fun c161 => ?_) (fun c161 => ?_)
                · have q159 := (if_pos c161).symm.trans q159
                  refine V_iconst C0 (v := (1 : Int32)) (by decide) dX5_readItem_112 ?_
                  cases q159
                  exact V_sub [0, 1, 2, 4] rfl k160
                · have q159 := (if_neg c161).symm.trans q159
                  refine V_iconst C0 (v := (0 : Int32)) (by decide) dX5_readItem_108 ?_
                  refine V_goto C0 (tgt := 113) (by decide) dX5_readItem_109 ?_
                  cases q159
                  exact V_sub [0, 1, 2, 4] rfl k160
              refine V_if_eq C0 (tgt := 99) (by decide) dX5_readItem_92 (fun c156 => ?_) (fun c156 => ?_)
              · have q154 := (if_pos c156).symm.trans q154
                refine V_iconst C0 (v := (1 : Int32)) (by decide) dX5_readItem_99 ?_
                cases q154
                exact V_sub [3, 4, 5, 2, 0] rfl k155
              · have q154 := (if_neg c156).symm.trans q154
                refine V_iconst C0 (v := (0 : Int32)) (by decide) dX5_readItem_95 ?_
                refine V_goto C0 (tgt := 100) (by decide) dX5_readItem_96 ?_
                cases q154
                exact V_sub [3, 4, 5, 2, 0] rfl k155
        · have h := (if_neg c102).symm.trans h
          refine V_aload_n C0 3 rfl rfl dX5_readItem_58 ?_
          refine V_iconst C0 (v := (4 : Int32)) (by decide) dX5_readItem_59 ?_
          obtain ⟨b182, I183, q184, h⟩ := bn2_some h
          refine V_callV C0 (st := []) (As := [.int (4 : Int32)]) 7 (c_X8_refuse G.l G.D G.cA G.ad G.bs G.X C0.2.2.2.2.2.2.2.2.2.1 C0.2.2.2.2.2.2.2.2.2.2.2.2 x1 (4 : Int32) I L R b182 I183 q184) lc_X8_refuse lk_X5_57 c_x1.2 c_x1.1 ⟨_, rfl, rfl⟩ rfl (by rw [erm]; decide) (Nat.le_of_ble_eq_true rfl) dX5_readItem_60 ?_
          show V G _ 63 [(4, .int u6), (3, .int u3), (0, .ref (G.ad x0)), (1, .ref (G.ad x1)), (2, .ref (G.ad x2))] [.int (b2i b182)] I183 L R
          cases h
          exact V_zret C0 (b2i01 _) dX5_readItem_63
    · have h := (if_pos c96).symm.trans h
      refine V_aload_n C0 3 rfl rfl dX5_readItem_24 ?_
      refine V_ldcS C0 (q := G.ad 424) (hsb.2.2.2.2.2 ("SmallCraft$Plan", 55, "when", 24) (by decide)) dX5_readItem_25 ?_
      obtain ⟨b185, q186, h⟩ := bn1_some h
      refine V_callV C0 (st := []) (As := [.ref (G.ad 424)]) 7 (c_X8_isWord G.l G.D G.cA G.ad G.bs G.X C0.2.2.2.2.2.2.2.2.2.1 C0.2.2.2.2.2.2.2.2.2.2.2.2 ht N x1 424 I L R b185 q186) lc_X8_isWord lk_X5_49 c_x1.2 c_x1.1 ⟨_, rfl, rfl⟩ rfl (by rw [erm]; decide) (Nat.le_of_ble_eq_true rfl) dX5_readItem_27 ?_
      show V G _ 30 [(4, .int u6), (3, .int u3), (0, .ref (G.ad x0)), (1, .ref (G.ad x1)), (2, .ref (G.ad x2))] [.int (b2i b185)] I L R
      refine V_if_ne C0 (tgt := 39) (by decide) dX5_readItem_30 (fun c187 => ?_) (fun c187 => ?_)
      · have h := (if_neg c187).symm.trans h
        refine V_aload_n C0 2 rfl rfl dX5_readItem_39 ?_
        refine V_getI C0 4 2 fl_X5_22 c_x0.2 c_x0.1 rfl dX5_readItem_40 ?_
        refine V_if_lt C0 (tgt := 58) (by decide) dX5_readItem_43 (fun c188 => ?_) (fun c188 => ?_)
        · have h := (if_pos c188).symm.trans h
          refine V_aload_n C0 3 rfl rfl dX5_readItem_58 ?_
          refine V_iconst C0 (v := (4 : Int32)) (by decide) dX5_readItem_59 ?_
          obtain ⟨b189, I190, q191, h⟩ := bn2_some h
          refine V_callV C0 (st := []) (As := [.int (4 : Int32)]) 7 (c_X8_refuse G.l G.D G.cA G.ad G.bs G.X C0.2.2.2.2.2.2.2.2.2.1 C0.2.2.2.2.2.2.2.2.2.2.2.2 x1 (4 : Int32) I L R b189 I190 q191) lc_X8_refuse lk_X5_57 c_x1.2 c_x1.1 ⟨_, rfl, rfl⟩ rfl (by rw [erm]; decide) (Nat.le_of_ble_eq_true rfl) dX5_readItem_60 ?_
          show V G _ 63 [(4, .int u6), (3, .int u3), (0, .ref (G.ad x0)), (1, .ref (G.ad x1)), (2, .ref (G.ad x2))] [.int (b2i b189)] I190 L R
          cases h
          exact V_zret C0 (b2i01 _) dX5_readItem_63
        · have h := (if_neg c188).symm.trans h
          refine V_aload_n C0 2 rfl rfl dX5_readItem_46 ?_
          refine V_getI C0 4 2 fl_X5_22 c_x0.2 c_x0.1 rfl dX5_readItem_47 ?_
          refine V_aload_n C0 2 rfl rfl dX5_readItem_50 ?_
          obtain ⟨a192, qa192, h⟩ := bnd_some h
          refine V_getR C0 4 0 fl_X5_11 c_x0.2 c_x0.1 rfl (rf_at qa192) dX5_readItem_51 ?_
          refine V_alen C0 (v := Int32.ofNat (ln a192)) (rf_lt qa192) (by rw [(rf_kd qa192)]; decide) rfl dX5_readItem_54 ?_
          refine V_icmp_lt C0 (tgt := 64) (by decide) dX5_readItem_55 (fun c193 => ?_) (fun c193 => ?_)
          · have h := (if_pos c193).symm.trans h
            refine V_aload_n C0 2 rfl rfl dX5_readItem_64 ?_
            refine V_getR C0 4 0 fl_X5_11 c_x0.2 c_x0.1 rfl (rf_at qa192) dX5_readItem_65 ?_
            refine V_aload_n C0 2 rfl rfl dX5_readItem_68 ?_
            refine V_getI C0 4 2 fl_X5_22 c_x0.2 c_x0.1 rfl dX5_readItem_69 ?_
            obtain ⟨a194, qa194, h⟩ := bnd_some h
            refine V_ra C0 (rf_lt qa192) (Or.inr (rf_kd qa192)) qa194 dX5_readItem_72 ?_
            refine V_astore C0 [(5, .ref (G.ad a194)), (4, .int u6), (3, .int u3), (0, .ref (G.ad x0)), (1, .ref (G.ad x1)), (2, .ref (G.ad x2))] (by rw [eNL]; decide) rfl dX5_readItem_73 ?_
            refine V_aload C0 0 rfl dX5_readItem_75 ?_
            obtain ⟨I195, q196, h⟩ := bn1_some h
            refine V_callV C0 (st := []) (As := []) 3 (c_X3_clear G.l G.D G.cA G.ad G.bs G.X C0.2.2.2.2.2.2.2.2.2.1 C0.2.2.2.2.2.2.2.2.2.2.2.2 a194 I L R I195 q196) lc_X3_clear lk_X5_61 (ra_lt qa194) (ra_kd qa194) ⟨_, rfl, rfl⟩ rfl (by rw [erm]; decide) (Nat.le_of_ble_eq_true rfl) dX5_readItem_77 ?_
            show V G _ 80 [(5, .ref (G.ad a194)), (4, .int u6), (3, .int u3), (0, .ref (G.ad x0)), (1, .ref (G.ad x1)), (2, .ref (G.ad x2))] [] I195 L R
            refine V_iload_n C0 2 rfl rfl dX5_readItem_80 ?_
            obtain ⟨u197, I198, L199, q200, h⟩ := bn3_some h
            have k201 : V G (qf G (some (.int (b2i r)), I', L', R)) 161 [(0, .ref (G.ad x0)), (1, .ref (G.ad x1)), (2, .ref (G.ad x2)), (5, .ref (G.ad a194)), (6, .int u197)] [] I198 L199 R := by
              refine V_iload C0 4 rfl dX5_readItem_161 ?_
              refine V_if_eq C0 (tgt := 186) (by decide) dX5_readItem_163 (fun c261 => ?_) (fun c261 => ?_)
              · have h := (if_pos c261).symm.trans h
                refine V_iconst C0 (v := (0 : Int32)) (by decide) dX5_readItem_186 ?_
                cases h
                exact V_zret C0 (by decide) dX5_readItem_187
              · have h := (if_neg c261).symm.trans h
                refine V_aload_n C0 0 rfl rfl dX5_readItem_166 ?_
                refine V_aload_n C0 1 rfl rfl dX5_readItem_167 ?_
                refine V_aload_n C0 2 rfl rfl dX5_readItem_168 ?_
                refine V_aload C0 3 rfl dX5_readItem_169 ?_
                obtain ⟨b262, I263, L264, q265, h⟩ := bn3_some h
                refine V_callV C0 (st := []) (As := [.ref (G.ad x1), .ref (G.ad x2), .ref (G.ad a194)]) 4 (c_X5_readAct G.l G.D G.cA G.ad G.bs G.X C0.2.2.2.2.2.2.2.2.2.1 C0.2.2.2.2.2.2.2.2.2.2.2.2 ht N x0 x1 x2 a194 I198 L199 R b262 I263 L264 q265) lc_X5_readAct lk_X5_85 c_x0.2 c_x0.1 ⟨_, rfl, rfl⟩ rfl (by rw [erm]; decide) (Nat.le_of_ble_eq_true rfl) dX5_readItem_171 ?_
                show V G _ 174 [(0, .ref (G.ad x0)), (1, .ref (G.ad x1)), (2, .ref (G.ad x2)), (5, .ref (G.ad a194)), (6, .int u197)] [.int (b2i b262)] I263 L264 R
                refine V_if_eq C0 (tgt := 186) (by decide) dX5_readItem_174 (fun c266 => ?_) (fun c266 => ?_)
                · have h := (if_pos c266).symm.trans h
                  refine V_iconst C0 (v := (0 : Int32)) (by decide) dX5_readItem_186 ?_
                  cases h
                  exact V_zret C0 (by decide) dX5_readItem_187
                · have h := (if_neg c266).symm.trans h
                  refine V_aload_n C0 1 rfl rfl dX5_readItem_177 ?_
                  refine V_bipush C0 (v := (59 : Int32)) (by decide) dX5_readItem_178 ?_
                  obtain ⟨b267, I268, L269, q270, h⟩ := bn3_some h
                  refine V_callV C0 (st := []) (As := [.int (59 : Int32)]) 7 (c_X8_takeSign G.l G.D G.cA G.ad G.bs G.X C0.2.2.2.2.2.2.2.2.2.1 C0.2.2.2.2.2.2.2.2.2.2.2.2 N x1 (59 : Int32) I263 L264 R b267 I268 L269 q270) lc_X8_takeSign lk_X5_88 c_x1.2 c_x1.1 ⟨_, rfl, rfl⟩ rfl (by rw [erm]; decide) (Nat.le_of_ble_eq_true rfl) dX5_readItem_180 ?_
                  show V G _ 183 [(0, .ref (G.ad x0)), (1, .ref (G.ad x1)), (2, .ref (G.ad x2)), (5, .ref (G.ad a194)), (6, .int u197)] [.int (b2i b267)] I268 L269 R
                  refine V_if_ne C0 (tgt := 188) (by decide) dX5_readItem_183 (fun c271 => ?_) (fun c271 => ?_)
                  · have h := (if_neg c271).symm.trans h
                    refine V_aload_n C0 0 rfl rfl dX5_readItem_188 ?_
                    refine V_dup C0 rfl dX5_readItem_189 ?_
                    refine V_getI C0 4 2 fl_X5_22 c_x0.2 c_x0.1 rfl dX5_readItem_190 ?_
                    refine V_iconst C0 (v := (1 : Int32)) (by decide) dX5_readItem_193 ?_
                    refine V_iadd C0 dX5_readItem_194 ?_
                    obtain ⟨I272, eI272, h⟩ := wr_some h
                    refine V_putI C0 4 2 fp_X5_22 c_x0.2 c_x0.1 rfl dX5_readItem_195 ?_
                    rw [← eI272]
                    refine V_iconst C0 (v := (1 : Int32)) (by decide) dX5_readItem_198 ?_
                    cases h
                    exact V_zret C0 (by decide) dX5_readItem_199
                  · have h := (if_pos c271).symm.trans h
                    refine V_iconst C0 (v := (0 : Int32)) (by decide) dX5_readItem_186 ?_
                    cases h
                    exact V_zret C0 (by decide) dX5_readItem_187
            refine V_if_ne C0 (tgt := 89) (by decide) dX5_readItem_81 (fun c202 => ?_) (fun c202 => ?_)
            · have q200 := (if_neg c202).symm.trans q200
              refine V_aload C0 0 rfl dX5_readItem_89 ?_
              refine V_iload_n C0 2 rfl rfl dX5_readItem_91 ?_
              obtain ⟨s203, q204, q200⟩ := bn1_some q200
              have k205 : V G (qf G (some (.int (b2i r)), I', L', R)) 100 [(0, .ref (G.ad x0)), (1, .ref (G.ad x1)), (2, .ref (G.ad x2)), (3, .int u3), (5, .ref (G.ad a194))] [.int s203, .ref (G.ad a194)] I195 L R := by
                obtain ⟨I207, eI207, q200⟩ := wr_some q200
                refine V_putI C0 3 0 fp_X5_64 (ra_lt qa194) (ra_kd qa194) rfl dX5_readItem_100 ?_
                rw [← eI207]
                refine V_aload_n C0 1 rfl rfl dX5_readItem_103 ?_
                refine V_iload_n C0 3 rfl rfl dX5_readItem_104 ?_
                obtain ⟨s208, q209, q200⟩ := bn1_some q200
                have k210 : V G (qf G (some (.int (b2i r)), I', L', R)) 113 [(0, .ref (G.ad x0)), (1, .ref (G.ad x1)), (2, .ref (G.ad x2)), (5, .ref (G.ad a194))] [.int s208, .ref (G.ad x1)] I207 L R := by
                  refine V_sipush C0 (v := (9999 : Int32)) (by decide) dX5_readItem_113 ?_
                  obtain ⟨b212, I213, L214, q215, q200⟩ := bn3_some q200
                  refine V_callV C0 (st := []) (As := [.int s208, .int (9999 : Int32)]) 7 (c_X8_takeNumber_ G.l G.D G.cA G.ad G.bs G.X C0.2.2.2.2.2.2.2.2.2.1 C0.2.2.2.2.2.2.2.2.2.2.2.2 N x1 s208 (9999 : Int32) I207 L R b212 I213 L214 q215) lc_X8_takeNumber_ lk_X5_66 c_x1.2 c_x1.1 ⟨_, rfl, rfl⟩ rfl (by rw [erm]; decide) (Nat.le_of_ble_eq_true rfl) dX5_readItem_116 ?_
                  show V G _ 119 [(0, .ref (G.ad x0)), (1, .ref (G.ad x1)), (2, .ref (G.ad x2)), (5, .ref (G.ad a194))] [.int (b2i b212)] I213 L214 R
                  obtain ⟨u216, eu216, q200⟩ := wr_some q200
                  rw [← eu216]
                  refine V_istore C0 [(6, .int u216), (0, .ref (G.ad x0)), (1, .ref (G.ad x1)), (2, .ref (G.ad x2)), (5, .ref (G.ad a194))] (by rw [eNL]; decide) rfl dX5_readItem_119 ?_
                  refine V_aload C0 4 rfl dX5_readItem_121 ?_
                  refine V_aload_n C0 2 rfl rfl dX5_readItem_123 ?_
                  obtain ⟨v217, q218, q200⟩ := bn1_some q200
                  refine V_callV C0 (st := [.ref (G.ad a194)]) (As := []) 7 (c_X8_number G.l G.D G.cA G.ad G.bs G.X C0.2.2.2.2.2.2.2.2.2.1 C0.2.2.2.2.2.2.2.2.2.2.2.2 x1 I213 L214 R v217 q218) lc_X8_number lk_X5_70 c_x1.2 c_x1.1 ⟨_, rfl, rfl⟩ rfl (by rw [erm]; decide) (Nat.le_of_ble_eq_true rfl) dX5_readItem_124 ?_
                  show V G _ 127 [(6, .int u216), (0, .ref (G.ad x0)), (1, .ref (G.ad x1)), (2, .ref (G.ad x2)), (5, .ref (G.ad a194))] [.int v217, .ref (G.ad a194)] I213 L214 R
                  obtain ⟨I219, eI219, q200⟩ := wr_some q200
                  refine V_putI C0 3 1 fp_X5_74 (ra_lt qa194) (ra_kd qa194) rfl dX5_readItem_127 ?_
                  rw [← eI219]
                  refine V_goto C0 (tgt := 161) (by decide) dX5_readItem_130 ?_
                  cases q200
                  exact V_sub [1, 2, 3, 4, 0] rfl k201
                refine V_if_eq C0 (tgt := 112) (by decide) dX5_readItem_105 (fun c211 => ?_) (fun c211 => ?_)
                · have q209 := (if_pos c211).symm.trans q209
                  refine V_iconst C0 (v := (1 : Int32)) (by decide) dX5_readItem_112 ?_
                  cases q209
                  exact V_sub [0, 1, 2, 4] rfl k210
                · have q209 := (if_neg c211).symm.trans q209
                  refine V_iconst C0 (v := (0 : Int32)) (by decide) dX5_readItem_108 ?_
                  refine V_goto C0 (tgt := 113) (by decide) dX5_readItem_109 ?_
                  cases q209
                  exact V_sub [0, 1, 2, 4] rfl k210
              refine V_if_eq C0 (tgt := 99) (by decide) dX5_readItem_92 (fun c206 => ?_) (fun c206 => ?_)
              · have q204 := (if_pos c206).symm.trans q204
                refine V_iconst C0 (v := (1 : Int32)) (by decide) dX5_readItem_99 ?_
                cases q204
                exact V_sub [3, 4, 5, 2, 0] rfl k205
              · have q204 := (if_neg c206).symm.trans q204
                refine V_iconst C0 (v := (0 : Int32)) (by decide) dX5_readItem_95 ?_
                refine V_goto C0 (tgt := 100) (by decide) dX5_readItem_96 ?_
                cases q204
                exact V_sub [3, 4, 5, 2, 0] rfl k205
            · have q200 := (if_pos c202).symm.trans q200
              refine V_iload C0 1 rfl dX5_readItem_84 ?_
              obtain ⟨u220, I221, L222, q223, q200⟩ := bn3_some q200
              have k224 : V G (qf G (some (.int (b2i r)), I', L', R)) 161 [(0, .ref (G.ad x0)), (1, .ref (G.ad x1)), (2, .ref (G.ad x2)), (5, .ref (G.ad a194)), (6, .int u220)] [] I221 L222 R := by
                cases q200
                exact V_sub [0, 1, 2, 3, 4] rfl k201
              refine V_if_eq C0 (tgt := 133) (by decide) dX5_readItem_86 (fun c225 => ?_) (fun c225 => ?_)
              · have q223 := (if_pos c225).symm.trans q223
                refine V_aload_n C0 3 rfl rfl dX5_readItem_133 ?_
                refine V_aload_n C0 4 rfl rfl dX5_readItem_134 ?_
                refine V_aload_n C0 5 rfl rfl dX5_readItem_135 ?_
                refine V_aload C0 0 rfl dX5_readItem_136 ?_
                obtain ⟨b226, I227, L228, q229, q223⟩ := bn3_some q223
                refine V_callV C0 (st := []) (As := [.ref (G.ad x1), .ref (G.ad x2), .ref (G.ad a194)]) 4 (c_X5_readTerm G.l G.D G.cA G.ad G.bs G.X C0.2.2.2.2.2.2.2.2.2.1 C0.2.2.2.2.2.2.2.2.2.2.2.2 ht N x0 x1 x2 a194 I195 L R b226 I227 L228 q229) lc_X5_readTerm lk_X5_77 c_x0.2 c_x0.1 ⟨_, rfl, rfl⟩ rfl (by rw [erm]; decide) (Nat.le_of_ble_eq_true rfl) dX5_readItem_138 ?_
                show V G _ 141 [(5, .ref (G.ad a194)), (4, .int u6), (3, .int u3), (0, .ref (G.ad x0)), (1, .ref (G.ad x1)), (2, .ref (G.ad x2))] [.int (b2i b226)] I227 L228 R
                obtain ⟨s230, I231, L232, q233, q223⟩ := bn3_some q223
                have k234 : V G (qf G (some (.int (b2i r)), I', L', R)) 159 [(0, .ref (G.ad x0)), (1, .ref (G.ad x1)), (2, .ref (G.ad x2)), (5, .ref (G.ad a194))] [.int s230] I231 L232 R := by
                  refine V_istore C0 [(6, .int s230), (0, .ref (G.ad x0)), (1, .ref (G.ad x1)), (2, .ref (G.ad x2)), (5, .ref (G.ad a194))] (by rw [eNL]; decide) rfl dX5_readItem_159 ?_
                  cases q223
                  exact V_sub [1, 2, 3, 4, 0] rfl k224
                refine V_if_eq C0 (tgt := 158) (by decide) dX5_readItem_141 (fun c235 => ?_) (fun c235 => ?_)
                · have q233 := (if_pos c235).symm.trans q233
                  refine V_iconst C0 (v := (0 : Int32)) (by decide) dX5_readItem_158 ?_
                  cases q233
                  exact V_sub [3, 4, 5, 0] rfl k234
                · have q233 := (if_neg c235).symm.trans q233
                  refine V_aload_n C0 3 rfl rfl dX5_readItem_144 ?_
                  refine V_aload_n C0 4 rfl rfl dX5_readItem_145 ?_
                  refine V_aload C0 0 rfl dX5_readItem_146 ?_
                  obtain ⟨b236, I237, L238, q239, q233⟩ := bn3_some q233
                  refine V_callV C0 (st := []) (As := [.ref (G.ad x1), .ref (G.ad a194)]) 4 (c_X5_readBound G.l G.D G.cA G.ad G.bs G.X C0.2.2.2.2.2.2.2.2.2.1 C0.2.2.2.2.2.2.2.2.2.2.2.2 N x0 x1 a194 I227 L228 R b236 I237 L238 q239) lc_X5_readBound lk_X5_81 c_x0.2 c_x0.1 ⟨_, rfl, rfl⟩ rfl (by rw [erm]; decide) (Nat.le_of_ble_eq_true rfl) dX5_readItem_148 ?_
                  show V G _ 151 [(5, .ref (G.ad a194)), (4, .int u6), (3, .int u3), (0, .ref (G.ad x0)), (1, .ref (G.ad x1)), (2, .ref (G.ad x2))] [.int (b2i b236)] I237 L238 R
                  obtain ⟨s240, q241, q233⟩ := bn1_some q233
                  have k242 : V G (qf G (some (.int (b2i r)), I', L', R)) 159 [(0, .ref (G.ad x0)), (1, .ref (G.ad x1)), (2, .ref (G.ad x2)), (5, .ref (G.ad a194))] [.int s240] I237 L238 R := by
                    cases q233
                    exact V_sub [0, 1, 2, 3] rfl k234
                  refine V_if_eq C0 (tgt := 158) (by decide) dX5_readItem_151 (fun c243 => ?_) (fun c243 => ?_)
                  · have q241 := (if_pos c243).symm.trans q241
                    refine V_iconst C0 (v := (0 : Int32)) (by decide) dX5_readItem_158 ?_
                    cases q241
                    exact V_sub [3, 4, 5, 0] rfl k242
                  · have q241 := (if_neg c243).symm.trans q241
                    refine V_iconst C0 (v := (1 : Int32)) (by decide) dX5_readItem_154 ?_
                    refine V_goto C0 (tgt := 159) (by decide) dX5_readItem_155 ?_
                    cases q241
                    exact V_sub [3, 4, 5, 0] rfl k242
              · have q223 := (if_neg c225).symm.trans q223
                refine V_aload C0 0 rfl dX5_readItem_89 ?_
                refine V_iload_n C0 2 rfl rfl dX5_readItem_91 ?_
                obtain ⟨s244, q245, q223⟩ := bn1_some q223
                have k246 : V G (qf G (some (.int (b2i r)), I', L', R)) 100 [(0, .ref (G.ad x0)), (1, .ref (G.ad x1)), (2, .ref (G.ad x2)), (3, .int u3), (5, .ref (G.ad a194))] [.int s244, .ref (G.ad a194)] I195 L R := by
                  obtain ⟨I248, eI248, q223⟩ := wr_some q223
                  refine V_putI C0 3 0 fp_X5_64 (ra_lt qa194) (ra_kd qa194) rfl dX5_readItem_100 ?_
                  rw [← eI248]
                  refine V_aload_n C0 1 rfl rfl dX5_readItem_103 ?_
                  refine V_iload_n C0 3 rfl rfl dX5_readItem_104 ?_
                  obtain ⟨s249, q250, q223⟩ := bn1_some q223
                  have k251 : V G (qf G (some (.int (b2i r)), I', L', R)) 113 [(0, .ref (G.ad x0)), (1, .ref (G.ad x1)), (2, .ref (G.ad x2)), (5, .ref (G.ad a194))] [.int s249, .ref (G.ad x1)] I248 L R := by
                    refine V_sipush C0 (v := (9999 : Int32)) (by decide) dX5_readItem_113 ?_
                    obtain ⟨b253, I254, L255, q256, q223⟩ := bn3_some q223
                    refine V_callV C0 (st := []) (As := [.int s249, .int (9999 : Int32)]) 7 (c_X8_takeNumber_ G.l G.D G.cA G.ad G.bs G.X C0.2.2.2.2.2.2.2.2.2.1 C0.2.2.2.2.2.2.2.2.2.2.2.2 N x1 s249 (9999 : Int32) I248 L R b253 I254 L255 q256) lc_X8_takeNumber_ lk_X5_66 c_x1.2 c_x1.1 ⟨_, rfl, rfl⟩ rfl (by rw [erm]; decide) (Nat.le_of_ble_eq_true rfl) dX5_readItem_116 ?_
                    show V G _ 119 [(0, .ref (G.ad x0)), (1, .ref (G.ad x1)), (2, .ref (G.ad x2)), (5, .ref (G.ad a194))] [.int (b2i b253)] I254 L255 R
                    obtain ⟨u257, eu257, q223⟩ := wr_some q223
                    rw [← eu257]
                    refine V_istore C0 [(6, .int u257), (0, .ref (G.ad x0)), (1, .ref (G.ad x1)), (2, .ref (G.ad x2)), (5, .ref (G.ad a194))] (by rw [eNL]; decide) rfl dX5_readItem_119 ?_
                    refine V_aload C0 4 rfl dX5_readItem_121 ?_
                    refine V_aload_n C0 2 rfl rfl dX5_readItem_123 ?_
                    obtain ⟨v258, q259, q223⟩ := bn1_some q223
                    refine V_callV C0 (st := [.ref (G.ad a194)]) (As := []) 7 (c_X8_number G.l G.D G.cA G.ad G.bs G.X C0.2.2.2.2.2.2.2.2.2.1 C0.2.2.2.2.2.2.2.2.2.2.2.2 x1 I254 L255 R v258 q259) lc_X8_number lk_X5_70 c_x1.2 c_x1.1 ⟨_, rfl, rfl⟩ rfl (by rw [erm]; decide) (Nat.le_of_ble_eq_true rfl) dX5_readItem_124 ?_
                    show V G _ 127 [(6, .int u257), (0, .ref (G.ad x0)), (1, .ref (G.ad x1)), (2, .ref (G.ad x2)), (5, .ref (G.ad a194))] [.int v258, .ref (G.ad a194)] I254 L255 R
                    obtain ⟨I260, eI260, q223⟩ := wr_some q223
                    refine V_putI C0 3 1 fp_X5_74 (ra_lt qa194) (ra_kd qa194) rfl dX5_readItem_127 ?_
                    rw [← eI260]
                    refine V_goto C0 (tgt := 161) (by decide) dX5_readItem_130 ?_
                    cases q223
                    exact V_sub [1, 2, 3, 4, 0] rfl k224
                  refine V_if_eq C0 (tgt := 112) (by decide) dX5_readItem_105 (fun c252 => ?_) (fun c252 => ?_)
                  · have q250 := (if_pos c252).symm.trans q250
                    refine V_iconst C0 (v := (1 : Int32)) (by decide) dX5_readItem_112 ?_
                    cases q250
                    exact V_sub [0, 1, 2, 4] rfl k251
                  · have q250 := (if_neg c252).symm.trans q250
                    refine V_iconst C0 (v := (0 : Int32)) (by decide) dX5_readItem_108 ?_
                    refine V_goto C0 (tgt := 113) (by decide) dX5_readItem_109 ?_
                    cases q250
                    exact V_sub [0, 1, 2, 4] rfl k251
                refine V_if_eq C0 (tgt := 99) (by decide) dX5_readItem_92 (fun c247 => ?_) (fun c247 => ?_)
                · have q245 := (if_pos c247).symm.trans q245
                  refine V_iconst C0 (v := (1 : Int32)) (by decide) dX5_readItem_99 ?_
                  cases q245
                  exact V_sub [3, 4, 5, 2, 0] rfl k246
                · have q245 := (if_neg c247).symm.trans q245
                  refine V_iconst C0 (v := (0 : Int32)) (by decide) dX5_readItem_95 ?_
                  refine V_goto C0 (tgt := 100) (by decide) dX5_readItem_96 ?_
                  cases q245
                  exact V_sub [3, 4, 5, 2, 0] rfl k246
          · have h := (if_neg c193).symm.trans h
            refine V_aload_n C0 3 rfl rfl dX5_readItem_58 ?_
            refine V_iconst C0 (v := (4 : Int32)) (by decide) dX5_readItem_59 ?_
            obtain ⟨b273, I274, q275, h⟩ := bn2_some h
            refine V_callV C0 (st := []) (As := [.int (4 : Int32)]) 7 (c_X8_refuse G.l G.D G.cA G.ad G.bs G.X C0.2.2.2.2.2.2.2.2.2.1 C0.2.2.2.2.2.2.2.2.2.2.2.2 x1 (4 : Int32) I L R b273 I274 q275) lc_X8_refuse lk_X5_57 c_x1.2 c_x1.1 ⟨_, rfl, rfl⟩ rfl (by rw [erm]; decide) (Nat.le_of_ble_eq_true rfl) dX5_readItem_60 ?_
            show V G _ 63 [(4, .int u6), (3, .int u3), (0, .ref (G.ad x0)), (1, .ref (G.ad x1)), (2, .ref (G.ad x2))] [.int (b2i b273)] I274 L R
            cases h
            exact V_zret C0 (b2i01 _) dX5_readItem_63
      · have h := (if_pos c187).symm.trans h
        refine V_aload_n C0 3 rfl rfl dX5_readItem_33 ?_
        refine V_iconst C0 (v := (2 : Int32)) (by decide) dX5_readItem_34 ?_
        obtain ⟨b276, I277, q278, h⟩ := bn2_some h
        refine V_callV C0 (st := []) (As := [.int (2 : Int32)]) 7 (c_X8_refuse G.l G.D G.cA G.ad G.bs G.X C0.2.2.2.2.2.2.2.2.2.1 C0.2.2.2.2.2.2.2.2.2.2.2.2 x1 (2 : Int32) I L R b276 I277 q278) lc_X8_refuse lk_X5_57 c_x1.2 c_x1.1 ⟨_, rfl, rfl⟩ rfl (by rw [erm]; decide) (Nat.le_of_ble_eq_true rfl) dX5_readItem_35 ?_
        show V G _ 38 [(4, .int u6), (3, .int u3), (0, .ref (G.ad x0)), (1, .ref (G.ad x1)), (2, .ref (G.ad x2))] [.int (b2i b276)] I277 L R
        cases h
        exact V_zret C0 (b2i01 _) dX5_readItem_38
theorem dX5_readFrom_0 : decode cX5_readFrom 0 = .ok (.aload_n 0, 1) := by decide +kernel
theorem dX5_readFrom_1 : decode cX5_readFrom 1 = .ok (.iconst 0, 1) := by decide +kernel
theorem dX5_readFrom_2 : decode cX5_readFrom 2 = .ok (.putfield 22, 3) := by decide +kernel
theorem dX5_readFrom_5 : decode cX5_readFrom 5 = .ok (.iconst 0, 1) := by decide +kernel
theorem dX5_readFrom_6 : decode cX5_readFrom 6 = .ok (.istore_n 3, 1) := by decide +kernel
theorem dX5_readFrom_7 : decode cX5_readFrom 7 = .ok (.iload_n 3, 1) := by decide +kernel
theorem dX5_readFrom_8 : decode cX5_readFrom 8 = .ok (.bipush 30, 2) := by decide +kernel
theorem dX5_readFrom_10 : decode cX5_readFrom 10 = .ok (.if_icmp .gt 33, 3) := by decide +kernel
theorem dX5_readFrom_13 : decode cX5_readFrom 13 = .ok (.aload_n 1, 1) := by decide +kernel
theorem dX5_readFrom_14 : decode cX5_readFrom 14 = .ok (.invokevirtual 34, 3) := by decide +kernel
theorem dX5_readFrom_17 : decode cX5_readFrom 17 = .ok (.aload_n 1, 1) := by decide +kernel
theorem dX5_readFrom_18 : decode cX5_readFrom 18 = .ok (.invokevirtual 39, 3) := by decide +kernel
theorem dX5_readFrom_21 : decode cX5_readFrom 21 = .ok (.ifCond .eq 5, 3) := by decide +kernel
theorem dX5_readFrom_24 : decode cX5_readFrom 24 = .ok (.iconst 1, 1) := by decide +kernel
theorem dX5_readFrom_25 : decode cX5_readFrom 25 = .ok (.ireturn, 1) := by decide +kernel
theorem dX5_readFrom_26 : decode cX5_readFrom 26 = .ok (.aload_n 0, 1) := by decide +kernel
theorem dX5_readFrom_27 : decode cX5_readFrom 27 = .ok (.aload_n 1, 1) := by decide +kernel
theorem dX5_readFrom_28 : decode cX5_readFrom 28 = .ok (.aload_n 2, 1) := by decide +kernel
theorem dX5_readFrom_29 : decode cX5_readFrom 29 = .ok (.invokevirtual 43, 3) := by decide +kernel
theorem dX5_readFrom_32 : decode cX5_readFrom 32 = .ok (.ifCond .ne 5, 3) := by decide +kernel
theorem dX5_readFrom_35 : decode cX5_readFrom 35 = .ok (.iconst 0, 1) := by decide +kernel
theorem dX5_readFrom_36 : decode cX5_readFrom 36 = .ok (.ireturn, 1) := by decide +kernel
theorem dX5_readFrom_37 : decode cX5_readFrom 37 = .ok (.iinc 3 1, 3) := by decide +kernel
theorem dX5_readFrom_40 : decode cX5_readFrom 40 = .ok (.goto (-33), 3) := by decide +kernel
theorem dX5_readFrom_43 : decode cX5_readFrom 43 = .ok (.iconst 0, 1) := by decide +kernel
theorem dX5_readFrom_44 : decode cX5_readFrom 44 = .ok (.ireturn, 1) := by decide +kernel
def LF_X5_readFrom_7 (N : Nat) : Nat → Nat → Nat → Nat → Int32 → MI → ML → MR → Option (Sum (Bool × MI × ML) (MI × ML))
  | 0, _, _, _, _, _, _, _ => none
  | k + 1, y0, y1, y2, y3, I, L, R =>
    if (30 : Int32) < y3 then
      some (.inr (I, L))
    else
      bn2 (F_X8_next N y1 I L R) fun I3 L4 =>
      bn1 (F_X8_isEnd y1 I3 L4 R) fun b6 =>
      if (b2i b6) = 0 then
        bn3 (F_X5_readItem N y0 y1 y2 I3 L4 R) fun b9 I10 L11 =>
        if (b2i b9) = 0 then
          some (.inl (false, I10, L11))
        else
          wr (y3 + (1 : Int32)) fun (u14 : Int32) =>
          LF_X5_readFrom_7 N k y0 y1 y2 u14 I10 L11 R
      else
        some (.inl (true, I3, L4))
def F_X5_readFrom (N : Nat) (x0 : Nat) (x1 : Nat) (x2 : Nat) (I : MI) (L : ML) (R : MR) : Option (Bool × MI × ML) :=
  if kd x0 = 4 ∧ x0 < NN then
  if kd x1 = 7 ∧ x1 < NN then
  if kd x2 = 9 ∧ x2 < NN then
  wr (uI I x0 2 (0 : Int32)) fun (I1 : MI) =>
  bsm (LF_X5_readFrom_7 N N x0 x1 x2 (0 : Int32) I1 L R) (fun z15 => some z15) fun z15 =>
  some (false, z15.1, z15.2)
  else none
  else none
  else none
set_option maxRecDepth 100000 in
set_option maxHeartbeats 4000000 in
theorem lp_X5_readFrom_7 {G : Gm} (C0 : Cx G (yX5_readFrom.cls) cX5_readFrom (some .boolean)) (eNL : G.nL = 4) (erm : G.rm = ({ frames := 9, cells := 0, slots := 0, locals := 198 } : Room)) (ht : Ssb G.ad G.bs G.X) (N : Nat) : ∀ (k : Nat) (y0 : Nat) (y1 : Nat) (y2 : Nat) (y3 : Int32) (I : MI) (L : ML) (R : MR) (q : Sum (Bool × MI × ML) (MI × ML)) (hk0 : kd y0 = 4) (ho0 : y0 < NN) (hk1 : kd y1 = 7) (ho1 : y1 < NN) (hk2 : kd y2 = 9) (ho2 : y2 < NN), LF_X5_readFrom_7 N k y0 y1 y2 y3 I L R = some q → ∀ f : State → Prop, (∀ w, q = .inl w → f = qf G (some (.int (b2i w.1)), w.2.1, w.2.2, R)) → (∀ z, q = .inr z → V G f 43 [] [] z.1 z.2 R) → V G f 7 [(0, .ref (G.ad y0)), (1, .ref (G.ad y1)), (2, .ref (G.ad y2)), (3, .int y3)] [] I L R := by
  intro k
  induction k with
  | zero =>
    intro y0 y1 y2 y3 I L R q hk0 ho0 hk1 ho1 hk2 ho2 h
    exact absurd h (by simp [LF_X5_readFrom_7])
  | succ k ih =>
    intro y0 y1 y2 y3 I L R q hk0 ho0 hk1 ho1 hk2 ho2 h f kr kx
    rw [LF_X5_readFrom_7] at h
    have hsb := ht _ C0.2.2.2.2.2.2.2.2.2.2.2.1
    refine V_iload_n C0 3 rfl rfl dX5_readFrom_7 ?_
    refine V_bipush C0 (v := (30 : Int32)) (by decide) dX5_readFrom_8 ?_
    refine V_icmp_gt C0 (tgt := 43) (by decide) dX5_readFrom_10 (fun c2 => ?_) (fun c2 => ?_)
    · have h := (if_pos c2).symm.trans h
      cases h
      exact V_sub [] rfl (kx _ rfl)
    · have h := (if_neg c2).symm.trans h
      refine V_aload_n C0 1 rfl rfl dX5_readFrom_13 ?_
      obtain ⟨I3, L4, q5, h⟩ := bn2_some h
      refine V_callV C0 (st := []) (As := []) 7 (c_X8_next G.l G.D G.cA G.ad G.bs G.X C0.2.2.2.2.2.2.2.2.2.1 C0.2.2.2.2.2.2.2.2.2.2.2.2 N y1 I L R I3 L4 q5) lc_X8_next lk_X5_34 ho1 hk1 ⟨_, rfl, rfl⟩ rfl (by rw [erm]; decide) (Nat.le_of_ble_eq_true rfl) dX5_readFrom_14 ?_
      show V G _ 17 [(0, .ref (G.ad y0)), (1, .ref (G.ad y1)), (2, .ref (G.ad y2)), (3, .int y3)] [] I3 L4 R
      refine V_aload_n C0 1 rfl rfl dX5_readFrom_17 ?_
      obtain ⟨b6, q7, h⟩ := bn1_some h
      refine V_callV C0 (st := []) (As := []) 7 (c_X8_isEnd G.l G.D G.cA G.ad G.bs G.X C0.2.2.2.2.2.2.2.2.2.1 C0.2.2.2.2.2.2.2.2.2.2.2.2 y1 I3 L4 R b6 q7) lc_X8_isEnd lk_X5_39 ho1 hk1 ⟨_, rfl, rfl⟩ rfl (by rw [erm]; decide) (Nat.le_of_ble_eq_true rfl) dX5_readFrom_18 ?_
      show V G _ 21 [(0, .ref (G.ad y0)), (1, .ref (G.ad y1)), (2, .ref (G.ad y2)), (3, .int y3)] [.int (b2i b6)] I3 L4 R
      refine V_if_eq C0 (tgt := 26) (by decide) dX5_readFrom_21 (fun c8 => ?_) (fun c8 => ?_)
      · have h := (if_pos c8).symm.trans h
        refine V_aload_n C0 0 rfl rfl dX5_readFrom_26 ?_
        refine V_aload_n C0 1 rfl rfl dX5_readFrom_27 ?_
        refine V_aload_n C0 2 rfl rfl dX5_readFrom_28 ?_
        obtain ⟨b9, I10, L11, q12, h⟩ := bn3_some h
        refine V_callV C0 (st := []) (As := [.ref (G.ad y1), .ref (G.ad y2)]) 4 (c_X5_readItem G.l G.D G.cA G.ad G.bs G.X C0.2.2.2.2.2.2.2.2.2.1 C0.2.2.2.2.2.2.2.2.2.2.2.2 ht N y0 y1 y2 I3 L4 R b9 I10 L11 q12) lc_X5_readItem lk_X5_43 ho0 hk0 ⟨_, rfl, rfl⟩ rfl (by rw [erm]; decide) (Nat.le_of_ble_eq_true rfl) dX5_readFrom_29 ?_
        show V G _ 32 [(0, .ref (G.ad y0)), (1, .ref (G.ad y1)), (2, .ref (G.ad y2)), (3, .int y3)] [.int (b2i b9)] I10 L11 R
        refine V_if_ne C0 (tgt := 37) (by decide) dX5_readFrom_32 (fun c13 => ?_) (fun c13 => ?_)
        · have h := (if_neg c13).symm.trans h
          obtain ⟨u14, eu14, h⟩ := wr_some h
          refine V_iinc C0 3 [(3, .int u14), (0, .ref (G.ad y0)), (1, .ref (G.ad y1)), (2, .ref (G.ad y2))] rfl (n := 1) (by rw [eu14]; rfl) (by rw [eNL]; decide) rfl dX5_readFrom_37 ?_
          refine V_goto C0 (tgt := 7) (by decide) dX5_readFrom_40 ?_
          exact V_sub [1, 2, 3, 0] rfl (ih y0 y1 y2 u14 I10 L11 R _ hk0 ho0 hk1 ho1 hk2 ho2 h f kr kx)
        · have h := (if_pos c13).symm.trans h
          refine V_iconst C0 (v := (0 : Int32)) (by decide) dX5_readFrom_35 ?_
          cases h
          rw [kr _ rfl]
          exact V_zret (x := (0 : Int32)) C0 (by decide) dX5_readFrom_36
      · have h := (if_neg c8).symm.trans h
        refine V_iconst C0 (v := (1 : Int32)) (by decide) dX5_readFrom_24 ?_
        cases h
        rw [kr _ rfl]
        exact V_zret (x := (1 : Int32)) C0 (by decide) dX5_readFrom_25
set_option maxRecDepth 100000 in
set_option maxHeartbeats 4000000 in
theorem c_X5_readFrom (l : Launch) (D : va_G) (cA : Nat → ClassId) (ad : Nat → Nat) (bs : Nat) (X : State → Prop) (hAd : Ax ad bs) (hX : Stb bs X) (ht : Ssb ad bs X) (N : Nat) (x0 : Nat) (x1 : Nat) (x2 : Nat) (I : MI) (L : ML) (R : MR) (r : Bool) (I' : MI) (L' : ML) (h : F_X5_readFrom N x0 x1 x2 I L R = some (r, I', L')) : Cn l D cA ad bs X yX5_readFrom cX5_readFrom 4 (some .boolean) 9 198 [.ref (ad x0), .ref (ad x1), .ref (ad x2)] I L R (some (.int (b2i r)), I', L', R) := by
  refine Cn.ofV hAd hX [(0, .ref (ad x0)), (1, .ref (ad x1)), (2, .ref (ad x2))] rfl (Nat.le_of_ble_eq_true rfl) (by decide) ?_
  intro G el eD ecA ead ebs eX erm eNL C0
  subst el eD ecA ead ebs eX
  have hsb := ht _ C0.2.2.2.2.2.2.2.2.2.2.2.1
  unfold F_X5_readFrom at h
  obtain ⟨c_x0, h⟩ := ite_some h
  obtain ⟨c_x1, h⟩ := ite_some h
  obtain ⟨c_x2, h⟩ := ite_some h
  refine V_aload_n C0 0 rfl rfl dX5_readFrom_0 ?_
  refine V_iconst C0 (v := (0 : Int32)) (by decide) dX5_readFrom_1 ?_
  obtain ⟨I1, eI1, h⟩ := wr_some h
  refine V_putI C0 4 2 fp_X5_22 c_x0.2 c_x0.1 rfl dX5_readFrom_2 ?_
  rw [← eI1]
  refine V_iconst C0 (v := (0 : Int32)) (by decide) dX5_readFrom_5 ?_
  refine V_istore_n C0 [(3, .int (0 : Int32)), (0, .ref (G.ad x0)), (1, .ref (G.ad x1)), (2, .ref (G.ad x2))] rfl (by rw [eNL]; decide) rfl dX5_readFrom_6 ?_
  rcases bsm_some h with ⟨z15, q16, h⟩ | ⟨z15, q16, h⟩
  · refine V_sub [1, 2, 3, 0] rfl (lp_X5_readFrom_7 C0 eNL erm ht N N x0 x1 x2 (0 : Int32) I1 L R _ c_x0.1 c_x0.2 c_x1.1 c_x1.2 c_x2.1 c_x2.2 q16 _ (fun w e => ?_) (fun _ e => by cases e))
    cases e
    cases h
    rfl
  · refine V_sub [1, 2, 3, 0] rfl (lp_X5_readFrom_7 C0 eNL erm ht N N x0 x1 x2 (0 : Int32) I1 L R _ c_x0.1 c_x0.2 c_x1.1 c_x1.2 c_x2.1 c_x2.2 q16 _ (fun _ e => by cases e) (fun w e => ?_))
    cases e
    show V G _ 43 [] [] z15.1 z15.2 R
    refine V_iconst C0 (v := (0 : Int32)) (by decide) dX5_readFrom_43 ?_
    cases h
    exact V_zret C0 (by decide) dX5_readFrom_44
