theorem upE_at {E : Nat → va_E} {p : Nat} {x : va_E} : upE E p x p = x := by simp [upE]
theorem upE_ne {E : Nat → va_E} {p j : Nat} {x : va_E} (h : j ≠ p) : upE E p x j = E j := by simp [upE, h]
def Ssd (X : State → Prop) : Prop := ∀ U, X U → va_AO "SmallCraft$Unit" U ∧ va_AO "SmallCraft$Item" U
theorem lo_X3 : Cond.methodLink RX3 3 Lib.objectInit ∈ gW := gW_in _ (tb_2 _ (List.mem_of_getElem? (i := 11) rfl)) rfl
theorem lo_X9 : Cond.methodLink RX9 3 Lib.objectInit ∈ gW := gW_in _ (tb_1 _ (List.mem_of_getElem? (i := 47) rfl)) rfl
theorem ff_X9_9 : FFk RX9 9 8 0 "[I" := ⟨_, rfl, by decide, rfl, rfl, rfl, gW_in _ (tb_1 _ (List.mem_of_getElem? (i := 48) rfl)) rfl⟩
theorem ff_X9_15 : FFk RX9 15 8 1 "[I" := ⟨_, rfl, by decide, rfl, rfl, rfl, gW_in _ (tb_1 _ (List.mem_of_getElem? (i := 53) rfl)) rfl⟩
theorem ff_X9_18 : FFk RX9 18 8 2 "[I" := ⟨_, rfl, by decide, rfl, rfl, rfl, gW_in _ (tb_1 _ (List.mem_of_getElem? (i := 55) rfl)) rfl⟩
theorem lo_X8 : Cond.methodLink RX8 3 Lib.objectInit ∈ gW := gW_in _ (tb_1 _ (List.mem_of_getElem? (i := 124) rfl)) rfl
theorem ff_X8_11 : FFk RX8 11 7 0 "[I" := ⟨_, rfl, by decide, rfl, rfl, rfl, gW_in _ (tb_1 _ (List.mem_of_getElem? (i := 125) rfl)) rfl⟩
theorem lo_X0 : Cond.methodLink RX0 3 Lib.objectInit ∈ gW := gW_in _ (tb_1 _ (List.mem_of_getElem? (i := 161) rfl)) rfl
theorem ff_X0_9 : FFk RX0 9 0 0 "[I" := ⟨_, rfl, by decide, rfl, rfl, rfl, gW_in _ (tb_1 _ (List.mem_of_getElem? (i := 162) rfl)) rfl⟩
theorem ff_X0_15 : FFk RX0 15 0 1 "[J" := ⟨_, rfl, by decide, rfl, rfl, rfl, gW_in _ (tb_1 _ (List.mem_of_getElem? (i := 163) rfl)) rfl⟩
theorem ff_X0_19 : FFk RX0 19 0 2 "[I" := ⟨_, rfl, by decide, rfl, rfl, rfl, gW_in _ (tb_1 _ (List.mem_of_getElem? (i := 164) rfl)) rfl⟩
theorem lo_X1 : Cond.methodLink RX1 3 Lib.objectInit ∈ gW := gW_in _ (tb_1 _ (List.mem_of_getElem? (i := 231) rfl)) rfl
theorem ff_X1_11 : FFk RX1 11 1 0 "[I" := ⟨_, rfl, by decide, rfl, rfl, rfl, gW_in _ (tb_1 _ (List.mem_of_getElem? (i := 232) rfl)) rfl⟩
theorem lo_X7 : Cond.methodLink RX7 3 Lib.objectInit ∈ gW := gW_in _ (tb_1 _ (List.mem_of_getElem? (i := 187) rfl)) rfl
theorem ff_X7_9 : FFk RX7 9 6 1 "[I" := ⟨_, rfl, by decide, rfl, rfl, rfl, gW_in _ (tb_1 _ (List.mem_of_getElem? (i := 189) rfl)) rfl⟩
theorem ff_X7_15 : FFk RX7 15 6 2 "[I" := ⟨_, rfl, by decide, rfl, rfl, rfl, gW_in _ (tb_1 _ (List.mem_of_getElem? (i := 190) rfl)) rfl⟩
theorem ff_X7_18 : FFk RX7 18 6 3 "[I" := ⟨_, rfl, by decide, rfl, rfl, rfl, gW_in _ (tb_1 _ (List.mem_of_getElem? (i := 191) rfl)) rfl⟩
theorem ff_X7_21 : FFk RX7 21 6 0 "LSmallCraft$Yard;" := ⟨_, rfl, by decide, rfl, rfl, rfl, gW_in _ (tb_1 _ (List.mem_of_getElem? (i := 188) rfl)) rfl⟩
theorem lo_X6 : Cond.methodLink RX6 3 Lib.objectInit ∈ gW := gW_in _ (tb_1 _ (List.mem_of_getElem? (i := 206) rfl)) rfl
theorem ff_X6_9 : FFk RX6 9 5 1 "[I" := ⟨_, rfl, by decide, rfl, rfl, rfl, gW_in _ (tb_1 _ (List.mem_of_getElem? (i := 208) rfl)) rfl⟩
theorem ff_X6_15 : FFk RX6 15 5 0 "LSmallCraft$Yard;" := ⟨_, rfl, by decide, rfl, rfl, rfl, gW_in _ (tb_1 _ (List.mem_of_getElem? (i := 207) rfl)) rfl⟩
theorem dX3_init_0 : decode cX3_init 0 = .ok (.aload_n 0, 1) := by decide +kernel
theorem dX3_init_1 : decode cX3_init 1 = .ok (.invokespecial 3, 3) := by decide +kernel
theorem dX3_init_4 : decode cX3_init 4 = .ok (.return_, 1) := by decide +kernel
def E_X3_init (cA : Nat → ClassId) (bs k p : Nat) (E : Nat → va_E) : Nat → va_E := E
theorem E_X3_init_ne {cA : Nat → ClassId} {bs k p : Nat} {E : Nat → va_E} {j : Nat} (h : j ≠ p) (hj : j < k) : E_X3_init cA bs k p E j = E j := by
  unfold E_X3_init
  repeat first | rfl | rw [upE_ne (by omega)]
set_option maxRecDepth 100000 in
set_option maxHeartbeats 4000000 in
theorem k_X3_init (l : Launch) (D : va_G) (cA : Nat → ClassId) (ad : Nat → Nat) (bs : Nat) (X : State → Prop) (hAd : Ax ad bs) (hX : Stb bs X) (k p : Nat) (E : Nat → va_E) (hp : p < k) (he : E p = .inr (3, dfl 3)) : CnK l D cA bs X yX3_init cX3_init 1 1 20 0 0 [.ref (bs + p)] k E (k + 0) (E_X3_init cA bs k p E) := by
  refine CnK.ofV hAd hX [(0, .ref (bs + p))] rfl (Nat.le_of_ble_eq_true rfl) (by decide) ?_
  intro G el eD ecA ead ebs eX erm eNL hnm hz C0
  subst el eD ecA ead ebs eX
  refine VK_aload_n C0 0 rfl rfl dX3_init_0 ?_
  refine VK_obj C0 lo_X3 (by rw [erm]; decide) (Nat.le_of_ble_eq_true rfl) dX3_init_1 ?_
  exact VK_vret C0 dX3_init_4
theorem dX9_init_0 : decode cX9_init 0 = .ok (.aload_n 0, 1) := by decide +kernel
theorem dX9_init_1 : decode cX9_init 1 = .ok (.invokespecial 3, 3) := by decide +kernel
theorem dX9_init_4 : decode cX9_init 4 = .ok (.aload_n 0, 1) := by decide +kernel
theorem dX9_init_5 : decode cX9_init 5 = .ok (.bipush 65, 2) := by decide +kernel
theorem dX9_init_7 : decode cX9_init 7 = .ok (.newarray .int, 2) := by decide +kernel
theorem dX9_init_9 : decode cX9_init 9 = .ok (.putfield 9, 3) := by decide +kernel
theorem dX9_init_12 : decode cX9_init 12 = .ok (.aload_n 0, 1) := by decide +kernel
theorem dX9_init_13 : decode cX9_init 13 = .ok (.iconst 5, 1) := by decide +kernel
theorem dX9_init_14 : decode cX9_init 14 = .ok (.newarray .int, 2) := by decide +kernel
theorem dX9_init_16 : decode cX9_init 16 = .ok (.putfield 15, 3) := by decide +kernel
theorem dX9_init_19 : decode cX9_init 19 = .ok (.aload_n 0, 1) := by decide +kernel
theorem dX9_init_20 : decode cX9_init 20 = .ok (.sipush 2000, 3) := by decide +kernel
theorem dX9_init_23 : decode cX9_init 23 = .ok (.newarray .int, 2) := by decide +kernel
theorem dX9_init_25 : decode cX9_init 25 = .ok (.putfield 18, 3) := by decide +kernel
theorem dX9_init_28 : decode cX9_init 28 = .ok (.return_, 1) := by decide +kernel
def E_X9_init (cA : Nat → ClassId) (bs k p : Nat) (E : Nat → va_E) : Nat → va_E := (upE (upE (upE (upE (upE (upE E k (.inl (cA 0, 65, .inl (fun _ => 0)))) p (.inr (8, ((dfl 8).set 0 (Value.ref (bs + k)))))) (k + 1) (.inl (cA 0, 5, .inl (fun _ => 0)))) p (.inr (8, (((dfl 8).set 0 (Value.ref (bs + k))).set 1 (Value.ref (bs + (k + 1))))))) (k + 2) (.inl (cA 0, 2000, .inl (fun _ => 0)))) p (.inr (8, ((((dfl 8).set 0 (Value.ref (bs + k))).set 1 (Value.ref (bs + (k + 1)))).set 2 (Value.ref (bs + (k + 2)))))))
theorem E_X9_init_ne {cA : Nat → ClassId} {bs k p : Nat} {E : Nat → va_E} {j : Nat} (h : j ≠ p) (hj : j < k) : E_X9_init cA bs k p E j = E j := by
  unfold E_X9_init
  repeat first | rfl | rw [upE_ne (by omega)]
set_option maxRecDepth 100000 in
set_option maxHeartbeats 4000000 in
theorem k_X9_init (l : Launch) (D : va_G) (cA : Nat → ClassId) (ad : Nat → Nat) (bs : Nat) (X : State → Prop) (hAd : Ax ad bs) (hX : Stb bs X) (k p : Nat) (E : Nat → va_E) (hp : p < k) (he : E p = .inr (8, dfl 8)) : CnK l D cA bs X yX9_init cX9_init 1 1 20 3 2070 [.ref (bs + p)] k E (k + 3) (E_X9_init cA bs k p E) := by
  refine CnK.ofV hAd hX [(0, .ref (bs + p))] rfl (Nat.le_of_ble_eq_true rfl) (by decide) ?_
  intro G el eD ecA ead ebs eX erm eNL hnm hz C0
  subst el eD ecA ead ebs eX
  refine VK_aload_n C0 0 rfl rfl dX9_init_0 ?_
  refine VK_obj C0 lo_X9 (by rw [erm]; decide) (Nat.le_of_ble_eq_true rfl) dX9_init_1 ?_
  refine VK_aload_n C0 0 rfl rfl dX9_init_4 ?_
  refine VK_bipush C0 (v := (65 : Int32)) (by decide) dX9_init_5 ?_
  refine VK_newI C0 65 (by decide) (by decide +kernel) (by decide) (by rw [erm]; decide) (by rw [erm]; decide) dX9_init_7 ?_
  refine VK_putF C0 (by omega) hnm 8 0 p ff_X9_9 (by omega) ((upE_ne (by omega)).trans he) (Nat.le_of_ble_eq_true rfl) (ty := (.array .int)) (by decide +kernel) rfl rfl dX9_init_9 ?_
  refine VK_aload_n C0 0 rfl rfl dX9_init_12 ?_
  refine VK_iconst C0 (v := (5 : Int32)) (by decide) dX9_init_13 ?_
  refine VK_newI C0 5 (by decide) (by decide +kernel) (by decide) (by rw [erm]; decide) (by rw [erm]; decide) dX9_init_14 ?_
  refine VK_putF C0 (by omega) hnm 8 1 p ff_X9_15 (by omega) ((upE_ne (by omega)).trans upE_at) (Nat.le_of_ble_eq_true rfl) (ty := (.array .int)) (by decide +kernel) rfl rfl dX9_init_16 ?_
  refine VK_aload_n C0 0 rfl rfl dX9_init_19 ?_
  refine VK_sipush C0 (v := (2000 : Int32)) (by decide) dX9_init_20 ?_
  refine VK_newI C0 2000 (by decide) (by decide +kernel) (by decide) (by rw [erm]; decide) (by rw [erm]; decide) dX9_init_23 ?_
  refine VK_putF C0 (by omega) hnm 8 2 p ff_X9_18 (by omega) ((upE_ne (by omega)).trans upE_at) (Nat.le_of_ble_eq_true rfl) (ty := (.array .int)) (by decide +kernel) rfl rfl dX9_init_25 ?_
  exact VK_vret C0 dX9_init_28
theorem dX8_init_0 : decode cX8_init 0 = .ok (.aload_n 0, 1) := by decide +kernel
theorem dX8_init_1 : decode cX8_init 1 = .ok (.invokespecial 3, 3) := by decide +kernel
theorem dX8_init_4 : decode cX8_init 4 = .ok (.aload_n 0, 1) := by decide +kernel
theorem dX8_init_5 : decode cX8_init 5 = .ok (.sipush 4000, 3) := by decide +kernel
theorem dX8_init_8 : decode cX8_init 8 = .ok (.newarray .int, 2) := by decide +kernel
theorem dX8_init_10 : decode cX8_init 10 = .ok (.putfield 11, 3) := by decide +kernel
theorem dX8_init_13 : decode cX8_init 13 = .ok (.aload_n 0, 1) := by decide +kernel
theorem dX8_init_14 : decode cX8_init 14 = .ok (.iconst (-1), 1) := by decide +kernel
theorem dX8_init_15 : decode cX8_init 15 = .ok (.putfield 15, 3) := by decide +kernel
theorem dX8_init_18 : decode cX8_init 18 = .ok (.return_, 1) := by decide +kernel
def E_X8_init (cA : Nat → ClassId) (bs k p : Nat) (E : Nat → va_E) : Nat → va_E := (upE (upE (upE E k (.inl (cA 0, 4000, .inl (fun _ => 0)))) p (.inr (7, ((dfl 7).set 0 (Value.ref (bs + k)))))) p (.inr (7, (((dfl 7).set 0 (Value.ref (bs + k))).set 9 (Value.int (-1))))))
theorem E_X8_init_ne {cA : Nat → ClassId} {bs k p : Nat} {E : Nat → va_E} {j : Nat} (h : j ≠ p) (hj : j < k) : E_X8_init cA bs k p E j = E j := by
  unfold E_X8_init
  repeat first | rfl | rw [upE_ne (by omega)]
set_option maxRecDepth 100000 in
set_option maxHeartbeats 4000000 in
theorem k_X8_init (l : Launch) (D : va_G) (cA : Nat → ClassId) (ad : Nat → Nat) (bs : Nat) (X : State → Prop) (hAd : Ax ad bs) (hX : Stb bs X) (k p : Nat) (E : Nat → va_E) (hp : p < k) (he : E p = .inr (7, dfl 7)) : CnK l D cA bs X yX8_init cX8_init 1 1 20 1 4000 [.ref (bs + p)] k E (k + 1) (E_X8_init cA bs k p E) := by
  refine CnK.ofV hAd hX [(0, .ref (bs + p))] rfl (Nat.le_of_ble_eq_true rfl) (by decide) ?_
  intro G el eD ecA ead ebs eX erm eNL hnm hz C0
  subst el eD ecA ead ebs eX
  refine VK_aload_n C0 0 rfl rfl dX8_init_0 ?_
  refine VK_obj C0 lo_X8 (by rw [erm]; decide) (Nat.le_of_ble_eq_true rfl) dX8_init_1 ?_
  refine VK_aload_n C0 0 rfl rfl dX8_init_4 ?_
  refine VK_sipush C0 (v := (4000 : Int32)) (by decide) dX8_init_5 ?_
  refine VK_newI C0 4000 (by decide) (by decide +kernel) (by decide) (by rw [erm]; decide) (by rw [erm]; decide) dX8_init_8 ?_
  refine VK_putF C0 (by omega) hnm 7 0 p ff_X8_11 (by omega) ((upE_ne (by omega)).trans he) (Nat.le_of_ble_eq_true rfl) (ty := (.array .int)) (by decide +kernel) rfl rfl dX8_init_10 ?_
  refine VK_aload_n C0 0 rfl rfl dX8_init_13 ?_
  refine VK_iconst C0 (v := (-1 : Int32)) (by decide) dX8_init_14 ?_
  refine VK_put C0 (by omega) 7 9 p fp_X8_15 (by omega) upE_at (Nat.le_of_ble_eq_true rfl) (ty := .int) (by decide +kernel) rfl rfl dX8_init_15 ?_
  exact VK_vret C0 dX8_init_18
theorem dX0_init_0 : decode cX0_init 0 = .ok (.aload_n 0, 1) := by decide +kernel
theorem dX0_init_1 : decode cX0_init 1 = .ok (.invokespecial 3, 3) := by decide +kernel
theorem dX0_init_4 : decode cX0_init 4 = .ok (.aload_n 0, 1) := by decide +kernel
theorem dX0_init_5 : decode cX0_init 5 = .ok (.bipush 20, 2) := by decide +kernel
theorem dX0_init_7 : decode cX0_init 7 = .ok (.newarray .int, 2) := by decide +kernel
theorem dX0_init_9 : decode cX0_init 9 = .ok (.putfield 9, 3) := by decide +kernel
theorem dX0_init_12 : decode cX0_init 12 = .ok (.aload_n 0, 1) := by decide +kernel
theorem dX0_init_13 : decode cX0_init 13 = .ok (.bipush 20, 2) := by decide +kernel
theorem dX0_init_15 : decode cX0_init 15 = .ok (.newarray .long, 2) := by decide +kernel
theorem dX0_init_17 : decode cX0_init 17 = .ok (.putfield 15, 3) := by decide +kernel
theorem dX0_init_20 : decode cX0_init 20 = .ok (.aload_n 0, 1) := by decide +kernel
theorem dX0_init_21 : decode cX0_init 21 = .ok (.bipush 60, 2) := by decide +kernel
theorem dX0_init_23 : decode cX0_init 23 = .ok (.newarray .int, 2) := by decide +kernel
theorem dX0_init_25 : decode cX0_init 25 = .ok (.putfield 19, 3) := by decide +kernel
theorem dX0_init_28 : decode cX0_init 28 = .ok (.return_, 1) := by decide +kernel
def E_X0_init (cA : Nat → ClassId) (bs k p : Nat) (E : Nat → va_E) : Nat → va_E := (upE (upE (upE (upE (upE (upE E k (.inl (cA 0, 20, .inl (fun _ => 0)))) p (.inr (0, ((dfl 0).set 0 (Value.ref (bs + k)))))) (k + 1) (.inl (cA 1, 20, .inr (.inl (fun _ => 0))))) p (.inr (0, (((dfl 0).set 0 (Value.ref (bs + k))).set 1 (Value.ref (bs + (k + 1))))))) (k + 2) (.inl (cA 0, 60, .inl (fun _ => 0)))) p (.inr (0, ((((dfl 0).set 0 (Value.ref (bs + k))).set 1 (Value.ref (bs + (k + 1)))).set 2 (Value.ref (bs + (k + 2)))))))
theorem E_X0_init_ne {cA : Nat → ClassId} {bs k p : Nat} {E : Nat → va_E} {j : Nat} (h : j ≠ p) (hj : j < k) : E_X0_init cA bs k p E j = E j := by
  unfold E_X0_init
  repeat first | rfl | rw [upE_ne (by omega)]
set_option maxRecDepth 100000 in
set_option maxHeartbeats 4000000 in
theorem k_X0_init (l : Launch) (D : va_G) (cA : Nat → ClassId) (ad : Nat → Nat) (bs : Nat) (X : State → Prop) (hAd : Ax ad bs) (hX : Stb bs X) (k p : Nat) (E : Nat → va_E) (hp : p < k) (he : E p = .inr (0, dfl 0)) : CnK l D cA bs X yX0_init cX0_init 1 1 20 3 100 [.ref (bs + p)] k E (k + 3) (E_X0_init cA bs k p E) := by
  refine CnK.ofV hAd hX [(0, .ref (bs + p))] rfl (Nat.le_of_ble_eq_true rfl) (by decide) ?_
  intro G el eD ecA ead ebs eX erm eNL hnm hz C0
  subst el eD ecA ead ebs eX
  refine VK_aload_n C0 0 rfl rfl dX0_init_0 ?_
  refine VK_obj C0 lo_X0 (by rw [erm]; decide) (Nat.le_of_ble_eq_true rfl) dX0_init_1 ?_
  refine VK_aload_n C0 0 rfl rfl dX0_init_4 ?_
  refine VK_bipush C0 (v := (20 : Int32)) (by decide) dX0_init_5 ?_
  refine VK_newI C0 20 (by decide) (by decide +kernel) (by decide) (by rw [erm]; decide) (by rw [erm]; decide) dX0_init_7 ?_
  refine VK_putF C0 (by omega) hnm 0 0 p ff_X0_9 (by omega) ((upE_ne (by omega)).trans he) (Nat.le_of_ble_eq_true rfl) (ty := (.array .int)) (by decide +kernel) rfl rfl dX0_init_9 ?_
  refine VK_aload_n C0 0 rfl rfl dX0_init_12 ?_
  refine VK_bipush C0 (v := (20 : Int32)) (by decide) dX0_init_13 ?_
  refine VK_newL C0 20 (by decide) (by decide +kernel) (by decide) (by rw [erm]; decide) (by rw [erm]; decide) dX0_init_15 ?_
  refine VK_putF C0 (by omega) hnm 0 1 p ff_X0_15 (by omega) ((upE_ne (by omega)).trans upE_at) (Nat.le_of_ble_eq_true rfl) (ty := (.array .long)) (by decide +kernel) rfl rfl dX0_init_17 ?_
  refine VK_aload_n C0 0 rfl rfl dX0_init_20 ?_
  refine VK_bipush C0 (v := (60 : Int32)) (by decide) dX0_init_21 ?_
  refine VK_newI C0 60 (by decide) (by decide +kernel) (by decide) (by rw [erm]; decide) (by rw [erm]; decide) dX0_init_23 ?_
  refine VK_putF C0 (by omega) hnm 0 2 p ff_X0_19 (by omega) ((upE_ne (by omega)).trans upE_at) (Nat.le_of_ble_eq_true rfl) (ty := (.array .int)) (by decide +kernel) rfl rfl dX0_init_25 ?_
  exact VK_vret C0 dX0_init_28
theorem dX1_init_0 : decode cX1_init 0 = .ok (.aload_n 0, 1) := by decide +kernel
theorem dX1_init_1 : decode cX1_init 1 = .ok (.invokespecial 3, 3) := by decide +kernel
theorem dX1_init_4 : decode cX1_init 4 = .ok (.aload_n 0, 1) := by decide +kernel
theorem dX1_init_5 : decode cX1_init 5 = .ok (.sipush 500, 3) := by decide +kernel
theorem dX1_init_8 : decode cX1_init 8 = .ok (.newarray .int, 2) := by decide +kernel
theorem dX1_init_10 : decode cX1_init 10 = .ok (.putfield 11, 3) := by decide +kernel
theorem dX1_init_13 : decode cX1_init 13 = .ok (.return_, 1) := by decide +kernel
def E_X1_init (cA : Nat → ClassId) (bs k p : Nat) (E : Nat → va_E) : Nat → va_E := (upE (upE E k (.inl (cA 0, 500, .inl (fun _ => 0)))) p (.inr (1, ((dfl 1).set 0 (Value.ref (bs + k))))))
theorem E_X1_init_ne {cA : Nat → ClassId} {bs k p : Nat} {E : Nat → va_E} {j : Nat} (h : j ≠ p) (hj : j < k) : E_X1_init cA bs k p E j = E j := by
  unfold E_X1_init
  repeat first | rfl | rw [upE_ne (by omega)]
set_option maxRecDepth 100000 in
set_option maxHeartbeats 4000000 in
theorem k_X1_init (l : Launch) (D : va_G) (cA : Nat → ClassId) (ad : Nat → Nat) (bs : Nat) (X : State → Prop) (hAd : Ax ad bs) (hX : Stb bs X) (k p : Nat) (E : Nat → va_E) (hp : p < k) (he : E p = .inr (1, dfl 1)) : CnK l D cA bs X yX1_init cX1_init 1 1 20 1 500 [.ref (bs + p)] k E (k + 1) (E_X1_init cA bs k p E) := by
  refine CnK.ofV hAd hX [(0, .ref (bs + p))] rfl (Nat.le_of_ble_eq_true rfl) (by decide) ?_
  intro G el eD ecA ead ebs eX erm eNL hnm hz C0
  subst el eD ecA ead ebs eX
  refine VK_aload_n C0 0 rfl rfl dX1_init_0 ?_
  refine VK_obj C0 lo_X1 (by rw [erm]; decide) (Nat.le_of_ble_eq_true rfl) dX1_init_1 ?_
  refine VK_aload_n C0 0 rfl rfl dX1_init_4 ?_
  refine VK_sipush C0 (v := (500 : Int32)) (by decide) dX1_init_5 ?_
  refine VK_newI C0 500 (by decide) (by decide +kernel) (by decide) (by rw [erm]; decide) (by rw [erm]; decide) dX1_init_8 ?_
  refine VK_putF C0 (by omega) hnm 1 0 p ff_X1_11 (by omega) ((upE_ne (by omega)).trans he) (Nat.le_of_ble_eq_true rfl) (ty := (.array .int)) (by decide +kernel) rfl rfl dX1_init_10 ?_
  exact VK_vret C0 dX1_init_13
theorem dX7_init_0 : decode cX7_init 0 = .ok (.aload_n 0, 1) := by decide +kernel
theorem dX7_init_1 : decode cX7_init 1 = .ok (.invokespecial 3, 3) := by decide +kernel
theorem dX7_init_4 : decode cX7_init 4 = .ok (.aload_n 0, 1) := by decide +kernel
theorem dX7_init_5 : decode cX7_init 5 = .ok (.iconst 3, 1) := by decide +kernel
theorem dX7_init_6 : decode cX7_init 6 = .ok (.newarray .int, 2) := by decide +kernel
theorem dX7_init_8 : decode cX7_init 8 = .ok (.putfield 9, 3) := by decide +kernel
theorem dX7_init_11 : decode cX7_init 11 = .ok (.aload_n 0, 1) := by decide +kernel
theorem dX7_init_12 : decode cX7_init 12 = .ok (.iconst 3, 1) := by decide +kernel
theorem dX7_init_13 : decode cX7_init 13 = .ok (.newarray .int, 2) := by decide +kernel
theorem dX7_init_15 : decode cX7_init 15 = .ok (.putfield 15, 3) := by decide +kernel
theorem dX7_init_18 : decode cX7_init 18 = .ok (.aload_n 0, 1) := by decide +kernel
theorem dX7_init_19 : decode cX7_init 19 = .ok (.iconst 3, 1) := by decide +kernel
theorem dX7_init_20 : decode cX7_init 20 = .ok (.newarray .int, 2) := by decide +kernel
theorem dX7_init_22 : decode cX7_init 22 = .ok (.putfield 18, 3) := by decide +kernel
theorem dX7_init_25 : decode cX7_init 25 = .ok (.aload_n 0, 1) := by decide +kernel
theorem dX7_init_26 : decode cX7_init 26 = .ok (.aload_n 1, 1) := by decide +kernel
theorem dX7_init_27 : decode cX7_init 27 = .ok (.putfield 21, 3) := by decide +kernel
theorem dX7_init_30 : decode cX7_init 30 = .ok (.return_, 1) := by decide +kernel
def E_X7_init (cA : Nat → ClassId) (bs k p : Nat) (y : Nat) (E : Nat → va_E) : Nat → va_E := (upE (upE (upE (upE (upE (upE (upE E k (.inl (cA 0, 3, .inl (fun _ => 0)))) p (.inr (6, ((dfl 6).set 1 (Value.ref (bs + k)))))) (k + 1) (.inl (cA 0, 3, .inl (fun _ => 0)))) p (.inr (6, (((dfl 6).set 1 (Value.ref (bs + k))).set 2 (Value.ref (bs + (k + 1))))))) (k + 2) (.inl (cA 0, 3, .inl (fun _ => 0)))) p (.inr (6, ((((dfl 6).set 1 (Value.ref (bs + k))).set 2 (Value.ref (bs + (k + 1)))).set 3 (Value.ref (bs + (k + 2))))))) p (.inr (6, (((((dfl 6).set 1 (Value.ref (bs + k))).set 2 (Value.ref (bs + (k + 1)))).set 3 (Value.ref (bs + (k + 2)))).set 0 (Value.ref (bs + y))))))
theorem E_X7_init_ne {cA : Nat → ClassId} {bs k p y : Nat} {E : Nat → va_E} {j : Nat} (h : j ≠ p) (hj : j < k) : E_X7_init cA bs k p y E j = E j := by
  unfold E_X7_init
  repeat first | rfl | rw [upE_ne (by omega)]
set_option maxRecDepth 100000 in
set_option maxHeartbeats 4000000 in
theorem k_X7_init (l : Launch) (D : va_G) (cA : Nat → ClassId) (ad : Nat → Nat) (bs : Nat) (X : State → Prop) (hAd : Ax ad bs) (hX : Stb bs X) (k p : Nat) (y : Nat) (E : Nat → va_E) (hp : p < k) (he : E p = .inr (6, dfl 6)) : CnK l D cA bs X yX7_init cX7_init 2 1 20 3 9 [.ref (bs + p), .ref (bs + y)] k E (k + 3) (E_X7_init cA bs k p y E) := by
  refine CnK.ofV hAd hX [(0, .ref (bs + p)), (1, .ref (bs + y))] rfl (Nat.le_of_ble_eq_true rfl) (by decide) ?_
  intro G el eD ecA ead ebs eX erm eNL hnm hz C0
  subst el eD ecA ead ebs eX
  refine VK_aload_n C0 0 rfl rfl dX7_init_0 ?_
  refine VK_obj C0 lo_X7 (by rw [erm]; decide) (Nat.le_of_ble_eq_true rfl) dX7_init_1 ?_
  refine VK_aload_n C0 0 rfl rfl dX7_init_4 ?_
  refine VK_iconst C0 (v := (3 : Int32)) (by decide) dX7_init_5 ?_
  refine VK_newI C0 3 (by decide) (by decide +kernel) (by decide) (by rw [erm]; decide) (by rw [erm]; decide) dX7_init_6 ?_
  refine VK_putF C0 (by omega) hnm 6 1 p ff_X7_9 (by omega) ((upE_ne (by omega)).trans he) (Nat.le_of_ble_eq_true rfl) (ty := (.array .int)) (by decide +kernel) rfl rfl dX7_init_8 ?_
  refine VK_aload_n C0 0 rfl rfl dX7_init_11 ?_
  refine VK_iconst C0 (v := (3 : Int32)) (by decide) dX7_init_12 ?_
  refine VK_newI C0 3 (by decide) (by decide +kernel) (by decide) (by rw [erm]; decide) (by rw [erm]; decide) dX7_init_13 ?_
  refine VK_putF C0 (by omega) hnm 6 2 p ff_X7_15 (by omega) ((upE_ne (by omega)).trans upE_at) (Nat.le_of_ble_eq_true rfl) (ty := (.array .int)) (by decide +kernel) rfl rfl dX7_init_15 ?_
  refine VK_aload_n C0 0 rfl rfl dX7_init_18 ?_
  refine VK_iconst C0 (v := (3 : Int32)) (by decide) dX7_init_19 ?_
  refine VK_newI C0 3 (by decide) (by decide +kernel) (by decide) (by rw [erm]; decide) (by rw [erm]; decide) dX7_init_20 ?_
  refine VK_putF C0 (by omega) hnm 6 3 p ff_X7_18 (by omega) ((upE_ne (by omega)).trans upE_at) (Nat.le_of_ble_eq_true rfl) (ty := (.array .int)) (by decide +kernel) rfl rfl dX7_init_22 ?_
  refine VK_aload_n C0 0 rfl rfl dX7_init_25 ?_
  refine VK_aload_n C0 1 rfl rfl dX7_init_26 ?_
  refine VK_putF C0 (by omega) hnm 6 0 p ff_X7_21 (by omega) upE_at (Nat.le_of_ble_eq_true rfl) (ty := (.object "SmallCraft$Yard")) (by decide +kernel) rfl rfl dX7_init_27 ?_
  exact VK_vret C0 dX7_init_30
theorem dX6_init_0 : decode cX6_init 0 = .ok (.aload_n 0, 1) := by decide +kernel
theorem dX6_init_1 : decode cX6_init 1 = .ok (.invokespecial 3, 3) := by decide +kernel
theorem dX6_init_4 : decode cX6_init 4 = .ok (.aload_n 0, 1) := by decide +kernel
theorem dX6_init_5 : decode cX6_init 5 = .ok (.bipush 20, 2) := by decide +kernel
theorem dX6_init_7 : decode cX6_init 7 = .ok (.newarray .int, 2) := by decide +kernel
theorem dX6_init_9 : decode cX6_init 9 = .ok (.putfield 9, 3) := by decide +kernel
theorem dX6_init_12 : decode cX6_init 12 = .ok (.aload_n 0, 1) := by decide +kernel
theorem dX6_init_13 : decode cX6_init 13 = .ok (.aload_n 1, 1) := by decide +kernel
theorem dX6_init_14 : decode cX6_init 14 = .ok (.putfield 15, 3) := by decide +kernel
theorem dX6_init_17 : decode cX6_init 17 = .ok (.return_, 1) := by decide +kernel
def E_X6_init (cA : Nat → ClassId) (bs k p : Nat) (y : Nat) (E : Nat → va_E) : Nat → va_E := (upE (upE (upE E k (.inl (cA 0, 20, .inl (fun _ => 0)))) p (.inr (5, ((dfl 5).set 1 (Value.ref (bs + k)))))) p (.inr (5, (((dfl 5).set 1 (Value.ref (bs + k))).set 0 (Value.ref (bs + y))))))
theorem E_X6_init_ne {cA : Nat → ClassId} {bs k p y : Nat} {E : Nat → va_E} {j : Nat} (h : j ≠ p) (hj : j < k) : E_X6_init cA bs k p y E j = E j := by
  unfold E_X6_init
  repeat first | rfl | rw [upE_ne (by omega)]
set_option maxRecDepth 100000 in
set_option maxHeartbeats 4000000 in
theorem k_X6_init (l : Launch) (D : va_G) (cA : Nat → ClassId) (ad : Nat → Nat) (bs : Nat) (X : State → Prop) (hAd : Ax ad bs) (hX : Stb bs X) (k p : Nat) (y : Nat) (E : Nat → va_E) (hp : p < k) (he : E p = .inr (5, dfl 5)) : CnK l D cA bs X yX6_init cX6_init 2 1 20 1 20 [.ref (bs + p), .ref (bs + y)] k E (k + 1) (E_X6_init cA bs k p y E) := by
  refine CnK.ofV hAd hX [(0, .ref (bs + p)), (1, .ref (bs + y))] rfl (Nat.le_of_ble_eq_true rfl) (by decide) ?_
  intro G el eD ecA ead ebs eX erm eNL hnm hz C0
  subst el eD ecA ead ebs eX
  refine VK_aload_n C0 0 rfl rfl dX6_init_0 ?_
  refine VK_obj C0 lo_X6 (by rw [erm]; decide) (Nat.le_of_ble_eq_true rfl) dX6_init_1 ?_
  refine VK_aload_n C0 0 rfl rfl dX6_init_4 ?_
  refine VK_bipush C0 (v := (20 : Int32)) (by decide) dX6_init_5 ?_
  refine VK_newI C0 20 (by decide) (by decide +kernel) (by decide) (by rw [erm]; decide) (by rw [erm]; decide) dX6_init_7 ?_
  refine VK_putF C0 (by omega) hnm 5 1 p ff_X6_9 (by omega) ((upE_ne (by omega)).trans he) (Nat.le_of_ble_eq_true rfl) (ty := (.array .int)) (by decide +kernel) rfl rfl dX6_init_9 ?_
  refine VK_aload_n C0 0 rfl rfl dX6_init_12 ?_
  refine VK_aload_n C0 1 rfl rfl dX6_init_13 ?_
  refine VK_putF C0 (by omega) hnm 5 0 p ff_X6_15 (by omega) upE_at (Nat.le_of_ble_eq_true rfl) (ty := (.object "SmallCraft$Yard")) (by decide +kernel) rfl rfl dX6_init_14 ?_
  exact VK_vret C0 dX6_init_17
