theorem lo_X2 : Cond.methodLink RX2 3 Lib.objectInit ∈ gW := gW_in _ (tb_1 _ (List.mem_of_getElem? (i := 181) rfl)) rfl
theorem ff_X2_11 : FFk RX2 11 2 4 "[I" := ⟨_, rfl, by decide, rfl, rfl, rfl, gW_in _ (tb_2 _ (List.mem_of_getElem? (i := 79) rfl)) rfl⟩
theorem ff_X2_15 : FFk RX2 15 2 0 "LSmallCraft$Yard;" := ⟨_, rfl, by decide, rfl, rfl, rfl, gW_in _ (tb_2 _ (List.mem_of_getElem? (i := 75) rfl)) rfl⟩
theorem kl_X2_19 : Cond.classLink "SmallCraft$Flight" 19 "SmallCraft$Steering" ∈ gW := gW_in _ (tb_1 _ (List.mem_of_getElem? (i := 182) rfl)) rfl
theorem ki_X7 : Cond.instantiable "SmallCraft$Steering" 4 ∈ gW := gW_in _ (tb_1 _ (List.mem_of_getElem? (i := 183) rfl)) rfl
theorem kn_X7 : Cond.initialized "SmallCraft$Steering" ∈ gW := gW_in _ (tb_1 _ (List.mem_of_getElem? (i := 7) rfl)) rfl
theorem lI_X2_21 : LkI RX2 21 yX7_init := ⟨Or.inl (gW_in _ (tb_1 _ (List.mem_of_getElem? (i := 184) rfl)) rfl), gW_in _ (tb_1 _ (List.mem_of_getElem? (i := 185) rfl)) rfl⟩
theorem lc_X7_init : LkC yX7_init cX7_init 2 none 1 := ⟨gW_in _ (tb_1 _ (List.mem_of_getElem? (i := 186) rfl)) rfl, gW_in _ (tb_1 _ (List.mem_of_getElem? (i := 7) rfl)) rfl, by decide +kernel⟩
theorem ff_X2_24 : FFk RX2 24 2 1 "LSmallCraft$Steering;" := ⟨_, rfl, by decide, rfl, rfl, rfl, gW_in _ (tb_2 _ (List.mem_of_getElem? (i := 76) rfl)) rfl⟩
theorem kl_X2_28 : Cond.classLink "SmallCraft$Flight" 28 "SmallCraft$Plant" ∈ gW := gW_in _ (tb_1 _ (List.mem_of_getElem? (i := 201) rfl)) rfl
theorem ki_X6 : Cond.instantiable "SmallCraft$Plant" 6 ∈ gW := gW_in _ (tb_1 _ (List.mem_of_getElem? (i := 202) rfl)) rfl
theorem kn_X6 : Cond.initialized "SmallCraft$Plant" ∈ gW := gW_in _ (tb_1 _ (List.mem_of_getElem? (i := 8) rfl)) rfl
theorem lI_X2_30 : LkI RX2 30 yX6_init := ⟨Or.inl (gW_in _ (tb_1 _ (List.mem_of_getElem? (i := 203) rfl)) rfl), gW_in _ (tb_1 _ (List.mem_of_getElem? (i := 204) rfl)) rfl⟩
theorem lc_X6_init : LkC yX6_init cX6_init 2 none 1 := ⟨gW_in _ (tb_1 _ (List.mem_of_getElem? (i := 205) rfl)) rfl, gW_in _ (tb_1 _ (List.mem_of_getElem? (i := 8) rfl)) rfl, by decide +kernel⟩
theorem ff_X2_31 : FFk RX2 31 2 2 "LSmallCraft$Plant;" := ⟨_, rfl, by decide, rfl, rfl, rfl, gW_in _ (tb_2 _ (List.mem_of_getElem? (i := 77) rfl)) rfl⟩
theorem kl_X2_35 : Cond.classLink "SmallCraft$Flight" 35 "SmallCraft$Downlink" ∈ gW := gW_in _ (tb_1 _ (List.mem_of_getElem? (i := 226) rfl)) rfl
theorem ki_X1 : Cond.instantiable "SmallCraft$Downlink" 2 ∈ gW := gW_in _ (tb_1 _ (List.mem_of_getElem? (i := 227) rfl)) rfl
theorem kn_X1 : Cond.initialized "SmallCraft$Downlink" ∈ gW := gW_in _ (tb_1 _ (List.mem_of_getElem? (i := 9) rfl)) rfl
theorem lI_X2_37 : LkI RX2 37 yX1_init := ⟨Or.inr ⟨"SmallCraft", nW_in _ (tb_1 _ (List.mem_of_getElem? (i := 228) rfl)) rfl⟩, gW_in _ (tb_1 _ (List.mem_of_getElem? (i := 229) rfl)) rfl⟩
theorem lc_X1_init : LkC yX1_init cX1_init 1 none 0 := ⟨gW_in _ (tb_1 _ (List.mem_of_getElem? (i := 230) rfl)) rfl, gW_in _ (tb_1 _ (List.mem_of_getElem? (i := 9) rfl)) rfl, by decide +kernel⟩
theorem ff_X2_38 : FFk RX2 38 2 3 "LSmallCraft$Downlink;" := ⟨_, rfl, by decide, rfl, rfl, rfl, gW_in _ (tb_2 _ (List.mem_of_getElem? (i := 78) rfl)) rfl⟩
theorem kl_X2_42 : Cond.classLink "SmallCraft$Flight" 42 "SmallCraft$Plan" ∈ gW := gW_in _ (tb_1 _ (List.mem_of_getElem? (i := 239) rfl)) rfl
theorem ki_X5 : Cond.instantiable "SmallCraft$Plan" 3 ∈ gW := gW_in _ (tb_2 _ (List.mem_of_getElem? (i := 0) rfl)) rfl
theorem kn_X5 : Cond.initialized "SmallCraft$Plan" ∈ gW := gW_in _ (tb_1 _ (List.mem_of_getElem? (i := 10) rfl)) rfl
theorem lI_X2_44 : LkI RX2 44 yX5_init := ⟨Or.inl (gW_in _ (tb_2 _ (List.mem_of_getElem? (i := 1) rfl)) rfl), gW_in _ (tb_2 _ (List.mem_of_getElem? (i := 2) rfl)) rfl⟩
theorem lc_X5_init : LkC yX5_init cX5_init 2 none 0 := ⟨gW_in _ (tb_2 _ (List.mem_of_getElem? (i := 3) rfl)) rfl, gW_in _ (tb_1 _ (List.mem_of_getElem? (i := 10) rfl)) rfl, by decide +kernel⟩
theorem lo_X11 : Cond.methodLink RX11 1 Lib.objectInit ∈ gW := gW_in _ (tb_1 _ (List.mem_of_getElem? (i := 32) rfl)) rfl
theorem kl_X11_7 : Cond.classLink "SmallCraft" 7 "SmallCraft$Yard" ∈ gW := gW_in _ (tb_1 _ (List.mem_of_getElem? (i := 35) rfl)) rfl
theorem ki_X10 : Cond.instantiable "SmallCraft$Yard" 9 ∈ gW := gW_in _ (tb_1 _ (List.mem_of_getElem? (i := 36) rfl)) rfl
theorem kn_X10 : Cond.initialized "SmallCraft$Yard" ∈ gW := gW_in _ (tb_1 _ (List.mem_of_getElem? (i := 2) rfl)) rfl
theorem lI_X11_9 : LkI RX11 9 yX10_init := ⟨Or.inl (gW_in _ (tb_1 _ (List.mem_of_getElem? (i := 37) rfl)) rfl), gW_in _ (tb_1 _ (List.mem_of_getElem? (i := 38) rfl)) rfl⟩
theorem lc_X10_init : LkC yX10_init cX10_init 2 none 0 := ⟨gW_in _ (tb_1 _ (List.mem_of_getElem? (i := 39) rfl)) rfl, gW_in _ (tb_1 _ (List.mem_of_getElem? (i := 2) rfl)) rfl, by decide +kernel⟩
theorem kl_X11_10 : Cond.classLink "SmallCraft" 10 "SmallCraft$Text" ∈ gW := gW_in _ (tb_1 _ (List.mem_of_getElem? (i := 119) rfl)) rfl
theorem ki_X8 : Cond.instantiable "SmallCraft$Text" 10 ∈ gW := gW_in _ (tb_1 _ (List.mem_of_getElem? (i := 120) rfl)) rfl
theorem kn_X8 : Cond.initialized "SmallCraft$Text" ∈ gW := gW_in _ (tb_1 _ (List.mem_of_getElem? (i := 4) rfl)) rfl
theorem lI_X11_12 : LkI RX11 12 yX8_init := ⟨Or.inr ⟨"SmallCraft", nW_in _ (tb_1 _ (List.mem_of_getElem? (i := 121) rfl)) rfl⟩, gW_in _ (tb_1 _ (List.mem_of_getElem? (i := 122) rfl)) rfl⟩
theorem lc_X8_init : LkC yX8_init cX8_init 1 none 0 := ⟨gW_in _ (tb_1 _ (List.mem_of_getElem? (i := 123) rfl)) rfl, gW_in _ (tb_1 _ (List.mem_of_getElem? (i := 4) rfl)) rfl, by decide +kernel⟩
theorem ff_X11_13 : FFk RX11 13 10 0 "LSmallCraft$Text;" := ⟨_, rfl, by decide, rfl, rfl, rfl, gW_in _ (tb_2 _ (List.mem_of_getElem? (i := 117) rfl)) rfl⟩
theorem kl_X11_19 : Cond.classLink "SmallCraft" 19 "SmallCraft$Book" ∈ gW := gW_in _ (tb_1 _ (List.mem_of_getElem? (i := 156) rfl)) rfl
theorem ki_X0 : Cond.instantiable "SmallCraft$Book" 4 ∈ gW := gW_in _ (tb_1 _ (List.mem_of_getElem? (i := 157) rfl)) rfl
theorem kn_X0 : Cond.initialized "SmallCraft$Book" ∈ gW := gW_in _ (tb_1 _ (List.mem_of_getElem? (i := 5) rfl)) rfl
theorem lI_X11_21 : LkI RX11 21 yX0_init := ⟨Or.inr ⟨"SmallCraft", nW_in _ (tb_1 _ (List.mem_of_getElem? (i := 158) rfl)) rfl⟩, gW_in _ (tb_1 _ (List.mem_of_getElem? (i := 159) rfl)) rfl⟩
theorem lc_X0_init : LkC yX0_init cX0_init 1 none 0 := ⟨gW_in _ (tb_1 _ (List.mem_of_getElem? (i := 160) rfl)) rfl, gW_in _ (tb_1 _ (List.mem_of_getElem? (i := 5) rfl)) rfl, by decide +kernel⟩
theorem ff_X11_22 : FFk RX11 22 10 1 "LSmallCraft$Book;" := ⟨_, rfl, by decide, rfl, rfl, rfl, gW_in _ (tb_2 _ (List.mem_of_getElem? (i := 118) rfl)) rfl⟩
theorem ff_X11_26 : FFk RX11 26 10 2 "LSmallCraft$Yard;" := ⟨_, rfl, by decide, rfl, rfl, rfl, gW_in _ (tb_2 _ (List.mem_of_getElem? (i := 119) rfl)) rfl⟩
theorem kl_X11_30 : Cond.classLink "SmallCraft" 30 "SmallCraft$Flight" ∈ gW := gW_in _ (tb_1 _ (List.mem_of_getElem? (i := 176) rfl)) rfl
theorem ki_X2 : Cond.instantiable "SmallCraft$Flight" 13 ∈ gW := gW_in _ (tb_1 _ (List.mem_of_getElem? (i := 177) rfl)) rfl
theorem kn_X2 : Cond.initialized "SmallCraft$Flight" ∈ gW := gW_in _ (tb_1 _ (List.mem_of_getElem? (i := 6) rfl)) rfl
theorem lI_X11_32 : LkI RX11 32 yX2_init := ⟨Or.inl (gW_in _ (tb_1 _ (List.mem_of_getElem? (i := 178) rfl)) rfl), gW_in _ (tb_1 _ (List.mem_of_getElem? (i := 179) rfl)) rfl⟩
theorem lc_X2_init : LkC yX2_init cX2_init 2 none 1 := ⟨gW_in _ (tb_1 _ (List.mem_of_getElem? (i := 180) rfl)) rfl, gW_in _ (tb_1 _ (List.mem_of_getElem? (i := 6) rfl)) rfl, by decide +kernel⟩
theorem ff_X11_35 : FFk RX11 35 10 3 "LSmallCraft$Flight;" := ⟨_, rfl, by decide, rfl, rfl, rfl, gW_in _ (tb_2 _ (List.mem_of_getElem? (i := 120) rfl)) rfl⟩
theorem kl_X11_39 : Cond.classLink "SmallCraft" 39 "SmallCraft$Plan" ∈ gW := gW_in _ (tb_2 _ (List.mem_of_getElem? (i := 115) rfl)) rfl
theorem lI_X11_41 : LkI RX11 41 yX5_init := ⟨Or.inl (gW_in _ (tb_2 _ (List.mem_of_getElem? (i := 116) rfl)) rfl), gW_in _ (tb_2 _ (List.mem_of_getElem? (i := 2) rfl)) rfl⟩
theorem dX2_init_0 : decode cX2_init 0 = .ok (.aload_n 0, 1) := by decide +kernel
theorem dX2_init_1 : decode cX2_init 1 = .ok (.invokespecial 3, 3) := by decide +kernel
theorem dX2_init_4 : decode cX2_init 4 = .ok (.aload_n 0, 1) := by decide +kernel
theorem dX2_init_5 : decode cX2_init 5 = .ok (.bipush 12, 2) := by decide +kernel
theorem dX2_init_7 : decode cX2_init 7 = .ok (.newarray .int, 2) := by decide +kernel
theorem dX2_init_9 : decode cX2_init 9 = .ok (.putfield 11, 3) := by decide +kernel
theorem dX2_init_12 : decode cX2_init 12 = .ok (.aload_n 0, 1) := by decide +kernel
theorem dX2_init_13 : decode cX2_init 13 = .ok (.aload_n 1, 1) := by decide +kernel
theorem dX2_init_14 : decode cX2_init 14 = .ok (.putfield 15, 3) := by decide +kernel
theorem dX2_init_17 : decode cX2_init 17 = .ok (.aload_n 0, 1) := by decide +kernel
theorem dX2_init_18 : decode cX2_init 18 = .ok (.new 19, 3) := by decide +kernel
theorem dX2_init_21 : decode cX2_init 21 = .ok (.dup, 1) := by decide +kernel
theorem dX2_init_22 : decode cX2_init 22 = .ok (.aload_n 1, 1) := by decide +kernel
theorem dX2_init_23 : decode cX2_init 23 = .ok (.invokespecial 21, 3) := by decide +kernel
theorem dX2_init_26 : decode cX2_init 26 = .ok (.putfield 24, 3) := by decide +kernel
theorem dX2_init_29 : decode cX2_init 29 = .ok (.aload_n 0, 1) := by decide +kernel
theorem dX2_init_30 : decode cX2_init 30 = .ok (.new 28, 3) := by decide +kernel
theorem dX2_init_33 : decode cX2_init 33 = .ok (.dup, 1) := by decide +kernel
theorem dX2_init_34 : decode cX2_init 34 = .ok (.aload_n 1, 1) := by decide +kernel
theorem dX2_init_35 : decode cX2_init 35 = .ok (.invokespecial 30, 3) := by decide +kernel
theorem dX2_init_38 : decode cX2_init 38 = .ok (.putfield 31, 3) := by decide +kernel
theorem dX2_init_41 : decode cX2_init 41 = .ok (.aload_n 0, 1) := by decide +kernel
theorem dX2_init_42 : decode cX2_init 42 = .ok (.new 35, 3) := by decide +kernel
theorem dX2_init_45 : decode cX2_init 45 = .ok (.dup, 1) := by decide +kernel
theorem dX2_init_46 : decode cX2_init 46 = .ok (.invokespecial 37, 3) := by decide +kernel
theorem dX2_init_49 : decode cX2_init 49 = .ok (.putfield 38, 3) := by decide +kernel
theorem dX2_init_52 : decode cX2_init 52 = .ok (.aload_n 0, 1) := by decide +kernel
theorem dX2_init_53 : decode cX2_init 53 = .ok (.new 42, 3) := by decide +kernel
theorem dX2_init_56 : decode cX2_init 56 = .ok (.dup, 1) := by decide +kernel
theorem dX2_init_57 : decode cX2_init 57 = .ok (.invokespecial 44, 3) := by decide +kernel
theorem dX2_init_60 : decode cX2_init 60 = .ok (.putfield 45, 3) := by decide +kernel
theorem dX2_init_63 : decode cX2_init 63 = .ok (.return_, 1) := by decide +kernel
def E_X2_init (cA : Nat → ClassId) (bs k p : Nat) (y : Nat) (E : Nat → va_E) : Nat → va_E := (upE (E_X5_init cA bs (k + 10) (k + 9) (upE (upE (E_X1_init cA bs (k + 8) (k + 7) (upE (upE (E_X6_init cA bs (k + 6) (k + 5) (y) (upE (upE (E_X7_init cA bs (k + 2) (k + 1) (y) (upE (upE (upE (upE E k (.inl (cA 0, 12, .inl (fun _ => 0)))) p (.inr (2, ((dfl 2).set 4 (Value.ref (bs + k)))))) p (.inr (2, (((dfl 2).set 4 (Value.ref (bs + k))).set 0 (Value.ref (bs + y)))))) (k + 1) (.inr (6, dfl 6)))) p (.inr (2, ((((dfl 2).set 4 (Value.ref (bs + k))).set 0 (Value.ref (bs + y))).set 1 (Value.ref (bs + (k + 1))))))) (k + 5) (.inr (5, dfl 5)))) p (.inr (2, (((((dfl 2).set 4 (Value.ref (bs + k))).set 0 (Value.ref (bs + y))).set 1 (Value.ref (bs + (k + 1)))).set 2 (Value.ref (bs + (k + 5))))))) (k + 7) (.inr (1, dfl 1)))) p (.inr (2, ((((((dfl 2).set 4 (Value.ref (bs + k))).set 0 (Value.ref (bs + y))).set 1 (Value.ref (bs + (k + 1)))).set 2 (Value.ref (bs + (k + 5)))).set 3 (Value.ref (bs + (k + 7))))))) (k + 9) (.inr (4, dfl 4)))) p (.inr (2, (((((((dfl 2).set 4 (Value.ref (bs + k))).set 0 (Value.ref (bs + y))).set 1 (Value.ref (bs + (k + 1)))).set 2 (Value.ref (bs + (k + 5)))).set 3 (Value.ref (bs + (k + 7)))).set 5 (Value.ref (bs + (k + 9)))))))
theorem E_X2_init_ne {cA : Nat → ClassId} {bs k p y : Nat} {E : Nat → va_E} {j : Nat} (h : j ≠ p) (hj : j < k) : E_X2_init cA bs k p y E j = E j := by
  unfold E_X2_init
  repeat first | rfl | rw [upE_ne (by omega)] | rw [E_X1_init_ne (by omega) (by omega)] | rw [E_X5_init_ne (by omega) (by omega)] | rw [E_X6_init_ne (by omega) (by omega)] | rw [E_X7_init_ne (by omega) (by omega)]
set_option maxRecDepth 100000 in
set_option maxHeartbeats 4000000 in
theorem k_X2_init (l : Launch) (D : va_G) (cA : Nat → ClassId) (ad : Nat → Nat) (bs : Nat) (X : State → Prop) (hAd : Ax ad bs) (hX : Stb bs X) (hao : Ssd X) (k p : Nat) (y : Nat) (E : Nat → va_E) (hp : p < k) (he : E p = .inr (2, dfl 2)) : CnK l D cA bs X yX2_init cX2_init 2 3 61 42 927 [.ref (bs + p), .ref (bs + y)] k E (k + 42) (E_X2_init cA bs k p y E) := by
  refine CnK.ofV hAd hX [(0, .ref (bs + p)), (1, .ref (bs + y))] rfl (Nat.le_of_ble_eq_true rfl) (by decide) ?_
  intro G el eD ecA ead ebs eX erm eNL hnm hz C0
  subst el eD ecA ead ebs eX
  refine VK_aload_n C0 0 rfl rfl dX2_init_0 ?_
  refine VK_obj C0 lo_X2 (by rw [erm]; decide) (Nat.le_of_ble_eq_true rfl) dX2_init_1 ?_
  refine VK_aload_n C0 0 rfl rfl dX2_init_4 ?_
  refine VK_bipush C0 (v := (12 : Int32)) (by decide) dX2_init_5 ?_
  refine VK_newI C0 12 (by decide) (by decide +kernel) (by decide) (by rw [erm]; decide) (by rw [erm]; decide) dX2_init_7 ?_
  refine VK_putF C0 (by omega) hnm 2 4 p ff_X2_11 (by omega) ((upE_ne (by omega)).trans he) (Nat.le_of_ble_eq_true rfl) (ty := (.array .int)) (by decide +kernel) rfl rfl dX2_init_9 ?_
  refine VK_aload_n C0 0 rfl rfl dX2_init_12 ?_
  refine VK_aload_n C0 1 rfl rfl dX2_init_13 ?_
  refine VK_putF C0 (by omega) hnm 2 0 p ff_X2_15 (by omega) upE_at (Nat.le_of_ble_eq_true rfl) (ty := (.object "SmallCraft$Yard")) (by decide +kernel) rfl rfl dX2_init_14 ?_
  refine VK_aload_n C0 0 rfl rfl dX2_init_17 ?_
  refine VK_new C0 6 _ _ 4 rfl kl_X2_19 ki_X7 kn_X7 (by rw [erm]; decide) (by rw [erm]; decide) dX2_init_18 ?_
  refine VK_dup C0 rfl dX2_init_21 ?_
  refine VK_aload_n C0 1 rfl rfl dX2_init_22 ?_
  refine VK_callI C0 (st := [.ref (G.bs + (k + 1)), .ref (G.bs + p)]) (As := [.ref (G.bs + y)]) (k_X7_init G.l G.D G.cA G.ad G.bs G.X C0.2.2.2.2.2.2.2.2.2.1 C0.2.2.2.2.2.2.2.2.2.2.2.2 (k + 2) (k + 1) (y) _ (by omega) upE_at) lc_X7_init lI_X2_21 rfl rfl (by rw [erm]; decide) (by rw [erm]; decide) (Nat.le_of_ble_eq_true rfl) dX2_init_23 ?_
  refine VK_putF C0 (by omega) hnm 2 1 p ff_X2_24 (by omega) ((E_X7_init_ne (by omega) (by omega)).trans ((upE_ne (by omega)).trans upE_at)) (Nat.le_of_ble_eq_true rfl) (ty := (.object "SmallCraft$Steering")) (by decide +kernel) rfl rfl dX2_init_26 ?_
  refine VK_aload_n C0 0 rfl rfl dX2_init_29 ?_
  refine VK_new C0 5 _ _ 6 rfl kl_X2_28 ki_X6 kn_X6 (by rw [erm]; decide) (by rw [erm]; decide) dX2_init_30 ?_
  refine VK_dup C0 rfl dX2_init_33 ?_
  refine VK_aload_n C0 1 rfl rfl dX2_init_34 ?_
  refine VK_callI C0 (st := [.ref (G.bs + (k + 5)), .ref (G.bs + p)]) (As := [.ref (G.bs + y)]) (k_X6_init G.l G.D G.cA G.ad G.bs G.X C0.2.2.2.2.2.2.2.2.2.1 C0.2.2.2.2.2.2.2.2.2.2.2.2 (k + 6) (k + 5) (y) _ (by omega) upE_at) lc_X6_init lI_X2_30 rfl rfl (by rw [erm]; decide) (by rw [erm]; decide) (Nat.le_of_ble_eq_true rfl) dX2_init_35 ?_
  refine VK_putF C0 (by omega) hnm 2 2 p ff_X2_31 (by omega) ((E_X6_init_ne (by omega) (by omega)).trans ((upE_ne (by omega)).trans upE_at)) (Nat.le_of_ble_eq_true rfl) (ty := (.object "SmallCraft$Plant")) (by decide +kernel) rfl rfl dX2_init_38 ?_
  refine VK_aload_n C0 0 rfl rfl dX2_init_41 ?_
  refine VK_new C0 1 _ _ 2 rfl kl_X2_35 ki_X1 kn_X1 (by rw [erm]; decide) (by rw [erm]; decide) dX2_init_42 ?_
  refine VK_dup C0 rfl dX2_init_45 ?_
  refine VK_callI C0 (st := [.ref (G.bs + (k + 7)), .ref (G.bs + p)]) (As := []) (k_X1_init G.l G.D G.cA G.ad G.bs G.X C0.2.2.2.2.2.2.2.2.2.1 C0.2.2.2.2.2.2.2.2.2.2.2.2 (k + 8) (k + 7) _ (by omega) upE_at) lc_X1_init lI_X2_37 rfl rfl (by rw [erm]; decide) (by rw [erm]; decide) (Nat.le_of_ble_eq_true rfl) dX2_init_46 ?_
  refine VK_putF C0 (by omega) hnm 2 3 p ff_X2_38 (by omega) ((E_X1_init_ne (by omega) (by omega)).trans ((upE_ne (by omega)).trans upE_at)) (Nat.le_of_ble_eq_true rfl) (ty := (.object "SmallCraft$Downlink")) (by decide +kernel) rfl rfl dX2_init_49 ?_
  refine VK_aload_n C0 0 rfl rfl dX2_init_52 ?_
  refine VK_new C0 4 _ _ 3 rfl kl_X2_42 ki_X5 kn_X5 (by rw [erm]; decide) (by rw [erm]; decide) dX2_init_53 ?_
  refine VK_dup C0 rfl dX2_init_56 ?_
  refine VK_callI C0 (st := [.ref (G.bs + (k + 9)), .ref (G.bs + p)]) (As := []) (k_X5_init G.l G.D G.cA G.ad G.bs G.X C0.2.2.2.2.2.2.2.2.2.1 C0.2.2.2.2.2.2.2.2.2.2.2.2 hao (k + 10) (k + 9) _ (by omega) upE_at) lc_X5_init lI_X2_44 rfl rfl (by rw [erm]; decide) (by rw [erm]; decide) (Nat.le_of_ble_eq_true rfl) dX2_init_57 ?_
  refine VK_put C0 (by omega) 2 5 p fp_X2_45 (by omega) ((E_X5_init_ne (by omega) (by omega)).trans ((upE_ne (by omega)).trans upE_at)) (Nat.le_of_ble_eq_true rfl) (ty := (.object "SmallCraft$Plan")) (by decide +kernel) rfl rfl dX2_init_60 ?_
  exact VK_vret C0 dX2_init_63
theorem dX11_init_0 : decode cX11_init 0 = .ok (.aload_n 0, 1) := by decide +kernel
theorem dX11_init_1 : decode cX11_init 1 = .ok (.invokespecial 1, 3) := by decide +kernel
theorem dX11_init_4 : decode cX11_init 4 = .ok (.new 7, 3) := by decide +kernel
theorem dX11_init_7 : decode cX11_init 7 = .ok (.dup, 1) := by decide +kernel
theorem dX11_init_8 : decode cX11_init 8 = .ok (.invokespecial 9, 3) := by decide +kernel
theorem dX11_init_11 : decode cX11_init 11 = .ok (.astore_n 1, 1) := by decide +kernel
theorem dX11_init_12 : decode cX11_init 12 = .ok (.aload_n 0, 1) := by decide +kernel
theorem dX11_init_13 : decode cX11_init 13 = .ok (.new 10, 3) := by decide +kernel
theorem dX11_init_16 : decode cX11_init 16 = .ok (.dup, 1) := by decide +kernel
theorem dX11_init_17 : decode cX11_init 17 = .ok (.invokespecial 12, 3) := by decide +kernel
theorem dX11_init_20 : decode cX11_init 20 = .ok (.putfield 13, 3) := by decide +kernel
theorem dX11_init_23 : decode cX11_init 23 = .ok (.aload_n 0, 1) := by decide +kernel
theorem dX11_init_24 : decode cX11_init 24 = .ok (.new 19, 3) := by decide +kernel
theorem dX11_init_27 : decode cX11_init 27 = .ok (.dup, 1) := by decide +kernel
theorem dX11_init_28 : decode cX11_init 28 = .ok (.invokespecial 21, 3) := by decide +kernel
theorem dX11_init_31 : decode cX11_init 31 = .ok (.putfield 22, 3) := by decide +kernel
theorem dX11_init_34 : decode cX11_init 34 = .ok (.aload_n 0, 1) := by decide +kernel
theorem dX11_init_35 : decode cX11_init 35 = .ok (.aload_n 1, 1) := by decide +kernel
theorem dX11_init_36 : decode cX11_init 36 = .ok (.putfield 26, 3) := by decide +kernel
theorem dX11_init_39 : decode cX11_init 39 = .ok (.aload_n 0, 1) := by decide +kernel
theorem dX11_init_40 : decode cX11_init 40 = .ok (.new 30, 3) := by decide +kernel
theorem dX11_init_43 : decode cX11_init 43 = .ok (.dup, 1) := by decide +kernel
theorem dX11_init_44 : decode cX11_init 44 = .ok (.aload_n 1, 1) := by decide +kernel
theorem dX11_init_45 : decode cX11_init 45 = .ok (.invokespecial 32, 3) := by decide +kernel
theorem dX11_init_48 : decode cX11_init 48 = .ok (.putfield 35, 3) := by decide +kernel
theorem dX11_init_51 : decode cX11_init 51 = .ok (.aload_n 0, 1) := by decide +kernel
theorem dX11_init_52 : decode cX11_init 52 = .ok (.new 39, 3) := by decide +kernel
theorem dX11_init_55 : decode cX11_init 55 = .ok (.dup, 1) := by decide +kernel
theorem dX11_init_56 : decode cX11_init 56 = .ok (.invokespecial 41, 3) := by decide +kernel
theorem dX11_init_59 : decode cX11_init 59 = .ok (.putfield 42, 3) := by decide +kernel
theorem dX11_init_62 : decode cX11_init 62 = .ok (.return_, 1) := by decide +kernel
def E_X11_init (cA : Nat → ClassId) (bs k p : Nat) (E : Nat → va_E) : Nat → va_E := (upE (E_X5_init cA bs (k + 137) (k + 136) (upE (upE (E_X2_init cA bs (k + 94) (k + 93) (k) (upE (upE (upE (E_X0_init cA bs (k + 90) (k + 89) (upE (upE (E_X8_init cA bs (k + 88) (k + 87) (upE (E_X10_init cA bs (k + 1) k (upE E k (.inr (9, dfl 9)))) (k + 87) (.inr (7, dfl 7)))) p (.inr (10, ((dfl 10).set 0 (Value.ref (bs + (k + 87))))))) (k + 89) (.inr (0, dfl 0)))) p (.inr (10, (((dfl 10).set 0 (Value.ref (bs + (k + 87)))).set 1 (Value.ref (bs + (k + 89))))))) p (.inr (10, ((((dfl 10).set 0 (Value.ref (bs + (k + 87)))).set 1 (Value.ref (bs + (k + 89)))).set 2 (Value.ref (bs + k)))))) (k + 93) (.inr (2, dfl 2)))) p (.inr (10, (((((dfl 10).set 0 (Value.ref (bs + (k + 87)))).set 1 (Value.ref (bs + (k + 89)))).set 2 (Value.ref (bs + k))).set 3 (Value.ref (bs + (k + 93))))))) (k + 136) (.inr (4, dfl 4)))) p (.inr (10, ((((((dfl 10).set 0 (Value.ref (bs + (k + 87)))).set 1 (Value.ref (bs + (k + 89)))).set 2 (Value.ref (bs + k))).set 3 (Value.ref (bs + (k + 93)))).set 4 (Value.ref (bs + (k + 136)))))))
theorem E_X11_init_ne {cA : Nat → ClassId} {bs k p : Nat} {E : Nat → va_E} {j : Nat} (h : j ≠ p) (hj : j < k) : E_X11_init cA bs k p E j = E j := by
  unfold E_X11_init
  repeat first | rfl | rw [upE_ne (by omega)] | rw [E_X0_init_ne (by omega) (by omega)] | rw [E_X10_init_ne (by omega) (by omega)] | rw [E_X2_init_ne (by omega) (by omega)] | rw [E_X5_init_ne (by omega) (by omega)] | rw [E_X8_init_ne (by omega) (by omega)]
set_option maxRecDepth 100000 in
set_option maxHeartbeats 4000000 in
theorem k_X11_init (l : Launch) (D : va_G) (cA : Nat → ClassId) (ad : Nat → Nat) (bs : Nat) (X : State → Prop) (hAd : Ax ad bs) (hX : Stb bs X) (hao : Ssd X) (k p : Nat) (E : Nat → va_E) (hp : p < k) (he : E p = .inr (10, dfl 10)) : CnK l D cA bs X yX11_init cX11_init 2 4 82 169 49437 [.ref (bs + p)] k E (k + 169) (E_X11_init cA bs k p E) := by
  refine CnK.ofV hAd hX [(0, .ref (bs + p))] rfl (Nat.le_of_ble_eq_true rfl) (by decide) ?_
  intro G el eD ecA ead ebs eX erm eNL hnm hz C0
  subst el eD ecA ead ebs eX
  refine VK_aload_n C0 0 rfl rfl dX11_init_0 ?_
  refine VK_obj C0 lo_X11 (by rw [erm]; decide) (Nat.le_of_ble_eq_true rfl) dX11_init_1 ?_
  refine VK_new C0 9 _ _ 9 rfl kl_X11_7 ki_X10 kn_X10 (by rw [erm]; decide) (by rw [erm]; decide) dX11_init_4 ?_
  refine VK_dup C0 rfl dX11_init_7 ?_
  refine VK_callI C0 (st := [.ref (G.bs + k)]) (As := []) (k_X10_init G.l G.D G.cA G.ad G.bs G.X C0.2.2.2.2.2.2.2.2.2.1 C0.2.2.2.2.2.2.2.2.2.2.2.2 hao (k + 1) k _ (by omega) upE_at) lc_X10_init lI_X11_9 rfl rfl (by rw [erm]; decide) (by rw [erm]; decide) (Nat.le_of_ble_eq_true rfl) dX11_init_8 ?_
  refine VK_astore_n C0 [(1, .ref (G.bs + k)), (0, .ref (G.bs + p))] rfl (by rw [eNL]; decide) rfl dX11_init_11 ?_
  refine VK_aload_n C0 1 rfl rfl dX11_init_12 ?_
  refine VK_new C0 7 _ _ 10 rfl kl_X11_10 ki_X8 kn_X8 (by rw [erm]; decide) (by rw [erm]; decide) dX11_init_13 ?_
  refine VK_dup C0 rfl dX11_init_16 ?_
  refine VK_callI C0 (st := [.ref (G.bs + (k + 87)), .ref (G.bs + p)]) (As := []) (k_X8_init G.l G.D G.cA G.ad G.bs G.X C0.2.2.2.2.2.2.2.2.2.1 C0.2.2.2.2.2.2.2.2.2.2.2.2 (k + 88) (k + 87) _ (by omega) upE_at) lc_X8_init lI_X11_12 rfl rfl (by rw [erm]; decide) (by rw [erm]; decide) (Nat.le_of_ble_eq_true rfl) dX11_init_17 ?_
  refine VK_putF C0 (by omega) hnm 10 0 p ff_X11_13 (by omega) ((E_X8_init_ne (by omega) (by omega)).trans ((upE_ne (by omega)).trans ((E_X10_init_ne (by omega) (by omega)).trans ((upE_ne (by omega)).trans he)))) (Nat.le_of_ble_eq_true rfl) (ty := (.object "SmallCraft$Text")) (by decide +kernel) rfl rfl dX11_init_20 ?_
  refine VK_aload_n C0 1 rfl rfl dX11_init_23 ?_
  refine VK_new C0 0 _ _ 4 rfl kl_X11_19 ki_X0 kn_X0 (by rw [erm]; decide) (by rw [erm]; decide) dX11_init_24 ?_
  refine VK_dup C0 rfl dX11_init_27 ?_
  refine VK_callI C0 (st := [.ref (G.bs + (k + 89)), .ref (G.bs + p)]) (As := []) (k_X0_init G.l G.D G.cA G.ad G.bs G.X C0.2.2.2.2.2.2.2.2.2.1 C0.2.2.2.2.2.2.2.2.2.2.2.2 (k + 90) (k + 89) _ (by omega) upE_at) lc_X0_init lI_X11_21 rfl rfl (by rw [erm]; decide) (by rw [erm]; decide) (Nat.le_of_ble_eq_true rfl) dX11_init_28 ?_
  refine VK_putF C0 (by omega) hnm 10 1 p ff_X11_22 (by omega) ((E_X0_init_ne (by omega) (by omega)).trans ((upE_ne (by omega)).trans upE_at)) (Nat.le_of_ble_eq_true rfl) (ty := (.object "SmallCraft$Book")) (by decide +kernel) rfl rfl dX11_init_31 ?_
  refine VK_aload_n C0 1 rfl rfl dX11_init_34 ?_
  refine VK_aload_n C0 0 rfl rfl dX11_init_35 ?_
  refine VK_putF C0 (by omega) hnm 10 2 p ff_X11_26 (by omega) upE_at (Nat.le_of_ble_eq_true rfl) (ty := (.object "SmallCraft$Yard")) (by decide +kernel) rfl rfl dX11_init_36 ?_
  refine VK_aload_n C0 1 rfl rfl dX11_init_39 ?_
  refine VK_new C0 2 _ _ 13 rfl kl_X11_30 ki_X2 kn_X2 (by rw [erm]; decide) (by rw [erm]; decide) dX11_init_40 ?_
  refine VK_dup C0 rfl dX11_init_43 ?_
  refine VK_aload_n C0 0 rfl rfl dX11_init_44 ?_
  refine VK_callI C0 (st := [.ref (G.bs + (k + 93)), .ref (G.bs + p)]) (As := [.ref (G.bs + k)]) (k_X2_init G.l G.D G.cA G.ad G.bs G.X C0.2.2.2.2.2.2.2.2.2.1 C0.2.2.2.2.2.2.2.2.2.2.2.2 hao (k + 94) (k + 93) (k) _ (by omega) upE_at) lc_X2_init lI_X11_32 rfl rfl (by rw [erm]; decide) (by rw [erm]; decide) (Nat.le_of_ble_eq_true rfl) dX11_init_45 ?_
  refine VK_putF C0 (by omega) hnm 10 3 p ff_X11_35 (by omega) ((E_X2_init_ne (by omega) (by omega)).trans ((upE_ne (by omega)).trans upE_at)) (Nat.le_of_ble_eq_true rfl) (ty := (.object "SmallCraft$Flight")) (by decide +kernel) rfl rfl dX11_init_48 ?_
  refine VK_aload_n C0 1 rfl rfl dX11_init_51 ?_
  refine VK_new C0 4 _ _ 3 rfl kl_X11_39 ki_X5 kn_X5 (by rw [erm]; decide) (by rw [erm]; decide) dX11_init_52 ?_
  refine VK_dup C0 rfl dX11_init_55 ?_
  refine VK_callI C0 (st := [.ref (G.bs + (k + 136)), .ref (G.bs + p)]) (As := []) (k_X5_init G.l G.D G.cA G.ad G.bs G.X C0.2.2.2.2.2.2.2.2.2.1 C0.2.2.2.2.2.2.2.2.2.2.2.2 hao (k + 137) (k + 136) _ (by omega) upE_at) lc_X5_init lI_X11_41 rfl rfl (by rw [erm]; decide) (by rw [erm]; decide) (Nat.le_of_ble_eq_true rfl) dX11_init_56 ?_
  refine VK_put C0 (by omega) 10 4 p fp_X11_42 (by omega) ((E_X5_init_ne (by omega) (by omega)).trans ((upE_ne (by omega)).trans upE_at)) (Nat.le_of_ble_eq_true rfl) (ty := (.object "SmallCraft$Plan")) (by decide +kernel) rfl rfl dX11_init_59 ?_
  exact VK_vret C0 dX11_init_62
