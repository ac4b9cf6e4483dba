theorem lo_X5 : Cond.methodLink RX5 3 Lib.objectInit ∈ gW := gW_in _ (tb_2 _ (List.mem_of_getElem? (i := 4) rfl)) rfl
theorem kl_X5_9 : Cond.classLink "SmallCraft$Plan" 9 "SmallCraft$Item" ∈ gW := gW_in _ (tb_2 _ (List.mem_of_getElem? (i := 5) rfl)) rfl
theorem ff_X5_11 : FFk RX5 11 4 0 "[LSmallCraft$Item;" := ⟨_, rfl, by decide, rfl, rfl, rfl, gW_in _ (tb_2 _ (List.mem_of_getElem? (i := 65) rfl)) rfl⟩
theorem ki_X3 : Cond.instantiable "SmallCraft$Item" 11 ∈ gW := gW_in _ (tb_2 _ (List.mem_of_getElem? (i := 7) rfl)) rfl
theorem kn_X3 : Cond.initialized "SmallCraft$Item" ∈ gW := gW_in _ (tb_1 _ (List.mem_of_getElem? (i := 11) rfl)) rfl
theorem lI_X5_17 : LkI RX5 17 yX3_init := ⟨Or.inr ⟨"SmallCraft", nW_in _ (tb_2 _ (List.mem_of_getElem? (i := 8) rfl)) rfl⟩, gW_in _ (tb_2 _ (List.mem_of_getElem? (i := 9) rfl)) rfl⟩
theorem lc_X3_init : LkC yX3_init cX3_init 1 none 0 := ⟨gW_in _ (tb_2 _ (List.mem_of_getElem? (i := 10) rfl)) rfl, gW_in _ (tb_1 _ (List.mem_of_getElem? (i := 11) rfl)) rfl, by decide +kernel⟩
theorem ff_X5_18 : FFk RX5 18 4 1 "LSmallCraft$Item;" := ⟨_, rfl, by decide, rfl, rfl, rfl, gW_in _ (tb_2 _ (List.mem_of_getElem? (i := 66) rfl)) rfl⟩
theorem lo_X10 : Cond.methodLink RX10 3 Lib.objectInit ∈ gW := gW_in _ (tb_1 _ (List.mem_of_getElem? (i := 40) rfl)) rfl
theorem kl_X10_9 : Cond.classLink "SmallCraft$Yard" 9 "SmallCraft$Unit" ∈ gW := gW_in _ (tb_1 _ (List.mem_of_getElem? (i := 41) rfl)) rfl
theorem ff_X10_11 : FFk RX10 11 9 0 "[LSmallCraft$Unit;" := ⟨_, rfl, by decide, rfl, rfl, rfl, gW_in _ (tb_1 _ (List.mem_of_getElem? (i := 91) rfl)) rfl⟩
theorem ki_X9 : Cond.instantiable "SmallCraft$Unit" 10 ∈ gW := gW_in _ (tb_1 _ (List.mem_of_getElem? (i := 43) rfl)) rfl
theorem kn_X9 : Cond.initialized "SmallCraft$Unit" ∈ gW := gW_in _ (tb_1 _ (List.mem_of_getElem? (i := 3) rfl)) rfl
theorem lI_X10_17 : LkI RX10 17 yX9_init := ⟨Or.inr ⟨"SmallCraft", nW_in _ (tb_1 _ (List.mem_of_getElem? (i := 44) rfl)) rfl⟩, gW_in _ (tb_1 _ (List.mem_of_getElem? (i := 45) rfl)) rfl⟩
theorem lc_X9_init : LkC yX9_init cX9_init 1 none 0 := ⟨gW_in _ (tb_1 _ (List.mem_of_getElem? (i := 46) rfl)) rfl, gW_in _ (tb_1 _ (List.mem_of_getElem? (i := 3) rfl)) rfl, by decide +kernel⟩
theorem ff_X10_18 : FFk RX10 18 9 1 "LSmallCraft$Unit;" := ⟨_, rfl, by decide, rfl, rfl, rfl, gW_in _ (tb_1 _ (List.mem_of_getElem? (i := 92) rfl)) rfl⟩
theorem ff_X10_22 : FFk RX10 22 9 2 "[I" := ⟨_, rfl, by decide, rfl, rfl, rfl, gW_in _ (tb_1 _ (List.mem_of_getElem? (i := 93) rfl)) rfl⟩
theorem dX5_init_0 : decode cX5_init 0 = .ok (.aload_n 0, 1) := by decide +kernel
theorem dX5_init_1 : decode cX5_init 1 = .ok (.invokespecial 3, 3) := by decide +kernel
theorem dX5_init_4 : decode cX5_init 4 = .ok (.aload_n 0, 1) := by decide +kernel
theorem dX5_init_5 : decode cX5_init 5 = .ok (.bipush 30, 2) := by decide +kernel
theorem dX5_init_7 : decode cX5_init 7 = .ok (.anewarray 9, 3) := by decide +kernel
theorem dX5_init_10 : decode cX5_init 10 = .ok (.putfield 11, 3) := by decide +kernel
theorem dX5_init_13 : decode cX5_init 13 = .ok (.aload_n 0, 1) := by decide +kernel
theorem dX5_init_14 : decode cX5_init 14 = .ok (.new 9, 3) := by decide +kernel
theorem dX5_init_17 : decode cX5_init 17 = .ok (.dup, 1) := by decide +kernel
theorem dX5_init_18 : decode cX5_init 18 = .ok (.invokespecial 17, 3) := by decide +kernel
theorem dX5_init_21 : decode cX5_init 21 = .ok (.putfield 18, 3) := by decide +kernel
theorem dX5_init_24 : decode cX5_init 24 = .ok (.iconst 0, 1) := by decide +kernel
theorem dX5_init_25 : decode cX5_init 25 = .ok (.istore_n 1, 1) := by decide +kernel
theorem dX5_init_26 : decode cX5_init 26 = .ok (.iload_n 1, 1) := by decide +kernel
theorem dX5_init_27 : decode cX5_init 27 = .ok (.aload_n 0, 1) := by decide +kernel
theorem dX5_init_28 : decode cX5_init 28 = .ok (.getfield 11, 3) := by decide +kernel
theorem dX5_init_31 : decode cX5_init 31 = .ok (.arraylength, 1) := by decide +kernel
theorem dX5_init_32 : decode cX5_init 32 = .ok (.if_icmp .ge 22, 3) := by decide +kernel
theorem dX5_init_35 : decode cX5_init 35 = .ok (.aload_n 0, 1) := by decide +kernel
theorem dX5_init_36 : decode cX5_init 36 = .ok (.getfield 11, 3) := by decide +kernel
theorem dX5_init_39 : decode cX5_init 39 = .ok (.iload_n 1, 1) := by decide +kernel
theorem dX5_init_40 : decode cX5_init 40 = .ok (.new 9, 3) := by decide +kernel
theorem dX5_init_43 : decode cX5_init 43 = .ok (.dup, 1) := by decide +kernel
theorem dX5_init_44 : decode cX5_init 44 = .ok (.invokespecial 17, 3) := by decide +kernel
theorem dX5_init_47 : decode cX5_init 47 = .ok (.aastore, 1) := by decide +kernel
theorem dX5_init_48 : decode cX5_init 48 = .ok (.iinc 1 1, 3) := by decide +kernel
theorem dX5_init_51 : decode cX5_init 51 = .ok (.goto (-25), 3) := by decide +kernel
theorem dX5_init_54 : decode cX5_init 54 = .ok (.return_, 1) := by decide +kernel
theorem dX10_init_0 : decode cX10_init 0 = .ok (.aload_n 0, 1) := by decide +kernel
theorem dX10_init_1 : decode cX10_init 1 = .ok (.invokespecial 3, 3) := by decide +kernel
theorem dX10_init_4 : decode cX10_init 4 = .ok (.aload_n 0, 1) := by decide +kernel
theorem dX10_init_5 : decode cX10_init 5 = .ok (.bipush 20, 2) := by decide +kernel
theorem dX10_init_7 : decode cX10_init 7 = .ok (.anewarray 9, 3) := by decide +kernel
theorem dX10_init_10 : decode cX10_init 10 = .ok (.putfield 11, 3) := by decide +kernel
theorem dX10_init_13 : decode cX10_init 13 = .ok (.aload_n 0, 1) := by decide +kernel
theorem dX10_init_14 : decode cX10_init 14 = .ok (.new 9, 3) := by decide +kernel
theorem dX10_init_17 : decode cX10_init 17 = .ok (.dup, 1) := by decide +kernel
theorem dX10_init_18 : decode cX10_init 18 = .ok (.invokespecial 17, 3) := by decide +kernel
theorem dX10_init_21 : decode cX10_init 21 = .ok (.putfield 18, 3) := by decide +kernel
theorem dX10_init_24 : decode cX10_init 24 = .ok (.aload_n 0, 1) := by decide +kernel
theorem dX10_init_25 : decode cX10_init 25 = .ok (.sipush 300, 3) := by decide +kernel
theorem dX10_init_28 : decode cX10_init 28 = .ok (.newarray .int, 2) := by decide +kernel
theorem dX10_init_30 : decode cX10_init 30 = .ok (.putfield 22, 3) := by decide +kernel
theorem dX10_init_33 : decode cX10_init 33 = .ok (.iconst 0, 1) := by decide +kernel
theorem dX10_init_34 : decode cX10_init 34 = .ok (.istore_n 1, 1) := by decide +kernel
theorem dX10_init_35 : decode cX10_init 35 = .ok (.iload_n 1, 1) := by decide +kernel
theorem dX10_init_36 : decode cX10_init 36 = .ok (.aload_n 0, 1) := by decide +kernel
theorem dX10_init_37 : decode cX10_init 37 = .ok (.getfield 11, 3) := by decide +kernel
theorem dX10_init_40 : decode cX10_init 40 = .ok (.arraylength, 1) := by decide +kernel
theorem dX10_init_41 : decode cX10_init 41 = .ok (.if_icmp .ge 22, 3) := by decide +kernel
theorem dX10_init_44 : decode cX10_init 44 = .ok (.aload_n 0, 1) := by decide +kernel
theorem dX10_init_45 : decode cX10_init 45 = .ok (.getfield 11, 3) := by decide +kernel
theorem dX10_init_48 : decode cX10_init 48 = .ok (.iload_n 1, 1) := by decide +kernel
theorem dX10_init_49 : decode cX10_init 49 = .ok (.new 9, 3) := by decide +kernel
theorem dX10_init_52 : decode cX10_init 52 = .ok (.dup, 1) := by decide +kernel
theorem dX10_init_53 : decode cX10_init 53 = .ok (.invokespecial 17, 3) := by decide +kernel
theorem dX10_init_56 : decode cX10_init 56 = .ok (.aastore, 1) := by decide +kernel
theorem dX10_init_57 : decode cX10_init 57 = .ok (.iinc 1 1, 3) := by decide +kernel
theorem dX10_init_60 : decode cX10_init 60 = .ok (.goto (-25), 3) := by decide +kernel
theorem dX10_init_63 : decode cX10_init 63 = .ok (.return_, 1) := by decide +kernel
theorem i_succ (i : Nat) : Int32.ofNat i + Int32.ofInt 1 = Int32.ofNat (i + 1) := (Int32.ofNat_add i 1).symm
theorem i_nle {n i : Nat} (hn : n < 2 ^ 31) (h : i < n) : ¬ Int32.ofNat n ≤ Int32.ofNat i := by
  rw [Int32.ofNat_le_ofNat hn (by omega)]
  omega
theorem i_in {n i : Nat} (hn : n < 2 ^ 31) (h : i < n) : vp_in (Int32.ofNat i) n := by
  have hi : (Int32.ofNat i).toNatClampNeg = i := Int32.toNatClampNeg_ofNat_of_lt (by omega)
  show ¬ (_ ∨ _)
  rw [hi]
  rintro (q | q)
  · have := Int32.lt_iff_toInt_lt.mp q
    rw [Int32.toInt_ofNat_of_lt (by omega)] at this
    simp at this
    omega
  · omega
/-- a plan's items, i of them made -/
def LpE (cA : Nat → ClassId) (bs k0 pa i : Nat) (E : Nat → va_E) : Nat → va_E := fun j => if k0 ≤ j ∧ j < k0 + i then .inr (3, dfl 3) else if j = pa then .inl (cA 4, 30, .inr (.inr (.inr (.inr (fun y => if y < i then some (bs + (k0 + y)) else none))))) else E j
theorem LpE_zero {cA : Nat → ClassId} {bs k0 pa : Nat} {E : Nat → va_E} (h : E pa = .inl (cA 4, 30, .inr (.inr (.inr (.inr (fun _ => none)))))) : LpE cA bs k0 pa 0 E = E := by
  funext j
  unfold LpE
  rw [if_neg (by omega)]
  by_cases hj : j = pa
  · subst hj
    rw [if_pos rfl, h]
    simp
  · rw [if_neg hj]
theorem LpE_succ {cA : Nat → ClassId} {bs k0 pa i : Nat} {E : Nat → va_E} (hpa : pa < k0) : upE (E_X3_init cA bs (k0 + i + 1) (k0 + i) (upE (LpE cA bs k0 pa i E) (k0 + i) (.inr (3, dfl 3)))) pa (.inl (cA 4, 30, .inr (.inr (.inr (.inr (va_up (fun y => if y < i then some (bs + (k0 + y)) else none) i (some (bs + (k0 + i))))))))) = LpE cA bs k0 pa (i + 1) E := by
  funext j
  unfold E_X3_init
  by_cases hj : j = pa
  · subst hj
    rw [upE_at]
    unfold LpE
    rw [if_neg (by omega), if_pos rfl]
    congr 7
    funext y
    by_cases hy : y = i
    · subst hy
      simp [va_up]
    · by_cases h2 : y < i
      · simp [va_up, hy, h2, show y < i + 1 by omega]
      · simp [va_up, hy, h2, show ¬ y < i + 1 by omega]
  · rw [upE_ne hj]
    by_cases hk : j = k0 + i
    · subst hk
      rw [upE_at]
      unfold LpE
      rw [if_pos (by omega)]
    · rw [upE_ne hk]
      unfold LpE
      by_cases h3 : k0 ≤ j ∧ j < k0 + i
      · rw [if_pos h3, if_pos (by omega)]
      · rw [if_neg h3, if_neg hj, if_neg (by omega), if_neg hj]
theorem LpE_ne {cA : Nat → ClassId} {bs k0 pa i j : Nat} {E : Nat → va_E} (h1 : j < k0) (h2 : j ≠ pa) : LpE cA bs k0 pa i E j = E j := by
  unfold LpE
  rw [if_neg (by omega), if_neg h2]
theorem LpE_pa {cA : Nat → ClassId} {bs k0 pa i : Nat} {E : Nat → va_E} (h1 : pa < k0) : LpE cA bs k0 pa i E pa = .inl (cA 4, 30, .inr (.inr (.inr (.inr (fun y => if y < i then some (bs + (k0 + y)) else none))))) := by
  unfold LpE
  rw [if_neg (by omega), if_pos rfl]
theorem X5_loop {G : Gm} (C0 : Cx G RX5 cX5_init none) (eNL : G.nL = 2) (erm : G.rm = ({ frames := 2, cells := 32, slots := 371, locals := 40 } : Room)) {k0 pa p : Nat} {E : Nat → va_E} {fs : List Value} (hz : G.s.heap.size + 2 = G.bs + k0) (hpa : pa < k0) (hp : p < k0) (hne : p ≠ pa) (hE : E p = .inr (4, fs)) (hfs : fs[0]? = some (.ref (G.bs + pa))) :
    ∀ n i, i + n = 30 → VK G (qk G 32 371 (k0 + 30) (LpE G.cA G.bs k0 pa 30 E)) (k0 + i) (2 + i) (41 + 11 * i) 26 [(1, .int (Int32.ofNat i)), (0, .ref (G.bs + p))] [] (LpE G.cA G.bs k0 pa i E) := by
  intro n
  induction n with
  | zero =>
    intro i hi
    have e : i = 30 := by omega
    subst e
    refine VK_iload_n C0 0 rfl rfl dX5_init_26 (VK_aload_n C0 1 rfl rfl dX5_init_27 (VK_get C0 4 0 p fl_X5_11 (by omega) ((LpE_ne hp hne).trans hE) hfs dX5_init_28 (VK_alenq C0 4 pa rfl (by omega) (LpE_pa hpa) rfl dX5_init_31 (VK_icmp_ge C0 (tgt := 54) (by decide) dX5_init_32 (fun _ => VK_vret C0 dX5_init_54) (fun h => absurd (by decide) h)))))
  | succ n ih =>
    intro i hi
    refine VK_iload_n C0 0 rfl rfl dX5_init_26 (VK_aload_n C0 1 rfl rfl dX5_init_27 (VK_get C0 4 0 p fl_X5_11 (by omega) ((LpE_ne hp hne).trans hE) hfs dX5_init_28 (VK_alenq C0 4 pa rfl (by omega) (LpE_pa hpa) rfl dX5_init_31 (VK_icmp_ge C0 (tgt := 54) (by decide) dX5_init_32 (fun h => absurd h (i_nle (by decide) (by omega))) (fun _ => ?_)))))
    refine VK_aload_n C0 1 rfl rfl dX5_init_35 (VK_get C0 4 0 p fl_X5_11 (by omega) ((LpE_ne hp hne).trans hE) hfs dX5_init_36 (VK_iload_n C0 0 rfl rfl dX5_init_39 (VK_new C0 3 _ _ 11 rfl kl_X5_9 ki_X3 kn_X3 (by rw [erm]; show _ ≤ 32; omega) (by rw [erm]; show _ ≤ 371; omega) dX5_init_40 (VK_dup C0 rfl dX5_init_43 ?_))))
    refine VK_callI C0 (st := [.ref (G.bs + (k0 + i)), .int (Int32.ofNat i), .ref (G.bs + pa)]) (As := []) (k_X3_init G.l G.D G.cA G.ad G.bs G.X C0.2.2.2.2.2.2.2.2.2.1 C0.2.2.2.2.2.2.2.2.2.2.2.2 (k0 + i + 1) (k0 + i) _ (by omega) upE_at) lc_X3_init lI_X5_17 rfl rfl (by rw [erm]; decide) ⟨by rw [erm]; show _ ≤ 32; omega, by rw [erm]; show _ ≤ 371; omega⟩ (Nat.le_of_ble_eq_true rfl) dX5_init_44 ?_
    refine VK_aast C0 (by omega) 4 pa (k0 + i) 3 (q := (RX3, TX3, 11)) rfl rfl (by omega) ((upE_ne (by omega)).trans (LpE_pa hpa)) (by omega) upE_at (i_in (by decide) (by omega)) dX5_init_47 ?_
    rw [show (Int32.ofNat i).toNatClampNeg = i from Int32.toNatClampNeg_ofNat_of_lt (by omega), LpE_succ hpa]
    refine VK_iinc C0 0 [(1, .int (Int32.ofNat (i + 1))), (0, .ref (G.bs + p))] rfl (i_succ i) (by rw [eNL]; decide) rfl dX5_init_48 (VK_goto C0 (tgt := 26) (by decide) dX5_init_51 ?_)
    have e := ih (i + 1) (by omega)
    rw [show 2 + (i + 1) = 2 + i + 1 + 0 by omega, show 41 + 11 * (i + 1) = 41 + 11 * i + 11 + 0 by omega] at e
    exact e
def E0_X5_init (cA : Nat → ClassId) (bs k p : Nat) (E : Nat → va_E) : Nat → va_E := (upE (E_X3_init cA bs (k + 2) (k + 1) (upE (upE (upE E k (.inl (cA 4, 30, .inr (.inr (.inr (.inr (fun _ => none))))))) p (.inr (4, ((dfl 4).set 0 (Value.ref (bs + k)))))) (k + 1) (.inr (3, dfl 3)))) p (.inr (4, (((dfl 4).set 0 (Value.ref (bs + k))).set 1 (Value.ref (bs + (k + 1)))))))
def E_X5_init (cA : Nat → ClassId) (bs k p : Nat) (E : Nat → va_E) : Nat → va_E := LpE cA bs (k + 2) k 30 (E0_X5_init cA bs k p E)
theorem E_X5_init_ne {cA : Nat → ClassId} {bs k p : Nat} {E : Nat → va_E} {j : Nat} (h : j ≠ p) (hj : j < k) : E_X5_init cA bs k p E j = E j := by
  unfold E_X5_init
  rw [LpE_ne (by omega) (by omega)]
  unfold E0_X5_init
  repeat first | rfl | rw [upE_ne (by omega)] | rw [E_X3_init_ne (by omega) (by omega)]
set_option maxRecDepth 100000 in
set_option maxHeartbeats 4000000 in
theorem k_X5_init (l : Launch) (D : va_G) (cA : Nat → ClassId) (ad : Nat → Nat) (bs : Nat) (X : State → Prop) (hAd : Ax ad bs) (hX : Stb bs X) (hao0 : Ssd X) (k p : Nat) (E : Nat → va_E) (hp : p < k) (he : E p = .inr (4, dfl 4)) : CnK l D cA bs X yX5_init cX5_init 2 2 40 32 371 [.ref (bs + p)] k E (k + 32) (E_X5_init cA bs k p E) := by
  refine CnK.ofV hAd hX [(0, .ref (bs + p))] rfl (Nat.le_of_ble_eq_true rfl) (by decide) ?_
  intro G el eD ecA ead ebs eX erm eNL hnm hz C0
  subst el eD ecA ead ebs eX
  have hao := (hao0 _ C0.2.2.2.2.2.2.2.2.2.2.2.1).2
  refine VK_aload_n C0 0 rfl rfl dX5_init_0 ?_
  refine VK_obj C0 lo_X5 (by rw [erm]; decide) (Nat.le_of_ble_eq_true rfl) dX5_init_1 ?_
  refine VK_aload_n C0 0 rfl rfl dX5_init_4 ?_
  refine VK_bipush C0 (v := (30 : Int32)) (by decide) dX5_init_5 ?_
  refine VK_anew C0 (C := "SmallCraft$Item") (c0 := G.cA 4) 4 rfl kl_X5_9 hao 30 (by decide) (by decide +kernel) (by decide) (by rw [erm]; decide) (by rw [erm]; decide) dX5_init_7 ?_
  refine VK_putF C0 (by omega) hnm 4 0 p ff_X5_11 (by omega) ((upE_ne (by omega)).trans he) (Nat.le_of_ble_eq_true rfl) (ty := (.array (.object "SmallCraft$Item"))) (by decide +kernel) rfl rfl dX5_init_10 ?_
  refine VK_aload_n C0 0 rfl rfl dX5_init_13 ?_
  refine VK_new C0 3 _ _ 11 rfl kl_X5_9 ki_X3 kn_X3 (by rw [erm]; decide) (by rw [erm]; decide) dX5_init_14 ?_
  refine VK_dup C0 rfl dX5_init_17 ?_
  refine VK_callI C0 (st := [.ref (G.bs + (k + 1)), .ref (G.bs + p)]) (As := []) (k_X3_init G.l G.D G.cA G.ad G.bs G.X C0.2.2.2.2.2.2.2.2.2.1 C0.2.2.2.2.2.2.2.2.2.2.2.2 (k + 2) (k + 1) _ (by omega) upE_at) lc_X3_init lI_X5_17 rfl rfl (by rw [erm]; decide) (by rw [erm]; decide) (Nat.le_of_ble_eq_true rfl) dX5_init_18 ?_
  refine VK_putF C0 (by omega) hnm 4 1 p ff_X5_18 (by omega) ((E_X3_init_ne (by omega) (by omega)).trans ((upE_ne (by omega)).trans upE_at)) (Nat.le_of_ble_eq_true rfl) (ty := (.object "SmallCraft$Item")) (by decide +kernel) rfl rfl dX5_init_21 ?_
  refine VK_iconst C0 (v := (0 : Int32)) (by decide) dX5_init_24 ?_
  refine VK_istore_n C0 [(1, .int 0), (0, .ref (G.bs + p))] rfl (by rw [eNL]; decide) rfl dX5_init_25 ?_
  have hlo := X5_loop C0 eNL erm (k0 := k + 2) (pa := k) (p := p) (E := E0_X5_init G.cA G.bs k p E) (by omega) (by omega) (by omega) (by omega) upE_at rfl 30 0 (by omega)
  rw [LpE_zero (by unfold E0_X5_init; repeat first | rw [upE_at] | rw [upE_ne (by omega)] | rw [E_X3_init_ne (by omega) (by omega)])] at hlo
  exact hlo

/-- the cells of a unit at b -/
def uE (cA : Nat → ClassId) (bs b c : Nat) : va_E := E_X9_init cA bs (b + 1) b (fun _ => .inr (8, dfl 8)) (b + c)
theorem uE_eq {cA : Nat → ClassId} {bs b c : Nat} {E : Nat → va_E} (hc : c < 4) : E_X9_init cA bs (b + 1) b E (b + c) = uE cA bs b c := by
  have h : c = 0 ∨ c = 1 ∨ c = 2 ∨ c = 3 := by omega
  rcases h with rfl | rfl | rfl | rfl <;> simp [uE, E_X9_init, upE]
theorem uE_hi {cA : Nat → ClassId} {bs b j : Nat} {E : Nat → va_E} (hj : b + 4 ≤ j) : E_X9_init cA bs (b + 1) b E j = E j := by
  unfold E_X9_init
  repeat rw [upE_ne (by omega)]
/-- the yard's units, i of them made -/
def LyE (cA : Nat → ClassId) (bs k0 pa i : Nat) (E : Nat → va_E) : Nat → va_E := fun j => if k0 ≤ j ∧ j < k0 + 4 * i then uE cA bs (k0 + 4 * ((j - k0) / 4)) ((j - k0) % 4) else if j = pa then .inl (cA 3, 20, .inr (.inr (.inr (.inr (fun y => if y < i then some (bs + (k0 + 4 * y)) else none))))) else E j
theorem LyE_zero {cA : Nat → ClassId} {bs k0 pa : Nat} {E : Nat → va_E} (h : E pa = .inl (cA 3, 20, .inr (.inr (.inr (.inr (fun _ => none)))))) : LyE cA bs k0 pa 0 E = E := by
  funext j
  unfold LyE
  rw [if_neg (by omega)]
  by_cases hj : j = pa
  · subst hj
    rw [if_pos rfl, h]
    simp
  · rw [if_neg hj]
theorem LyE_ne {cA : Nat → ClassId} {bs k0 pa i j : Nat} {E : Nat → va_E} (h1 : j < k0) (h2 : j ≠ pa) : LyE cA bs k0 pa i E j = E j := by
  unfold LyE
  rw [if_neg (by omega), if_neg h2]
theorem LyE_pa {cA : Nat → ClassId} {bs k0 pa i : Nat} {E : Nat → va_E} (h1 : pa < k0) : LyE cA bs k0 pa i E pa = .inl (cA 3, 20, .inr (.inr (.inr (.inr (fun y => if y < i then some (bs + (k0 + 4 * y)) else none))))) := by
  unfold LyE
  rw [if_neg (by omega), if_pos rfl]
theorem LyE_succ {cA : Nat → ClassId} {bs k0 pa i : Nat} {E : Nat → va_E} (hpa : pa < k0) : upE (E_X9_init cA bs (k0 + 4 * i + 1) (k0 + 4 * i) (upE (LyE cA bs k0 pa i E) (k0 + 4 * i) (.inr (8, dfl 8)))) pa (.inl (cA 3, 20, .inr (.inr (.inr (.inr (va_up (fun y => if y < i then some (bs + (k0 + 4 * y)) else none) i (some (bs + (k0 + 4 * i))))))))) = LyE cA bs k0 pa (i + 1) E := by
  funext j
  by_cases hj : j = pa
  · subst hj
    rw [upE_at]
    unfold LyE
    rw [if_neg (by omega), if_pos rfl]
    congr 7
    funext y
    by_cases hy : y = i
    · subst hy
      simp [va_up]
    · by_cases h2 : y < i
      · simp [va_up, hy, h2, show y < i + 1 by omega]
      · simp [va_up, hy, h2, show ¬ y < i + 1 by omega]
  · rw [upE_ne hj]
    by_cases h1 : j < k0 + 4 * i
    · rw [E_X9_init_ne (by omega) (by omega), upE_ne (by omega)]
      unfold LyE
      by_cases h3 : k0 ≤ j
      · rw [if_pos ⟨h3, h1⟩, if_pos (by omega)]
      · rw [if_neg (by omega), if_neg hj, if_neg (by omega), if_neg hj]
    · by_cases h2 : j < k0 + 4 * i + 4
      · obtain ⟨c, hc, rfl⟩ : ∃ c, c < 4 ∧ j = k0 + 4 * i + c := ⟨j - (k0 + 4 * i), by omega, by omega⟩
        rw [uE_eq hc]
        unfold LyE
        rw [if_pos (by omega), show (k0 + 4 * i + c - k0) / 4 = i by omega, show (k0 + 4 * i + c - k0) % 4 = c by omega]
      · rw [uE_hi (by omega), upE_ne (by omega)]
        unfold LyE
        rw [if_neg (by omega), if_neg hj, if_neg (by omega), if_neg hj]
theorem X10_loop {G : Gm} (C0 : Cx G RX10 cX10_init none) (eNL : G.nL = 2) (erm : G.rm = ({ frames := 2, cells := 86, slots := 44000, locals := 40 } : Room)) {k0 pa p : Nat} {E : Nat → va_E} {fs : List Value} (hz : G.s.heap.size + 6 = G.bs + k0) (hpa : pa < k0) (hp : p < k0) (hne : p ≠ pa) (hE : E p = .inr (9, fs)) (hfs : fs[0]? = some (.ref (G.bs + pa))) :
    ∀ n i, i + n = 20 → VK G (qk G 86 44000 (k0 + 80) (LyE G.cA G.bs k0 pa 20 E)) (k0 + 4 * i) (6 + 4 * i) (2400 + 2080 * i) 35 [(1, .int (Int32.ofNat i)), (0, .ref (G.bs + p))] [] (LyE G.cA G.bs k0 pa i E) := by
  intro n
  induction n with
  | zero =>
    intro i hi
    have e : i = 20 := by omega
    subst e
    refine VK_iload_n C0 0 rfl rfl dX10_init_35 (VK_aload_n C0 1 rfl rfl dX10_init_36 (VK_get C0 9 0 p fl_X10_11 (by omega) ((LyE_ne hp hne).trans hE) hfs dX10_init_37 (VK_alenq C0 3 pa rfl (by omega) (LyE_pa hpa) rfl dX10_init_40 (VK_icmp_ge C0 (tgt := 63) (by decide) dX10_init_41 (fun _ => VK_vret C0 dX10_init_63) (fun h => absurd (by decide) h)))))
  | succ n ih =>
    intro i hi
    refine VK_iload_n C0 0 rfl rfl dX10_init_35 (VK_aload_n C0 1 rfl rfl dX10_init_36 (VK_get C0 9 0 p fl_X10_11 (by omega) ((LyE_ne hp hne).trans hE) hfs dX10_init_37 (VK_alenq C0 3 pa rfl (by omega) (LyE_pa hpa) rfl dX10_init_40 (VK_icmp_ge C0 (tgt := 63) (by decide) dX10_init_41 (fun h => absurd h (i_nle (by decide) (by omega))) (fun _ => ?_)))))
    refine VK_aload_n C0 1 rfl rfl dX10_init_44 (VK_get C0 9 0 p fl_X10_11 (by omega) ((LyE_ne hp hne).trans hE) hfs dX10_init_45 (VK_iload_n C0 0 rfl rfl dX10_init_48 (VK_new C0 8 _ _ 10 rfl kl_X10_9 ki_X9 kn_X9 (by rw [erm]; show _ ≤ 86; omega) (by rw [erm]; show _ ≤ 44000; omega) dX10_init_49 (VK_dup C0 rfl dX10_init_52 ?_))))
    refine VK_callI C0 (st := [.ref (G.bs + (k0 + 4 * i)), .int (Int32.ofNat i), .ref (G.bs + pa)]) (As := []) (k_X9_init G.l G.D G.cA G.ad G.bs G.X C0.2.2.2.2.2.2.2.2.2.1 C0.2.2.2.2.2.2.2.2.2.2.2.2 (k0 + 4 * i + 1) (k0 + 4 * i) _ (by omega) upE_at) lc_X9_init lI_X10_17 rfl rfl (by rw [erm]; decide) ⟨by rw [erm]; show _ ≤ 86; omega, by rw [erm]; show _ ≤ 44000; omega⟩ (Nat.le_of_ble_eq_true rfl) dX10_init_53 ?_
    refine VK_aast C0 (by omega) 3 pa (k0 + 4 * i) 8 (q := (RX9, TX9, 10)) rfl rfl (by omega) ((E_X9_init_ne (by omega) (by omega)).trans ((upE_ne (by omega)).trans (LyE_pa hpa))) (by omega) upE_at (i_in (by decide) (by omega)) dX10_init_56 ?_
    rw [show (Int32.ofNat i).toNatClampNeg = i from Int32.toNatClampNeg_ofNat_of_lt (by omega), LyE_succ hpa]
    refine VK_iinc C0 0 [(1, .int (Int32.ofNat (i + 1))), (0, .ref (G.bs + p))] rfl (i_succ i) (by rw [eNL]; decide) rfl dX10_init_57 (VK_goto C0 (tgt := 35) (by decide) dX10_init_60 ?_)
    have e := ih (i + 1) (by omega)
    rw [show k0 + 4 * (i + 1) = k0 + 4 * i + 1 + 3 by omega, show 6 + 4 * (i + 1) = 6 + 4 * i + 1 + 3 by omega, show 2400 + 2080 * (i + 1) = 2400 + 2080 * i + 10 + 2070 by omega] at e
    exact e
def E0_X10_init (cA : Nat → ClassId) (bs k p : Nat) (E : Nat → va_E) : Nat → va_E := (upE (upE (upE (E_X9_init cA bs (k + 2) (k + 1) (upE (upE (upE E k (.inl (cA 3, 20, .inr (.inr (.inr (.inr (fun _ => none))))))) p (.inr (9, ((dfl 9).set 0 (Value.ref (bs + k)))))) (k + 1) (.inr (8, dfl 8)))) p (.inr (9, (((dfl 9).set 0 (Value.ref (bs + k))).set 1 (Value.ref (bs + (k + 1))))))) (k + 5) (.inl (cA 0, 300, .inl (fun _ => 0)))) p (.inr (9, ((((dfl 9).set 0 (Value.ref (bs + k))).set 1 (Value.ref (bs + (k + 1)))).set 2 (Value.ref (bs + (k + 5)))))))
def E_X10_init (cA : Nat → ClassId) (bs k p : Nat) (E : Nat → va_E) : Nat → va_E := LyE cA bs (k + 6) k 20 (E0_X10_init cA bs k p E)
theorem E_X10_init_ne {cA : Nat → ClassId} {bs k p : Nat} {E : Nat → va_E} {j : Nat} (h : j ≠ p) (hj : j < k) : E_X10_init cA bs k p E j = E j := by
  unfold E_X10_init
  rw [LyE_ne (by omega) (by omega)]
  unfold E0_X10_init
  repeat first | rfl | rw [upE_ne (by omega)] | rw [E_X9_init_ne (by omega) (by omega)]
set_option maxRecDepth 100000 in
set_option maxHeartbeats 4000000 in
theorem k_X10_init (l : Launch) (D : va_G) (cA : Nat → ClassId) (ad : Nat → Nat) (bs : Nat) (X : State → Prop) (hAd : Ax ad bs) (hX : Stb bs X) (hao0 : Ssd X) (k p : Nat) (E : Nat → va_E) (hp : p < k) (he : E p = .inr (9, dfl 9)) : CnK l D cA bs X yX10_init cX10_init 2 2 40 86 44000 [.ref (bs + p)] k E (k + 86) (E_X10_init cA bs k p E) := by
  refine CnK.ofV hAd hX [(0, .ref (bs + p))] rfl (Nat.le_of_ble_eq_true rfl) (by decide) ?_
  intro G el eD ecA ead ebs eX erm eNL hnm hz C0
  subst el eD ecA ead ebs eX
  have hao := (hao0 _ C0.2.2.2.2.2.2.2.2.2.2.2.1).1
  refine VK_aload_n C0 0 rfl rfl dX10_init_0 ?_
  refine VK_obj C0 lo_X10 (by rw [erm]; decide) (Nat.le_of_ble_eq_true rfl) dX10_init_1 ?_
  refine VK_aload_n C0 0 rfl rfl dX10_init_4 ?_
  refine VK_bipush C0 (v := (20 : Int32)) (by decide) dX10_init_5 ?_
  refine VK_anew C0 (C := "SmallCraft$Unit") (c0 := G.cA 3) 3 rfl kl_X10_9 hao 20 (by decide) (by decide +kernel) (by decide) (by rw [erm]; decide) (by rw [erm]; decide) dX10_init_7 ?_
  refine VK_putF C0 (by omega) hnm 9 0 p ff_X10_11 (by omega) ((upE_ne (by omega)).trans he) (Nat.le_of_ble_eq_true rfl) (ty := (.array (.object "SmallCraft$Unit"))) (by decide +kernel) rfl rfl dX10_init_10 ?_
  refine VK_aload_n C0 0 rfl rfl dX10_init_13 ?_
  refine VK_new C0 8 _ _ 10 rfl kl_X10_9 ki_X9 kn_X9 (by rw [erm]; decide) (by rw [erm]; decide) dX10_init_14 ?_
  refine VK_dup C0 rfl dX10_init_17 ?_
  refine VK_callI C0 (st := [.ref (G.bs + (k + 1)), .ref (G.bs + p)]) (As := []) (k_X9_init G.l G.D G.cA G.ad G.bs G.X C0.2.2.2.2.2.2.2.2.2.1 C0.2.2.2.2.2.2.2.2.2.2.2.2 (k + 2) (k + 1) _ (by omega) upE_at) lc_X9_init lI_X10_17 rfl rfl (by rw [erm]; decide) (by rw [erm]; decide) (Nat.le_of_ble_eq_true rfl) dX10_init_18 ?_
  refine VK_putF C0 (by omega) hnm 9 1 p ff_X10_18 (by omega) ((E_X9_init_ne (by omega) (by omega)).trans ((upE_ne (by omega)).trans upE_at)) (Nat.le_of_ble_eq_true rfl) (ty := (.object "SmallCraft$Unit")) (by decide +kernel) rfl rfl dX10_init_21 ?_
  refine VK_aload_n C0 0 rfl rfl dX10_init_24 ?_
  refine VK_sipush C0 (v := (300 : Int32)) (by decide) dX10_init_25 ?_
  refine VK_newI C0 300 (by decide) (by decide +kernel) (by decide) (by rw [erm]; decide) (by rw [erm]; decide) dX10_init_28 ?_
  refine VK_putF C0 (by omega) hnm 9 2 p ff_X10_22 (by omega) ((upE_ne (by omega)).trans upE_at) (Nat.le_of_ble_eq_true rfl) (ty := (.array .int)) (by decide +kernel) rfl rfl dX10_init_30 ?_
  refine VK_iconst C0 (v := (0 : Int32)) (by decide) dX10_init_33 ?_
  refine VK_istore_n C0 [(1, .int 0), (0, .ref (G.bs + p))] rfl (by rw [eNL]; decide) rfl dX10_init_34 ?_
  have hlo := X10_loop C0 eNL erm (k0 := k + 6) (pa := k) (p := p) (E := E0_X10_init G.cA G.bs k p E) (by omega) (by omega) (by omega) (by omega) upE_at rfl 20 0 (by omega)
  rw [LyE_zero (by unfold E0_X10_init; repeat first | rw [upE_at] | rw [upE_ne (by omega)] | rw [E_X9_init_ne (by omega) (by omega)])] at hlo
  exact hlo
