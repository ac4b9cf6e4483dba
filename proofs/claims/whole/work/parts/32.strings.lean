/-! Constant strings (ids 400 + j, their bytes 500 + j) and the constants of Kind (310 + i) -/
def sTx : List (List Nat) := [[98, 97, 116, 116, 101, 114, 121], [99, 101, 108, 108, 112, 97, 99, 107], [116, 97, 110, 107], [114, 101, 99, 111, 114, 100, 101, 114], [104, 101, 97, 116, 101, 114], [116, 104, 101, 114, 109, 111], [103, 121, 114, 111], [102, 105, 110, 101, 103, 121, 114, 111], [115, 117, 110, 101, 121, 101], [112, 114, 111, 98, 101], [99, 97, 109, 101, 114, 97], [119, 104, 101, 101, 108], [99, 111, 105, 108], [106, 101, 116], [112, 117, 108, 115, 101, 114], [114, 97, 100, 105, 111], [98, 101, 97, 99, 111, 110], [112, 97, 110, 101, 108], [116, 114, 97, 99, 107, 101, 114], [114, 101, 97, 99, 116, 111, 114], [112, 105, 112, 101], [104, 111, 115, 101], [97, 116], [101, 97, 99, 104], [119, 104, 101, 110], [108, 101, 118, 101, 108], [104, 101, 97, 116], [115, 112, 101, 101, 100], [114, 101, 97, 100, 105, 110, 103], [108, 105, 103, 104, 116], [97, 110, 103, 108, 101], [114, 97, 116, 101], [111, 110], [111, 102, 102], [109, 111, 100, 101], [97, 105, 109], [114, 101, 115, 116, 97, 114, 116], [119, 105, 112, 101], [115, 116, 111, 112]]
def sN (x : Nat) : Nat := (sTx.getD (x - 400) []).length
def sC (x i : Nat) : Int32 := Int32.ofNat ((sTx.getD (x - 400) []).getD i 0)
def sLen : List Nat := sTx.map List.length
def sByt : List (List Int32) := sTx.map (fun l => l.map Int32.ofNat)
def kTb : List (List Int32) := [[2, 1, 0, 0], [3, 1, 3, 0], [4, 1, 0, 0], [5, 2, 0, 0], [7, 4, 0, 0], [8, 4, 5, 8], [10, 4, 4, 9], [11, 4, 4, 9], [12, 4, 4, 0], [13, 4, 4, 5], [14, 4, 4, 7], [16, 4, 9, 0], [17, 4, 9, 0], [18, 4, 9, 6], [19, 4, 9, 6], [20, 4, 10, 0], [21, 4, 10, 0], [23, 11, 12, 0], [24, 11, 12, 0], [25, 11, 6, 0], [27, 5, 5, 0], [28, 6, 6, 13]]
def kF (x n : Nat) : Int32 := (kTb.getD (x - 310) []).getD n 0
def sRf : List (String × Nat × String × Nat) := [("SmallCraft$Plan", 47, "at", 22), ("SmallCraft$Plan", 53, "each", 23), ("SmallCraft$Plan", 55, "when", 24), ("SmallCraft$Plan", 105, "level", 25), ("SmallCraft$Plan", 107, "heat", 26), ("SmallCraft$Plan", 109, "speed", 27), ("SmallCraft$Plan", 111, "reading", 28), ("SmallCraft$Plan", 113, "light", 29), ("SmallCraft$Plan", 115, "angle", 30), ("SmallCraft$Plan", 117, "rate", 31), ("SmallCraft$Plan", 158, "on", 32), ("SmallCraft$Plan", 160, "off", 33), ("SmallCraft$Plan", 162, "mode", 34), ("SmallCraft$Plan", 164, "aim", 35), ("SmallCraft$Plan", 166, "restart", 36), ("SmallCraft$Plan", 168, "wipe", 37), ("SmallCraft$Plan", 170, "stop", 38)]
def SXb (ad : Nat → Nat) (bs : Nat) (U : State) : Prop :=
  vk_S 39 sLen sByt (fun i => ad (400 + i)) (fun i => ad (500 + i)) (Ab bs) U U.heap ∧ va_Z "java/lang/String" "COMPACT_STRINGS" "Z" (.int 1) (Ab bs) U U.heap ∧ va_Zq "jdk/internal/util/Preconditions" "SIOOBE_FORMATTER" "Ljava/util/function/BiFunction;" (Ab bs) U U.heap ∧
  (∀ i, i < 22 → va_O "SmallCraft$Kind" (ad (310 + i)) (Ab bs) U U.heap ∧ va_OF "SmallCraft$Kind" "word" "Ljava/lang/String;" (.ref (ad (400 + i))) (ad (310 + i)) (Ab bs) U U.heap ∧ va_OF "SmallCraft$Kind" "layer" "I" (.int (kF (310 + i) 0)) (ad (310 + i)) (Ab bs) U U.heap ∧ va_OF "SmallCraft$Kind" "form1" "I" (.int (kF (310 + i) 1)) (ad (310 + i)) (Ab bs) U U.heap ∧ va_OF "SmallCraft$Kind" "form2" "I" (.int (kF (310 + i) 2)) (ad (310 + i)) (Ab bs) U U.heap ∧ va_OF "SmallCraft$Kind" "form3" "I" (.int (kF (310 + i) 3)) (ad (310 + i)) (Ab bs) U U.heap) ∧
  (va_Z "SmallCraft$Kind" "ALL" "[LSmallCraft$Kind;" (.ref (ad 303)) (Ab bs) U U.heap ∧ va_T (.object "SmallCraft$Kind") (ad 303) 22 (fun j => .ref (ad (310 + j))) (Ab bs) U U.heap) ∧
  ∀ q ∈ sRf, vk_R q.1 q.2.1 q.2.2.1 (ad (400 + q.2.2.2)) U
def Ssb (ad : Nat → Nat) (bs : Nat) (X : State → Prop) : Prop := ∀ U, X U → SXb ad bs U
theorem sN_len {j : Nat} (h : j < 39) : sLen.getD j 0 = sN (400 + j) := by
  have key : ∀ j, j < 39 → sLen.getD j 0 = sN (400 + j) := by decide +kernel
  exact key j h
theorem sC_byt {j i : Nat} (h : j < 39) (hi : i < sN (400 + j)) : (sByt.getD j []).getD i 0 = sC (400 + j) i := by
  have key : ∀ j, j < 39 → ∀ i, i < sN (400 + j) → (sByt.getD j []).getD i 0 = sC (400 + j) i := by decide +kernel
  exact key j h i hi
theorem sC_and {j i : Nat} (h : j < 39) (hi : i < sN (400 + j)) : ((sC (400 + j) i &&& 255).toUInt32 % 65536).toInt32 = sC (400 + j) i ∧ narrow .char (.int (sC (400 + j) i)) = .int (sC (400 + j) i) := by
  have key : ∀ j, j < 39 → ∀ i, i < sN (400 + j) → ((sC (400 + j) i &&& 255).toUInt32 % 65536).toInt32 = sC (400 + j) i ∧ narrow .char (.int (sC (400 + j) i)) = .int (sC (400 + j) i) := by decide +kernel
  exact key j h i hi
theorem sN_lt {j : Nat} (h : j < 39) : sN (400 + j) < 10 := by
  have key : ∀ j, j < 39 → sN (400 + j) < 10 := by decide +kernel
  exact key j h
section VT
variable {G : Gm} {f : State → Prop} {own : String} {cc : ByteArray} {rty : Option FieldType} {pc : Nat} {lv : List (Nat × Value)} {st : List Value} {I : MI} {L : ML} {R : MR}
/-- a field of an old object -/
theorem V_getOF (C0 : Cx G own cc rty) {o n d : String} {v : Value} {index q : Nat} (hE : va_OF o n d v q (Ab G.bs) G.s G.s.heap) (hl0 : Cond.fieldLink own index o n d ∈ gW ∨ ∃ host, Cond.fieldLinkNest own index o n d host ∈ nW) (hd : decode cc pc = .ok (.getfield index, 3)) (k : V G f (pc + 3) lv (v :: st) I L R) : V G f pc lv (.ref q :: st) I L R := by
  intro H locs ls hP hS hl
  obtain ⟨hx, hb, -, -, -, hown, hts, hK, hN, -, -, -, -⟩ := C0
  rcases hl0 with h | ⟨host, h⟩
  · exact vk_getf hx hb hE hS hown (hts _ h) (fun _ z => z) hd (k H locs ls hP hS hl)
  · obtain ⟨cf, kk, fi, ff, cell, h1, h2, h3, h4, h5, h6⟩ := hE.kept hS.2.1
    exact va_Wgetf hx hb hown (va_Nw.use (isN_tab h) (hN _ h)) h1 h2 h3 h4 (v := v) h5 rfl rfl hd (k H locs ls hP hS hl)
theorem V_nret {G : Gm} {own : String} {cc : ByteArray} {pc : Nat} {lv : List (Nat × Value)} {I : MI} {L : ML} {R : MR} {x : Int32} {ty : FieldType} (C0 : Cx G own cc (some ty)) (hn : narrow ty (.int x) = .int x) (hd : decode cc pc = .ok (.ireturn, 1)) : V G (qf G (some (.int x), I, L, R)) pc lv [.int x] I L R :=
  fun H locs ls hP hS hl => W.zret (v := x) C0.1 C0.2.1 C0.2.2.2.1 hn (fun t ht hW => ⟨rfl, by rw [ht]; exact hP, hS.F ht⟩) hS.2.2 hd C0.2.2.2.2.1
/-- a call of a receiver that is an old object -/
theorem V_callO (C0 : Cx G own cc rty) {index fr lo mL n b : Nat} {y : MethodName} {bytes : ByteArray} {ret : Option FieldType} {As : List Value} {g : Fin4} (hM : Cn G.l G.D G.cA G.ad G.bs G.X y bytes mL ret fr lo (.ref b :: As) I L R g) (hc : LkC y bytes mL ret n) (hl0 : LkV own index y) (hO : va_O y.cls b (Ab G.bs) G.s G.s.heap) (hn : As.length = n) (hR : fr + 1 ≤ G.rm.frames ∧ 8 + (mL + 11) + lo ≤ G.rm.locals) (hst : (st.map fun v => v.category).sum ≤ 8) (hd : decode cc pc = .ok (.invokevirtual index, 3))
    (k : V G f (pc + 3) lv (g.1.toList ++ st) g.2.1 g.2.2.1 g.2.2.2) : V G f pc lv (As.reverse ++ .ref b :: st) I L R := by
  refine V_run (rest := st) (g := g) (As := (Value.ref b :: As).toArray) (fun H locs ls hP hS hl => ?_) k
  have hPat := Pv_at C0 (As := .ref b :: As) hP hS
  obtain ⟨hx, hb, hml, hrt, hlk, hown, hts, hK, hN, hAd, hbs, hXs, hXb⟩ := C0
  obtain ⟨hcd, hini, hy⟩ := hc
  obtain ⟨hl1, hin, hse⟩ := hl0
  have hrec : ∃ cellB : Cell, H[b]? = some cellB ∧ cellB.vm.isStatics = false ∧ G.s.vm.findClass y.cls = some cellB.cls := by
    obtain ⟨cell, h1, h2, h3, -⟩ := hO.kept hS.2.1
    exact ⟨cell, h1, h2, h3⟩
  rcases hl1 with h | ⟨host, h⟩
  · exact va_runV (Ts := gW) ⟨hx, hb, hml, hown, hts⟩ hM ⟨callB_of (Ts := gW) n hts (gW_good hcd) rfl rfl rfl (hts _ hini) (hts _ h) hy hR, hts _ hin, hts _ hse⟩ ⟨Pv_blind hXb, hrec, hPat⟩ rfl hn hl.1 rfl (lv_room hst) hd ⟨Nat.zero_le _, Nat.zero_le _⟩
  · exact va_runVN (Ts := gW) ⟨hx, hb, hml, hown, hts⟩ hM ⟨va_cnB (Ts := gW) n hts (gW_good hcd) rfl rfl rfl (hN _ h) (hts _ hini) hy hR, hts _ hin, hts _ hse⟩ ⟨Pv_blind hXb, hrec, hPat⟩ rfl hn hl.1 rfl (lv_room hst) hd ⟨Nat.zero_le _, Nat.zero_le _⟩
theorem V_tlenB (C0 : Cx G own cc rty) {t N : Nat} {ty : FieldType} {g : Nat → Value} {v : Int32} (hT : va_T ty t N g (Ab G.bs) G.s G.s.heap) (hv : Int32.ofNat N = v) (hd : decode cc pc = .ok (.arraylength, 1)) (k : V G f (pc + 1) lv (.int v :: st) I L R) : V G f pc lv (.ref t :: st) I L R :=
  fun H locs ls hP hS hl => va_tlen C0.1 C0.2.1 hT hS hv hd (k H locs ls hP hS hl)
theorem V_tb (C0 : Cx G own cc rty) {t N : Nat} {g : Nat → Value} {i : Int32} {v : Value} (hT : va_T .byte t N g (Ab G.bs) G.s G.s.heap) (hin : vp_in i N) (hv : g i.toNatClampNeg = v) (hd : decode cc pc = .ok (.baload, 1)) (k : V G f (pc + 1) lv (v :: st) I L R) : V G f pc lv (.int i :: .ref t :: st) I L R :=
  fun H locs ls hP hS hl => va_tb C0.1 C0.2.1 hT hS hin hv hd (k H locs ls hP hS hl)
theorem V_tq (C0 : Cx G own cc rty) {t N : Nat} {C : String} {g : Nat → Value} {i : Int32} {v : Value} (hT : va_T (.object C) t N g (Ab G.bs) G.s G.s.heap) (hin : vp_in i N) (hv : g i.toNatClampNeg = v) (hd : decode cc pc = .ok (.aaload, 1)) (k : V G f (pc + 1) lv (v :: st) I L R) : V G f pc lv (.int i :: .ref t :: st) I L R :=
  fun H locs ls hP hS hl => vb_tq C0.1 C0.2.1 hT hS hin hv hd (k H locs ls hP hS hl)
theorem V_ldcS (C0 : Cx G own cc rty) {tx : String} {index q : Nat} (hZ : vk_R own index tx q G.s) (hd : decode cc pc = .ok (.ldc index, 2)) (k : V G f (pc + 2) lv (.ref q :: st) I L R) : V G f pc lv st I L R :=
  fun H locs ls hP hS hl => va_ldcS C0.1 C0.2.1 C0.2.2.2.2.2.1 hZ hd (k H locs ls hP hS hl)
theorem V_i2c (C0 : Cx G own cc rty) {x : Int32} {v : Int32} (hv : (x.toUInt32 % 65536).toInt32 = v) (hd : decode cc pc = .ok (.i2c, 1)) (k : V G f (pc + 1) lv (.int v :: st) I L R) : V G f pc lv (.int x :: st) I L R :=
  fun H locs ls hP hS hl => lv_i2c C0.1 C0.2.1 hd hv (k H locs ls hP hS hl)
end VT
theorem dJ0_coder_7d493_0 : decode cJ0_coder_7d493 0 = .ok (.getstatic 38, 3) := by decide +kernel
theorem dJ0_coder_7d493_3 : decode cJ0_coder_7d493 3 = .ok (.ifCond .eq 10, 3) := by decide +kernel
theorem dJ0_coder_7d493_6 : decode cJ0_coder_7d493 6 = .ok (.aload_n 0, 1) := by decide +kernel
theorem dJ0_coder_7d493_7 : decode cJ0_coder_7d493 7 = .ok (.getfield 15, 3) := by decide +kernel
theorem dJ0_coder_7d493_10 : decode cJ0_coder_7d493 10 = .ok (.goto 4, 3) := by decide +kernel
theorem dJ0_coder_7d493_13 : decode cJ0_coder_7d493 13 = .ok (.iconst 1, 1) := by decide +kernel
theorem dJ0_coder_7d493_14 : decode cJ0_coder_7d493 14 = .ok (.ireturn, 1) := by decide +kernel
theorem dJ0_isLatin1_aae02_0 : decode cJ0_isLatin1_aae02 0 = .ok (.getstatic 38, 3) := by decide +kernel
theorem dJ0_isLatin1_aae02_3 : decode cJ0_isLatin1_aae02 3 = .ok (.ifCond .eq 14, 3) := by decide +kernel
theorem dJ0_isLatin1_aae02_6 : decode cJ0_isLatin1_aae02 6 = .ok (.aload_n 0, 1) := by decide +kernel
theorem dJ0_isLatin1_aae02_7 : decode cJ0_isLatin1_aae02 7 = .ok (.getfield 15, 3) := by decide +kernel
theorem dJ0_isLatin1_aae02_10 : decode cJ0_isLatin1_aae02 10 = .ok (.ifCond .ne 7, 3) := by decide +kernel
theorem dJ0_isLatin1_aae02_13 : decode cJ0_isLatin1_aae02 13 = .ok (.iconst 1, 1) := by decide +kernel
theorem dJ0_isLatin1_aae02_14 : decode cJ0_isLatin1_aae02 14 = .ok (.goto 4, 3) := by decide +kernel
theorem dJ0_isLatin1_aae02_17 : decode cJ0_isLatin1_aae02 17 = .ok (.iconst 0, 1) := by decide +kernel
theorem dJ0_isLatin1_aae02_18 : decode cJ0_isLatin1_aae02 18 = .ok (.ireturn, 1) := by decide +kernel
theorem dJ0_length_8abf5_0 : decode cJ0_length_8abf5 0 = .ok (.aload_n 0, 1) := by decide +kernel
theorem dJ0_length_8abf5_1 : decode cJ0_length_8abf5 1 = .ok (.getfield 9, 3) := by decide +kernel
theorem dJ0_length_8abf5_4 : decode cJ0_length_8abf5 4 = .ok (.arraylength, 1) := by decide +kernel
theorem dJ0_length_8abf5_5 : decode cJ0_length_8abf5 5 = .ok (.aload_n 0, 1) := by decide +kernel
theorem dJ0_length_8abf5_6 : decode cJ0_length_8abf5 6 = .ok (.invokevirtual 335, 3) := by decide +kernel
theorem dJ0_length_8abf5_9 : decode cJ0_length_8abf5 9 = .ok (.ishr, 1) := by decide +kernel
theorem dJ0_length_8abf5_10 : decode cJ0_length_8abf5 10 = .ok (.ireturn, 1) := by decide +kernel
theorem dJ3_checkIndex_8e157_0 : decode cJ3_checkIndex_8e157 0 = .ok (.iload_n 0, 1) := by decide +kernel
theorem dJ3_checkIndex_8e157_1 : decode cJ3_checkIndex_8e157 1 = .ok (.ifCond .lt 8, 3) := by decide +kernel
theorem dJ3_checkIndex_8e157_4 : decode cJ3_checkIndex_8e157 4 = .ok (.iload_n 0, 1) := by decide +kernel
theorem dJ3_checkIndex_8e157_5 : decode cJ3_checkIndex_8e157 5 = .ok (.iload_n 1, 1) := by decide +kernel
theorem dJ3_checkIndex_8e157_6 : decode cJ3_checkIndex_8e157 6 = .ok (.if_icmp .lt 10, 3) := by decide +kernel
theorem dJ3_checkIndex_8e157_9 : decode cJ3_checkIndex_8e157 9 = .ok (.aload_n 2, 1) := by decide +kernel
theorem dJ3_checkIndex_8e157_10 : decode cJ3_checkIndex_8e157 10 = .ok (.iload_n 0, 1) := by decide +kernel
theorem dJ3_checkIndex_8e157_11 : decode cJ3_checkIndex_8e157 11 = .ok (.iload_n 1, 1) := by decide +kernel
theorem dJ3_checkIndex_8e157_12 : decode cJ3_checkIndex_8e157 12 = .ok (.invokestatic 95, 3) := by decide +kernel
theorem dJ3_checkIndex_8e157_15 : decode cJ3_checkIndex_8e157 15 = .ok (.athrow, 1) := by decide +kernel
theorem dJ3_checkIndex_8e157_16 : decode cJ3_checkIndex_8e157 16 = .ok (.iload_n 0, 1) := by decide +kernel
theorem dJ3_checkIndex_8e157_17 : decode cJ3_checkIndex_8e157 17 = .ok (.ireturn, 1) := by decide +kernel
theorem dJ0_checkIndex_df160_0 : decode cJ0_checkIndex_df160 0 = .ok (.iload_n 0, 1) := by decide +kernel
theorem dJ0_checkIndex_df160_1 : decode cJ0_checkIndex_df160 1 = .ok (.iload_n 1, 1) := by decide +kernel
theorem dJ0_checkIndex_df160_2 : decode cJ0_checkIndex_df160 2 = .ok (.getstatic 1053, 3) := by decide +kernel
theorem dJ0_checkIndex_df160_5 : decode cJ0_checkIndex_df160 5 = .ok (.invokestatic 1059, 3) := by decide +kernel
theorem dJ0_checkIndex_df160_8 : decode cJ0_checkIndex_df160 8 = .ok (.pop, 1) := by decide +kernel
theorem dJ0_checkIndex_df160_9 : decode cJ0_checkIndex_df160 9 = .ok (.return_, 1) := by decide +kernel
theorem dJ1_charAt_3b067_0 : decode cJ1_charAt_3b067 0 = .ok (.iload_n 1, 1) := by decide +kernel
theorem dJ1_charAt_3b067_1 : decode cJ1_charAt_3b067 1 = .ok (.aload_n 0, 1) := by decide +kernel
theorem dJ1_charAt_3b067_2 : decode cJ1_charAt_3b067 2 = .ok (.arraylength, 1) := by decide +kernel
theorem dJ1_charAt_3b067_3 : decode cJ1_charAt_3b067 3 = .ok (.invokestatic 9, 3) := by decide +kernel
theorem dJ1_charAt_3b067_6 : decode cJ1_charAt_3b067 6 = .ok (.aload_n 0, 1) := by decide +kernel
theorem dJ1_charAt_3b067_7 : decode cJ1_charAt_3b067 7 = .ok (.iload_n 1, 1) := by decide +kernel
theorem dJ1_charAt_3b067_8 : decode cJ1_charAt_3b067 8 = .ok (.baload, 1) := by decide +kernel
theorem dJ1_charAt_3b067_9 : decode cJ1_charAt_3b067 9 = .ok (.sipush 255, 3) := by decide +kernel
theorem dJ1_charAt_3b067_12 : decode cJ1_charAt_3b067 12 = .ok (.iand, 1) := by decide +kernel
theorem dJ1_charAt_3b067_13 : decode cJ1_charAt_3b067 13 = .ok (.i2c, 1) := by decide +kernel
theorem dJ1_charAt_3b067_14 : decode cJ1_charAt_3b067 14 = .ok (.ireturn, 1) := by decide +kernel
theorem dJ0_charAt_5068e_0 : decode cJ0_charAt_5068e 0 = .ok (.aload_n 0, 1) := by decide +kernel
theorem dJ0_charAt_5068e_1 : decode cJ0_charAt_5068e 1 = .ok (.invokevirtual 492, 3) := by decide +kernel
theorem dJ0_charAt_5068e_4 : decode cJ0_charAt_5068e 4 = .ok (.ifCond .eq 12, 3) := by decide +kernel
theorem dJ0_charAt_5068e_7 : decode cJ0_charAt_5068e 7 = .ok (.aload_n 0, 1) := by decide +kernel
theorem dJ0_charAt_5068e_8 : decode cJ0_charAt_5068e 8 = .ok (.getfield 9, 3) := by decide +kernel
theorem dJ0_charAt_5068e_11 : decode cJ0_charAt_5068e 11 = .ok (.iload_n 1, 1) := by decide +kernel
theorem dJ0_charAt_5068e_12 : decode cJ0_charAt_5068e 12 = .ok (.invokestatic 495, 3) := by decide +kernel
theorem dJ0_charAt_5068e_15 : decode cJ0_charAt_5068e 15 = .ok (.ireturn, 1) := by decide +kernel
theorem dJ0_charAt_5068e_16 : decode cJ0_charAt_5068e 16 = .ok (.aload_n 0, 1) := by decide +kernel
theorem dJ0_charAt_5068e_17 : decode cJ0_charAt_5068e 17 = .ok (.getfield 9, 3) := by decide +kernel
theorem dJ0_charAt_5068e_20 : decode cJ0_charAt_5068e 20 = .ok (.iload_n 1, 1) := by decide +kernel
theorem dJ0_charAt_5068e_21 : decode cJ0_charAt_5068e 21 = .ok (.invokestatic 498, 3) := by decide +kernel
theorem dJ0_charAt_5068e_24 : decode cJ0_charAt_5068e 24 = .ok (.ireturn, 1) := by decide +kernel
theorem lk_J0_335 : LkV RJ0 335 yJ0_coder_7d493 := ⟨Or.inl (gW_in _ (tb_3 _ (List.mem_of_getElem? (i := 178) rfl)) rfl), gW_in _ (tb_3 _ (List.mem_of_getElem? (i := 179) rfl)) rfl, gW_in _ (tb_3 _ (List.mem_of_getElem? (i := 180) rfl)) rfl⟩
theorem lk_J0_492 : LkV RJ0 492 yJ0_isLatin1_aae02 := ⟨Or.inl (gW_in _ (tb_3 _ (List.mem_of_getElem? (i := 194) rfl)) rfl), gW_in _ (tb_3 _ (List.mem_of_getElem? (i := 195) rfl)) rfl, gW_in _ (tb_3 _ (List.mem_of_getElem? (i := 196) rfl)) rfl⟩
theorem lk_J0_495 : LkS RJ0 495 yJ1_charAt_3b067 := ⟨Or.inl (gW_in _ (tb_3 _ (List.mem_of_getElem? (i := 198) rfl)) rfl), gW_in _ (tb_3 _ (List.mem_of_getElem? (i := 199) rfl)) rfl⟩
theorem lk_J0_1059 : LkS RJ0 1059 yJ3_checkIndex_8e157 := ⟨Or.inl (gW_in _ (tb_3 _ (List.mem_of_getElem? (i := 206) rfl)) rfl), gW_in _ (tb_3 _ (List.mem_of_getElem? (i := 207) rfl)) rfl⟩
theorem lk_J1_9 : LkS RJ1 9 yJ0_checkIndex_df160 := ⟨Or.inl (gW_in _ (tb_3 _ (List.mem_of_getElem? (i := 201) rfl)) rfl), gW_in _ (tb_3 _ (List.mem_of_getElem? (i := 202) rfl)) rfl⟩
theorem lc_J0_coder_7d493 : LkC yJ0_coder_7d493 cJ0_coder_7d493 1 (some .byte) 0 := ⟨gW_in _ (tb_3 _ (List.mem_of_getElem? (i := 181) rfl)) rfl, gW_in _ (tb_1 _ (List.mem_of_getElem? (i := 19) rfl)) rfl, by decide +kernel⟩
theorem lc_J0_isLatin1_aae02 : LkC yJ0_isLatin1_aae02 cJ0_isLatin1_aae02 1 (some .boolean) 0 := ⟨gW_in _ (tb_3 _ (List.mem_of_getElem? (i := 197) rfl)) rfl, gW_in _ (tb_1 _ (List.mem_of_getElem? (i := 19) rfl)) rfl, by decide +kernel⟩
theorem lc_J0_length_8abf5 : LkC yJ0_length_8abf5 cJ0_length_8abf5 1 (some .int) 0 := ⟨gW_in _ (tb_3 _ (List.mem_of_getElem? (i := 177) rfl)) rfl, gW_in _ (tb_1 _ (List.mem_of_getElem? (i := 19) rfl)) rfl, by decide +kernel⟩
theorem lc_J3_checkIndex_8e157 : LkC yJ3_checkIndex_8e157 cJ3_checkIndex_8e157 3 (some .int) 3 := ⟨gW_in _ (tb_3 _ (List.mem_of_getElem? (i := 208) rfl)) rfl, gW_in _ (tb_1 _ (List.mem_of_getElem? (i := 21) rfl)) rfl, by decide +kernel⟩
theorem lc_J0_checkIndex_df160 : LkC yJ0_checkIndex_df160 cJ0_checkIndex_df160 2 none 2 := ⟨gW_in _ (tb_3 _ (List.mem_of_getElem? (i := 203) rfl)) rfl, gW_in _ (tb_1 _ (List.mem_of_getElem? (i := 19) rfl)) rfl, by decide +kernel⟩
theorem lc_J1_charAt_3b067 : LkC yJ1_charAt_3b067 cJ1_charAt_3b067 2 (some .char) 2 := ⟨gW_in _ (tb_3 _ (List.mem_of_getElem? (i := 200) rfl)) rfl, gW_in _ (tb_1 _ (List.mem_of_getElem? (i := 20) rfl)) rfl, by decide +kernel⟩
theorem lc_J0_charAt_5068e : LkC yJ0_charAt_5068e cJ0_charAt_5068e 2 (some .char) 1 := ⟨gW_in _ (tb_3 _ (List.mem_of_getElem? (i := 193) rfl)) rfl, gW_in _ (tb_1 _ (List.mem_of_getElem? (i := 19) rfl)) rfl, by decide +kernel⟩
set_option maxRecDepth 100000 in
set_option maxHeartbeats 4000000 in
theorem c_coder (l : Launch) (D : va_G) (cA : Nat → ClassId) (ad : Nat → Nat) (bs : Nat) (X : State → Prop) (hAd : Ax ad bs) (hX : Stb bs X) (ht : Ssb ad bs X) (j : Nat) (hj : j < 39) (I : MI) (L : ML) (R : MR) : Cn l D cA ad bs X yJ0_coder_7d493 cJ0_coder_7d493 1 (some .byte) 0 0 [.ref (ad (400 + j))] I L R (some (.int 0), I, L, R) := by
  refine Cn.ofV hAd hX [(0, .ref (ad (400 + j)))] rfl (Nat.le_of_ble_eq_true rfl) (by decide +kernel) ?_
  intro G el eD ecA ead ebs eX erm eNL C0
  subst el eD ecA ead ebs eX
  have hsx := ht _ C0.2.2.2.2.2.2.2.2.2.2.2.1
  refine V_gets C0 hsx.2.1 (Or.inl (gW_in _ (tb_3 _ (List.mem_of_getElem? (i := 182) rfl)) rfl)) dJ0_coder_7d493_0 ?_
  refine V_if_eq C0 (tgt := 13) (by decide) dJ0_coder_7d493_3 (fun c => absurd c (by decide)) (fun c => ?_)
  refine V_aload_n C0 0 rfl rfl dJ0_coder_7d493_6 ?_
  refine V_getOF C0 (hsx.1.1 j hj).2.1 (Or.inl (gW_in _ (tb_9 _ (List.mem_of_getElem? (i := 214) rfl)) rfl)) dJ0_coder_7d493_7 ?_
  refine V_goto C0 (tgt := 14) (by decide) dJ0_coder_7d493_10 ?_
  exact V_nret C0 rfl dJ0_coder_7d493_14
set_option maxRecDepth 100000 in
set_option maxHeartbeats 4000000 in
theorem c_isLatin1 (l : Launch) (D : va_G) (cA : Nat → ClassId) (ad : Nat → Nat) (bs : Nat) (X : State → Prop) (hAd : Ax ad bs) (hX : Stb bs X) (ht : Ssb ad bs X) (j : Nat) (hj : j < 39) (I : MI) (L : ML) (R : MR) : Cn l D cA ad bs X yJ0_isLatin1_aae02 cJ0_isLatin1_aae02 1 (some .boolean) 0 0 [.ref (ad (400 + j))] I L R (some (.int 1), I, L, R) := by
  refine Cn.ofV hAd hX [(0, .ref (ad (400 + j)))] rfl (Nat.le_of_ble_eq_true rfl) (by decide +kernel) ?_
  intro G el eD ecA ead ebs eX erm eNL C0
  subst el eD ecA ead ebs eX
  have hsx := ht _ C0.2.2.2.2.2.2.2.2.2.2.2.1
  refine V_gets C0 hsx.2.1 (Or.inl (gW_in _ (tb_3 _ (List.mem_of_getElem? (i := 182) rfl)) rfl)) dJ0_isLatin1_aae02_0 ?_
  refine V_if_eq C0 (tgt := 17) (by decide) dJ0_isLatin1_aae02_3 (fun c => absurd c (by decide)) (fun c => ?_)
  refine V_aload_n C0 0 rfl rfl dJ0_isLatin1_aae02_6 ?_
  refine V_getOF C0 (hsx.1.1 j hj).2.1 (Or.inl (gW_in _ (tb_9 _ (List.mem_of_getElem? (i := 214) rfl)) rfl)) dJ0_isLatin1_aae02_7 ?_
  refine V_if_ne C0 (tgt := 17) (by decide) dJ0_isLatin1_aae02_10 (fun c => absurd rfl c) (fun c => ?_)
  refine V_iconst C0 (v := (1 : Int32)) (by decide) dJ0_isLatin1_aae02_13 ?_
  refine V_goto C0 (tgt := 18) (by decide) dJ0_isLatin1_aae02_14 ?_
  exact V_zret C0 (by decide) dJ0_isLatin1_aae02_18
set_option maxRecDepth 100000 in
set_option maxHeartbeats 4000000 in
theorem c_length (l : Launch) (D : va_G) (cA : Nat → ClassId) (ad : Nat → Nat) (bs : Nat) (X : State → Prop) (hAd : Ax ad bs) (hX : Stb bs X) (ht : Ssb ad bs X) (j : Nat) (hj : j < 39) (I : MI) (L : ML) (R : MR) : Cn l D cA ad bs X yJ0_length_8abf5 cJ0_length_8abf5 1 (some .int) 1 20 [.ref (ad (400 + j))] I L R (some (.int (nI (sN (400 + j)))), I, L, R) := by
  refine Cn.ofV hAd hX [(0, .ref (ad (400 + j)))] rfl (Nat.le_of_ble_eq_true rfl) (by decide +kernel) ?_
  intro G el eD ecA ead ebs eX erm eNL C0
  subst el eD ecA ead ebs eX
  have hsx := ht _ C0.2.2.2.2.2.2.2.2.2.2.2.1
  refine V_aload_n C0 0 rfl rfl dJ0_length_8abf5_0 ?_
  refine V_getOF C0 (hsx.1.1 j hj).2.2.1 (Or.inl (gW_in _ (tb_9 _ (List.mem_of_getElem? (i := 213) rfl)) rfl)) dJ0_length_8abf5_1 ?_
  refine V_tlenB C0 (v := nI (sN (400 + j))) (hsx.1.1 j hj).2.2.2 (by rw [sN_len hj]; rfl) dJ0_length_8abf5_4 ?_
  refine V_aload_n C0 0 rfl rfl dJ0_length_8abf5_5 ?_
  refine V_callO C0 (st := [.int (nI (sN (400 + j)))]) (As := []) (c_coder G.l G.D G.cA G.ad G.bs G.X C0.2.2.2.2.2.2.2.2.2.1 C0.2.2.2.2.2.2.2.2.2.2.2.2 ht j hj I L R) lc_J0_coder_7d493 lk_J0_335 (hsx.1.1 j hj).1 rfl (by rw [erm]; decide) (Nat.le_of_ble_eq_true rfl) dJ0_length_8abf5_6 ?_
  show V G _ 9 [(0, .ref (G.ad (400 + j)))] [.int 0, .int (nI (sN (400 + j)))] I L R
  refine V_ishr C0 dJ0_length_8abf5_9 ?_
  have e : iA (nI (sN (400 + j))) 0 = nI (sN (400 + j)) := sb_shr0 _
  rw [e]
  exact V_iret C0 dJ0_length_8abf5_10
set_option maxRecDepth 100000 in
set_option maxHeartbeats 4000000 in
theorem c_preCheck (l : Launch) (D : va_G) (cA : Nat → ClassId) (ad : Nat → Nat) (bs : Nat) (X : State → Prop) (hAd : Ax ad bs) (hX : Stb bs X) (ht : Ssb ad bs X) (i n : Int32) (v : Value) (hv : v = .null ∨ ∃ t, v = .ref t) (h0 : ¬ i < 0) (h1 : i < n) (I : MI) (L : ML) (R : MR) : Cn l D cA ad bs X yJ3_checkIndex_8e157 cJ3_checkIndex_8e157 3 (some .int) 0 0 [.int i, .int n, v] I L R (some (.int i), I, L, R) := by
  have hlen : (lg_sl [.int i, .int n, v]).length ≤ 3 := by rcases hv with rfl | ⟨t, rfl⟩ <;> exact Nat.le_of_ble_eq_true rfl
  refine Cn.ofV hAd hX [(0, .int i), (1, .int n), (2, v)] rfl hlen (by decide +kernel) ?_
  intro G el eD ecA ead ebs eX erm eNL C0
  subst el eD ecA ead ebs eX
  refine V_iload_n C0 0 rfl rfl dJ3_checkIndex_8e157_0 ?_
  refine V_if_lt C0 (tgt := 9) (by decide) dJ3_checkIndex_8e157_1 (fun c => absurd c h0) (fun c => ?_)
  refine V_iload_n C0 0 rfl rfl dJ3_checkIndex_8e157_4 ?_
  refine V_iload_n C0 1 rfl rfl dJ3_checkIndex_8e157_5 ?_
  refine V_icmp_lt C0 (tgt := 16) (by decide) dJ3_checkIndex_8e157_6 (fun c => ?_) (fun c => absurd h1 c)
  refine V_iload_n C0 0 rfl rfl dJ3_checkIndex_8e157_16 ?_
  exact V_iret C0 dJ3_checkIndex_8e157_17
set_option maxRecDepth 100000 in
set_option maxHeartbeats 4000000 in
theorem c_strCheck (l : Launch) (D : va_G) (cA : Nat → ClassId) (ad : Nat → Nat) (bs : Nat) (X : State → Prop) (hAd : Ax ad bs) (hX : Stb bs X) (ht : Ssb ad bs X) (i n : Int32) (h0 : ¬ i < 0) (h1 : i < n) (I : MI) (L : ML) (R : MR) : Cn l D cA ad bs X yJ0_checkIndex_df160 cJ0_checkIndex_df160 2 none 1 22 [.int i, .int n] I L R (none, I, L, R) := by
  refine Cn.ofV hAd hX [(0, .int i), (1, .int n)] rfl (Nat.le_of_ble_eq_true rfl) (by decide +kernel) ?_
  intro G el eD ecA ead ebs eX erm eNL C0
  subst el eD ecA ead ebs eX
  have hsx := ht _ C0.2.2.2.2.2.2.2.2.2.2.2.1
  refine V_iload_n C0 0 rfl rfl dJ0_checkIndex_df160_0 ?_
  refine V_iload_n C0 1 rfl rfl dJ0_checkIndex_df160_1 ?_
  have key : ∀ v : Value, (v = .null ∨ ∃ t, v = .ref t) → va_Z "jdk/internal/util/Preconditions" "SIOOBE_FORMATTER" "Ljava/util/function/BiFunction;" v (Ab G.bs) G.s G.s.heap → V G (qf G (none, I, L, R)) 2 [(0, .int i), (1, .int n)] [.int n, .int i] I L R := by
    intro v hv hZ
    refine V_gets C0 hZ (Or.inl (gW_in _ (tb_3 _ (List.mem_of_getElem? (i := 204) rfl)) rfl)) dJ0_checkIndex_df160_2 ?_
    refine V_callS C0 (st := []) (As := [.int i, .int n, v]) (c_preCheck G.l G.D G.cA G.ad G.bs G.X C0.2.2.2.2.2.2.2.2.2.1 C0.2.2.2.2.2.2.2.2.2.2.2.2 ht i n v hv h0 h1 I L R) lc_J3_checkIndex_8e157 lk_J0_1059 rfl (by rw [erm]; decide) (Nat.le_of_ble_eq_true rfl) dJ0_checkIndex_df160_5 ?_
    show V G _ 8 [(0, .int i), (1, .int n)] [.int i] I L R
    refine V_pop C0 rfl dJ0_checkIndex_df160_8 ?_
    exact V_vret C0 dJ0_checkIndex_df160_9
  rcases hsx.2.2.1 with z | ⟨t, z⟩
  · exact key .null (Or.inl rfl) z
  · exact key (.ref t) (Or.inr ⟨t, rfl⟩) z
set_option maxRecDepth 100000 in
set_option maxHeartbeats 4000000 in
theorem c_latAt (l : Launch) (D : va_G) (cA : Nat → ClassId) (ad : Nat → Nat) (bs : Nat) (X : State → Prop) (hAd : Ax ad bs) (hX : Stb bs X) (ht : Ssb ad bs X) (j i : Nat) (hj : j < 39) (hi : i < sN (400 + j)) (I : MI) (L : ML) (R : MR) : Cn l D cA ad bs X yJ1_charAt_3b067 cJ1_charAt_3b067 2 (some .char) 2 43 [.ref (ad (500 + j)), .int (nI i)] I L R (some (.int (sC (400 + j) i)), I, L, R) := by
  refine Cn.ofV hAd hX [(0, .ref (ad (500 + j))), (1, .int (nI i))] rfl (Nat.le_of_ble_eq_true rfl) (by decide +kernel) ?_
  intro G el eD ecA ead ebs eX erm eNL C0
  subst el eD ecA ead ebs eX
  have hsx := ht _ C0.2.2.2.2.2.2.2.2.2.2.2.1
  have hl10 := sN_lt hj
  refine V_iload_n C0 1 rfl rfl dJ1_charAt_3b067_0 ?_
  refine V_aload_n C0 0 rfl rfl dJ1_charAt_3b067_1 ?_
  refine V_tlenB C0 (v := nI (sN (400 + j))) (hsx.1.1 j hj).2.2.2 (by rw [sN_len hj]; rfl) dJ1_charAt_3b067_2 ?_
  refine V_callS C0 (st := []) (As := [.int (nI i), .int (nI (sN (400 + j)))]) (c_strCheck G.l G.D G.cA G.ad G.bs G.X C0.2.2.2.2.2.2.2.2.2.1 C0.2.2.2.2.2.2.2.2.2.2.2.2 ht (nI i) (nI (sN (400 + j))) (nI_pos (by omega)) (nI_lt hi (by omega)) I L R) lc_J0_checkIndex_df160 lk_J1_9 rfl (by rw [erm]; decide) (Nat.le_of_ble_eq_true rfl) dJ1_charAt_3b067_3 ?_
  show V G _ 6 [(0, .ref (G.ad (500 + j))), (1, .int (nI i))] [] I L R
  refine V_aload_n C0 0 rfl rfl dJ1_charAt_3b067_6 ?_
  refine V_iload_n C0 1 rfl rfl dJ1_charAt_3b067_7 ?_
  refine V_tb C0 (v := .int (sC (400 + j) i)) (hsx.1.1 j hj).2.2.2 (by rw [sN_len hj]; exact vp_in_nI hi (by omega)) (by rw [nI_clamp (by omega)]; exact congrArg Value.int (sC_byt hj hi)) dJ1_charAt_3b067_8 ?_
  refine V_sipush C0 (v := (255 : Int32)) (by decide) dJ1_charAt_3b067_9 ?_
  refine V_iand C0 dJ1_charAt_3b067_12 ?_
  refine V_i2c C0 (sC_and hj hi).1 dJ1_charAt_3b067_13 ?_
  exact V_nret C0 (sC_and hj hi).2 dJ1_charAt_3b067_14
set_option maxRecDepth 100000 in
set_option maxHeartbeats 4000000 in
theorem c_charAt (l : Launch) (D : va_G) (cA : Nat → ClassId) (ad : Nat → Nat) (bs : Nat) (X : State → Prop) (hAd : Ax ad bs) (hX : Stb bs X) (ht : Ssb ad bs X) (j i : Nat) (hj : j < 39) (hi : i < sN (400 + j)) (I : MI) (L : ML) (R : MR) : Cn l D cA ad bs X yJ0_charAt_5068e cJ0_charAt_5068e 2 (some .char) 3 64 [.ref (ad (400 + j)), .int (nI i)] I L R (some (.int (sC (400 + j) i)), I, L, R) := by
  refine Cn.ofV hAd hX [(0, .ref (ad (400 + j))), (1, .int (nI i))] rfl (Nat.le_of_ble_eq_true rfl) (by decide +kernel) ?_
  intro G el eD ecA ead ebs eX erm eNL C0
  subst el eD ecA ead ebs eX
  have hsx := ht _ C0.2.2.2.2.2.2.2.2.2.2.2.1
  refine V_aload_n C0 0 rfl rfl dJ0_charAt_5068e_0 ?_
  refine V_callO C0 (st := []) (As := []) (c_isLatin1 G.l G.D G.cA G.ad G.bs G.X C0.2.2.2.2.2.2.2.2.2.1 C0.2.2.2.2.2.2.2.2.2.2.2.2 ht j hj I L R) lc_J0_isLatin1_aae02 lk_J0_492 (hsx.1.1 j hj).1 rfl (by rw [erm]; decide) (Nat.le_of_ble_eq_true rfl) dJ0_charAt_5068e_1 ?_
  show V G _ 4 [(0, .ref (G.ad (400 + j))), (1, .int (nI i))] [.int 1] I L R
  refine V_if_eq C0 (tgt := 16) (by decide) dJ0_charAt_5068e_4 (fun c => absurd c (by decide)) (fun c => ?_)
  refine V_aload_n C0 0 rfl rfl dJ0_charAt_5068e_7 ?_
  refine V_getOF C0 (hsx.1.1 j hj).2.2.1 (Or.inl (gW_in _ (tb_9 _ (List.mem_of_getElem? (i := 213) rfl)) rfl)) dJ0_charAt_5068e_8 ?_
  refine V_iload_n C0 1 rfl rfl dJ0_charAt_5068e_11 ?_
  refine V_callS C0 (st := []) (As := [.ref (G.ad (500 + j)), .int (nI i)]) (c_latAt G.l G.D G.cA G.ad G.bs G.X C0.2.2.2.2.2.2.2.2.2.1 C0.2.2.2.2.2.2.2.2.2.2.2.2 ht j i hj hi I L R) lc_J1_charAt_3b067 lk_J0_495 rfl (by rw [erm]; decide) (Nat.le_of_ble_eq_true rfl) dJ0_charAt_5068e_12 ?_
  show V G _ 15 [(0, .ref (G.ad (400 + j))), (1, .int (nI i))] [.int (sC (400 + j) i)] I L R
  exact V_nret C0 (sC_and hj hi).2 dJ0_charAt_5068e_15
