/-! Rows on strings and Kind by their ids -/
def sA (x : Nat) (i : Int32) : Option Int32 := if inb i (sN x) = true then some (sC x (ix i)) else none
def rk (i : Int32) : Option Nat := if inb i 22 = true then some (310 + ix i) else none
def bno {α γ : Type} (x : Option α) (g0 : Option γ) (g1 : α → Option γ) : Option γ := match x with
  | none => g0
  | some a => g1 a
theorem bno_some {α γ : Type} {x : Option α} {g0 : Option γ} {g1 : α → Option γ} {r : γ} (h : bno x g0 g1 = some r) : (x = none ∧ g0 = some r) ∨ ∃ a, x = some a ∧ g1 a = some r := by
  cases x with
  | none => exact Or.inl ⟨rfl, h⟩
  | some a => exact Or.inr ⟨a, rfl, h⟩
theorem inb_ex {i : Int32} {n : Nat} (h : inb i n = true) (hn : n < 2 ^ 31) : ∃ j, j < n ∧ i = nI j ∧ ix i = j := by
  obtain ⟨j, h1, h2⟩ := vp_in_of (inb_in h) hn
  exact ⟨j, h1, h2, by rw [h2]; exact nI_clamp (by omega)⟩
theorem rk_ok {i : Int32} {a : Nat} (h : rk i = some a) : 310 ≤ a ∧ a < 332 := by
  obtain ⟨h1, h2⟩ := ite_some h
  obtain ⟨j, h3, -, h5⟩ := inb_ex h1 (by decide)
  have e := Option.some.inj h2
  omega
theorem kS {x : Nat} (hx : 310 ≤ x ∧ x < 332) : 400 ≤ x + 90 ∧ x + 90 < 439 := by omega
theorem kO {ad : Nat → Nat} {bs : Nat} {U : State} {x : Nat} (h : SXb ad bs U) (hx : 310 ≤ x ∧ x < 332) : va_O "SmallCraft$Kind" (ad x) (Ab bs) U U.heap ∧ va_OF "SmallCraft$Kind" "word" "Ljava/lang/String;" (.ref (ad (x + 90))) (ad x) (Ab bs) U U.heap ∧ va_OF "SmallCraft$Kind" "layer" "I" (.int (kF x 0)) (ad x) (Ab bs) U U.heap ∧ va_OF "SmallCraft$Kind" "form1" "I" (.int (kF x 1)) (ad x) (Ab bs) U U.heap ∧ va_OF "SmallCraft$Kind" "form2" "I" (.int (kF x 2)) (ad x) (Ab bs) U U.heap ∧ va_OF "SmallCraft$Kind" "form3" "I" (.int (kF x 3)) (ad x) (Ab bs) U U.heap := by
  obtain ⟨i, rfl⟩ : ∃ i, x = 310 + i := ⟨x - 310, by omega⟩
  rw [show 310 + i + 90 = 400 + i by omega]
  exact h.2.2.2.1 i (by omega)
section VU
variable {G : Gm} {f : State → Prop} {own : String} {cc : ByteArray} {rty : Option FieldType} {pc : Nat} {lv : List (Nat × Value)} {st : List Value} {I : MI} {L : ML} {R : MR}
theorem V_strlen (C0 : Cx G own cc rty) (ht : Ssb G.ad G.bs G.X) {x index : Nat} (hx : 400 ≤ x ∧ x < 439) (hl0 : LkV own index yJ0_length_8abf5) (hR : 1 + 1 ≤ G.rm.frames ∧ 8 + (1 + 11) + 20 ≤ G.rm.locals) (hst : (st.map fun v => v.category).sum ≤ 8) (hd : decode cc pc = .ok (.invokevirtual index, 3)) (k : V G f (pc + 3) lv (.int (nI (sN x)) :: st) I L R) : V G f pc lv (.ref (G.ad x) :: st) I L R := by
  obtain ⟨j, rfl⟩ : ∃ j, x = 400 + j := ⟨x - 400, by omega⟩
  exact V_callO C0 (st := st) (As := []) (c_length G.l G.D G.cA G.ad G.bs G.X C0.2.2.2.2.2.2.2.2.2.1 C0.2.2.2.2.2.2.2.2.2.2.2.2 ht j (by omega) I L R) lc_J0_length_8abf5 hl0 ((ht _ C0.2.2.2.2.2.2.2.2.2.2.2.1).1.1 j (by omega)).1 rfl hR hst hd k
theorem V_strAt (C0 : Cx G own cc rty) (ht : Ssb G.ad G.bs G.X) {x index : Nat} {i v : Int32} (hx : 400 ≤ x ∧ x < 439) (hv : sA x i = some v) (hl0 : LkV own index yJ0_charAt_5068e) (hR : 3 + 1 ≤ G.rm.frames ∧ 8 + (2 + 11) + 64 ≤ G.rm.locals) (hst : (st.map fun v => v.category).sum ≤ 8) (hd : decode cc pc = .ok (.invokevirtual index, 3)) (k : V G f (pc + 3) lv (.int v :: st) I L R) : V G f pc lv (.int i :: .ref (G.ad x) :: st) I L R := by
  obtain ⟨j, rfl⟩ : ∃ j, x = 400 + j := ⟨x - 400, by omega⟩
  obtain ⟨h1, h2⟩ := ite_some hv
  have h10 := sN_lt (show j < 39 by omega)
  obtain ⟨n, h3, h4, h5⟩ := inb_ex h1 (by omega)
  have e := Option.some.inj h2
  subst e
  rw [h5] at k
  rw [h4]
  exact V_callO C0 (st := st) (As := [.int (nI n)]) (c_charAt G.l G.D G.cA G.ad G.bs G.X C0.2.2.2.2.2.2.2.2.2.1 C0.2.2.2.2.2.2.2.2.2.2.2.2 ht j n (by omega) h3 I L R) lc_J0_charAt_5068e hl0 ((ht _ C0.2.2.2.2.2.2.2.2.2.2.2.1).1.1 j (by omega)).1 rfl hR hst hd k
theorem V_rk (C0 : Cx G own cc rty) (hsb : SXb G.ad G.bs G.s) {i : Int32} {a : Nat} (h : rk i = some a) (hd : decode cc pc = .ok (.aaload, 1)) (k : V G f (pc + 1) lv (.ref (G.ad a) :: st) I L R) : V G f pc lv (.int i :: .ref (G.ad 303) :: st) I L R := by
  obtain ⟨h1, h2⟩ := ite_some h
  have e := Option.some.inj h2
  subst e
  exact V_tq C0 hsb.2.2.2.2.1.2 (inb_in h1) rfl hd k
theorem V_null (C0 : Cx G own cc rty) (hd : decode cc pc = .ok (.aconst_null, 1)) (k : V G f (pc + 1) lv (.null :: st) I L R) : V G f pc lv st I L R :=
  fun H locs ls hP hS hl => lv_null C0.1 C0.2.1 hd (k H locs ls hP hS hl)
theorem V_aload_nN (C0 : Cx G own cc rty) {n : Fin 4} {i : Nat} (q : Nat) (hi : (n : Nat) = i) (hq : lv[q]? = some (i, .null)) (hd : decode cc pc = .ok (.aload_n n, 1)) (k : V G f (pc + 1) lv (.null :: st) I L R) : V G f pc lv st I L R :=
  fun H locs ls hP hS hl => lv_aload_nN C0.1 C0.2.1 hd hi (lv_at hl q hq) (k H locs ls hP hS hl)
theorem V_astore_nN (C0 : Cx G own cc rty) {n : Fin 4} {i : Nat} (lv' : List (Nat × Value)) (hi : (n : Nat) = i) (hn : i < G.nL) (hl' : (i, Value.null) :: lv.filter (fun q => !(q.1 == i) && !(q.1 + 1 == i && q.2.category == 2)) = lv') (hd : decode cc pc = .ok (.astore_n n, 1)) (k : V G f (pc + 1) lv' st I L R) : V G f pc lv (Value.null :: st) I L R :=
  fun H locs ls hP hS hl => lv_astore_nN C0.1 C0.2.1 hd hi hl hn hl' (fun ls hl => k H locs ls hP hS hl)
theorem V_ifnonnull (C0 : Cx G own cc rty) {x : Nat} {off : Int} {tgt : Nat} (ht : (pc : Int) + off = (tgt : Int)) (hd : decode cc pc = .ok (.ifnonnull off, 3)) (k : V G f tgt lv st I L R) : V G f pc lv (.ref x :: st) I L R :=
  fun H locs ls hP hS hl => lv_ifnonnull C0.1 C0.2.1 hd ht (k H locs ls hP hS hl)
theorem V_ifnonnullN (C0 : Cx G own cc rty) {off : Int} (hd : decode cc pc = .ok (.ifnonnull off, 3)) (k : V G f (pc + 3) lv st I L R) : V G f pc lv (.null :: st) I L R :=
  fun H locs ls hP hS hl => lv_ifnonnullN C0.1 C0.2.1 hd (k H locs ls hP hS hl)
theorem V_aretN {G : Gm} {own : String} {cc : ByteArray} {pc : Nat} {lv : List (Nat × Value)} {I : MI} {L : ML} {R : MR} (r : Option Nat) {nm : String} (C0 : Cx G own cc (some (.object nm))) (hd : decode cc pc = .ok (.areturn, 1)) : V G (qf G (some (va_rf (Option.map G.ad r)), I, L, R)) pc lv [va_rf (Option.map G.ad r)] I L R :=
  fun H locs ls hP hS hl => W.aret (v := va_rf (Option.map G.ad r)) C0.1 C0.2.1 C0.2.2.2.1 (Or.inl ⟨_, rfl⟩) (va_rf_or _) (fun t ht hW => ⟨rfl, by rw [ht]; exact hP, hS.F ht⟩) hS.2.2 hd C0.2.2.2.2.1
end VU
theorem lk_X0_26 : LkV RX0 26 yX8_next := ⟨Or.inl (gW_in _ (tb_3 _ (List.mem_of_getElem? (i := 125) rfl)) rfl), gW_in _ (tb_3 _ (List.mem_of_getElem? (i := 126) rfl)) rfl, gW_in _ (tb_3 _ (List.mem_of_getElem? (i := 127) rfl)) rfl⟩
theorem lk_X0_31 : LkV RX0 31 yX8_isEnd := ⟨Or.inl (gW_in _ (tb_3 _ (List.mem_of_getElem? (i := 157) rfl)) rfl), gW_in _ (tb_3 _ (List.mem_of_getElem? (i := 158) rfl)) rfl, gW_in _ (tb_3 _ (List.mem_of_getElem? (i := 159) rfl)) rfl⟩
theorem lk_X0_35 : LkV RX0 35 yX0_readUnit := ⟨Or.inl (gW_in _ (tb_3 _ (List.mem_of_getElem? (i := 161) rfl)) rfl), gW_in _ (tb_3 _ (List.mem_of_getElem? (i := 163) rfl)) rfl, gW_in _ (tp_1 _ (List.mem_of_getElem? (i := 5) rfl)) rfl⟩
theorem lk_X0_39 : LkS RX0 39 yX4_readIn := ⟨Or.inl (gW_in _ (tb_3 _ (List.mem_of_getElem? (i := 165) rfl)) rfl), gW_in _ (tb_3 _ (List.mem_of_getElem? (i := 166) rfl)) rfl⟩
theorem lk_X0_45 : LkV RX0 45 yX8_refuse := ⟨Or.inl (gW_in _ (tb_3 _ (List.mem_of_getElem? (i := 228) rfl)) rfl), gW_in _ (tb_3 _ (List.mem_of_getElem? (i := 229) rfl)) rfl, gW_in _ (tb_3 _ (List.mem_of_getElem? (i := 230) rfl)) rfl⟩
theorem lk_X0_49 : LkV RX0 49 yX8_isAnyWord := ⟨Or.inl (gW_in _ (tb_3 _ (List.mem_of_getElem? (i := 232) rfl)) rfl), gW_in _ (tb_3 _ (List.mem_of_getElem? (i := 233) rfl)) rfl, gW_in _ (tb_3 _ (List.mem_of_getElem? (i := 234) rfl)) rfl⟩
theorem lk_X0_52 : LkV RX0 52 yX8_wordRead := ⟨Or.inl (gW_in _ (tb_3 _ (List.mem_of_getElem? (i := 236) rfl)) rfl), gW_in _ (tb_3 _ (List.mem_of_getElem? (i := 237) rfl)) rfl, gW_in _ (tb_3 _ (List.mem_of_getElem? (i := 238) rfl)) rfl⟩
theorem lk_X0_56 : LkV RX0 56 yX0_isTaken := ⟨Or.inl (gW_in _ (tb_4 _ (List.mem_of_getElem? (i := 0) rfl)) rfl), gW_in _ (tb_4 _ (List.mem_of_getElem? (i := 2) rfl)) rfl, gW_in _ (tp_1 _ (List.mem_of_getElem? (i := 6) rfl)) rfl⟩
theorem lk_X0_63 : LkV RX0 63 yX0_readNumbers := ⟨Or.inl (gW_in _ (tb_4 _ (List.mem_of_getElem? (i := 4) rfl)) rfl), gW_in _ (tb_4 _ (List.mem_of_getElem? (i := 6) rfl)) rfl, gW_in _ (tp_1 _ (List.mem_of_getElem? (i := 7) rfl)) rfl⟩
theorem lk_X0_67 : LkV RX0 67 yX8_takeSign := ⟨Or.inl (gW_in _ (tb_4 _ (List.mem_of_getElem? (i := 31) rfl)) rfl), gW_in _ (tb_4 _ (List.mem_of_getElem? (i := 32) rfl)) rfl, gW_in _ (tb_4 _ (List.mem_of_getElem? (i := 33) rfl)) rfl⟩
theorem lk_X0_70 : LkV RX0 70 yX4_formOf := ⟨Or.inl (gW_in _ (tb_4 _ (List.mem_of_getElem? (i := 8) rfl)) rfl), gW_in _ (tb_4 _ (List.mem_of_getElem? (i := 9) rfl)) rfl, gW_in _ (tb_4 _ (List.mem_of_getElem? (i := 10) rfl)) rfl⟩
theorem lk_X0_74 : LkV RX0 74 yX8_takeNumber := ⟨Or.inl (gW_in _ (tb_4 _ (List.mem_of_getElem? (i := 12) rfl)) rfl), gW_in _ (tb_4 _ (List.mem_of_getElem? (i := 13) rfl)) rfl, gW_in _ (tb_4 _ (List.mem_of_getElem? (i := 14) rfl)) rfl⟩
theorem lk_X0_77 : LkV RX0 77 yX8_number := ⟨Or.inl (gW_in _ (tb_4 _ (List.mem_of_getElem? (i := 18) rfl)) rfl), gW_in _ (tb_4 _ (List.mem_of_getElem? (i := 19) rfl)) rfl, gW_in _ (tb_4 _ (List.mem_of_getElem? (i := 20) rfl)) rfl⟩
theorem lk_X0_81 : LkV RX0 81 yX0_fits := ⟨Or.inl (gW_in _ (tb_4 _ (List.mem_of_getElem? (i := 22) rfl)) rfl), gW_in _ (tb_4 _ (List.mem_of_getElem? (i := 24) rfl)) rfl, gW_in _ (tp_1 _ (List.mem_of_getElem? (i := 8) rfl)) rfl⟩
theorem lk_X4_111 : LkV RX4 111 yX8_isWord := ⟨Or.inl (gW_in _ (tb_3 _ (List.mem_of_getElem? (i := 170) rfl)) rfl), gW_in _ (tb_3 _ (List.mem_of_getElem? (i := 171) rfl)) rfl, gW_in _ (tb_3 _ (List.mem_of_getElem? (i := 172) rfl)) rfl⟩
theorem lk_X5_39 : LkV RX5 39 yX8_isEnd := ⟨Or.inl (gW_in _ (tb_5 _ (List.mem_of_getElem? (i := 30) rfl)) rfl), gW_in _ (tb_3 _ (List.mem_of_getElem? (i := 158) rfl)) rfl, gW_in _ (tb_3 _ (List.mem_of_getElem? (i := 159) rfl)) rfl⟩
theorem lk_X5_43 : LkV RX5 43 yX5_readItem := ⟨Or.inl (gW_in _ (tb_5 _ (List.mem_of_getElem? (i := 31) rfl)) rfl), gW_in _ (tb_5 _ (List.mem_of_getElem? (i := 33) rfl)) rfl, gW_in _ (tp_3 _ (List.mem_of_getElem? (i := 11) rfl)) rfl⟩
theorem lk_X5_49 : LkV RX5 49 yX8_isWord := ⟨Or.inl (gW_in _ (tb_5 _ (List.mem_of_getElem? (i := 36) rfl)) rfl), gW_in _ (tb_3 _ (List.mem_of_getElem? (i := 171) rfl)) rfl, gW_in _ (tb_3 _ (List.mem_of_getElem? (i := 172) rfl)) rfl⟩
theorem lk_X5_61 : LkV RX5 61 yX3_clear := ⟨Or.inl (gW_in _ (tb_5 _ (List.mem_of_getElem? (i := 40) rfl)) rfl), gW_in _ (tb_5 _ (List.mem_of_getElem? (i := 41) rfl)) rfl, gW_in _ (tb_5 _ (List.mem_of_getElem? (i := 42) rfl)) rfl⟩
theorem lk_X5_66 : LkV RX5 66 yX8_takeNumber_ := ⟨Or.inl (gW_in _ (tb_5 _ (List.mem_of_getElem? (i := 44) rfl)) rfl), gW_in _ (tb_5 _ (List.mem_of_getElem? (i := 45) rfl)) rfl, gW_in _ (tb_5 _ (List.mem_of_getElem? (i := 46) rfl)) rfl⟩
theorem lk_X5_77 : LkV RX5 77 yX5_readTerm := ⟨Or.inl (gW_in _ (tb_5 _ (List.mem_of_getElem? (i := 50) rfl)) rfl), gW_in _ (tb_5 _ (List.mem_of_getElem? (i := 52) rfl)) rfl, gW_in _ (tp_3 _ (List.mem_of_getElem? (i := 12) rfl)) rfl⟩
theorem lk_X5_81 : LkV RX5 81 yX5_readBound := ⟨Or.inl (gW_in _ (tb_5 _ (List.mem_of_getElem? (i := 76) rfl)) rfl), gW_in _ (tb_5 _ (List.mem_of_getElem? (i := 78) rfl)) rfl, gW_in _ (tp_3 _ (List.mem_of_getElem? (i := 14) rfl)) rfl⟩
theorem lk_X5_85 : LkV RX5 85 yX5_readAct := ⟨Or.inl (gW_in _ (tb_5 _ (List.mem_of_getElem? (i := 82) rfl)) rfl), gW_in _ (tb_5 _ (List.mem_of_getElem? (i := 84) rfl)) rfl, gW_in _ (tp_3 _ (List.mem_of_getElem? (i := 15) rfl)) rfl⟩
theorem lk_X5_88 : LkV RX5 88 yX8_takeSign := ⟨Or.inl (gW_in _ (tb_5 _ (List.mem_of_getElem? (i := 96) rfl)) rfl), gW_in _ (tb_4 _ (List.mem_of_getElem? (i := 32) rfl)) rfl, gW_in _ (tb_4 _ (List.mem_of_getElem? (i := 33) rfl)) rfl⟩
theorem lk_X5_91 : LkS RX5 91 yX5_termOf := ⟨Or.inl (gW_in _ (tb_5 _ (List.mem_of_getElem? (i := 54) rfl)) rfl), gW_in _ (tb_5 _ (List.mem_of_getElem? (i := 55) rfl)) rfl⟩
theorem lk_X5_98 : LkV RX5 98 yX5_readName := ⟨Or.inl (gW_in _ (tb_5 _ (List.mem_of_getElem? (i := 64) rfl)) rfl), gW_in _ (tb_5 _ (List.mem_of_getElem? (i := 66) rfl)) rfl, gW_in _ (tp_3 _ (List.mem_of_getElem? (i := 13) rfl)) rfl⟩
theorem lk_X5_146 : LkS RX5 146 yX5_actOf := ⟨Or.inl (gW_in _ (tb_5 _ (List.mem_of_getElem? (i := 86) rfl)) rfl), gW_in _ (tb_5 _ (List.mem_of_getElem? (i := 87) rfl)) rfl⟩
theorem lk_X8_41 : LkV RX8 41 yJ0_length_8abf5 := ⟨Or.inl (gW_in _ (tb_3 _ (List.mem_of_getElem? (i := 174) rfl)) rfl), gW_in _ (tb_3 _ (List.mem_of_getElem? (i := 175) rfl)) rfl, gW_in _ (tb_3 _ (List.mem_of_getElem? (i := 176) rfl)) rfl⟩
theorem lk_X8_46 : LkS RX8 46 yX11_letterOf := ⟨Or.inr ⟨"SmallCraft", nW_in _ (tb_3 _ (List.mem_of_getElem? (i := 184) rfl)) rfl⟩, gW_in _ (tb_3 _ (List.mem_of_getElem? (i := 185) rfl)) rfl⟩
theorem lk_X8_50 : LkV RX8 50 yJ0_charAt_5068e := ⟨Or.inl (gW_in _ (tb_3 _ (List.mem_of_getElem? (i := 190) rfl)) rfl), gW_in _ (tb_3 _ (List.mem_of_getElem? (i := 191) rfl)) rfl, gW_in _ (tb_3 _ (List.mem_of_getElem? (i := 192) rfl)) rfl⟩
theorem lc_X0_fits : LkC yX0_fits cX0_fits 3 (some .boolean) 2 := ⟨gW_in _ (tb_4 _ (List.mem_of_getElem? (i := 25) rfl)) rfl, gW_in _ (tb_1 _ (List.mem_of_getElem? (i := 5) rfl)) rfl, by decide +kernel⟩
theorem lc_X0_isTaken : LkC yX0_isTaken cX0_isTaken 4 (some .boolean) 1 := ⟨gW_in _ (tb_4 _ (List.mem_of_getElem? (i := 3) rfl)) rfl, gW_in _ (tb_1 _ (List.mem_of_getElem? (i := 5) rfl)) rfl, by decide +kernel⟩
theorem lc_X0_readNumbers : LkC yX0_readNumbers cX0_readNumbers 6 (some .boolean) 2 := ⟨gW_in _ (tb_4 _ (List.mem_of_getElem? (i := 7) rfl)) rfl, gW_in _ (tb_1 _ (List.mem_of_getElem? (i := 5) rfl)) rfl, by decide +kernel⟩
theorem lc_X0_readUnit : LkC yX0_readUnit cX0_readUnit 3 (some .boolean) 1 := ⟨gW_in _ (tb_3 _ (List.mem_of_getElem? (i := 164) rfl)) rfl, gW_in _ (tb_1 _ (List.mem_of_getElem? (i := 5) rfl)) rfl, by decide +kernel⟩
theorem lc_X11_letterOf : LkC yX11_letterOf cX11_letterOf 3 (some .int) 2 := ⟨gW_in _ (tb_3 _ (List.mem_of_getElem? (i := 186) rfl)) rfl, gW_in _ (tb_1 _ (List.mem_of_getElem? (i := 1) rfl)) rfl, by decide +kernel⟩
theorem lc_X3_clear : LkC yX3_clear cX3_clear 1 none 0 := ⟨gW_in _ (tb_5 _ (List.mem_of_getElem? (i := 43) rfl)) rfl, gW_in _ (tb_1 _ (List.mem_of_getElem? (i := 11) rfl)) rfl, by decide +kernel⟩
theorem lc_X4_formOf : LkC yX4_formOf cX4_formOf 2 (some .int) 1 := ⟨gW_in _ (tb_4 _ (List.mem_of_getElem? (i := 11) rfl)) rfl, gW_in _ (tb_1 _ (List.mem_of_getElem? (i := 18) rfl)) rfl, by decide +kernel⟩
theorem lc_X4_readIn : LkC yX4_readIn cX4_readIn 2 (some (.object "SmallCraft$Kind")) 1 := ⟨gW_in _ (tb_3 _ (List.mem_of_getElem? (i := 167) rfl)) rfl, gW_in _ (tb_1 _ (List.mem_of_getElem? (i := 18) rfl)) rfl, by decide +kernel⟩
theorem lc_X5_actOf : LkC yX5_actOf cX5_actOf 1 (some .int) 1 := ⟨gW_in _ (tb_5 _ (List.mem_of_getElem? (i := 88) rfl)) rfl, gW_in _ (tb_1 _ (List.mem_of_getElem? (i := 10) rfl)) rfl, by decide +kernel⟩
theorem lc_X5_readAct : LkC yX5_readAct cX5_readAct 5 (some .boolean) 3 := ⟨gW_in _ (tb_5 _ (List.mem_of_getElem? (i := 85) rfl)) rfl, gW_in _ (tb_1 _ (List.mem_of_getElem? (i := 10) rfl)) rfl, by decide +kernel⟩
theorem lc_X5_readBound : LkC yX5_readBound cX5_readBound 4 (some .boolean) 2 := ⟨gW_in _ (tb_5 _ (List.mem_of_getElem? (i := 79) rfl)) rfl, gW_in _ (tb_1 _ (List.mem_of_getElem? (i := 10) rfl)) rfl, by decide +kernel⟩
theorem lc_X5_readItem : LkC yX5_readItem cX5_readItem 7 (some .boolean) 2 := ⟨gW_in _ (tb_5 _ (List.mem_of_getElem? (i := 34) rfl)) rfl, gW_in _ (tb_1 _ (List.mem_of_getElem? (i := 10) rfl)) rfl, by decide +kernel⟩
theorem lc_X5_readName : LkC yX5_readName cX5_readName 5 (some .int) 3 := ⟨gW_in _ (tb_5 _ (List.mem_of_getElem? (i := 67) rfl)) rfl, gW_in _ (tb_1 _ (List.mem_of_getElem? (i := 10) rfl)) rfl, by decide +kernel⟩
theorem lc_X5_readTerm : LkC yX5_readTerm cX5_readTerm 5 (some .boolean) 3 := ⟨gW_in _ (tb_5 _ (List.mem_of_getElem? (i := 53) rfl)) rfl, gW_in _ (tb_1 _ (List.mem_of_getElem? (i := 10) rfl)) rfl, by decide +kernel⟩
theorem lc_X5_termOf : LkC yX5_termOf cX5_termOf 1 (some .int) 1 := ⟨gW_in _ (tb_5 _ (List.mem_of_getElem? (i := 56) rfl)) rfl, gW_in _ (tb_1 _ (List.mem_of_getElem? (i := 10) rfl)) rfl, by decide +kernel⟩
theorem lc_X8_isEnd : LkC yX8_isEnd cX8_isEnd 1 (some .boolean) 0 := ⟨gW_in _ (tb_3 _ (List.mem_of_getElem? (i := 160) rfl)) rfl, gW_in _ (tb_1 _ (List.mem_of_getElem? (i := 4) rfl)) rfl, by decide +kernel⟩
theorem lc_X8_isWord : LkC yX8_isWord cX8_isWord 3 (some .boolean) 1 := ⟨gW_in _ (tb_3 _ (List.mem_of_getElem? (i := 173) rfl)) rfl, gW_in _ (tb_1 _ (List.mem_of_getElem? (i := 4) rfl)) rfl, by decide +kernel⟩
theorem lc_X8_takeNumber_ : LkC yX8_takeNumber_ cX8_takeNumber_ 3 (some .boolean) 2 := ⟨gW_in _ (tb_5 _ (List.mem_of_getElem? (i := 47) rfl)) rfl, gW_in _ (tb_1 _ (List.mem_of_getElem? (i := 4) rfl)) rfl, by decide +kernel⟩
theorem lc_X8_takeSign : LkC yX8_takeSign cX8_takeSign 2 (some .boolean) 1 := ⟨gW_in _ (tb_4 _ (List.mem_of_getElem? (i := 34) rfl)) rfl, gW_in _ (tb_1 _ (List.mem_of_getElem? (i := 4) rfl)) rfl, by decide +kernel⟩
