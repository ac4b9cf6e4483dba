/-! Static tables: ids from 300 on; what they hold, by number -/
def stT (k : Nat) : List Int32 := if k = 300 then [-1, 0, 1, 2, 1, 1, 0, 6, 7, 6, 9, 10, 9, 9, 9, 6, 15, 15, 15, 18, 6, 20, 0, 22, 23, 22, 0, 26, 26] else if k = 301 then [0, 0, 0, 0, 0, 0, 0, 1, 1, 1, 1, 2, 2, 2, 3, 3, 3, 4, 5, 5, 5, 6, 6, 6, 6, 7, 8, 8, 8, 9, 9, 9, 9, 10, 10, 10, 11, 12, 13, 14, 14, 15, 15, 16, 16, 17, 17, 18, 19, 20, 20, 20, 22, 23, 23, 24, 24, 25, 26, 26, 26, 27, 0, 0, 0] else if k = 302 then [100, 99, 96, 91, 84, 75, 64, 51, 38, 25, 14, 6, 2, 0, 0, 0] else []
def stv (k j : Nat) : Int32 := (stT k).getD j 0
def rt (k : Nat) (i : Int32) : Option Int32 := if inb i (stT k).length = true then some (stv k (ix i)) else none
def SXa (ad : Nat → Nat) (bs : Nat) (U : State) : Prop :=
  (va_Z "SmallCraft" "LAYER_BELOW" "[I" (.ref (ad 300)) (Ab bs) U U.heap ∧ va_T .int (ad 300) (stT 300).length (fun j => .int (stv 300 j)) (Ab bs) U U.heap) ∧
  (va_Z "SmallCraft" "PART_LAYER" "[I" (.ref (ad 301)) (Ab bs) U U.heap ∧ va_T .int (ad 301) (stT 301).length (fun j => .int (stv 301 j)) (Ab bs) U U.heap) ∧
  (va_Z "SmallCraft$Plant" "SHINE" "[I" (.ref (ad 302)) (Ab bs) U U.heap ∧ va_T .int (ad 302) (stT 302).length (fun j => .int (stv 302 j)) (Ab bs) U U.heap)
/-- what the statics hold is known wherever X holds -/
def Ssx (ad : Nat → Nat) (bs : Nat) (X : State → Prop) : Prop := ∀ U, X U → SXa ad bs U
section VS
variable {G : Gm} {f : State → Prop} {own : String} {cc : ByteArray} {rty : Option FieldType} {pc : Nat} {lv : List (Nat × Value)} {st : List Value} {I : MI} {L : ML} {R : MR}
theorem V_gets (C0 : Cx G own cc rty) {C n d : String} {v : Value} {index : Nat} (hZ : va_Z C n d v (Ab G.bs) G.s G.s.heap) (hl0 : Cond.fieldLink own index C n d ∈ gW ∨ ∃ host, Cond.fieldLinkNest own index C n d host ∈ nW) (hd : decode cc pc = .ok (.getstatic index, 3)) (k : V G f (pc + 3) lv (v :: st) I L R) : V G f pc lv st I L R := by
  intro H locs ls hP hS hl
  obtain ⟨hx, hb, -, -, -, hown, hts, hK, hN, -, -, -, -⟩ := C0
  rcases hl0 with h | ⟨host, h⟩
  · exact va_gets hx hb hZ hS hown (hts _ h) (fun _ z => z) hd (k H locs ls hP hS hl)
  · exact va_getsN hx hb hZ hS hown (va_Nw.use (isN_tab h) (hN _ h)) (fun _ z => z) hd (k H locs ls hP hS hl)
theorem V_rt (C0 : Cx G own cc rty) {sid : Nat} {i v : Int32} (hT : va_T .int (G.ad sid) (stT sid).length (fun j => .int (stv sid j)) (Ab G.bs) G.s G.s.heap) (h : rt sid i = some v) (hd : decode cc pc = .ok (.iaload, 1)) (k : V G f (pc + 1) lv (.int v :: st) I L R) : V G f pc lv (.int i :: .ref (G.ad sid) :: st) I L R := by
  intro H locs ls hP hS hl
  obtain ⟨h1, h2⟩ := ite_some h
  cases h2
  exact va_ti C0.1 C0.2.1 hT hS (inb_in h1) rfl hd (k H locs ls hP hS hl)
theorem V_tlen (C0 : Cx G own cc rty) {sid : Nat} {v : Int32} (hT : va_T .int (G.ad sid) (stT sid).length (fun j => .int (stv sid j)) (Ab G.bs) G.s G.s.heap) (hv : Int32.ofNat (stT sid).length = v) (hd : decode cc pc = .ok (.arraylength, 1)) (k : V G f (pc + 1) lv (.int v :: st) I L R) : V G f pc lv (.ref (G.ad sid) :: st) I L R :=
  fun H locs ls hP hS hl => va_tlen C0.1 C0.2.1 hT hS hv hd (k H locs ls hP hS hl)
end VS
theorem lk_X2_98 : LkS RX2 98 yX2_lightAt := ⟨Or.inl (gW_in _ (tb_5 _ (List.mem_of_getElem? (i := 131) rfl)) rfl), gW_in _ (tb_5 _ (List.mem_of_getElem? (i := 132) rfl)) rfl⟩
theorem lk_X2_102 : LkV RX2 102 yX2_doItems := ⟨Or.inl (gW_in _ (tb_5 _ (List.mem_of_getElem? (i := 134) rfl)) rfl), gW_in _ (tb_5 _ (List.mem_of_getElem? (i := 136) rfl)) rfl, gW_in _ (tp_4 _ (List.mem_of_getElem? (i := 0) rfl)) rfl⟩
theorem lk_X2_106 : LkV RX2 106 yX2_takeReadings := ⟨Or.inl (gW_in _ (tb_5 _ (List.mem_of_getElem? (i := 195) rfl)) rfl), gW_in _ (tb_5 _ (List.mem_of_getElem? (i := 197) rfl)) rfl, gW_in _ (tp_4 _ (List.mem_of_getElem? (i := 3) rfl)) rfl⟩
theorem lk_X2_109 : LkV RX2 109 yX2_saveLine := ⟨Or.inl (gW_in _ (tb_5 _ (List.mem_of_getElem? (i := 227) rfl)) rfl), gW_in _ (tb_5 _ (List.mem_of_getElem? (i := 229) rfl)) rfl, gW_in _ (tp_4 _ (List.mem_of_getElem? (i := 5) rfl)) rfl⟩
theorem lk_X2_116 : LkV RX2 116 yX7_steer := ⟨Or.inl (gW_in _ (tb_5 _ (List.mem_of_getElem? (i := 231) rfl)) rfl), gW_in _ (tb_5 _ (List.mem_of_getElem? (i := 232) rfl)) rfl, gW_in _ (tb_5 _ (List.mem_of_getElem? (i := 233) rfl)) rfl⟩
theorem lk_X2_120 : LkV RX2 120 yX7_turn := ⟨Or.inl (gW_in _ (tb_6 _ (List.mem_of_getElem? (i := 46) rfl)) rfl), gW_in _ (tb_6 _ (List.mem_of_getElem? (i := 47) rfl)) rfl, gW_in _ (tb_6 _ (List.mem_of_getElem? (i := 48) rfl)) rfl⟩
theorem lk_X2_126 : LkV RX2 126 yX6_power := ⟨Or.inl (gW_in _ (tb_6 _ (List.mem_of_getElem? (i := 51) rfl)) rfl), gW_in _ (tb_6 _ (List.mem_of_getElem? (i := 52) rfl)) rfl, gW_in _ (tb_6 _ (List.mem_of_getElem? (i := 53) rfl)) rfl⟩
theorem lk_X2_130 : LkV RX2 130 yX6_levelTanks := ⟨Or.inl (gW_in _ (tb_6 _ (List.mem_of_getElem? (i := 88) rfl)) rfl), gW_in _ (tb_6 _ (List.mem_of_getElem? (i := 89) rfl)) rfl, gW_in _ (tb_6 _ (List.mem_of_getElem? (i := 90) rfl)) rfl⟩
theorem lk_X2_133 : LkV RX2 133 yX6_warm := ⟨Or.inl (gW_in _ (tb_6 _ (List.mem_of_getElem? (i := 96) rfl)) rfl), gW_in _ (tb_6 _ (List.mem_of_getElem? (i := 97) rfl)) rfl, gW_in _ (tb_6 _ (List.mem_of_getElem? (i := 98) rfl)) rfl⟩
theorem lk_X2_136 : LkV RX2 136 yX2_keepFrame := ⟨Or.inl (gW_in _ (tb_6 _ (List.mem_of_getElem? (i := 127) rfl)) rfl), gW_in _ (tb_6 _ (List.mem_of_getElem? (i := 129) rfl)) rfl, gW_in _ (tp_5 _ (List.mem_of_getElem? (i := 11) rfl)) rfl⟩
theorem lk_X2_139 : LkV RX2 139 yX2_sendAll := ⟨Or.inl (gW_in _ (tb_6 _ (List.mem_of_getElem? (i := 151) rfl)) rfl), gW_in _ (tb_6 _ (List.mem_of_getElem? (i := 153) rfl)) rfl, gW_in _ (tp_6 _ (List.mem_of_getElem? (i := 0) rfl)) rfl⟩
theorem lk_X6_51 : LkV RX6 51 yX6_burn := ⟨Or.inl (gW_in _ (tb_6 _ (List.mem_of_getElem? (i := 59) rfl)) rfl), gW_in _ (tb_6 _ (List.mem_of_getElem? (i := 61) rfl)) rfl, gW_in _ (tp_5 _ (List.mem_of_getElem? (i := 0) rfl)) rfl⟩
theorem lk_X6_55 : LkV RX6 55 yX6_shine := ⟨Or.inl (gW_in _ (tb_6 _ (List.mem_of_getElem? (i := 64) rfl)) rfl), gW_in _ (tb_6 _ (List.mem_of_getElem? (i := 66) rfl)) rfl, gW_in _ (tp_5 _ (List.mem_of_getElem? (i := 1) rfl)) rfl⟩
theorem lk_X6_65 : LkV RX6 65 yX6_balance := ⟨Or.inl (gW_in _ (tb_6 _ (List.mem_of_getElem? (i := 76) rfl)) rfl), gW_in _ (tb_6 _ (List.mem_of_getElem? (i := 78) rfl)) rfl, gW_in _ (tp_5 _ (List.mem_of_getElem? (i := 2) rfl)) rfl⟩
theorem lk_X6_69 : LkV RX6 69 yX6_shed := ⟨Or.inl (gW_in _ (tb_6 _ (List.mem_of_getElem? (i := 84) rfl)) rfl), gW_in _ (tb_6 _ (List.mem_of_getElem? (i := 86) rfl)) rfl, gW_in _ (tp_5 _ (List.mem_of_getElem? (i := 3) rfl)) rfl⟩
theorem lk_X6_79 : LkS RX6 79 yX11_off := ⟨Or.inr ⟨"SmallCraft", nW_in _ (tb_6 _ (List.mem_of_getElem? (i := 68) rfl)) rfl⟩, gW_in _ (tb_5 _ (List.mem_of_getElem? (i := 210) rfl)) rfl⟩
theorem lk_X6_87 : LkS RX6 87 yJ9_floorMod_7cf53 := ⟨Or.inl (gW_in _ (tb_6 _ (List.mem_of_getElem? (i := 70) rfl)) rfl), gW_in _ (tb_2 _ (List.mem_of_getElem? (i := 190) rfl)) rfl⟩
theorem lk_X9_21 : LkV RX9 21 yX0_titleOf := ⟨Or.inl (gW_in _ (tb_4 _ (List.mem_of_getElem? (i := 55) rfl)) rfl), gW_in _ (tb_4 _ (List.mem_of_getElem? (i := 56) rfl)) rfl, gW_in _ (tb_4 _ (List.mem_of_getElem? (i := 57) rfl)) rfl⟩
theorem lk_X9_31 : LkV RX9 31 yX0_numberOf := ⟨Or.inl (gW_in _ (tb_4 _ (List.mem_of_getElem? (i := 59) rfl)) rfl), gW_in _ (tb_4 _ (List.mem_of_getElem? (i := 60) rfl)) rfl, gW_in _ (tb_4 _ (List.mem_of_getElem? (i := 61) rfl)) rfl⟩
theorem lk_X9_45 : LkV RX9 45 yX0_layerOf := ⟨Or.inl (gW_in _ (tb_4 _ (List.mem_of_getElem? (i := 63) rfl)) rfl), gW_in _ (tb_4 _ (List.mem_of_getElem? (i := 28) rfl)) rfl, gW_in _ (tb_4 _ (List.mem_of_getElem? (i := 29) rfl)) rfl⟩
theorem lk_X9_49 : LkV RX9 49 yX9_stackLayers := ⟨Or.inl (gW_in _ (tb_4 _ (List.mem_of_getElem? (i := 64) rfl)) rfl), gW_in _ (tb_4 _ (List.mem_of_getElem? (i := 66) rfl)) rfl, gW_in _ (tp_1 _ (List.mem_of_getElem? (i := 9) rfl)) rfl⟩
theorem lk_X10_60 : LkV RX10 60 yX0_size := ⟨Or.inl (gW_in _ (tb_4 _ (List.mem_of_getElem? (i := 47) rfl)) rfl), gW_in _ (tb_4 _ (List.mem_of_getElem? (i := 48) rfl)) rfl, gW_in _ (tb_4 _ (List.mem_of_getElem? (i := 49) rfl)) rfl⟩
theorem lk_X10_66 : LkV RX10 66 yX9_describe := ⟨Or.inl (gW_in _ (tb_4 _ (List.mem_of_getElem? (i := 51) rfl)) rfl), gW_in _ (tb_4 _ (List.mem_of_getElem? (i := 52) rfl)) rfl, gW_in _ (tb_4 _ (List.mem_of_getElem? (i := 53) rfl)) rfl⟩
theorem lc_X0_numberOf : LkC yX0_numberOf cX0_numberOf 4 (some .int) 2 := ⟨gW_in _ (tb_4 _ (List.mem_of_getElem? (i := 62) rfl)) rfl, gW_in _ (tb_1 _ (List.mem_of_getElem? (i := 5) rfl)) rfl, by decide +kernel⟩
theorem lc_X0_size : LkC yX0_size cX0_size 1 (some .int) 0 := ⟨gW_in _ (tb_4 _ (List.mem_of_getElem? (i := 50) rfl)) rfl, gW_in _ (tb_1 _ (List.mem_of_getElem? (i := 5) rfl)) rfl, by decide +kernel⟩
theorem lc_X0_titleOf : LkC yX0_titleOf cX0_titleOf 2 (some .long) 1 := ⟨gW_in _ (tb_4 _ (List.mem_of_getElem? (i := 58) rfl)) rfl, gW_in _ (tb_1 _ (List.mem_of_getElem? (i := 5) rfl)) rfl, by decide +kernel⟩
theorem lc_X2_doItems : LkC yX2_doItems cX2_doItems 4 none 1 := ⟨gW_in _ (tb_5 _ (List.mem_of_getElem? (i := 137) rfl)) rfl, gW_in _ (tb_1 _ (List.mem_of_getElem? (i := 6) rfl)) rfl, by decide +kernel⟩
theorem lc_X2_keepFrame : LkC yX2_keepFrame cX2_keepFrame 5 none 1 := ⟨gW_in _ (tb_6 _ (List.mem_of_getElem? (i := 130) rfl)) rfl, gW_in _ (tb_1 _ (List.mem_of_getElem? (i := 6) rfl)) rfl, by decide +kernel⟩
theorem lc_X2_lightAt : LkC yX2_lightAt cX2_lightAt 1 (some .int) 1 := ⟨gW_in _ (tb_5 _ (List.mem_of_getElem? (i := 133) rfl)) rfl, gW_in _ (tb_1 _ (List.mem_of_getElem? (i := 6) rfl)) rfl, by decide +kernel⟩
theorem lc_X2_saveLine : LkC yX2_saveLine cX2_saveLine 3 none 0 := ⟨gW_in _ (tb_5 _ (List.mem_of_getElem? (i := 230) rfl)) rfl, gW_in _ (tb_1 _ (List.mem_of_getElem? (i := 6) rfl)) rfl, by decide +kernel⟩
theorem lc_X2_sendAll : LkC yX2_sendAll cX2_sendAll 5 none 1 := ⟨gW_in _ (tb_6 _ (List.mem_of_getElem? (i := 154) rfl)) rfl, gW_in _ (tb_1 _ (List.mem_of_getElem? (i := 6) rfl)) rfl, by decide +kernel⟩
theorem lc_X2_takeReadings : LkC yX2_takeReadings cX2_takeReadings 4 none 1 := ⟨gW_in _ (tb_5 _ (List.mem_of_getElem? (i := 198) rfl)) rfl, gW_in _ (tb_1 _ (List.mem_of_getElem? (i := 6) rfl)) rfl, by decide +kernel⟩
theorem lc_X6_balance : LkC yX6_balance cX6_balance 8 (some .int) 1 := ⟨gW_in _ (tb_6 _ (List.mem_of_getElem? (i := 79) rfl)) rfl, gW_in _ (tb_1 _ (List.mem_of_getElem? (i := 8) rfl)) rfl, by decide +kernel⟩
theorem lc_X6_burn : LkC yX6_burn cX6_burn 4 (some .int) 2 := ⟨gW_in _ (tb_6 _ (List.mem_of_getElem? (i := 62) rfl)) rfl, gW_in _ (tb_1 _ (List.mem_of_getElem? (i := 8) rfl)) rfl, by decide +kernel⟩
theorem lc_X6_levelTanks : LkC yX6_levelTanks cX6_levelTanks 6 none 0 := ⟨gW_in _ (tb_6 _ (List.mem_of_getElem? (i := 91) rfl)) rfl, gW_in _ (tb_1 _ (List.mem_of_getElem? (i := 8) rfl)) rfl, by decide +kernel⟩
theorem lc_X6_power : LkC yX6_power cX6_power 6 none 3 := ⟨gW_in _ (tb_6 _ (List.mem_of_getElem? (i := 54) rfl)) rfl, gW_in _ (tb_1 _ (List.mem_of_getElem? (i := 8) rfl)) rfl, by decide +kernel⟩
theorem lc_X6_shed : LkC yX6_shed cX6_shed 4 none 0 := ⟨gW_in _ (tb_6 _ (List.mem_of_getElem? (i := 87) rfl)) rfl, gW_in _ (tb_1 _ (List.mem_of_getElem? (i := 8) rfl)) rfl, by decide +kernel⟩
theorem lc_X6_shine : LkC yX6_shine cX6_shine 7 (some .int) 3 := ⟨gW_in _ (tb_6 _ (List.mem_of_getElem? (i := 67) rfl)) rfl, gW_in _ (tb_1 _ (List.mem_of_getElem? (i := 8) rfl)) rfl, by decide +kernel⟩
theorem lc_X6_warm : LkC yX6_warm cX6_warm 3 none 1 := ⟨gW_in _ (tb_6 _ (List.mem_of_getElem? (i := 99) rfl)) rfl, gW_in _ (tb_1 _ (List.mem_of_getElem? (i := 8) rfl)) rfl, by decide +kernel⟩
theorem lc_X7_steer : LkC yX7_steer cX7_steer 5 none 2 := ⟨gW_in _ (tb_5 _ (List.mem_of_getElem? (i := 234) rfl)) rfl, gW_in _ (tb_1 _ (List.mem_of_getElem? (i := 7) rfl)) rfl, by decide +kernel⟩
theorem lc_X7_turn : LkC yX7_turn cX7_turn 3 none 1 := ⟨gW_in _ (tb_6 _ (List.mem_of_getElem? (i := 49) rfl)) rfl, gW_in _ (tb_1 _ (List.mem_of_getElem? (i := 7) rfl)) rfl, by decide +kernel⟩
theorem lc_X9_describe : LkC yX9_describe cX9_describe 3 none 2 := ⟨gW_in _ (tb_4 _ (List.mem_of_getElem? (i := 54) rfl)) rfl, gW_in _ (tb_1 _ (List.mem_of_getElem? (i := 3) rfl)) rfl, by decide +kernel⟩
theorem lc_X9_stackLayers : LkC yX9_stackLayers cX9_stackLayers 4 none 1 := ⟨gW_in _ (tb_4 _ (List.mem_of_getElem? (i := 67) rfl)) rfl, gW_in _ (tb_1 _ (List.mem_of_getElem? (i := 3) rfl)) rfl, by decide +kernel⟩
