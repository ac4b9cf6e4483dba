theorem eq_ref {A : Array Value} {s : State} {t u : Term} {a : Nat} (h : (Cond.eq t u).before A s = true) (hu : u.eval A s none [] s = some (.ref a)) : t.eval A s none [] s = some (.ref a) := by
  cases hv : t.eval A s none [] s with
  | none => simp [Cond.before, Cond.holds, Cond.value, hv] at h
  | some w =>
    simp only [Cond.before, Cond.holds, Cond.value, hv, hu] at h
    cases w <;> simp_all
theorem ex_ref {A : Array Value} {s : State} {t : Term} {nm : String} (hex : (Cond.exactly t nm).before A s = true) : ∃ a, t.eval A s none [] s = some (.ref a) := by
  obtain ⟨a2, c, cA, kA, q1, q2, q3, q4, q5, q6, -⟩ := Cond.exactly_spec (args := A) (first := s) (o := none) (s := s) (idx := []) (t := t) (cls := nm) hex
  exact ⟨a2, q1⟩
theorem castN {a b : String} {s U : State} (hv : s.vm.Alike U.vm) (h : va_Nw (.castable a b) s) : va_Nw (.castable a b) U := by
  obtain ⟨c3, c4, h3, h4, hasg⟩ := Cond.castable_spec h
  show (Cond.castable a b).before #[] U = true
  simp [Cond.before, Cond.holds, Cond.value, hv.findClass, h3, h4, hv.assignable, hasg]
theorem eW_warm {s U : State} (hW : s.WarmedH U.vm) (h : ∀ w ∈ eW, va_Nw w s) : ∀ w ∈ eW, va_Nw w U := by
  intro w hw
  have h0 := h w hw
  have h1 : isE w = true := (List.mem_filter.mp hw).2
  cases w <;> first | exact va_Nw.warmD hW h0 | exact castN hW.alike h0 | (simp [isE] at h1)
def XX (ad : Nat → Nat) (bs b Ls : Nat) (xs : Nat → Int32) (U : State) : Prop := SXa ad bs U ∧ SXb ad bs U ∧ SXc bs U ∧ (va_AO "SmallCraft$Unit" U ∧ va_AO "SmallCraft$Item" U) ∧ SXe U ∧ va_X b Ls xs U U.heap ∧ b < U.heap.size
theorem XX_stb {ad : Nat → Nat} {bs b Ls : Nat} {xs : Nat → Int32} (hb : b < bs) : Stb bs (XX ad bs b Ls xs) := by
  intro U U' h hW hz hk
  have hv := hW.alike
  obtain ⟨⟨⟨a1, a2⟩, ⟨a3, a4⟩, ⟨a5, a6⟩⟩, ⟨b1, b2, b3, b4, ⟨b5, b6⟩, b7⟩, ⟨c1, c2, c3, c4⟩, ⟨d1, d2⟩, ⟨e1, e2, e3⟩, f1, f2⟩ := h
  refine ⟨⟨⟨(a1.moved hv).kept hk, (a2.moved hv).kept hk⟩, ⟨(a3.moved hv).kept hk, (a4.moved hv).kept hk⟩, ⟨(a5.moved hv).kept hk, (a6.moved hv).kept hk⟩⟩, ⟨(b1.moved hv).kept hk, (b2.moved hv).kept hk, (b3.moved hv).kept hk, fun i hi => ?_, ⟨(b5.moved hv).kept hk, (b6.moved hv).kept hk⟩, fun q hq => vk_R.warm hW (b7 q hq)⟩, ⟨eW_warm hW c1, (c2.moved hv).kept hk, (c3.moved hv).kept hk, fun q hq => ?_⟩, ⟨d1.moved hv, d2.moved hv⟩, ⟨e1.moved hv, e2.moved hv, e3.moved hv⟩, (f1.moved hv).kept (hk b f2 (by unfold Ab; omega)), Nat.lt_of_lt_of_le f2 hz⟩
  · obtain ⟨x1, x2, x3, x4, x5, x6⟩ := b4 i hi
    exact ⟨(x1.moved hv).kept hk, (x2.moved hv).kept hk, (x3.moved hv).kept hk, (x4.moved hv).kept hk, (x5.moved hv).kept hk, (x6.moved hv).kept hk⟩
  · obtain ⟨a, ha⟩ := c4 q hq
    exact ⟨a, vk_R.warm hW ha⟩
theorem strInj {adK adV : Nat → Nat} {A : Nat → Prop} {U : State} {H : Heap} (h : ∀ i : Nat, i < 39 → va_O "java/lang/String" (adK i) A U H ∧ va_OF "java/lang/String" "coder" "B" (.int 0) (adK i) A U H ∧ va_OF "java/lang/String" "value" "[B" (.ref (adV i)) (adK i) A U H ∧ va_T .byte (adV i) (sLen.getD i 0) (fun j => .int ((sByt.getD i []).getD j 0)) A U H) : ∀ i j : Nat, i < 39 → j < 39 → adK i = adK j → i = j := by
  intro i j hi hj e
  have key : ∀ i, i < 39 → ∀ j, j < 39 → sLen.getD i 0 = sLen.getD j 0 → (∀ y, y < sLen.getD i 0 → (sByt.getD i []).getD y 0 = (sByt.getD j []).getD y 0) → i = j := by decide +kernel
  have klen : ∀ i, i < 39 → sLen.getD i 0 < 10 := by decide +kernel
  obtain ⟨-, -, ⟨cf1, k1, i1, f1, ce1, g1, g2, g3, g4, g5, g6⟩, ⟨ct1, t1, t2, t3, t4, t5, t6, t7⟩⟩ := h i hi
  obtain ⟨-, -, ⟨cf2, k2, i2, f2, ce2, m1, m2, m3, m4, m5, m6⟩, ⟨ct2, u1, u2, u3, u4, u5, u6, u7⟩⟩ := h j hj
  cases g1.symm.trans m1
  rw [← e] at m3
  cases g3.symm.trans m3
  have ev : adV i = adV j := Value.ref.inj (Option.some.inj (g5.symm.trans m5))
  rw [← ev] at u1
  cases t1.symm.trans u1
  have el : sLen.getD i 0 = sLen.getD j 0 := by
    have h9 : Int32.ofNat (sLen.getD i 0) = Int32.ofNat (sLen.getD j 0) := t5.symm.trans u5
    have h8 := congrArg Int32.toNatClampNeg h9
    rw [Int32.toNatClampNeg_ofNat_of_lt (by have := klen i hi; omega), Int32.toNatClampNeg_ofNat_of_lt (by have := klen j hj; omega)] at h8
    exact h8
  exact key i hi j hj el (fun y hy => Value.int.inj (Option.some.inj ((t6 y hy).symm.trans (u6 y (by omega)))))
theorem nx_a300 {A : Array Value} {s : State} (h : narrow_1_1.before A s = true) : (Cond.arrayOf (Term.static "SmallCraft" "LAYER_BELOW" "[I") ClassFile.FieldType.int).before A s = true := (cAL (cAL (cAL (cAR (cAR (cAL (cAL (cAL h))))))))
theorem nx_l300 {A : Array Value} {s : State} (h : narrow_1_1.before A s = true) : (Cond.eq (Term.length (Term.static "SmallCraft" "LAYER_BELOW" "[I")) (Term.int (29 : Int32))).before A s = true := (cAL (cAR (cAL (cAL (cAR (cAR (cAL (cAL (cAL h)))))))))
theorem nx_a301 {A : Array Value} {s : State} (h : narrow_1_1.before A s = true) : (Cond.arrayOf (Term.static "SmallCraft" "PART_LAYER" "[I") ClassFile.FieldType.int).before A s = true := (cAL (cAR (cAL (cAL (cAR (cAR (cAR (cAL (cAL h)))))))))
theorem nx_l301 {A : Array Value} {s : State} (h : narrow_1_1.before A s = true) : (Cond.eq (Term.length (Term.static "SmallCraft" "PART_LAYER" "[I")) (Term.int (65 : Int32))).before A s = true := (cAR (cAR (cAL (cAL (cAR (cAR (cAR (cAL (cAL h)))))))))
theorem nx_a302 {A : Array Value} {s : State} (h : narrow_1_1.before A s = true) : (Cond.arrayOf (Term.static "SmallCraft$Plant" "SHINE" "[I") ClassFile.FieldType.int).before A s = true := (cAL (cAR (cAL (cAR (cAR (cAL (cAR (cAL (cAL h)))))))))
theorem nx_l302 {A : Array Value} {s : State} (h : narrow_1_1.before A s = true) : (Cond.eq (Term.length (Term.static "SmallCraft$Plant" "SHINE" "[I")) (Term.int (16 : Int32))).before A s = true := (cAR (cAR (cAL (cAR (cAR (cAL (cAR (cAL (cAL h)))))))))
theorem nx_a303 {A : Array Value} {s : State} (h : narrow_1_1.before A s = true) : (Cond.arrayOf (Term.static "SmallCraft$Kind" "ALL" "[LSmallCraft$Kind;") (ClassFile.FieldType.object "SmallCraft$Kind")).before A s = true := (cAL (cAL (cAR (cAL (cAL (cAL (cAL (cAL h))))))))
theorem nx_l303 {A : Array Value} {s : State} (h : narrow_1_1.before A s = true) : (Cond.eq (Term.length (Term.static "SmallCraft$Kind" "ALL" "[LSmallCraft$Kind;")) (Term.int (22 : Int32))).before A s = true := (cAL (cAR (cAL (cAR (cAL (cAL (cAL (cAL (cAL h)))))))))
theorem nx_cs {A : Array Value} {s : State} (h : narrow_1_1.before A s = true) : (Cond.eq (Term.static "java/lang/String" "COMPACT_STRINGS" "Z") (Term.int (1 : Int32))).before A s = true := (cAL (cAL (cAR (cAL (cAR (cAL (cAL (cAL h))))))))
theorem nx_si {A : Array Value} {s : State} (h : narrow_1_1.before A s = true) : (Cond.isRef (Term.static "jdk/internal/util/Preconditions" "SIOOBE_FORMATTER" "Ljava/util/function/BiFunction;")).before A s = true := (cAL (cAR (cAL (cAR (cAL (cAR (cAL (cAL (cAL h)))))))))
theorem nx_us {A : Array Value} {s : State} (h : narrow_1_1.before A s = true) : (Cond.isRef (Term.static "java/lang/Throwable" "UNASSIGNED_STACK" "[Ljava/lang/StackTraceElement;")).before A s = true := (cAR (cAR (cAL (cAL (cAL (cAL (cAL (cAL (cAL h)))))))))
theorem nx_ss {A : Array Value} {s : State} (h : narrow_1_1.before A s = true) : (Cond.isRef (Term.static "java/lang/Throwable" "SUPPRESSED_SENTINEL" "Ljava/util/List;")).before A s = true := (cAL (cAR (cAL (cAL (cAL (cAL (cAL (cAL h))))))))
theorem nx_m60 {A : Array Value} {s : State} (h : narrow_1_2.before A s = true) : (Cond.exactly (Term.string "SmallCraft" (60 : Nat)) "java/lang/String").before A s = true := (cAL (cAR (cAR (cAL (cAL (cAL (cAL (cAL (cAR h)))))))))
theorem nx_m102 {A : Array Value} {s : State} (h : narrow_1_2.before A s = true) : (Cond.exactly (Term.string "SmallCraft" (102 : Nat)) "java/lang/String").before A s = true := (cAL (cAL (cAL (cAR (cAL (cAR (cAR (cAR h))))))))
theorem nx_m105 {A : Array Value} {s : State} (h : narrow_1_2.before A s = true) : (Cond.exactly (Term.string "SmallCraft" (105 : Nat)) "java/lang/String").before A s = true := (cAR (cAR (cAR (cAR (cAR (cAL (cAR (cAR (cAR h)))))))))
theorem nx_m117 {A : Array Value} {s : State} (h : narrow_1_3.before A s = true) : (Cond.exactly (Term.string "SmallCraft" (117 : Nat)) "java/lang/String").before A s = true := (cAR (cAL (cAL (cAL (cAL (cAL (cAL (cAL h))))))))
theorem nx_m241 {A : Array Value} {s : State} (h : narrow_1_3.before A s = true) : (Cond.exactly (Term.string "SmallCraft" (241 : Nat)) "java/lang/String").before A s = true := (cAR (cAL (cAR (cAR (cAL (cAL (cAL (cAL h))))))))
theorem nx_m136 {A : Array Value} {s : State} (h : narrow_1_3.before A s = true) : (Cond.exactly (Term.string "SmallCraft" (136 : Nat)) "java/lang/String").before A s = true := (cAL (cAR (cAL (cAR (cAR (cAL (cAL (cAL h))))))))
theorem nx_m146 {A : Array Value} {s : State} (h : narrow_1_3.before A s = true) : (Cond.exactly (Term.string "SmallCraft" (146 : Nat)) "java/lang/String").before A s = true := (cAL (cAR (cAR (cAL (cAL (cAR (cAL (cAL h))))))))
theorem nx_m154 {A : Array Value} {s : State} (h : narrow_1_3.before A s = true) : (Cond.exactly (Term.string "SmallCraft" (154 : Nat)) "java/lang/String").before A s = true := (cAR (cAL (cAR (cAL (cAR (cAR (cAL (cAL h))))))))
theorem nx_m165 {A : Array Value} {s : State} (h : narrow_1_3.before A s = true) : (Cond.exactly (Term.string "SmallCraft" (165 : Nat)) "java/lang/String").before A s = true := (cAR (cAL (cAL (cAL (cAL (cAL (cAR (cAL h))))))))
theorem nx_m179 {A : Array Value} {s : State} (h : narrow_1_3.before A s = true) : (Cond.exactly (Term.string "SmallCraft" (179 : Nat)) "java/lang/String").before A s = true := (cAR (cAR (cAR (cAR (cAR (cAL (cAL (cAR (cAL h)))))))))
theorem nx_c0 {A : Array Value} {s : State} (h : narrow_1_2.before A s = true) : (Cond.not (Cond.castable "java/lang/IllegalArgumentException" "java/lang/IllegalStateException")).before A s = true := (cAL (cAL (cAR (cAR (cAL (cAR (cAR (cAL h))))))))
theorem nx_c1 {A : Array Value} {s : State} (h : narrow_1_2.before A s = true) : (Cond.not (Cond.castable "java/util/NoSuchElementException" "java/lang/IndexOutOfBoundsException")).before A s = true := (cAL (cAL (cAL (cAR (cAR (cAR (cAR (cAL h))))))))
theorem nx_c2 {A : Array Value} {s : State} (h : narrow_1_2.before A s = true) : (Cond.not (Cond.castable "java/lang/IllegalArgumentException" "java/lang/IndexOutOfBoundsException")).before A s = true := (cAL (cAR (cAR (cAL (cAR (cAR (cAR (cAL h))))))))
theorem stat_at {A : Array Value} {s : State} (hts : ∀ w ∈ lw_tbl, w.before A s = true) (h1 : narrow_1_1.before A s = true) (h2 : narrow_1_2.before A s = true) (h3 : narrow_1_3.before A s = true) : ∃ sa : Nat → Nat, SXa (adF s.heap.size sa) s.heap.size s ∧ SXb (adF s.heap.size sa) s.heap.size s ∧ SXc s.heap.size s := by
  have hA : ∀ a : Nat, a < s.heap.size → ¬ Ab s.heap.size a := fun a h q => by unfold Ab at q; omega
  obtain ⟨t300, e300, T300⟩ := va_Tof (args := A) (s := s) (tm := (Term.static "SmallCraft" "LAYER_BELOW" "[I")) (ty := .int) (N := 29) (f := fun j => .int (stv 300 j)) (A := Ab s.heap.size) (by decide) (nx_a300 h1) (va_eqt (nx_l300 h1)) (fun j hj => va_eqt (tA_300 h1 h2 h3 j hj)) hA
  have Z300 := va_Zref (A := Ab s.heap.size) (hts _ (tb_4 _ (List.mem_of_getElem? (i := 69) rfl))) (hts _ (tb_1 _ (List.mem_of_getElem? (i := 1) rfl))) e300 hA
  obtain ⟨t301, e301, T301⟩ := va_Tof (args := A) (s := s) (tm := (Term.static "SmallCraft" "PART_LAYER" "[I")) (ty := .int) (N := 65) (f := fun j => .int (stv 301 j)) (A := Ab s.heap.size) (by decide) (nx_a301 h1) (va_eqt (nx_l301 h1)) (fun j hj => va_eqt (tA_301 h1 h2 h3 j hj)) hA
  have Z301 := va_Zref (A := Ab s.heap.size) (hts _ (tb_6 _ (List.mem_of_getElem? (i := 226) rfl))) (hts _ (tb_1 _ (List.mem_of_getElem? (i := 1) rfl))) e301 hA
  obtain ⟨t302, e302, T302⟩ := va_Tof (args := A) (s := s) (tm := (Term.static "SmallCraft$Plant" "SHINE" "[I")) (ty := .int) (N := 16) (f := fun j => .int (stv 302 j)) (A := Ab s.heap.size) (by decide) (nx_a302 h1) (va_eqt (nx_l302 h1)) (fun j hj => va_eqt (tA_302 h1 h2 h3 j hj)) hA
  have Z302 := va_Zref (A := Ab s.heap.size) (hts _ (tb_6 _ (List.mem_of_getElem? (i := 73) rfl))) (hts _ (tb_1 _ (List.mem_of_getElem? (i := 8) rfl))) e302 hA
  have hk0 : ∀ i : Nat, ∃ a : Nat, i < 22 → (kT i).eval A s none [] s = some (.ref a) := fun i => by
    by_cases hi : i < 22
    · obtain ⟨a, ha⟩ := ex_ref (kE h1 h2 h3 i hi)
      exact ⟨a, fun _ => ha⟩
    · exact ⟨0, fun h => absurd h hi⟩
  obtain ⟨aK, haK⟩ := Classical.axiomOfChoice hk0
  have hs0 : ∀ i : Nat, ∃ q : Nat × Nat, i < 39 → (sT i).eval A s none [] s = some (.ref q.1) ∧ va_O "java/lang/String" q.1 (Ab s.heap.size) s s.heap ∧ va_OF "java/lang/String" "coder" "B" (.int 0) q.1 (Ab s.heap.size) s s.heap ∧ va_OF "java/lang/String" "value" "[B" (.ref q.2) q.1 (Ab s.heap.size) s s.heap ∧ va_T .byte q.2 (sLen.getD i 0) (fun j => .int ((sByt.getD i []).getD j 0)) (Ab s.heap.size) s s.heap := fun i => by
    by_cases hi : i < 39
    · obtain ⟨a, ha⟩ := ex_ref (sE h1 h2 h3 i hi)
      have klen : ∀ i, i < 39 → sLen.getD i 0 < 2 ^ 31 := by decide +kernel
      obtain ⟨t, ht, hT⟩ := va_Tof (f := fun j => .int ((sByt.getD i []).getD j 0)) (A := Ab s.heap.size) (klen i hi) (sR h1 h2 h3 i hi) (va_eqt (sG h1 h2 h3 i hi)) (fun j hj => va_eqt (sB h1 h2 h3 i hi j hj)) hA
      exact ⟨(a, t), fun _ => ⟨ha, va_Oof (sE h1 h2 h3 i hi) ha hA, vk_OFof ha (va_eqt (sK h1 h2 h3 i hi)) hA, vk_OFof ha ht hA, hT⟩⟩
    · exact ⟨(0, 0), fun h => absurd h hi⟩
  obtain ⟨aS, haS⟩ := Classical.axiomOfChoice hs0
  obtain ⟨t303, e303, T303⟩ := va_Tof (args := A) (s := s) (tm := aT) (ty := .object "SmallCraft$Kind") (N := 22) (f := fun j => .ref (aK j)) (A := Ab s.heap.size) (by decide) (nx_a303 h1) (va_eqt (nx_l303 h1)) (fun j hj => eq_ref (kA h1 h2 h3 j hj) (haK j hj)) hA
  have Z303 := va_Zref (A := Ab s.heap.size) (hts _ (tb_3 _ (List.mem_of_getElem? (i := 169) rfl))) (hts _ (tb_1 _ (List.mem_of_getElem? (i := 18) rfl))) e303 hA
  obtain ⟨sa, hsa⟩ : ∃ sa : Nat → Nat, sa = fun i => if i = 300 then t300 else if i = 301 then t301 else if i = 302 then t302 else if i = 303 then t303 else if i < 400 then aK (i - 310) else if i < 500 then (aS (i - 400)).1 else (aS (i - 500)).2 := ⟨_, rfl⟩
  have g0 : adF s.heap.size sa 300 = t300 := by rw [hsa]; rfl
  have g1 : adF s.heap.size sa 301 = t301 := by rw [hsa]; rfl
  have g2 : adF s.heap.size sa 302 = t302 := by rw [hsa]; rfl
  have g3 : adF s.heap.size sa 303 = t303 := by rw [hsa]; rfl
  have gK : ∀ i, i < 22 → adF s.heap.size sa (310 + i) = aK i := fun i hi => by
    rw [hsa]; unfold adF
    rw [if_neg (by omega)]
    dsimp only
    rw [if_neg (by omega), if_neg (by omega), if_neg (by omega), if_neg (by omega), if_pos (by omega), Nat.add_sub_cancel_left]
  have gS : ∀ i, i < 39 → adF s.heap.size sa (400 + i) = (aS i).1 := fun i hi => by
    rw [hsa]; unfold adF
    rw [if_neg (by omega)]
    dsimp only
    rw [if_neg (by omega), if_neg (by omega), if_neg (by omega), if_neg (by omega), if_neg (by omega), if_pos (by omega), Nat.add_sub_cancel_left]
  have gV : ∀ i, i < 39 → adF s.heap.size sa (500 + i) = (aS i).2 := fun i hi => by
    rw [hsa]; unfold adF
    rw [if_neg (by omega)]
    dsimp only
    rw [if_neg (by omega), if_neg (by omega), if_neg (by omega), if_neg (by omega), if_neg (by omega), if_neg (by omega), Nat.add_sub_cancel_left]
  have hstr : ∀ i : Nat, i < 39 → va_O "java/lang/String" (adF s.heap.size sa (400 + i)) (Ab s.heap.size) s s.heap ∧ va_OF "java/lang/String" "coder" "B" (.int 0) (adF s.heap.size sa (400 + i)) (Ab s.heap.size) s s.heap ∧ va_OF "java/lang/String" "value" "[B" (.ref (adF s.heap.size sa (500 + i))) (adF s.heap.size sa (400 + i)) (Ab s.heap.size) s s.heap ∧ va_T .byte (adF s.heap.size sa (500 + i)) (sLen.getD i 0) (fun j => .int ((sByt.getD i []).getD j 0)) (Ab s.heap.size) s s.heap := fun i hi => by
    rw [gS i hi, gV i hi]
    exact (haS i hi).2
  refine ⟨sa, ⟨⟨by rw [g0]; exact Z300, by rw [g0]; exact T300⟩, ⟨by rw [g1]; exact Z301, by rw [g1]; exact T301⟩, ⟨by rw [g2]; exact Z302, by rw [g2]; exact T302⟩⟩, ⟨⟨hstr, strInj (adK := fun i => adF s.heap.size sa (400 + i)) (adV := fun i => adF s.heap.size sa (500 + i)) hstr⟩, ?_, ?_, ?_, ⟨by rw [g3]; exact Z303, ?_⟩, ?_⟩, ?_, ?_, ?_, ?_⟩
  · exact va_Zof (hts _ (tb_3 _ (List.mem_of_getElem? (i := 183) rfl))) (hts _ (tb_1 _ (List.mem_of_getElem? (i := 19) rfl))) (va_eqt (nx_cs h1)) hA
  · exact va_Zqof (hts _ (tb_3 _ (List.mem_of_getElem? (i := 205) rfl))) (hts _ (tb_1 _ (List.mem_of_getElem? (i := 21) rfl))) (nx_si h1) hA
  · intro i hi
    rw [gK i hi, gS i (by omega)]
    exact ⟨va_Oof (kE h1 h2 h3 i hi) (haK i hi) hA, vk_OFof (haK i hi) (eq_ref (kW h1 h2 h3 i hi) (haS i (by omega)).1) hA, vk_OFof (haK i hi) (va_eqt (kG0 h1 h2 h3 i hi)) hA, vk_OFof (haK i hi) (va_eqt (kG1 h1 h2 h3 i hi)) hA, vk_OFof (haK i hi) (va_eqt (kG2 h1 h2 h3 i hi)) hA, vk_OFof (haK i hi) (va_eqt (kG3 h1 h2 h3 i hi)) hA⟩
  · rw [g3]
    obtain ⟨cell, x1, x2, x3, x4, x5, x6, x7⟩ := T303
    exact ⟨cell, x1, x2, x3, x4, x5, fun j hj => by show _ = some (Value.ref (adF s.heap.size sa (310 + j))); rw [gK j hj]; exact x6 j hj, x7⟩
  · intro q hq
    simp only [sRf, List.mem_cons, List.not_mem_nil, or_false] at hq
    rcases hq with rfl | rfl | rfl | rfl | rfl | rfl | rfl | rfl | rfl | rfl | rfl | rfl | rfl | rfl | rfl | rfl | rfl
    · exact vk_R.of (hts _ (tb_5 _ (List.mem_of_getElem? (i := 35) rfl))) (by rw [gS 22 (by decide)]; exact (haS 22 (by decide)).1)
    · exact vk_R.of (hts _ (tb_5 _ (List.mem_of_getElem? (i := 37) rfl))) (by rw [gS 23 (by decide)]; exact (haS 23 (by decide)).1)
    · exact vk_R.of (hts _ (tb_5 _ (List.mem_of_getElem? (i := 38) rfl))) (by rw [gS 24 (by decide)]; exact (haS 24 (by decide)).1)
    · exact vk_R.of (hts _ (tb_5 _ (List.mem_of_getElem? (i := 57) rfl))) (by rw [gS 25 (by decide)]; exact (haS 25 (by decide)).1)
    · exact vk_R.of (hts _ (tb_5 _ (List.mem_of_getElem? (i := 58) rfl))) (by rw [gS 26 (by decide)]; exact (haS 26 (by decide)).1)
    · exact vk_R.of (hts _ (tb_5 _ (List.mem_of_getElem? (i := 59) rfl))) (by rw [gS 27 (by decide)]; exact (haS 27 (by decide)).1)
    · exact vk_R.of (hts _ (tb_5 _ (List.mem_of_getElem? (i := 60) rfl))) (by rw [gS 28 (by decide)]; exact (haS 28 (by decide)).1)
    · exact vk_R.of (hts _ (tb_5 _ (List.mem_of_getElem? (i := 61) rfl))) (by rw [gS 29 (by decide)]; exact (haS 29 (by decide)).1)
    · exact vk_R.of (hts _ (tb_5 _ (List.mem_of_getElem? (i := 62) rfl))) (by rw [gS 30 (by decide)]; exact (haS 30 (by decide)).1)
    · exact vk_R.of (hts _ (tb_5 _ (List.mem_of_getElem? (i := 63) rfl))) (by rw [gS 31 (by decide)]; exact (haS 31 (by decide)).1)
    · exact vk_R.of (hts _ (tb_5 _ (List.mem_of_getElem? (i := 89) rfl))) (by rw [gS 32 (by decide)]; exact (haS 32 (by decide)).1)
    · exact vk_R.of (hts _ (tb_5 _ (List.mem_of_getElem? (i := 90) rfl))) (by rw [gS 33 (by decide)]; exact (haS 33 (by decide)).1)
    · exact vk_R.of (hts _ (tb_5 _ (List.mem_of_getElem? (i := 91) rfl))) (by rw [gS 34 (by decide)]; exact (haS 34 (by decide)).1)
    · exact vk_R.of (hts _ (tb_5 _ (List.mem_of_getElem? (i := 92) rfl))) (by rw [gS 35 (by decide)]; exact (haS 35 (by decide)).1)
    · exact vk_R.of (hts _ (tb_5 _ (List.mem_of_getElem? (i := 93) rfl))) (by rw [gS 36 (by decide)]; exact (haS 36 (by decide)).1)
    · exact vk_R.of (hts _ (tb_5 _ (List.mem_of_getElem? (i := 94) rfl))) (by rw [gS 37 (by decide)]; exact (haS 37 (by decide)).1)
    · exact vk_R.of (hts _ (tb_5 _ (List.mem_of_getElem? (i := 95) rfl))) (by rw [gS 38 (by decide)]; exact (haS 38 (by decide)).1)
  · intro w hw
    exact va_tabs (eW_tab hw) rfl (hts w (List.mem_filter.mp hw).1)
  · exact vx_Zqof (hts _ (tb_3 _ (List.mem_of_getElem? (i := 75) rfl))) (hts _ (tb_1 _ (List.mem_of_getElem? (i := 13) rfl))) (nx_us h1) hA
  · exact vx_Zqof (hts _ (tb_3 _ (List.mem_of_getElem? (i := 77) rfl))) (hts _ (tb_1 _ (List.mem_of_getElem? (i := 13) rfl))) (nx_ss h1) hA
  · intro q hq
    simp only [mRf, List.mem_cons, List.not_mem_nil, or_false] at hq
    rcases hq with rfl | rfl | rfl | rfl | rfl | rfl | rfl | rfl | rfl | rfl
    · obtain ⟨a, ha⟩ := ex_ref (nx_m60 h2)
      exact ⟨a, vk_R.of (hts _ (tb_3 _ (List.mem_of_getElem? (i := 90) rfl))) ha⟩
    · obtain ⟨a, ha⟩ := ex_ref (nx_m102 h2)
      exact ⟨a, vk_R.of (hts _ (tb_5 _ (List.mem_of_getElem? (i := 118) rfl))) ha⟩
    · obtain ⟨a, ha⟩ := ex_ref (nx_m105 h2)
      exact ⟨a, vk_R.of (hts _ (tb_5 _ (List.mem_of_getElem? (i := 125) rfl))) ha⟩
    · obtain ⟨a, ha⟩ := ex_ref (nx_m117 h3)
      exact ⟨a, vk_R.of (hts _ (tb_6 _ (List.mem_of_getElem? (i := 190) rfl))) ha⟩
    · obtain ⟨a, ha⟩ := ex_ref (nx_m241 h3)
      exact ⟨a, vk_R.of (hts _ (tb_6 _ (List.mem_of_getElem? (i := 214) rfl))) ha⟩
    · obtain ⟨a, ha⟩ := ex_ref (nx_m136 h3)
      exact ⟨a, vk_R.of (hts _ (tb_6 _ (List.mem_of_getElem? (i := 236) rfl))) ha⟩
    · obtain ⟨a, ha⟩ := ex_ref (nx_m146 h3)
      exact ⟨a, vk_R.of (hts _ (tb_7 _ (List.mem_of_getElem? (i := 16) rfl))) ha⟩
    · obtain ⟨a, ha⟩ := ex_ref (nx_m154 h3)
      exact ⟨a, vk_R.of (hts _ (tb_7 _ (List.mem_of_getElem? (i := 38) rfl))) ha⟩
    · obtain ⟨a, ha⟩ := ex_ref (nx_m165 h3)
      exact ⟨a, vk_R.of (hts _ (tb_7 _ (List.mem_of_getElem? (i := 50) rfl))) ha⟩
    · obtain ⟨a, ha⟩ := ex_ref (nx_m179 h3)
      exact ⟨a, vk_R.of (hts _ (tb_7 _ (List.mem_of_getElem? (i := 59) rfl))) ha⟩
theorem exc_at {A : Array Value} {s : State} (h1 : narrow_1_1.before A s = true) (h2 : narrow_1_2.before A s = true) (h3 : narrow_1_3.before A s = true) : SXe s := ⟨noC.of (nx_c0 h2), noC.of (nx_c1 h2), noC.of (nx_c2 h2)⟩
theorem ao_at {A : Array Value} {s : State} (hts : ∀ w ∈ lw_tbl, w.before A s = true) : va_AO "SmallCraft$Unit" s ∧ va_AO "SmallCraft$Item" s := ⟨va_AO.of (hts _ (tb_1 _ (List.mem_of_getElem? (i := 42) rfl))), va_AO.of (hts _ (tb_2 _ (List.mem_of_getElem? (i := 6) rfl)))⟩
