/-! The law's helpers: static methods with handlers -/
def CnH (l : Launch) (D : va_G) (cA : Nat → ClassId) (ad : Nat → Nat) (bs : Nat) (X : State → Prop) (y : MethodName) (cc : ByteArray) (mL : Nat) (hh : List (Nat × Nat × Nat × Nat)) (fr lo nc ns : Nat) (As : List Value) (I : MI) (L : ML) (R : MR) (g : Fin4) : Prop :=
  Met l y (.codeWith y cc mL (some .int) hh :: gW) ({ frames := fr, cells := nc, slots := ns, locals := lo }) (Pv D cA ad bs X As I L R) (Qv D cA ad bs g) nc ns (Ab bs)
def qh (G : Gm) (nc ns : Nat) (g : Fin4) : State → Prop := MQ G.below (Qv G.D G.cA G.ad G.bs g) G.args G.s nc ns (Ab G.bs)
theorem CnH.ofV {l : Launch} {D : va_G} {cA : Nat → ClassId} {ad : Nat → Nat} {bs : Nat} {X : State → Prop} {y : MethodName} {cc : ByteArray} {mL fr lo nc ns : Nat} {hh : List (Nat × Nat × Nat × Nat)} {As : List Value} {I : MI} {L : ML} {R : MR} {g : Fin4} (hAd : Ax ad bs) (hX : Stb bs X) (lv : List (Nat × Value)) (hlv : lv_args 0 As = lv) (hlen : (lg_sl As).length ≤ mL) (hy : plainName y.cls = true)
    (body : ∀ (G : Gm), G.l = l → G.D = D → G.cA = cA → G.ad = ad → G.bs = bs → G.X = X → G.rm = ({ frames := fr, cells := nc, slots := ns, locals := lo } : Room) → G.nL = mL → G.c.exceptionTable.toList = tableOf hh → Cx G y.cls cc (some .int) → V G (qh G nc ns g) 0 lv [] I L R) : CnH l D cA ad bs X y cc mL hh fr lo nc ns As I L R g := by
  refine va_MetW (cc := cc) (maxL := mL) (ret := some .int) (hh := hh) hy rfl ?_
  intro p e s m args below meth c s₁ B hml hv
  obtain ⟨rfl, hP, hK, hN, hbs, hXs⟩ := hv
  have hl := lv_entry As (n := mL) hlen
  rw [lg_entry_eq]
  rw [hlv] at hl
  have hpre := fun w (hw : w ∈ Cond.codeWith y cc mL (some .int) hh :: gW) => atoms_spec (ws := Cond.codeWith y cc mL (some .int) hh :: gW) B.pre w hw
  have C0 : Cx (p, l, e, (headSpec (Cond.codeWith y cc mL (some .int) hh :: gW) { frames := fr, cells := nc, slots := ns, locals := lo }).room, s, m, As.toArray, below, meth, c, D, cA, ad, bs, X, mL) y.cls cc (some .int) :=
    ⟨B.exec, B.bytes, hml, B.returns, B.notSynchronized, findClass_of_methodNamed B.named, fun w hw => hpre w (List.mem_cons_of_mem _ hw), hK, hN, hAd, hbs, hXs, hX⟩
  exact body (p, l, e, (headSpec (Cond.codeWith y cc mL (some .int) hh :: gW) { frames := fr, cells := nc, slots := ns, locals := lo }).room, s, m, As.toArray, below, meth, c, D, cA, ad, bs, X, mL) rfl rfl rfl rfl rfl rfl rfl rfl (vx_table (x := y) B (hpre _ List.mem_cons_self)) C0 s.heap [] _ hP va_S.rf hl
/-- the handler: the exception put away, a small number, and out -/
theorem VH_tail4 {G : Gm} {own : String} {cc : ByteArray} {pc : Nat} {lv : List (Nat × Value)} {I : MI} {L : ML} {R : MR} {c9 s9 q : Nat} (C0 : Cx G own cc (some .int)) {x : Int32} {k : Int} {i : Fin 4} (hi : (i : Nat) < G.nL) (hv : Int32.ofInt k = x) (d0 : decode cc pc = .ok (.astore_n i, 1)) (d1 : decode cc (pc + 1) = .ok (.iconst k, 1)) (d2 : decode cc (pc + 1 + 1) = .ok (.ireturn, 1)) : VH G (qh G c9 s9 (some (.int x), I, L, R)) c9 s9 pc lv [.ref q] I L R :=
  fun H locs ls hP hS hl => lv_astore_n C0.1 C0.2.1 d0 rfl hl hi rfl (fun ls hl => lv_iconst C0.1 C0.2.1 d1 hv (W.iret (v := x) C0.1 C0.2.1 C0.2.2.2.1 (fun t ht hW => ⟨rfl, by rw [ht]; exact hP, hS.F ht⟩) hS.2.2 d2 C0.2.2.2.2.1))
theorem VH_tail5 {G : Gm} {own : String} {cc : ByteArray} {pc : Nat} {lv : List (Nat × Value)} {I : MI} {L : ML} {R : MR} {c9 s9 q : Nat} (C0 : Cx G own cc (some .int)) {x : Int32} {k : Int} {i : Nat} (hi : i < G.nL) (hv : Int32.ofInt k = x) (d0 : decode cc pc = .ok (.astore i, 2)) (d1 : decode cc (pc + 2) = .ok (.iconst k, 1)) (d2 : decode cc (pc + 2 + 1) = .ok (.ireturn, 1)) : VH G (qh G c9 s9 (some (.int x), I, L, R)) c9 s9 pc lv [.ref q] I L R :=
  fun H locs ls hP hS hl => lv_astore C0.1 C0.2.1 d0 hl hi rfl (fun ls hl => lv_iconst C0.1 C0.2.1 d1 hv (W.iret (v := x) C0.1 C0.2.1 C0.2.2.2.1 (fun t ht hW => ⟨rfl, by rw [ht]; exact hP, hS.F ht⟩) hS.2.2 d2 C0.2.2.2.2.1))
/-- what a helper's words are -/
def LkH (own : String) (index : Nat) (y : MethodName) (bytes : ByteArray) (mL : Nat) (hh : List (Nat × Nat × Nat × Nat)) (n : Nat) : Prop := Cond.codeWith y bytes mL (some .int) hh ∈ gW ∧ Cond.initialized y.cls ∈ gW ∧ Cond.methodLink own index y ∈ gW ∧ Cond.static y ∈ gW ∧ (y.cls ≠ "java/lang/invoke/MethodHandle" ∧ y.cls ≠ "java/lang/invoke/VarHandle") ∧ (parseMethodDescriptor y.desc).map (fun d => d.parameters.length) = some n
theorem V_callSH {G : Gm} {f : State → Prop} {own : String} {cc : ByteArray} {rt : Option FieldType} {pc : Nat} {lv : List (Nat × Value)} {st : List Value} {I : MI} {L : ML} {R : MR} (C0 : Cx G own cc rt) {index fr lo mL n nc ns : Nat} {hh : List (Nat × Nat × Nat × Nat)} {y : MethodName} {bytes : ByteArray} {As : List Value} {g : Fin4} (hM : CnH G.l G.D G.cA G.ad G.bs G.X y bytes mL hh fr lo nc ns As I L R g) (hc : LkH own index y bytes mL hh n) (hn : As.length = n) (hR : fr + 1 ≤ G.rm.frames ∧ 8 + (mL + 11) + lo ≤ G.rm.locals) (hcs : nc ≤ G.rm.cells ∧ ns ≤ G.rm.slots) (hst : (st.map fun v => v.category).sum ≤ 8) (hd : decode cc pc = .ok (.invokestatic index, 3))
    (k : VH G f nc ns (pc + 3) lv (g.1.toList ++ st) g.2.1 g.2.2.1 g.2.2.2) : V G f pc lv (As.reverse ++ st) I L R := by
  intro H locs ls hP hS hl T hT X
  have hPat := Pv_at C0 (As := As) hP hS
  obtain ⟨hx, hb, hml, hrt, hlk, hown, hts, hK, hN, hAd, hbs, hXs, hXb⟩ := C0
  obtain ⟨hcd, hini, hli, hstt, hy, hnn⟩ := hc
  have hg9 : GoodIn gW (Cond.codeWith y bytes mL (some .int) hh :: gW) := by
    intro w hw
    have hw2 : w ∈ gW := by
      rcases List.mem_cons.mp hw with rfl | h2
      · exact hcd
      · exact h2
    exact ⟨hw2, good_of_word (List.mem_filter.mp hw2).2⟩
  have hKb : Back G.l G.rm G.p G.e G.below G.s G.args y 3 8 (PreOf G.rm nc ns (Pv G.D G.cA G.ad G.bs G.X As I L R)) (PostOf (Qv G.D G.cA G.ad G.bs g) nc ns (Ab G.bs)) :=
    va_backW (hh := hh) (bytes := bytes) (maxL := mL) (ret := some .int) hM (Pv_blind hXb) rfl rfl hR.1 hR.2 (pay_in hts hg9) List.mem_cons_self (fun a' U hW => word_at hW (good_of_word (List.mem_filter.mp hini).2) (hts _ hini))
  have hsg : ∀ sig, parseMethodDescriptor y.desc = some sig → As.length = sig.parameters.length := fun sig h9 => by
    rw [h9] at hnn
    exact hn.trans (Option.some.inj hnn).symm
  obtain ⟨mk, methM, cM, hnamed, hmethM, -, -, -, -, -, -, hsigM⟩ := Cond.codeWith_spec (hts _ hcd)
  have hstatic : methM.isStatic = true := Cond.static_spec hnamed hmethM (hts _ hstt)
  obtain ⟨kP, hkP, -⟩ := className_of_methodNamed hnamed
  have hinitP : kP.init = .initialized := Cond.initialized_spec (findClass_of_methodNamed hnamed) hkP (hts _ hini)
  obtain ⟨vm₁, X₁, hstep₁⟩ := X.invokestatic hx hown (hts _ hli) hnamed hmethM hstatic hkP hinitP hy (g := F0 G.m pc ls (As.reverse ++ st)) rfl (argsL := As) (rest := st) (hsg _ hsigM) rfl (by rw [hb]; exact hd)
  obtain ⟨v, B, X', hpost, hsteps⟩ := hKb G.m G.meth G.c ⟨T.setVm vm₁, locs, 0, 0⟩ { F0 G.m pc ls (As.reverse ++ st) with stack := st } (.invokestatic index) mk As.toArray X₁ rfl (hl.1.trans hml.symm) (by rw [hb]; exact hd) (lv_room hst) (X₁.named hnamed) ⟨by show 0 + nc ≤ _; omega, by show 0 + ns ≤ _; omega, hPat (T.setVm vm₁) hT X₁.warmed⟩
  obtain ⟨U', l2, c2, s2⟩ := B
  obtain ⟨g', mk', t, L1, e1, e2, hq, h1, hL, h2, h3⟩ := hpost
  dsimp only [Pt.U, Pt.locs, Pt.cells, Pt.slots] at X' e1 e2 h1 h2 h3 hsteps
  subst h1; subst h2; subst h3
  obtain ⟨hv, hP1, hz, hk⟩ := hq
  cases hv
  have h0 : ((T.setVm vm₁).calling g' mk' As.toArray).heap = H := hT
  rw [h0] at hz hk
  rw [Nat.zero_add, Nat.zero_add] at X'
  obtain ⟨t2, a1, b1⟩ := k U'.heap (locs ++ L1) ls (by rw [e1]; exact hP1)
    ⟨Nat.le_trans hS.1 (by rw [e1]; exact hz), fun q h1 h2 => by rw [e1, hk q (Nat.lt_of_lt_of_le h1 hS.1) h2]; exact hS.2.1 q h1 h2, fun q hq => by
      rcases List.mem_append.mp hq with h | h
      · exact hS.2.2 q h
      · exact hL q h⟩ hl U' rfl X'
  exact ⟨t2, hstep₁ _ (fun acts => by rw [doInvoke_state]; exact hsteps.trans a1), b1⟩
/-- what the helpers ask of the classes of the exceptions -/
def exN : List String := ["java/lang/IllegalArgumentException", "java/lang/IllegalStateException", "java/lang/IndexOutOfBoundsException", "java/util/NoSuchElementException"]
def SXe (U : State) : Prop := noC "java/lang/IllegalArgumentException" "java/lang/IllegalStateException" U ∧ noC "java/util/NoSuchElementException" "java/lang/IndexOutOfBoundsException" U ∧ noC "java/lang/IllegalArgumentException" "java/lang/IndexOutOfBoundsException" U
def Sse (X : State → Prop) : Prop := ∀ U, X U → SXe U
theorem in57 : vp_in (0 : Int32) (ln 57) := by unfold vp_in; decide
def b2l (b : Bool) : Int64 := if b then 1 else 0
abbrev RLw : String := "SmallCraftLaw"
-- yL_load : MethodName := ⟨RLw, "load", "(LSmallCraft;I[J)I"⟩
def hh_load : List (Nat × Nat × Nat × Nat) := [(0, 9, 12, 13)]
theorem dL_load_0 : decode cL_load 0 = .ok (.aload_n 2, 1) := by decide +kernel
theorem dL_load_1 : decode cL_load 1 = .ok (.iconst 0, 1) := by decide +kernel
theorem dL_load_2 : decode cL_load 2 = .ok (.aload_n 0, 1) := by decide +kernel
theorem dL_load_3 : decode cL_load 3 = .ok (.iload_n 1, 1) := by decide +kernel
theorem dL_load_4 : decode cL_load 4 = .ok (.invokevirtual 7, 3) := by decide +kernel
theorem dL_load_7 : decode cL_load 7 = .ok (.i2l, 1) := by decide +kernel
theorem dL_load_8 : decode cL_load 8 = .ok (.lastore, 1) := by decide +kernel
theorem dL_load_9 : decode cL_load 9 = .ok (.goto 6, 3) := by decide +kernel
theorem dL_load_12 : decode cL_load 12 = .ok (.astore_n 3, 1) := by decide +kernel
theorem dL_load_13 : decode cL_load 13 = .ok (.iconst 1, 1) := by decide +kernel
theorem dL_load_14 : decode cL_load 14 = .ok (.ireturn, 1) := by decide +kernel
theorem dL_load_15 : decode cL_load 15 = .ok (.iconst 0, 1) := by decide +kernel
theorem dL_load_16 : decode cL_load 16 = .ok (.ireturn, 1) := by decide +kernel
theorem lh_load : LkH RLw 56 yL_load cL_load 4 hh_load 3 := ⟨gW_in _ (tb_3 _ (List.mem_of_getElem? (i := 42) rfl)) rfl, gW_in _ (tb_1 _ (List.mem_of_getElem? (i := 0) rfl)) rfl, gW_in _ (tb_3 _ (List.mem_of_getElem? (i := 40) rfl)) rfl, gW_in _ (tb_3 _ (List.mem_of_getElem? (i := 41) rfl)) rfl, by decide, by decide +kernel⟩
-- yL_plan : MethodName := ⟨RLw, "plan", "(LSmallCraft;I[J)I"⟩
def hh_plan : List (Nat × Nat × Nat × Nat) := [(0, 9, 12, 13)]
theorem dL_plan_0 : decode cL_plan 0 = .ok (.aload_n 2, 1) := by decide +kernel
theorem dL_plan_1 : decode cL_plan 1 = .ok (.iconst 0, 1) := by decide +kernel
theorem dL_plan_2 : decode cL_plan 2 = .ok (.aload_n 0, 1) := by decide +kernel
theorem dL_plan_3 : decode cL_plan 3 = .ok (.iload_n 1, 1) := by decide +kernel
theorem dL_plan_4 : decode cL_plan 4 = .ok (.invokevirtual 15, 3) := by decide +kernel
theorem dL_plan_7 : decode cL_plan 7 = .ok (.i2l, 1) := by decide +kernel
theorem dL_plan_8 : decode cL_plan 8 = .ok (.lastore, 1) := by decide +kernel
theorem dL_plan_9 : decode cL_plan 9 = .ok (.goto 6, 3) := by decide +kernel
theorem dL_plan_12 : decode cL_plan 12 = .ok (.astore_n 3, 1) := by decide +kernel
theorem dL_plan_13 : decode cL_plan 13 = .ok (.iconst 1, 1) := by decide +kernel
theorem dL_plan_14 : decode cL_plan 14 = .ok (.ireturn, 1) := by decide +kernel
theorem dL_plan_15 : decode cL_plan 15 = .ok (.iconst 0, 1) := by decide +kernel
theorem dL_plan_16 : decode cL_plan 16 = .ok (.ireturn, 1) := by decide +kernel
theorem lh_plan : LkH RLw 66 yL_plan cL_plan 4 hh_plan 3 := ⟨gW_in _ (tb_5 _ (List.mem_of_getElem? (i := 20) rfl)) rfl, gW_in _ (tb_1 _ (List.mem_of_getElem? (i := 0) rfl)) rfl, gW_in _ (tb_5 _ (List.mem_of_getElem? (i := 18) rfl)) rfl, gW_in _ (tb_5 _ (List.mem_of_getElem? (i := 19) rfl)) rfl, by decide, by decide +kernel⟩
-- yL_run : MethodName := ⟨RLw, "run", "(LSmallCraft;I[J)I"⟩
def hh_run : List (Nat × Nat × Nat × Nat) := [(0, 9, 12, 21), (0, 9, 15, 13)]
theorem dL_run_0 : decode cL_run 0 = .ok (.aload_n 2, 1) := by decide +kernel
theorem dL_run_1 : decode cL_run 1 = .ok (.iconst 0, 1) := by decide +kernel
theorem dL_run_2 : decode cL_run 2 = .ok (.aload_n 0, 1) := by decide +kernel
theorem dL_run_3 : decode cL_run 3 = .ok (.iload_n 1, 1) := by decide +kernel
theorem dL_run_4 : decode cL_run 4 = .ok (.invokevirtual 18, 3) := by decide +kernel
theorem dL_run_7 : decode cL_run 7 = .ok (.i2l, 1) := by decide +kernel
theorem dL_run_8 : decode cL_run 8 = .ok (.lastore, 1) := by decide +kernel
theorem dL_run_9 : decode cL_run 9 = .ok (.goto 9, 3) := by decide +kernel
theorem dL_run_12 : decode cL_run 12 = .ok (.astore_n 3, 1) := by decide +kernel
theorem dL_run_13 : decode cL_run 13 = .ok (.iconst 1, 1) := by decide +kernel
theorem dL_run_14 : decode cL_run 14 = .ok (.ireturn, 1) := by decide +kernel
theorem dL_run_15 : decode cL_run 15 = .ok (.astore_n 3, 1) := by decide +kernel
theorem dL_run_16 : decode cL_run 16 = .ok (.iconst 2, 1) := by decide +kernel
theorem dL_run_17 : decode cL_run 17 = .ok (.ireturn, 1) := by decide +kernel
theorem dL_run_18 : decode cL_run 18 = .ok (.iconst 0, 1) := by decide +kernel
theorem dL_run_19 : decode cL_run 19 = .ok (.ireturn, 1) := by decide +kernel
theorem lh_run : LkH RLw 73 yL_run cL_run 4 hh_run 3 := ⟨gW_in _ (tb_5 _ (List.mem_of_getElem? (i := 103) rfl)) rfl, gW_in _ (tb_1 _ (List.mem_of_getElem? (i := 0) rfl)) rfl, gW_in _ (tb_5 _ (List.mem_of_getElem? (i := 101) rfl)) rfl, gW_in _ (tb_5 _ (List.mem_of_getElem? (i := 102) rfl)) rfl, by decide, by decide +kernel⟩
-- yL_command : MethodName := ⟨RLw, "command", "(LSmallCraft;III[J)I"⟩
def hh_command : List (Nat × Nat × Nat × Nat) := [(0, 19, 22, 13)]
theorem dL_command_0 : decode cL_command 0 = .ok (.aload 4, 2) := by decide +kernel
theorem dL_command_2 : decode cL_command 2 = .ok (.iconst 0, 1) := by decide +kernel
theorem dL_command_3 : decode cL_command 3 = .ok (.aload_n 0, 1) := by decide +kernel
theorem dL_command_4 : decode cL_command 4 = .ok (.iload_n 1, 1) := by decide +kernel
theorem dL_command_5 : decode cL_command 5 = .ok (.iload_n 2, 1) := by decide +kernel
theorem dL_command_6 : decode cL_command 6 = .ok (.iload_n 3, 1) := by decide +kernel
theorem dL_command_7 : decode cL_command 7 = .ok (.invokevirtual 23, 3) := by decide +kernel
theorem dL_command_10 : decode cL_command 10 = .ok (.ifCond .eq 7, 3) := by decide +kernel
theorem dL_command_13 : decode cL_command 13 = .ok (.lconst 1, 1) := by decide +kernel
theorem dL_command_14 : decode cL_command 14 = .ok (.goto 4, 3) := by decide +kernel
theorem dL_command_17 : decode cL_command 17 = .ok (.lconst 0, 1) := by decide +kernel
theorem dL_command_18 : decode cL_command 18 = .ok (.lastore, 1) := by decide +kernel
theorem dL_command_19 : decode cL_command 19 = .ok (.goto 7, 3) := by decide +kernel
theorem dL_command_22 : decode cL_command 22 = .ok (.astore 5, 2) := by decide +kernel
theorem dL_command_24 : decode cL_command 24 = .ok (.iconst 1, 1) := by decide +kernel
theorem dL_command_25 : decode cL_command 25 = .ok (.ireturn, 1) := by decide +kernel
theorem dL_command_26 : decode cL_command 26 = .ok (.iconst 0, 1) := by decide +kernel
theorem dL_command_27 : decode cL_command 27 = .ok (.ireturn, 1) := by decide +kernel
theorem lh_command : LkH RLw 76 yL_command cL_command 6 hh_command 5 := ⟨gW_in _ (tb_6 _ (List.mem_of_getElem? (i := 178) rfl)) rfl, gW_in _ (tb_1 _ (List.mem_of_getElem? (i := 0) rfl)) rfl, gW_in _ (tb_6 _ (List.mem_of_getElem? (i := 176) rfl)) rfl, gW_in _ (tb_6 _ (List.mem_of_getElem? (i := 177) rfl)) rfl, by decide, by decide +kernel⟩
-- yL_part : MethodName := ⟨RLw, "part", "(LSmallCraft;II[J)I"⟩
def hh_part : List (Nat × Nat × Nat × Nat) := [(0, 10, 13, 31), (0, 10, 17, 33)]
theorem dL_part_0 : decode cL_part 0 = .ok (.aload_n 3, 1) := by decide +kernel
theorem dL_part_1 : decode cL_part 1 = .ok (.iconst 0, 1) := by decide +kernel
theorem dL_part_2 : decode cL_part 2 = .ok (.aload_n 0, 1) := by decide +kernel
theorem dL_part_3 : decode cL_part 3 = .ok (.iload_n 1, 1) := by decide +kernel
theorem dL_part_4 : decode cL_part 4 = .ok (.iload_n 2, 1) := by decide +kernel
theorem dL_part_5 : decode cL_part 5 = .ok (.invokevirtual 27, 3) := by decide +kernel
theorem dL_part_8 : decode cL_part 8 = .ok (.i2l, 1) := by decide +kernel
theorem dL_part_9 : decode cL_part 9 = .ok (.lastore, 1) := by decide +kernel
theorem dL_part_10 : decode cL_part 10 = .ok (.goto 11, 3) := by decide +kernel
theorem dL_part_13 : decode cL_part 13 = .ok (.astore 4, 2) := by decide +kernel
theorem dL_part_15 : decode cL_part 15 = .ok (.iconst 1, 1) := by decide +kernel
theorem dL_part_16 : decode cL_part 16 = .ok (.ireturn, 1) := by decide +kernel
theorem dL_part_17 : decode cL_part 17 = .ok (.astore 4, 2) := by decide +kernel
theorem dL_part_19 : decode cL_part 19 = .ok (.iconst 2, 1) := by decide +kernel
theorem dL_part_20 : decode cL_part 20 = .ok (.ireturn, 1) := by decide +kernel
theorem dL_part_21 : decode cL_part 21 = .ok (.iconst 0, 1) := by decide +kernel
theorem dL_part_22 : decode cL_part 22 = .ok (.ireturn, 1) := by decide +kernel
theorem lh_part : LkH RLw 80 yL_part cL_part 5 hh_part 4 := ⟨gW_in _ (tb_6 _ (List.mem_of_getElem? (i := 194) rfl)) rfl, gW_in _ (tb_1 _ (List.mem_of_getElem? (i := 0) rfl)) rfl, gW_in _ (tb_6 _ (List.mem_of_getElem? (i := 192) rfl)) rfl, gW_in _ (tb_6 _ (List.mem_of_getElem? (i := 193) rfl)) rfl, by decide, by decide +kernel⟩
-- yL_ask : MethodName := ⟨RLw, "ask", "(LSmallCraft;II[J)I"⟩
def hh_ask : List (Nat × Nat × Nat × Nat) := [(0, 10, 13, 31), (0, 10, 17, 33)]
theorem dL_ask_0 : decode cL_ask 0 = .ok (.aload_n 3, 1) := by decide +kernel
theorem dL_ask_1 : decode cL_ask 1 = .ok (.iconst 0, 1) := by decide +kernel
theorem dL_ask_2 : decode cL_ask 2 = .ok (.aload_n 0, 1) := by decide +kernel
theorem dL_ask_3 : decode cL_ask 3 = .ok (.iload_n 1, 1) := by decide +kernel
theorem dL_ask_4 : decode cL_ask 4 = .ok (.iload_n 2, 1) := by decide +kernel
theorem dL_ask_5 : decode cL_ask 5 = .ok (.invokevirtual 35, 3) := by decide +kernel
theorem dL_ask_8 : decode cL_ask 8 = .ok (.i2l, 1) := by decide +kernel
theorem dL_ask_9 : decode cL_ask 9 = .ok (.lastore, 1) := by decide +kernel
theorem dL_ask_10 : decode cL_ask 10 = .ok (.goto 11, 3) := by decide +kernel
theorem dL_ask_13 : decode cL_ask 13 = .ok (.astore 4, 2) := by decide +kernel
theorem dL_ask_15 : decode cL_ask 15 = .ok (.iconst 1, 1) := by decide +kernel
theorem dL_ask_16 : decode cL_ask 16 = .ok (.ireturn, 1) := by decide +kernel
theorem dL_ask_17 : decode cL_ask 17 = .ok (.astore 4, 2) := by decide +kernel
theorem dL_ask_19 : decode cL_ask 19 = .ok (.iconst 2, 1) := by decide +kernel
theorem dL_ask_20 : decode cL_ask 20 = .ok (.ireturn, 1) := by decide +kernel
theorem dL_ask_21 : decode cL_ask 21 = .ok (.iconst 0, 1) := by decide +kernel
theorem dL_ask_22 : decode cL_ask 22 = .ok (.ireturn, 1) := by decide +kernel
theorem lh_ask : LkH RLw 84 yL_ask cL_ask 5 hh_ask 4 := ⟨gW_in _ (tb_7 _ (List.mem_of_getElem? (i := 6) rfl)) rfl, gW_in _ (tb_1 _ (List.mem_of_getElem? (i := 0) rfl)) rfl, gW_in _ (tb_7 _ (List.mem_of_getElem? (i := 4) rfl)) rfl, gW_in _ (tb_7 _ (List.mem_of_getElem? (i := 5) rfl)) rfl, by decide, by decide +kernel⟩
-- yL_note : MethodName := ⟨RLw, "note", "(LSmallCraft;II[J)I"⟩
def hh_note : List (Nat × Nat × Nat × Nat) := [(0, 10, 13, 33)]
theorem dL_note_0 : decode cL_note 0 = .ok (.aload_n 3, 1) := by decide +kernel
theorem dL_note_1 : decode cL_note 1 = .ok (.iconst 0, 1) := by decide +kernel
theorem dL_note_2 : decode cL_note 2 = .ok (.aload_n 0, 1) := by decide +kernel
theorem dL_note_3 : decode cL_note 3 = .ok (.iload_n 1, 1) := by decide +kernel
theorem dL_note_4 : decode cL_note 4 = .ok (.iload_n 2, 1) := by decide +kernel
theorem dL_note_5 : decode cL_note 5 = .ok (.invokevirtual 38, 3) := by decide +kernel
theorem dL_note_8 : decode cL_note 8 = .ok (.i2l, 1) := by decide +kernel
theorem dL_note_9 : decode cL_note 9 = .ok (.lastore, 1) := by decide +kernel
theorem dL_note_10 : decode cL_note 10 = .ok (.goto 7, 3) := by decide +kernel
theorem dL_note_13 : decode cL_note 13 = .ok (.astore 4, 2) := by decide +kernel
theorem dL_note_15 : decode cL_note 15 = .ok (.iconst 1, 1) := by decide +kernel
theorem dL_note_16 : decode cL_note 16 = .ok (.ireturn, 1) := by decide +kernel
theorem dL_note_17 : decode cL_note 17 = .ok (.iconst 0, 1) := by decide +kernel
theorem dL_note_18 : decode cL_note 18 = .ok (.ireturn, 1) := by decide +kernel
theorem lh_note : LkH RLw 87 yL_note cL_note 5 hh_note 4 := ⟨gW_in _ (tb_7 _ (List.mem_of_getElem? (i := 29) rfl)) rfl, gW_in _ (tb_1 _ (List.mem_of_getElem? (i := 0) rfl)) rfl, gW_in _ (tb_7 _ (List.mem_of_getElem? (i := 27) rfl)) rfl, gW_in _ (tb_7 _ (List.mem_of_getElem? (i := 28) rfl)) rfl, by decide, by decide +kernel⟩
-- yL_name : MethodName := ⟨RLw, "name", "(LSmallCraft;II[J)I"⟩
def hh_name : List (Nat × Nat × Nat × Nat) := [(0, 10, 13, 31)]
theorem dL_name_0 : decode cL_name 0 = .ok (.aload_n 3, 1) := by decide +kernel
theorem dL_name_1 : decode cL_name 1 = .ok (.iconst 0, 1) := by decide +kernel
theorem dL_name_2 : decode cL_name 2 = .ok (.aload_n 0, 1) := by decide +kernel
theorem dL_name_3 : decode cL_name 3 = .ok (.iload_n 1, 1) := by decide +kernel
theorem dL_name_4 : decode cL_name 4 = .ok (.iload_n 2, 1) := by decide +kernel
theorem dL_name_5 : decode cL_name 5 = .ok (.invokevirtual 41, 3) := by decide +kernel
theorem dL_name_8 : decode cL_name 8 = .ok (.i2l, 1) := by decide +kernel
theorem dL_name_9 : decode cL_name 9 = .ok (.lastore, 1) := by decide +kernel
theorem dL_name_10 : decode cL_name 10 = .ok (.goto 7, 3) := by decide +kernel
theorem dL_name_13 : decode cL_name 13 = .ok (.astore 4, 2) := by decide +kernel
theorem dL_name_15 : decode cL_name 15 = .ok (.iconst 1, 1) := by decide +kernel
theorem dL_name_16 : decode cL_name 16 = .ok (.ireturn, 1) := by decide +kernel
theorem dL_name_17 : decode cL_name 17 = .ok (.iconst 0, 1) := by decide +kernel
theorem dL_name_18 : decode cL_name 18 = .ok (.ireturn, 1) := by decide +kernel
theorem lh_name : LkH RLw 94 yL_name cL_name 5 hh_name 4 := ⟨gW_in _ (tb_7 _ (List.mem_of_getElem? (i := 45) rfl)) rfl, gW_in _ (tb_1 _ (List.mem_of_getElem? (i := 0) rfl)) rfl, gW_in _ (tb_7 _ (List.mem_of_getElem? (i := 43) rfl)) rfl, gW_in _ (tb_7 _ (List.mem_of_getElem? (i := 44) rfl)) rfl, by decide, by decide +kernel⟩
-- yL_kept : MethodName := ⟨RLw, "kept", "(LSmallCraft;II[J)I"⟩
def hh_kept : List (Nat × Nat × Nat × Nat) := [(0, 10, 13, 31), (0, 10, 17, 13)]
theorem dL_kept_0 : decode cL_kept 0 = .ok (.aload_n 3, 1) := by decide +kernel
theorem dL_kept_1 : decode cL_kept 1 = .ok (.iconst 0, 1) := by decide +kernel
theorem dL_kept_2 : decode cL_kept 2 = .ok (.aload_n 0, 1) := by decide +kernel
theorem dL_kept_3 : decode cL_kept 3 = .ok (.iload_n 1, 1) := by decide +kernel
theorem dL_kept_4 : decode cL_kept 4 = .ok (.iload_n 2, 1) := by decide +kernel
theorem dL_kept_5 : decode cL_kept 5 = .ok (.invokevirtual 44, 3) := by decide +kernel
theorem dL_kept_8 : decode cL_kept 8 = .ok (.i2l, 1) := by decide +kernel
theorem dL_kept_9 : decode cL_kept 9 = .ok (.lastore, 1) := by decide +kernel
theorem dL_kept_10 : decode cL_kept 10 = .ok (.goto 11, 3) := by decide +kernel
theorem dL_kept_13 : decode cL_kept 13 = .ok (.astore 4, 2) := by decide +kernel
theorem dL_kept_15 : decode cL_kept 15 = .ok (.iconst 1, 1) := by decide +kernel
theorem dL_kept_16 : decode cL_kept 16 = .ok (.ireturn, 1) := by decide +kernel
theorem dL_kept_17 : decode cL_kept 17 = .ok (.astore 4, 2) := by decide +kernel
theorem dL_kept_19 : decode cL_kept 19 = .ok (.iconst 2, 1) := by decide +kernel
theorem dL_kept_20 : decode cL_kept 20 = .ok (.ireturn, 1) := by decide +kernel
theorem dL_kept_21 : decode cL_kept 21 = .ok (.iconst 0, 1) := by decide +kernel
theorem dL_kept_22 : decode cL_kept 22 = .ok (.ireturn, 1) := by decide +kernel
theorem lh_kept : LkH RLw 97 yL_kept cL_kept 5 hh_kept 4 := ⟨gW_in _ (tb_7 _ (List.mem_of_getElem? (i := 54) rfl)) rfl, gW_in _ (tb_1 _ (List.mem_of_getElem? (i := 0) rfl)) rfl, gW_in _ (tb_7 _ (List.mem_of_getElem? (i := 52) rfl)) rfl, gW_in _ (tb_7 _ (List.mem_of_getElem? (i := 53) rfl)) rfl, by decide, by decide +kernel⟩
theorem lc_X11_load : LkC yX11_load cX11_load 3 (some .int) 1 := ⟨gW_in _ (tb_3 _ (List.mem_of_getElem? (i := 47) rfl)) rfl, gW_in _ (tb_1 _ (List.mem_of_getElem? (i := 1) rfl)) rfl, by decide +kernel⟩
theorem lt_L_7 : Cond.methodLink RLw 7 yX11_load ∈ gW ∧ Cond.instanceMethod yX11_load ∈ gW ∧ Cond.selects yX11_load.cls yX11_load yX11_load ∈ gW := ⟨gW_in _ (tb_3 _ (List.mem_of_getElem? (i := 44) rfl)) rfl, gW_in _ (tb_3 _ (List.mem_of_getElem? (i := 45) rfl)) rfl, gW_in _ (tb_3 _ (List.mem_of_getElem? (i := 46) rfl)) rfl⟩
theorem kl_L_13 : Cond.classLink RLw 13 "java/lang/IllegalArgumentException" ∈ gW := gW_in _ (tb_3 _ (List.mem_of_getElem? (i := 43) rfl)) rfl
theorem kx_13 : Cond.castable "java/lang/IllegalArgumentException" "java/lang/IllegalArgumentException" ∈ eW := List.mem_filter.mpr ⟨(tb_3 _ (List.mem_of_getElem? (i := 50) rfl)), rfl⟩
theorem lc_X11_plan : LkC yX11_plan cX11_plan 3 (some .int) 1 := ⟨gW_in _ (tb_5 _ (List.mem_of_getElem? (i := 24) rfl)) rfl, gW_in _ (tb_1 _ (List.mem_of_getElem? (i := 1) rfl)) rfl, by decide +kernel⟩
theorem lt_L_15 : Cond.methodLink RLw 15 yX11_plan ∈ gW ∧ Cond.instanceMethod yX11_plan ∈ gW ∧ Cond.selects yX11_plan.cls yX11_plan yX11_plan ∈ gW := ⟨gW_in _ (tb_5 _ (List.mem_of_getElem? (i := 21) rfl)) rfl, gW_in _ (tb_5 _ (List.mem_of_getElem? (i := 22) rfl)) rfl, gW_in _ (tb_5 _ (List.mem_of_getElem? (i := 23) rfl)) rfl⟩
theorem lc_X11_run : LkC yX11_run cX11_run 3 (some .int) 1 := ⟨gW_in _ (tb_5 _ (List.mem_of_getElem? (i := 108) rfl)) rfl, gW_in _ (tb_1 _ (List.mem_of_getElem? (i := 1) rfl)) rfl, by decide +kernel⟩
theorem lt_L_18 : Cond.methodLink RLw 18 yX11_run ∈ gW ∧ Cond.instanceMethod yX11_run ∈ gW ∧ Cond.selects yX11_run.cls yX11_run yX11_run ∈ gW := ⟨gW_in _ (tb_5 _ (List.mem_of_getElem? (i := 105) rfl)) rfl, gW_in _ (tb_5 _ (List.mem_of_getElem? (i := 106) rfl)) rfl, gW_in _ (tb_5 _ (List.mem_of_getElem? (i := 107) rfl)) rfl⟩
theorem kl_L_21 : Cond.classLink RLw 21 "java/lang/IllegalStateException" ∈ gW := gW_in _ (tb_5 _ (List.mem_of_getElem? (i := 104) rfl)) rfl
theorem kx_21 : Cond.castable "java/lang/IllegalStateException" "java/lang/IllegalStateException" ∈ eW := List.mem_filter.mpr ⟨(tb_5 _ (List.mem_of_getElem? (i := 111) rfl)), rfl⟩
theorem lc_X11_command : LkC yX11_command cX11_command 4 (some .boolean) 3 := ⟨gW_in _ (tb_6 _ (List.mem_of_getElem? (i := 182) rfl)) rfl, gW_in _ (tb_1 _ (List.mem_of_getElem? (i := 1) rfl)) rfl, by decide +kernel⟩
theorem lt_L_23 : Cond.methodLink RLw 23 yX11_command ∈ gW ∧ Cond.instanceMethod yX11_command ∈ gW ∧ Cond.selects yX11_command.cls yX11_command yX11_command ∈ gW := ⟨gW_in _ (tb_6 _ (List.mem_of_getElem? (i := 179) rfl)) rfl, gW_in _ (tb_6 _ (List.mem_of_getElem? (i := 180) rfl)) rfl, gW_in _ (tb_6 _ (List.mem_of_getElem? (i := 181) rfl)) rfl⟩
theorem lc_X11_part : LkC yX11_part cX11_part 4 (some .int) 2 := ⟨gW_in _ (tb_6 _ (List.mem_of_getElem? (i := 200) rfl)) rfl, gW_in _ (tb_1 _ (List.mem_of_getElem? (i := 1) rfl)) rfl, by decide +kernel⟩
theorem lt_L_27 : Cond.methodLink RLw 27 yX11_part ∈ gW ∧ Cond.instanceMethod yX11_part ∈ gW ∧ Cond.selects yX11_part.cls yX11_part yX11_part ∈ gW := ⟨gW_in _ (tb_6 _ (List.mem_of_getElem? (i := 197) rfl)) rfl, gW_in _ (tb_6 _ (List.mem_of_getElem? (i := 198) rfl)) rfl, gW_in _ (tb_6 _ (List.mem_of_getElem? (i := 199) rfl)) rfl⟩
theorem kl_L_31 : Cond.classLink RLw 31 "java/lang/IndexOutOfBoundsException" ∈ gW := gW_in _ (tb_6 _ (List.mem_of_getElem? (i := 195) rfl)) rfl
theorem kx_31 : Cond.castable "java/lang/IndexOutOfBoundsException" "java/lang/IndexOutOfBoundsException" ∈ eW := List.mem_filter.mpr ⟨(tb_6 _ (List.mem_of_getElem? (i := 207) rfl)), rfl⟩
theorem kl_L_33 : Cond.classLink RLw 33 "java/util/NoSuchElementException" ∈ gW := gW_in _ (tb_6 _ (List.mem_of_getElem? (i := 196) rfl)) rfl
theorem kx_33 : Cond.castable "java/util/NoSuchElementException" "java/util/NoSuchElementException" ∈ eW := List.mem_filter.mpr ⟨(tb_6 _ (List.mem_of_getElem? (i := 229) rfl)), rfl⟩
theorem lc_X11_ask : LkC yX11_ask cX11_ask 4 (some .int) 2 := ⟨gW_in _ (tb_7 _ (List.mem_of_getElem? (i := 10) rfl)) rfl, gW_in _ (tb_1 _ (List.mem_of_getElem? (i := 1) rfl)) rfl, by decide +kernel⟩
theorem lt_L_35 : Cond.methodLink RLw 35 yX11_ask ∈ gW ∧ Cond.instanceMethod yX11_ask ∈ gW ∧ Cond.selects yX11_ask.cls yX11_ask yX11_ask ∈ gW := ⟨gW_in _ (tb_7 _ (List.mem_of_getElem? (i := 7) rfl)) rfl, gW_in _ (tb_7 _ (List.mem_of_getElem? (i := 8) rfl)) rfl, gW_in _ (tb_7 _ (List.mem_of_getElem? (i := 9) rfl)) rfl⟩
theorem lc_X11_note : LkC yX11_note cX11_note 3 (some .int) 2 := ⟨gW_in _ (tb_7 _ (List.mem_of_getElem? (i := 33) rfl)) rfl, gW_in _ (tb_1 _ (List.mem_of_getElem? (i := 1) rfl)) rfl, by decide +kernel⟩
theorem lt_L_38 : Cond.methodLink RLw 38 yX11_note ∈ gW ∧ Cond.instanceMethod yX11_note ∈ gW ∧ Cond.selects yX11_note.cls yX11_note yX11_note ∈ gW := ⟨gW_in _ (tb_7 _ (List.mem_of_getElem? (i := 30) rfl)) rfl, gW_in _ (tb_7 _ (List.mem_of_getElem? (i := 31) rfl)) rfl, gW_in _ (tb_7 _ (List.mem_of_getElem? (i := 32) rfl)) rfl⟩
theorem lc_X11_name : LkC yX11_name cX11_name 4 (some .int) 2 := ⟨gW_in _ (tb_7 _ (List.mem_of_getElem? (i := 49) rfl)) rfl, gW_in _ (tb_1 _ (List.mem_of_getElem? (i := 1) rfl)) rfl, by decide +kernel⟩
theorem lt_L_41 : Cond.methodLink RLw 41 yX11_name ∈ gW ∧ Cond.instanceMethod yX11_name ∈ gW ∧ Cond.selects yX11_name.cls yX11_name yX11_name ∈ gW := ⟨gW_in _ (tb_7 _ (List.mem_of_getElem? (i := 46) rfl)) rfl, gW_in _ (tb_7 _ (List.mem_of_getElem? (i := 47) rfl)) rfl, gW_in _ (tb_7 _ (List.mem_of_getElem? (i := 48) rfl)) rfl⟩
theorem lc_X11_kept : LkC yX11_kept cX11_kept 4 (some .int) 2 := ⟨gW_in _ (tb_7 _ (List.mem_of_getElem? (i := 58) rfl)) rfl, gW_in _ (tb_1 _ (List.mem_of_getElem? (i := 1) rfl)) rfl, by decide +kernel⟩
theorem lt_L_44 : Cond.methodLink RLw 44 yX11_kept ∈ gW ∧ Cond.instanceMethod yX11_kept ∈ gW ∧ Cond.selects yX11_kept.cls yX11_kept yX11_kept ∈ gW := ⟨gW_in _ (tb_7 _ (List.mem_of_getElem? (i := 55) rfl)) rfl, gW_in _ (tb_7 _ (List.mem_of_getElem? (i := 56) rfl)) rfl, gW_in _ (tb_7 _ (List.mem_of_getElem? (i := 57) rfl)) rfl⟩
set_option maxRecDepth 100000 in
theorem h_load_0 (l : Launch) (D : va_G) (cA : Nat → ClassId) (ad : Nat → Nat) (bs : Nat) (X : State → Prop) (hAd : Ax ad bs) (hX : Stb bs X) (hl : l.stackTraces = false) (hc : Ssc bs X) (hse : Sse X) (hs : Ssx ad bs X) (ht : Ssb ad bs X) (N : Nat) (x1 : Int32) (I : MI) (L : ML) (R : MR) (r : Int32 × MI × ML) (h : F_X11_load N 0 x1 I L R = some (.inr r)) : CnH l D cA ad bs X yL_load cL_load 4 hh_load 10 215 0 0 [.ref (ad 0), .int x1, .ref (ad 57)] I L R (some (.int 0), r.2.1, uL (r.2.2) 57 0 (r.1).toInt64, R) := by
  refine CnH.ofV hAd hX [(0, .ref (ad 0)), (1, .int x1), (2, .ref (ad 57))] rfl (Nat.le_of_ble_eq_true rfl) (by decide) ?_
  intro G el eD ecA ead ebs eX erm eNL htab C0
  subst el eD ecA ead ebs eX
  refine V_aload_n C0 2 rfl rfl dL_load_0 ?_
  refine V_iconst C0 (v := (0 : Int32)) (by decide) dL_load_1 ?_
  refine V_aload_n C0 0 rfl rfl dL_load_2 ?_
  refine V_iload_n C0 1 rfl rfl dL_load_3 ?_
  refine V_callT C0 (st := [.int 0, .ref (G.ad 57)]) (As := [.int x1]) 10 (c_X11_load G.l G.D G.cA G.ad G.bs G.X C0.2.2.2.2.2.2.2.2.2.1 C0.2.2.2.2.2.2.2.2.2.2.2.2 hl hc hs ht N 0 x1 I L R _ h) rfl lc_X11_load lt_L_7 (by decide) (by decide) ⟨_, rfl, rfl⟩ rfl (by rw [erm]; exact ⟨by decide, by decide⟩) (Nat.le_of_ble_eq_true rfl) dL_load_4 ?_
  show V G _ 7 [(0, .ref (G.ad 0)), (1, .int x1), (2, .ref (G.ad 57))] [.int (r.1), .int 0, .ref (G.ad 57)] (r.2.1) (r.2.2) R
  refine V_i2l C0 dL_load_7 (V_last C0 (by decide) (by decide) in57 dL_load_8 (V_goto C0 (tgt := 15) (by decide) dL_load_9 (V_iconst C0 (v := (0 : Int32)) (by decide) dL_load_15 ?_)))
  exact V_iret C0 dL_load_16
set_option maxRecDepth 100000 in
theorem h_load_1 (l : Launch) (D : va_G) (cA : Nat → ClassId) (ad : Nat → Nat) (bs : Nat) (X : State → Prop) (hAd : Ax ad bs) (hX : Stb bs X) (hl : l.stackTraces = false) (hc : Ssc bs X) (hse : Sse X) (hs : Ssx ad bs X) (ht : Ssb ad bs X) (N : Nat) (x1 : Int32) (I : MI) (L : ML) (R : MR) (h : F_X11_load N 0 x1 I L R = some (.inl "java/lang/IllegalArgumentException")) : CnH l D cA ad bs X yL_load cL_load 4 hh_load 10 215 1 6 [.ref (ad 0), .int x1, .ref (ad 57)] I L R (some (.int 1), I, L, R) := by
  refine CnH.ofV hAd hX [(0, .ref (ad 0)), (1, .int x1), (2, .ref (ad 57))] rfl (Nat.le_of_ble_eq_true rfl) (by decide) ?_
  intro G el eD ecA ead ebs eX erm eNL htab C0
  subst el eD ecA ead ebs eX
  refine V_aload_n C0 2 rfl rfl dL_load_0 ?_
  refine V_iconst C0 (v := (0 : Int32)) (by decide) dL_load_1 ?_
  refine V_aload_n C0 0 rfl rfl dL_load_2 ?_
  refine V_iload_n C0 1 rfl rfl dL_load_3 ?_
  refine V_callC C0 (st := [.int 0, .ref (G.ad 57)]) (As := [.int x1]) 10 (c_X11_load G.l G.D G.cA G.ad G.bs G.X C0.2.2.2.2.2.2.2.2.2.1 C0.2.2.2.2.2.2.2.2.2.2.2.2 hl hc hs ht N 0 x1 I L R _ h) rfl lc_X11_load lt_L_7 (by decide) (by decide) ⟨_, rfl, rfl⟩ rfl (by rw [erm]; exact ⟨by decide, by decide⟩) (by rw [erm]; exact ⟨Nat.le_refl 1, Nat.le_refl 6⟩) (Nat.le_of_ble_eq_true rfl) dL_load_4 [] ⟨0, 9, 12, 13⟩ [] htab (fun e9 he9 => nomatch he9) (by decide) (by decide) kl_L_13 ((hc _ C0.2.2.2.2.2.2.2.2.2.2.2.1).1 _ kx_13) (fun q => ?_)
  exact VH_tail4 C0 (by rw [eNL]; decide) (by decide) dL_load_12 dL_load_13 dL_load_14
set_option maxRecDepth 100000 in
theorem h_plan_0 (l : Launch) (D : va_G) (cA : Nat → ClassId) (ad : Nat → Nat) (bs : Nat) (X : State → Prop) (hAd : Ax ad bs) (hX : Stb bs X) (hl : l.stackTraces = false) (hc : Ssc bs X) (hse : Sse X) (ht : Ssb ad bs X) (N : Nat) (x1 : Int32) (I : MI) (L : ML) (R : MR) (r : Int32 × MI × ML × MR) (h : F_X11_plan N 0 x1 I L R = some (.inr r)) : CnH l D cA ad bs X yL_plan cL_plan 4 hh_plan 11 243 0 0 [.ref (ad 0), .int x1, .ref (ad 57)] I L R (some (.int 0), r.2.1, uL (r.2.2.1) 57 0 (r.1).toInt64, r.2.2.2) := by
  refine CnH.ofV hAd hX [(0, .ref (ad 0)), (1, .int x1), (2, .ref (ad 57))] rfl (Nat.le_of_ble_eq_true rfl) (by decide) ?_
  intro G el eD ecA ead ebs eX erm eNL htab C0
  subst el eD ecA ead ebs eX
  refine V_aload_n C0 2 rfl rfl dL_plan_0 ?_
  refine V_iconst C0 (v := (0 : Int32)) (by decide) dL_plan_1 ?_
  refine V_aload_n C0 0 rfl rfl dL_plan_2 ?_
  refine V_iload_n C0 1 rfl rfl dL_plan_3 ?_
  refine V_callT C0 (st := [.int 0, .ref (G.ad 57)]) (As := [.int x1]) 10 (c_X11_plan G.l G.D G.cA G.ad G.bs G.X C0.2.2.2.2.2.2.2.2.2.1 C0.2.2.2.2.2.2.2.2.2.2.2.2 hl hc ht N 0 x1 I L R _ h) rfl lc_X11_plan lt_L_15 (by decide) (by decide) ⟨_, rfl, rfl⟩ rfl (by rw [erm]; exact ⟨by decide, by decide⟩) (Nat.le_of_ble_eq_true rfl) dL_plan_4 ?_
  show V G _ 7 [(0, .ref (G.ad 0)), (1, .int x1), (2, .ref (G.ad 57))] [.int (r.1), .int 0, .ref (G.ad 57)] (r.2.1) (r.2.2.1) (r.2.2.2)
  refine V_i2l C0 dL_plan_7 (V_last C0 (by decide) (by decide) in57 dL_plan_8 (V_goto C0 (tgt := 15) (by decide) dL_plan_9 (V_iconst C0 (v := (0 : Int32)) (by decide) dL_plan_15 ?_)))
  exact V_iret C0 dL_plan_16
set_option maxRecDepth 100000 in
theorem h_plan_1 (l : Launch) (D : va_G) (cA : Nat → ClassId) (ad : Nat → Nat) (bs : Nat) (X : State → Prop) (hAd : Ax ad bs) (hX : Stb bs X) (hl : l.stackTraces = false) (hc : Ssc bs X) (hse : Sse X) (ht : Ssb ad bs X) (N : Nat) (x1 : Int32) (I : MI) (L : ML) (R : MR) (h : F_X11_plan N 0 x1 I L R = some (.inl "java/lang/IllegalArgumentException")) : CnH l D cA ad bs X yL_plan cL_plan 4 hh_plan 11 243 1 6 [.ref (ad 0), .int x1, .ref (ad 57)] I L R (some (.int 1), I, L, R) := by
  refine CnH.ofV hAd hX [(0, .ref (ad 0)), (1, .int x1), (2, .ref (ad 57))] rfl (Nat.le_of_ble_eq_true rfl) (by decide) ?_
  intro G el eD ecA ead ebs eX erm eNL htab C0
  subst el eD ecA ead ebs eX
  refine V_aload_n C0 2 rfl rfl dL_plan_0 ?_
  refine V_iconst C0 (v := (0 : Int32)) (by decide) dL_plan_1 ?_
  refine V_aload_n C0 0 rfl rfl dL_plan_2 ?_
  refine V_iload_n C0 1 rfl rfl dL_plan_3 ?_
  refine V_callC C0 (st := [.int 0, .ref (G.ad 57)]) (As := [.int x1]) 10 (c_X11_plan G.l G.D G.cA G.ad G.bs G.X C0.2.2.2.2.2.2.2.2.2.1 C0.2.2.2.2.2.2.2.2.2.2.2.2 hl hc ht N 0 x1 I L R _ h) rfl lc_X11_plan lt_L_15 (by decide) (by decide) ⟨_, rfl, rfl⟩ rfl (by rw [erm]; exact ⟨by decide, by decide⟩) (by rw [erm]; exact ⟨Nat.le_refl 1, Nat.le_refl 6⟩) (Nat.le_of_ble_eq_true rfl) dL_plan_4 [] ⟨0, 9, 12, 13⟩ [] htab (fun e9 he9 => nomatch he9) (by decide) (by decide) kl_L_13 ((hc _ C0.2.2.2.2.2.2.2.2.2.2.2.1).1 _ kx_13) (fun q => ?_)
  exact VH_tail4 C0 (by rw [eNL]; decide) (by decide) dL_plan_12 dL_plan_13 dL_plan_14
set_option maxRecDepth 100000 in
theorem h_run_0 (l : Launch) (D : va_G) (cA : Nat → ClassId) (ad : Nat → Nat) (bs : Nat) (X : State → Prop) (hAd : Ax ad bs) (hX : Stb bs X) (hl : l.stackTraces = false) (hc : Ssc bs X) (hse : Sse X) (hs : Ssx ad bs X) (N : Nat) (x1 : Int32) (I : MI) (L : ML) (R : MR) (r : Int32 × MI) (h : F_X11_run N 0 x1 I L R = some (.inr r)) : CnH l D cA ad bs X yL_run cL_run 4 hh_run 8 182 0 0 [.ref (ad 0), .int x1, .ref (ad 57)] I L R (some (.int 0), r.2, uL L 57 0 (r.1).toInt64, R) := by
  refine CnH.ofV hAd hX [(0, .ref (ad 0)), (1, .int x1), (2, .ref (ad 57))] rfl (Nat.le_of_ble_eq_true rfl) (by decide) ?_
  intro G el eD ecA ead ebs eX erm eNL htab C0
  subst el eD ecA ead ebs eX
  refine V_aload_n C0 2 rfl rfl dL_run_0 ?_
  refine V_iconst C0 (v := (0 : Int32)) (by decide) dL_run_1 ?_
  refine V_aload_n C0 0 rfl rfl dL_run_2 ?_
  refine V_iload_n C0 1 rfl rfl dL_run_3 ?_
  refine V_callT C0 (st := [.int 0, .ref (G.ad 57)]) (As := [.int x1]) 10 (c_X11_run G.l G.D G.cA G.ad G.bs G.X C0.2.2.2.2.2.2.2.2.2.1 C0.2.2.2.2.2.2.2.2.2.2.2.2 hl hc hs N 0 x1 I L R _ h) rfl lc_X11_run lt_L_18 (by decide) (by decide) ⟨_, rfl, rfl⟩ rfl (by rw [erm]; exact ⟨by decide, by decide⟩) (Nat.le_of_ble_eq_true rfl) dL_run_4 ?_
  show V G _ 7 [(0, .ref (G.ad 0)), (1, .int x1), (2, .ref (G.ad 57))] [.int (r.1), .int 0, .ref (G.ad 57)] (r.2) L R
  refine V_i2l C0 dL_run_7 (V_last C0 (by decide) (by decide) in57 dL_run_8 (V_goto C0 (tgt := 18) (by decide) dL_run_9 (V_iconst C0 (v := (0 : Int32)) (by decide) dL_run_18 ?_)))
  exact V_iret C0 dL_run_19
set_option maxRecDepth 100000 in
theorem h_run_1 (l : Launch) (D : va_G) (cA : Nat → ClassId) (ad : Nat → Nat) (bs : Nat) (X : State → Prop) (hAd : Ax ad bs) (hX : Stb bs X) (hl : l.stackTraces = false) (hc : Ssc bs X) (hse : Sse X) (hs : Ssx ad bs X) (N : Nat) (x1 : Int32) (I : MI) (L : ML) (R : MR) (h : F_X11_run N 0 x1 I L R = some (.inl "java/lang/IllegalStateException")) : CnH l D cA ad bs X yL_run cL_run 4 hh_run 8 182 1 6 [.ref (ad 0), .int x1, .ref (ad 57)] I L R (some (.int 1), I, L, R) := by
  refine CnH.ofV hAd hX [(0, .ref (ad 0)), (1, .int x1), (2, .ref (ad 57))] rfl (Nat.le_of_ble_eq_true rfl) (by decide) ?_
  intro G el eD ecA ead ebs eX erm eNL htab C0
  subst el eD ecA ead ebs eX
  refine V_aload_n C0 2 rfl rfl dL_run_0 ?_
  refine V_iconst C0 (v := (0 : Int32)) (by decide) dL_run_1 ?_
  refine V_aload_n C0 0 rfl rfl dL_run_2 ?_
  refine V_iload_n C0 1 rfl rfl dL_run_3 ?_
  refine V_callC C0 (st := [.int 0, .ref (G.ad 57)]) (As := [.int x1]) 10 (c_X11_run G.l G.D G.cA G.ad G.bs G.X C0.2.2.2.2.2.2.2.2.2.1 C0.2.2.2.2.2.2.2.2.2.2.2.2 hl hc hs N 0 x1 I L R _ h) rfl lc_X11_run lt_L_18 (by decide) (by decide) ⟨_, rfl, rfl⟩ rfl (by rw [erm]; exact ⟨by decide, by decide⟩) (by rw [erm]; exact ⟨Nat.le_refl 1, Nat.le_refl 6⟩) (Nat.le_of_ble_eq_true rfl) dL_run_4 [] ⟨0, 9, 12, 21⟩ [⟨0, 9, 15, 13⟩] htab (fun e9 he9 => nomatch he9) (by decide) (by decide) kl_L_21 ((hc _ C0.2.2.2.2.2.2.2.2.2.2.2.1).1 _ kx_21) (fun q => ?_)
  exact VH_tail4 C0 (by rw [eNL]; decide) (by decide) dL_run_12 dL_run_13 dL_run_14
set_option maxRecDepth 100000 in
theorem h_run_2 (l : Launch) (D : va_G) (cA : Nat → ClassId) (ad : Nat → Nat) (bs : Nat) (X : State → Prop) (hAd : Ax ad bs) (hX : Stb bs X) (hl : l.stackTraces = false) (hc : Ssc bs X) (hse : Sse X) (hs : Ssx ad bs X) (N : Nat) (x1 : Int32) (I : MI) (L : ML) (R : MR) (h : F_X11_run N 0 x1 I L R = some (.inl "java/lang/IllegalArgumentException")) : CnH l D cA ad bs X yL_run cL_run 4 hh_run 8 182 1 6 [.ref (ad 0), .int x1, .ref (ad 57)] I L R (some (.int 2), I, L, R) := by
  refine CnH.ofV hAd hX [(0, .ref (ad 0)), (1, .int x1), (2, .ref (ad 57))] rfl (Nat.le_of_ble_eq_true rfl) (by decide) ?_
  intro G el eD ecA ead ebs eX erm eNL htab C0
  subst el eD ecA ead ebs eX
  refine V_aload_n C0 2 rfl rfl dL_run_0 ?_
  refine V_iconst C0 (v := (0 : Int32)) (by decide) dL_run_1 ?_
  refine V_aload_n C0 0 rfl rfl dL_run_2 ?_
  refine V_iload_n C0 1 rfl rfl dL_run_3 ?_
  refine V_callC C0 (st := [.int 0, .ref (G.ad 57)]) (As := [.int x1]) 10 (c_X11_run G.l G.D G.cA G.ad G.bs G.X C0.2.2.2.2.2.2.2.2.2.1 C0.2.2.2.2.2.2.2.2.2.2.2.2 hl hc hs N 0 x1 I L R _ h) rfl lc_X11_run lt_L_18 (by decide) (by decide) ⟨_, rfl, rfl⟩ rfl (by rw [erm]; exact ⟨by decide, by decide⟩) (by rw [erm]; exact ⟨Nat.le_refl 1, Nat.le_refl 6⟩) (Nat.le_of_ble_eq_true rfl) dL_run_4 [⟨0, 9, 12, 21⟩] ⟨0, 9, 15, 13⟩ [] htab (fun e9 he9 => by rw [List.mem_singleton.mp he9]; exact ⟨by decide, by decide, _, kl_L_21, (hse _ C0.2.2.2.2.2.2.2.2.2.2.2.1).1⟩) (by decide) (by decide) kl_L_13 ((hc _ C0.2.2.2.2.2.2.2.2.2.2.2.1).1 _ kx_13) (fun q => ?_)
  exact VH_tail4 C0 (by rw [eNL]; decide) (by decide) dL_run_15 dL_run_16 dL_run_17
set_option maxRecDepth 100000 in
theorem h_command_0 (l : Launch) (D : va_G) (cA : Nat → ClassId) (ad : Nat → Nat) (bs : Nat) (X : State → Prop) (hAd : Ax ad bs) (hX : Stb bs X) (hl : l.stackTraces = false) (hc : Ssc bs X) (hse : Sse X) (N : Nat) (x1 : Int32) (x2 : Int32) (x3 : Int32) (I : MI) (L : ML) (R : MR) (r : Bool × MI) (h : F_X11_command N 0 x1 x2 x3 I L R = some (.inr r)) : CnH l D cA ad bs X yL_command cL_command 6 hh_command 7 137 0 0 [.ref (ad 0), .int x1, .int x2, .int x3, .ref (ad 57)] I L R (some (.int 0), r.2, uL L 57 0 (b2l r.1), R) := by
  refine CnH.ofV hAd hX [(0, .ref (ad 0)), (1, .int x1), (2, .int x2), (3, .int x3), (4, .ref (ad 57))] rfl (Nat.le_of_ble_eq_true rfl) (by decide) ?_
  intro G el eD ecA ead ebs eX erm eNL htab C0
  subst el eD ecA ead ebs eX
  refine V_aload C0 4 rfl dL_command_0 ?_
  refine V_iconst C0 (v := (0 : Int32)) (by decide) dL_command_2 ?_
  refine V_aload_n C0 0 rfl rfl dL_command_3 ?_
  refine V_iload_n C0 1 rfl rfl dL_command_4 ?_
  refine V_iload_n C0 2 rfl rfl dL_command_5 ?_
  refine V_iload_n C0 3 rfl rfl dL_command_6 ?_
  refine V_callT C0 (st := [.int 0, .ref (G.ad 57)]) (As := [.int x1, .int x2, .int x3]) 10 (c_X11_command G.l G.D G.cA G.ad G.bs G.X C0.2.2.2.2.2.2.2.2.2.1 C0.2.2.2.2.2.2.2.2.2.2.2.2 hl hc N 0 x1 x2 x3 I L R _ h) rfl lc_X11_command lt_L_23 (by decide) (by decide) ⟨_, rfl, rfl⟩ rfl (by rw [erm]; exact ⟨by decide, by decide⟩) (Nat.le_of_ble_eq_true rfl) dL_command_7 ?_
  show V G _ 10 [(0, .ref (G.ad 0)), (1, .int x1), (2, .int x2), (3, .int x3), (4, .ref (G.ad 57))] [.int (b2i r.1), .int 0, .ref (G.ad 57)] r.2 L R
  refine V_if_eq C0 (tgt := 17) (by decide) dL_command_10 (fun c9 => ?_) (fun c9 => ?_)
  · refine V_lconst C0 (v := (0 : Int64)) (by decide) dL_command_17 ?_
    have e : b2l r.1 = 0 := by cases hr : r.1 <;> simp_all [b2l, b2i]
    rw [e]
    refine V_last C0 (by decide) (by decide) in57 dL_command_18 (V_goto C0 (tgt := 26) (by decide) dL_command_19 (V_iconst C0 (v := (0 : Int32)) (by decide) dL_command_26 ?_))
    exact V_iret C0 dL_command_27
  · refine V_lconst C0 (v := (1 : Int64)) (by decide) dL_command_13 (V_goto C0 (tgt := 18) (by decide) dL_command_14 ?_)
    have e : b2l r.1 = 1 := by cases hr : r.1 <;> simp_all [b2l, b2i]
    rw [e]
    refine V_last C0 (by decide) (by decide) in57 dL_command_18 (V_goto C0 (tgt := 26) (by decide) dL_command_19 (V_iconst C0 (v := (0 : Int32)) (by decide) dL_command_26 ?_))
    exact V_iret C0 dL_command_27
set_option maxRecDepth 100000 in
theorem h_command_1 (l : Launch) (D : va_G) (cA : Nat → ClassId) (ad : Nat → Nat) (bs : Nat) (X : State → Prop) (hAd : Ax ad bs) (hX : Stb bs X) (hl : l.stackTraces = false) (hc : Ssc bs X) (hse : Sse X) (N : Nat) (x1 : Int32) (x2 : Int32) (x3 : Int32) (I : MI) (L : ML) (R : MR) (h : F_X11_command N 0 x1 x2 x3 I L R = some (.inl "java/lang/IllegalArgumentException")) : CnH l D cA ad bs X yL_command cL_command 6 hh_command 7 137 1 6 [.ref (ad 0), .int x1, .int x2, .int x3, .ref (ad 57)] I L R (some (.int 1), I, L, R) := by
  refine CnH.ofV hAd hX [(0, .ref (ad 0)), (1, .int x1), (2, .int x2), (3, .int x3), (4, .ref (ad 57))] rfl (Nat.le_of_ble_eq_true rfl) (by decide) ?_
  intro G el eD ecA ead ebs eX erm eNL htab C0
  subst el eD ecA ead ebs eX
  refine V_aload C0 4 rfl dL_command_0 ?_
  refine V_iconst C0 (v := (0 : Int32)) (by decide) dL_command_2 ?_
  refine V_aload_n C0 0 rfl rfl dL_command_3 ?_
  refine V_iload_n C0 1 rfl rfl dL_command_4 ?_
  refine V_iload_n C0 2 rfl rfl dL_command_5 ?_
  refine V_iload_n C0 3 rfl rfl dL_command_6 ?_
  refine V_callC C0 (st := [.int 0, .ref (G.ad 57)]) (As := [.int x1, .int x2, .int x3]) 10 (c_X11_command G.l G.D G.cA G.ad G.bs G.X C0.2.2.2.2.2.2.2.2.2.1 C0.2.2.2.2.2.2.2.2.2.2.2.2 hl hc N 0 x1 x2 x3 I L R _ h) rfl lc_X11_command lt_L_23 (by decide) (by decide) ⟨_, rfl, rfl⟩ rfl (by rw [erm]; exact ⟨by decide, by decide⟩) (by rw [erm]; exact ⟨Nat.le_refl 1, Nat.le_refl 6⟩) (Nat.le_of_ble_eq_true rfl) dL_command_7 [] ⟨0, 19, 22, 13⟩ [] htab (fun e9 he9 => nomatch he9) (by decide) (by decide) kl_L_13 ((hc _ C0.2.2.2.2.2.2.2.2.2.2.2.1).1 _ kx_13) (fun q => ?_)
  exact VH_tail5 C0 (by rw [eNL]; decide) (by decide) dL_command_22 dL_command_24 dL_command_25
set_option maxRecDepth 100000 in
theorem h_part_0 (l : Launch) (D : va_G) (cA : Nat → ClassId) (ad : Nat → Nat) (bs : Nat) (X : State → Prop) (hAd : Ax ad bs) (hX : Stb bs X) (hl : l.stackTraces = false) (hc : Ssc bs X) (hse : Sse X) (hs : Ssx ad bs X) (x1 : Int32) (x2 : Int32) (I : MI) (L : ML) (R : MR) (r : Int32) (h : F_X11_part 0 x1 x2 I L R = some (.inr r)) : CnH l D cA ad bs X yL_part cL_part 5 hh_part 8 134 0 0 [.ref (ad 0), .int x1, .int x2, .ref (ad 57)] I L R (some (.int 0), I, uL L 57 0 (r).toInt64, R) := by
  refine CnH.ofV hAd hX [(0, .ref (ad 0)), (1, .int x1), (2, .int x2), (3, .ref (ad 57))] rfl (Nat.le_of_ble_eq_true rfl) (by decide) ?_
  intro G el eD ecA ead ebs eX erm eNL htab C0
  subst el eD ecA ead ebs eX
  refine V_aload_n C0 3 rfl rfl dL_part_0 ?_
  refine V_iconst C0 (v := (0 : Int32)) (by decide) dL_part_1 ?_
  refine V_aload_n C0 0 rfl rfl dL_part_2 ?_
  refine V_iload_n C0 1 rfl rfl dL_part_3 ?_
  refine V_iload_n C0 2 rfl rfl dL_part_4 ?_
  refine V_callT C0 (st := [.int 0, .ref (G.ad 57)]) (As := [.int x1, .int x2]) 10 (c_X11_part G.l G.D G.cA G.ad G.bs G.X C0.2.2.2.2.2.2.2.2.2.1 C0.2.2.2.2.2.2.2.2.2.2.2.2 hl hc hs 0 x1 x2 I L R _ h) rfl lc_X11_part lt_L_27 (by decide) (by decide) ⟨_, rfl, rfl⟩ rfl (by rw [erm]; exact ⟨by decide, by decide⟩) (Nat.le_of_ble_eq_true rfl) dL_part_5 ?_
  show V G _ 8 [(0, .ref (G.ad 0)), (1, .int x1), (2, .int x2), (3, .ref (G.ad 57))] [.int (r), .int 0, .ref (G.ad 57)] I L R
  refine V_i2l C0 dL_part_8 (V_last C0 (by decide) (by decide) in57 dL_part_9 (V_goto C0 (tgt := 21) (by decide) dL_part_10 (V_iconst C0 (v := (0 : Int32)) (by decide) dL_part_21 ?_)))
  exact V_iret C0 dL_part_22
set_option maxRecDepth 100000 in
theorem h_part_1 (l : Launch) (D : va_G) (cA : Nat → ClassId) (ad : Nat → Nat) (bs : Nat) (X : State → Prop) (hAd : Ax ad bs) (hX : Stb bs X) (hl : l.stackTraces = false) (hc : Ssc bs X) (hse : Sse X) (hs : Ssx ad bs X) (x1 : Int32) (x2 : Int32) (I : MI) (L : ML) (R : MR) (h : F_X11_part 0 x1 x2 I L R = some (.inl "java/lang/IndexOutOfBoundsException")) : CnH l D cA ad bs X yL_part cL_part 5 hh_part 8 134 1 6 [.ref (ad 0), .int x1, .int x2, .ref (ad 57)] I L R (some (.int 1), I, L, R) := by
  refine CnH.ofV hAd hX [(0, .ref (ad 0)), (1, .int x1), (2, .int x2), (3, .ref (ad 57))] rfl (Nat.le_of_ble_eq_true rfl) (by decide) ?_
  intro G el eD ecA ead ebs eX erm eNL htab C0
  subst el eD ecA ead ebs eX
  refine V_aload_n C0 3 rfl rfl dL_part_0 ?_
  refine V_iconst C0 (v := (0 : Int32)) (by decide) dL_part_1 ?_
  refine V_aload_n C0 0 rfl rfl dL_part_2 ?_
  refine V_iload_n C0 1 rfl rfl dL_part_3 ?_
  refine V_iload_n C0 2 rfl rfl dL_part_4 ?_
  refine V_callC C0 (st := [.int 0, .ref (G.ad 57)]) (As := [.int x1, .int x2]) 10 (c_X11_part G.l G.D G.cA G.ad G.bs G.X C0.2.2.2.2.2.2.2.2.2.1 C0.2.2.2.2.2.2.2.2.2.2.2.2 hl hc hs 0 x1 x2 I L R _ h) rfl lc_X11_part lt_L_27 (by decide) (by decide) ⟨_, rfl, rfl⟩ rfl (by rw [erm]; exact ⟨by decide, by decide⟩) (by rw [erm]; exact ⟨Nat.le_refl 1, Nat.le_refl 6⟩) (Nat.le_of_ble_eq_true rfl) dL_part_5 [] ⟨0, 10, 13, 31⟩ [⟨0, 10, 17, 33⟩] htab (fun e9 he9 => nomatch he9) (by decide) (by decide) kl_L_31 ((hc _ C0.2.2.2.2.2.2.2.2.2.2.2.1).1 _ kx_31) (fun q => ?_)
  exact VH_tail5 C0 (by rw [eNL]; decide) (by decide) dL_part_13 dL_part_15 dL_part_16
set_option maxRecDepth 100000 in
theorem h_part_2 (l : Launch) (D : va_G) (cA : Nat → ClassId) (ad : Nat → Nat) (bs : Nat) (X : State → Prop) (hAd : Ax ad bs) (hX : Stb bs X) (hl : l.stackTraces = false) (hc : Ssc bs X) (hse : Sse X) (hs : Ssx ad bs X) (x1 : Int32) (x2 : Int32) (I : MI) (L : ML) (R : MR) (h : F_X11_part 0 x1 x2 I L R = some (.inl "java/util/NoSuchElementException")) : CnH l D cA ad bs X yL_part cL_part 5 hh_part 8 134 1 6 [.ref (ad 0), .int x1, .int x2, .ref (ad 57)] I L R (some (.int 2), I, L, R) := by
  refine CnH.ofV hAd hX [(0, .ref (ad 0)), (1, .int x1), (2, .int x2), (3, .ref (ad 57))] rfl (Nat.le_of_ble_eq_true rfl) (by decide) ?_
  intro G el eD ecA ead ebs eX erm eNL htab C0
  subst el eD ecA ead ebs eX
  refine V_aload_n C0 3 rfl rfl dL_part_0 ?_
  refine V_iconst C0 (v := (0 : Int32)) (by decide) dL_part_1 ?_
  refine V_aload_n C0 0 rfl rfl dL_part_2 ?_
  refine V_iload_n C0 1 rfl rfl dL_part_3 ?_
  refine V_iload_n C0 2 rfl rfl dL_part_4 ?_
  refine V_callC C0 (st := [.int 0, .ref (G.ad 57)]) (As := [.int x1, .int x2]) 10 (c_X11_part G.l G.D G.cA G.ad G.bs G.X C0.2.2.2.2.2.2.2.2.2.1 C0.2.2.2.2.2.2.2.2.2.2.2.2 hl hc hs 0 x1 x2 I L R _ h) rfl lc_X11_part lt_L_27 (by decide) (by decide) ⟨_, rfl, rfl⟩ rfl (by rw [erm]; exact ⟨by decide, by decide⟩) (by rw [erm]; exact ⟨Nat.le_refl 1, Nat.le_refl 6⟩) (Nat.le_of_ble_eq_true rfl) dL_part_5 [⟨0, 10, 13, 31⟩] ⟨0, 10, 17, 33⟩ [] htab (fun e9 he9 => by rw [List.mem_singleton.mp he9]; exact ⟨by decide, by decide, _, kl_L_31, (hse _ C0.2.2.2.2.2.2.2.2.2.2.2.1).2.1⟩) (by decide) (by decide) kl_L_33 ((hc _ C0.2.2.2.2.2.2.2.2.2.2.2.1).1 _ kx_33) (fun q => ?_)
  exact VH_tail5 C0 (by rw [eNL]; decide) (by decide) dL_part_17 dL_part_19 dL_part_20
set_option maxRecDepth 100000 in
theorem h_ask_0 (l : Launch) (D : va_G) (cA : Nat → ClassId) (ad : Nat → Nat) (bs : Nat) (X : State → Prop) (hAd : Ax ad bs) (hX : Stb bs X) (hl : l.stackTraces = false) (hc : Ssc bs X) (hse : Sse X) (N : Nat) (x1 : Int32) (x2 : Int32) (I : MI) (L : ML) (R : MR) (r : Int32) (h : F_X11_ask N 0 x1 x2 I L R = some (.inr r)) : CnH l D cA ad bs X yL_ask cL_ask 5 hh_ask 8 134 0 0 [.ref (ad 0), .int x1, .int x2, .ref (ad 57)] I L R (some (.int 0), I, uL L 57 0 (r).toInt64, R) := by
  refine CnH.ofV hAd hX [(0, .ref (ad 0)), (1, .int x1), (2, .int x2), (3, .ref (ad 57))] rfl (Nat.le_of_ble_eq_true rfl) (by decide) ?_
  intro G el eD ecA ead ebs eX erm eNL htab C0
  subst el eD ecA ead ebs eX
  refine V_aload_n C0 3 rfl rfl dL_ask_0 ?_
  refine V_iconst C0 (v := (0 : Int32)) (by decide) dL_ask_1 ?_
  refine V_aload_n C0 0 rfl rfl dL_ask_2 ?_
  refine V_iload_n C0 1 rfl rfl dL_ask_3 ?_
  refine V_iload_n C0 2 rfl rfl dL_ask_4 ?_
  refine V_callT C0 (st := [.int 0, .ref (G.ad 57)]) (As := [.int x1, .int x2]) 10 (c_X11_ask G.l G.D G.cA G.ad G.bs G.X C0.2.2.2.2.2.2.2.2.2.1 C0.2.2.2.2.2.2.2.2.2.2.2.2 hl hc N 0 x1 x2 I L R _ h) rfl lc_X11_ask lt_L_35 (by decide) (by decide) ⟨_, rfl, rfl⟩ rfl (by rw [erm]; exact ⟨by decide, by decide⟩) (Nat.le_of_ble_eq_true rfl) dL_ask_5 ?_
  show V G _ 8 [(0, .ref (G.ad 0)), (1, .int x1), (2, .int x2), (3, .ref (G.ad 57))] [.int (r), .int 0, .ref (G.ad 57)] I L R
  refine V_i2l C0 dL_ask_8 (V_last C0 (by decide) (by decide) in57 dL_ask_9 (V_goto C0 (tgt := 21) (by decide) dL_ask_10 (V_iconst C0 (v := (0 : Int32)) (by decide) dL_ask_21 ?_)))
  exact V_iret C0 dL_ask_22
set_option maxRecDepth 100000 in
theorem h_ask_1 (l : Launch) (D : va_G) (cA : Nat → ClassId) (ad : Nat → Nat) (bs : Nat) (X : State → Prop) (hAd : Ax ad bs) (hX : Stb bs X) (hl : l.stackTraces = false) (hc : Ssc bs X) (hse : Sse X) (N : Nat) (x1 : Int32) (x2 : Int32) (I : MI) (L : ML) (R : MR) (h : F_X11_ask N 0 x1 x2 I L R = some (.inl "java/lang/IndexOutOfBoundsException")) : CnH l D cA ad bs X yL_ask cL_ask 5 hh_ask 8 134 1 6 [.ref (ad 0), .int x1, .int x2, .ref (ad 57)] I L R (some (.int 1), I, L, R) := by
  refine CnH.ofV hAd hX [(0, .ref (ad 0)), (1, .int x1), (2, .int x2), (3, .ref (ad 57))] rfl (Nat.le_of_ble_eq_true rfl) (by decide) ?_
  intro G el eD ecA ead ebs eX erm eNL htab C0
  subst el eD ecA ead ebs eX
  refine V_aload_n C0 3 rfl rfl dL_ask_0 ?_
  refine V_iconst C0 (v := (0 : Int32)) (by decide) dL_ask_1 ?_
  refine V_aload_n C0 0 rfl rfl dL_ask_2 ?_
  refine V_iload_n C0 1 rfl rfl dL_ask_3 ?_
  refine V_iload_n C0 2 rfl rfl dL_ask_4 ?_
  refine V_callC C0 (st := [.int 0, .ref (G.ad 57)]) (As := [.int x1, .int x2]) 10 (c_X11_ask G.l G.D G.cA G.ad G.bs G.X C0.2.2.2.2.2.2.2.2.2.1 C0.2.2.2.2.2.2.2.2.2.2.2.2 hl hc N 0 x1 x2 I L R _ h) rfl lc_X11_ask lt_L_35 (by decide) (by decide) ⟨_, rfl, rfl⟩ rfl (by rw [erm]; exact ⟨by decide, by decide⟩) (by rw [erm]; exact ⟨Nat.le_refl 1, Nat.le_refl 6⟩) (Nat.le_of_ble_eq_true rfl) dL_ask_5 [] ⟨0, 10, 13, 31⟩ [⟨0, 10, 17, 33⟩] htab (fun e9 he9 => nomatch he9) (by decide) (by decide) kl_L_31 ((hc _ C0.2.2.2.2.2.2.2.2.2.2.2.1).1 _ kx_31) (fun q => ?_)
  exact VH_tail5 C0 (by rw [eNL]; decide) (by decide) dL_ask_13 dL_ask_15 dL_ask_16
set_option maxRecDepth 100000 in
theorem h_ask_2 (l : Launch) (D : va_G) (cA : Nat → ClassId) (ad : Nat → Nat) (bs : Nat) (X : State → Prop) (hAd : Ax ad bs) (hX : Stb bs X) (hl : l.stackTraces = false) (hc : Ssc bs X) (hse : Sse X) (N : Nat) (x1 : Int32) (x2 : Int32) (I : MI) (L : ML) (R : MR) (h : F_X11_ask N 0 x1 x2 I L R = some (.inl "java/util/NoSuchElementException")) : CnH l D cA ad bs X yL_ask cL_ask 5 hh_ask 8 134 1 6 [.ref (ad 0), .int x1, .int x2, .ref (ad 57)] I L R (some (.int 2), I, L, R) := by
  refine CnH.ofV hAd hX [(0, .ref (ad 0)), (1, .int x1), (2, .int x2), (3, .ref (ad 57))] rfl (Nat.le_of_ble_eq_true rfl) (by decide) ?_
  intro G el eD ecA ead ebs eX erm eNL htab C0
  subst el eD ecA ead ebs eX
  refine V_aload_n C0 3 rfl rfl dL_ask_0 ?_
  refine V_iconst C0 (v := (0 : Int32)) (by decide) dL_ask_1 ?_
  refine V_aload_n C0 0 rfl rfl dL_ask_2 ?_
  refine V_iload_n C0 1 rfl rfl dL_ask_3 ?_
  refine V_iload_n C0 2 rfl rfl dL_ask_4 ?_
  refine V_callC C0 (st := [.int 0, .ref (G.ad 57)]) (As := [.int x1, .int x2]) 10 (c_X11_ask G.l G.D G.cA G.ad G.bs G.X C0.2.2.2.2.2.2.2.2.2.1 C0.2.2.2.2.2.2.2.2.2.2.2.2 hl hc N 0 x1 x2 I L R _ h) rfl lc_X11_ask lt_L_35 (by decide) (by decide) ⟨_, rfl, rfl⟩ rfl (by rw [erm]; exact ⟨by decide, by decide⟩) (by rw [erm]; exact ⟨Nat.le_refl 1, Nat.le_refl 6⟩) (Nat.le_of_ble_eq_true rfl) dL_ask_5 [⟨0, 10, 13, 31⟩] ⟨0, 10, 17, 33⟩ [] htab (fun e9 he9 => by rw [List.mem_singleton.mp he9]; exact ⟨by decide, by decide, _, kl_L_31, (hse _ C0.2.2.2.2.2.2.2.2.2.2.2.1).2.1⟩) (by decide) (by decide) kl_L_33 ((hc _ C0.2.2.2.2.2.2.2.2.2.2.2.1).1 _ kx_33) (fun q => ?_)
  exact VH_tail5 C0 (by rw [eNL]; decide) (by decide) dL_ask_17 dL_ask_19 dL_ask_20
set_option maxRecDepth 100000 in
theorem h_note_0 (l : Launch) (D : va_G) (cA : Nat → ClassId) (ad : Nat → Nat) (bs : Nat) (X : State → Prop) (hAd : Ax ad bs) (hX : Stb bs X) (hl : l.stackTraces = false) (hc : Ssc bs X) (hse : Sse X) (x1 : Int32) (x2 : Int32) (I : MI) (L : ML) (R : MR) (r : Int32) (h : F_X11_note 0 x1 x2 I L R = some (.inr r)) : CnH l D cA ad bs X yL_note cL_note 5 hh_note 7 112 0 0 [.ref (ad 0), .int x1, .int x2, .ref (ad 57)] I L R (some (.int 0), I, uL L 57 0 (r).toInt64, R) := by
  refine CnH.ofV hAd hX [(0, .ref (ad 0)), (1, .int x1), (2, .int x2), (3, .ref (ad 57))] rfl (Nat.le_of_ble_eq_true rfl) (by decide) ?_
  intro G el eD ecA ead ebs eX erm eNL htab C0
  subst el eD ecA ead ebs eX
  refine V_aload_n C0 3 rfl rfl dL_note_0 ?_
  refine V_iconst C0 (v := (0 : Int32)) (by decide) dL_note_1 ?_
  refine V_aload_n C0 0 rfl rfl dL_note_2 ?_
  refine V_iload_n C0 1 rfl rfl dL_note_3 ?_
  refine V_iload_n C0 2 rfl rfl dL_note_4 ?_
  refine V_callT C0 (st := [.int 0, .ref (G.ad 57)]) (As := [.int x1, .int x2]) 10 (c_X11_note G.l G.D G.cA G.ad G.bs G.X C0.2.2.2.2.2.2.2.2.2.1 C0.2.2.2.2.2.2.2.2.2.2.2.2 hl hc 0 x1 x2 I L R _ h) rfl lc_X11_note lt_L_38 (by decide) (by decide) ⟨_, rfl, rfl⟩ rfl (by rw [erm]; exact ⟨by decide, by decide⟩) (Nat.le_of_ble_eq_true rfl) dL_note_5 ?_
  show V G _ 8 [(0, .ref (G.ad 0)), (1, .int x1), (2, .int x2), (3, .ref (G.ad 57))] [.int (r), .int 0, .ref (G.ad 57)] I L R
  refine V_i2l C0 dL_note_8 (V_last C0 (by decide) (by decide) in57 dL_note_9 (V_goto C0 (tgt := 17) (by decide) dL_note_10 (V_iconst C0 (v := (0 : Int32)) (by decide) dL_note_17 ?_)))
  exact V_iret C0 dL_note_18
set_option maxRecDepth 100000 in
theorem h_note_1 (l : Launch) (D : va_G) (cA : Nat → ClassId) (ad : Nat → Nat) (bs : Nat) (X : State → Prop) (hAd : Ax ad bs) (hX : Stb bs X) (hl : l.stackTraces = false) (hc : Ssc bs X) (hse : Sse X) (x1 : Int32) (x2 : Int32) (I : MI) (L : ML) (R : MR) (h : F_X11_note 0 x1 x2 I L R = some (.inl "java/util/NoSuchElementException")) : CnH l D cA ad bs X yL_note cL_note 5 hh_note 7 112 1 6 [.ref (ad 0), .int x1, .int x2, .ref (ad 57)] I L R (some (.int 1), I, L, R) := by
  refine CnH.ofV hAd hX [(0, .ref (ad 0)), (1, .int x1), (2, .int x2), (3, .ref (ad 57))] rfl (Nat.le_of_ble_eq_true rfl) (by decide) ?_
  intro G el eD ecA ead ebs eX erm eNL htab C0
  subst el eD ecA ead ebs eX
  refine V_aload_n C0 3 rfl rfl dL_note_0 ?_
  refine V_iconst C0 (v := (0 : Int32)) (by decide) dL_note_1 ?_
  refine V_aload_n C0 0 rfl rfl dL_note_2 ?_
  refine V_iload_n C0 1 rfl rfl dL_note_3 ?_
  refine V_iload_n C0 2 rfl rfl dL_note_4 ?_
  refine V_callC C0 (st := [.int 0, .ref (G.ad 57)]) (As := [.int x1, .int x2]) 10 (c_X11_note G.l G.D G.cA G.ad G.bs G.X C0.2.2.2.2.2.2.2.2.2.1 C0.2.2.2.2.2.2.2.2.2.2.2.2 hl hc 0 x1 x2 I L R _ h) rfl lc_X11_note lt_L_38 (by decide) (by decide) ⟨_, rfl, rfl⟩ rfl (by rw [erm]; exact ⟨by decide, by decide⟩) (by rw [erm]; exact ⟨Nat.le_refl 1, Nat.le_refl 6⟩) (Nat.le_of_ble_eq_true rfl) dL_note_5 [] ⟨0, 10, 13, 33⟩ [] htab (fun e9 he9 => nomatch he9) (by decide) (by decide) kl_L_33 ((hc _ C0.2.2.2.2.2.2.2.2.2.2.2.1).1 _ kx_33) (fun q => ?_)
  exact VH_tail5 C0 (by rw [eNL]; decide) (by decide) dL_note_13 dL_note_15 dL_note_16
set_option maxRecDepth 100000 in
theorem h_name_0 (l : Launch) (D : va_G) (cA : Nat → ClassId) (ad : Nat → Nat) (bs : Nat) (X : State → Prop) (hAd : Ax ad bs) (hX : Stb bs X) (hl : l.stackTraces = false) (hc : Ssc bs X) (hse : Sse X) (x1 : Int32) (x2 : Int32) (I : MI) (L : ML) (R : MR) (r : Int32) (h : F_X11_name 0 x1 x2 I L R = some (.inr r)) : CnH l D cA ad bs X yL_name cL_name 5 hh_name 8 134 0 0 [.ref (ad 0), .int x1, .int x2, .ref (ad 57)] I L R (some (.int 0), I, uL L 57 0 (r).toInt64, R) := by
  refine CnH.ofV hAd hX [(0, .ref (ad 0)), (1, .int x1), (2, .int x2), (3, .ref (ad 57))] rfl (Nat.le_of_ble_eq_true rfl) (by decide) ?_
  intro G el eD ecA ead ebs eX erm eNL htab C0
  subst el eD ecA ead ebs eX
  refine V_aload_n C0 3 rfl rfl dL_name_0 ?_
  refine V_iconst C0 (v := (0 : Int32)) (by decide) dL_name_1 ?_
  refine V_aload_n C0 0 rfl rfl dL_name_2 ?_
  refine V_iload_n C0 1 rfl rfl dL_name_3 ?_
  refine V_iload_n C0 2 rfl rfl dL_name_4 ?_
  refine V_callT C0 (st := [.int 0, .ref (G.ad 57)]) (As := [.int x1, .int x2]) 10 (c_X11_name G.l G.D G.cA G.ad G.bs G.X C0.2.2.2.2.2.2.2.2.2.1 C0.2.2.2.2.2.2.2.2.2.2.2.2 hl hc 0 x1 x2 I L R _ h) rfl lc_X11_name lt_L_41 (by decide) (by decide) ⟨_, rfl, rfl⟩ rfl (by rw [erm]; exact ⟨by decide, by decide⟩) (Nat.le_of_ble_eq_true rfl) dL_name_5 ?_
  show V G _ 8 [(0, .ref (G.ad 0)), (1, .int x1), (2, .int x2), (3, .ref (G.ad 57))] [.int (r), .int 0, .ref (G.ad 57)] I L R
  refine V_i2l C0 dL_name_8 (V_last C0 (by decide) (by decide) in57 dL_name_9 (V_goto C0 (tgt := 17) (by decide) dL_name_10 (V_iconst C0 (v := (0 : Int32)) (by decide) dL_name_17 ?_)))
  exact V_iret C0 dL_name_18
set_option maxRecDepth 100000 in
theorem h_name_1 (l : Launch) (D : va_G) (cA : Nat → ClassId) (ad : Nat → Nat) (bs : Nat) (X : State → Prop) (hAd : Ax ad bs) (hX : Stb bs X) (hl : l.stackTraces = false) (hc : Ssc bs X) (hse : Sse X) (x1 : Int32) (x2 : Int32) (I : MI) (L : ML) (R : MR) (h : F_X11_name 0 x1 x2 I L R = some (.inl "java/lang/IndexOutOfBoundsException")) : CnH l D cA ad bs X yL_name cL_name 5 hh_name 8 134 1 6 [.ref (ad 0), .int x1, .int x2, .ref (ad 57)] I L R (some (.int 1), I, L, R) := by
  refine CnH.ofV hAd hX [(0, .ref (ad 0)), (1, .int x1), (2, .int x2), (3, .ref (ad 57))] rfl (Nat.le_of_ble_eq_true rfl) (by decide) ?_
  intro G el eD ecA ead ebs eX erm eNL htab C0
  subst el eD ecA ead ebs eX
  refine V_aload_n C0 3 rfl rfl dL_name_0 ?_
  refine V_iconst C0 (v := (0 : Int32)) (by decide) dL_name_1 ?_
  refine V_aload_n C0 0 rfl rfl dL_name_2 ?_
  refine V_iload_n C0 1 rfl rfl dL_name_3 ?_
  refine V_iload_n C0 2 rfl rfl dL_name_4 ?_
  refine V_callC C0 (st := [.int 0, .ref (G.ad 57)]) (As := [.int x1, .int x2]) 10 (c_X11_name G.l G.D G.cA G.ad G.bs G.X C0.2.2.2.2.2.2.2.2.2.1 C0.2.2.2.2.2.2.2.2.2.2.2.2 hl hc 0 x1 x2 I L R _ h) rfl lc_X11_name lt_L_41 (by decide) (by decide) ⟨_, rfl, rfl⟩ rfl (by rw [erm]; exact ⟨by decide, by decide⟩) (by rw [erm]; exact ⟨Nat.le_refl 1, Nat.le_refl 6⟩) (Nat.le_of_ble_eq_true rfl) dL_name_5 [] ⟨0, 10, 13, 31⟩ [] htab (fun e9 he9 => nomatch he9) (by decide) (by decide) kl_L_31 ((hc _ C0.2.2.2.2.2.2.2.2.2.2.2.1).1 _ kx_31) (fun q => ?_)
  exact VH_tail5 C0 (by rw [eNL]; decide) (by decide) dL_name_13 dL_name_15 dL_name_16
set_option maxRecDepth 100000 in
theorem h_kept_0 (l : Launch) (D : va_G) (cA : Nat → ClassId) (ad : Nat → Nat) (bs : Nat) (X : State → Prop) (hAd : Ax ad bs) (hX : Stb bs X) (hl : l.stackTraces = false) (hc : Ssc bs X) (hse : Sse X) (x1 : Int32) (x2 : Int32) (I : MI) (L : ML) (R : MR) (r : Int32) (h : F_X11_kept 0 x1 x2 I L R = some (.inr r)) : CnH l D cA ad bs X yL_kept cL_kept 5 hh_kept 8 134 0 0 [.ref (ad 0), .int x1, .int x2, .ref (ad 57)] I L R (some (.int 0), I, uL L 57 0 (r).toInt64, R) := by
  refine CnH.ofV hAd hX [(0, .ref (ad 0)), (1, .int x1), (2, .int x2), (3, .ref (ad 57))] rfl (Nat.le_of_ble_eq_true rfl) (by decide) ?_
  intro G el eD ecA ead ebs eX erm eNL htab C0
  subst el eD ecA ead ebs eX
  refine V_aload_n C0 3 rfl rfl dL_kept_0 ?_
  refine V_iconst C0 (v := (0 : Int32)) (by decide) dL_kept_1 ?_
  refine V_aload_n C0 0 rfl rfl dL_kept_2 ?_
  refine V_iload_n C0 1 rfl rfl dL_kept_3 ?_
  refine V_iload_n C0 2 rfl rfl dL_kept_4 ?_
  refine V_callT C0 (st := [.int 0, .ref (G.ad 57)]) (As := [.int x1, .int x2]) 10 (c_X11_kept G.l G.D G.cA G.ad G.bs G.X C0.2.2.2.2.2.2.2.2.2.1 C0.2.2.2.2.2.2.2.2.2.2.2.2 hl hc 0 x1 x2 I L R _ h) rfl lc_X11_kept lt_L_44 (by decide) (by decide) ⟨_, rfl, rfl⟩ rfl (by rw [erm]; exact ⟨by decide, by decide⟩) (Nat.le_of_ble_eq_true rfl) dL_kept_5 ?_
  show V G _ 8 [(0, .ref (G.ad 0)), (1, .int x1), (2, .int x2), (3, .ref (G.ad 57))] [.int (r), .int 0, .ref (G.ad 57)] I L R
  refine V_i2l C0 dL_kept_8 (V_last C0 (by decide) (by decide) in57 dL_kept_9 (V_goto C0 (tgt := 21) (by decide) dL_kept_10 (V_iconst C0 (v := (0 : Int32)) (by decide) dL_kept_21 ?_)))
  exact V_iret C0 dL_kept_22
set_option maxRecDepth 100000 in
theorem h_kept_1 (l : Launch) (D : va_G) (cA : Nat → ClassId) (ad : Nat → Nat) (bs : Nat) (X : State → Prop) (hAd : Ax ad bs) (hX : Stb bs X) (hl : l.stackTraces = false) (hc : Ssc bs X) (hse : Sse X) (x1 : Int32) (x2 : Int32) (I : MI) (L : ML) (R : MR) (h : F_X11_kept 0 x1 x2 I L R = some (.inl "java/lang/IndexOutOfBoundsException")) : CnH l D cA ad bs X yL_kept cL_kept 5 hh_kept 8 134 1 6 [.ref (ad 0), .int x1, .int x2, .ref (ad 57)] I L R (some (.int 1), I, L, R) := by
  refine CnH.ofV hAd hX [(0, .ref (ad 0)), (1, .int x1), (2, .int x2), (3, .ref (ad 57))] rfl (Nat.le_of_ble_eq_true rfl) (by decide) ?_
  intro G el eD ecA ead ebs eX erm eNL htab C0
  subst el eD ecA ead ebs eX
  refine V_aload_n C0 3 rfl rfl dL_kept_0 ?_
  refine V_iconst C0 (v := (0 : Int32)) (by decide) dL_kept_1 ?_
  refine V_aload_n C0 0 rfl rfl dL_kept_2 ?_
  refine V_iload_n C0 1 rfl rfl dL_kept_3 ?_
  refine V_iload_n C0 2 rfl rfl dL_kept_4 ?_
  refine V_callC C0 (st := [.int 0, .ref (G.ad 57)]) (As := [.int x1, .int x2]) 10 (c_X11_kept G.l G.D G.cA G.ad G.bs G.X C0.2.2.2.2.2.2.2.2.2.1 C0.2.2.2.2.2.2.2.2.2.2.2.2 hl hc 0 x1 x2 I L R _ h) rfl lc_X11_kept lt_L_44 (by decide) (by decide) ⟨_, rfl, rfl⟩ rfl (by rw [erm]; exact ⟨by decide, by decide⟩) (by rw [erm]; exact ⟨Nat.le_refl 1, Nat.le_refl 6⟩) (Nat.le_of_ble_eq_true rfl) dL_kept_5 [] ⟨0, 10, 13, 31⟩ [⟨0, 10, 17, 13⟩] htab (fun e9 he9 => nomatch he9) (by decide) (by decide) kl_L_31 ((hc _ C0.2.2.2.2.2.2.2.2.2.2.2.1).1 _ kx_31) (fun q => ?_)
  exact VH_tail5 C0 (by rw [eNL]; decide) (by decide) dL_kept_13 dL_kept_15 dL_kept_16
set_option maxRecDepth 100000 in
theorem h_kept_2 (l : Launch) (D : va_G) (cA : Nat → ClassId) (ad : Nat → Nat) (bs : Nat) (X : State → Prop) (hAd : Ax ad bs) (hX : Stb bs X) (hl : l.stackTraces = false) (hc : Ssc bs X) (hse : Sse X) (x1 : Int32) (x2 : Int32) (I : MI) (L : ML) (R : MR) (h : F_X11_kept 0 x1 x2 I L R = some (.inl "java/lang/IllegalArgumentException")) : CnH l D cA ad bs X yL_kept cL_kept 5 hh_kept 8 134 1 6 [.ref (ad 0), .int x1, .int x2, .ref (ad 57)] I L R (some (.int 2), I, L, R) := by
  refine CnH.ofV hAd hX [(0, .ref (ad 0)), (1, .int x1), (2, .int x2), (3, .ref (ad 57))] rfl (Nat.le_of_ble_eq_true rfl) (by decide) ?_
  intro G el eD ecA ead ebs eX erm eNL htab C0
  subst el eD ecA ead ebs eX
  refine V_aload_n C0 3 rfl rfl dL_kept_0 ?_
  refine V_iconst C0 (v := (0 : Int32)) (by decide) dL_kept_1 ?_
  refine V_aload_n C0 0 rfl rfl dL_kept_2 ?_
  refine V_iload_n C0 1 rfl rfl dL_kept_3 ?_
  refine V_iload_n C0 2 rfl rfl dL_kept_4 ?_
  refine V_callC C0 (st := [.int 0, .ref (G.ad 57)]) (As := [.int x1, .int x2]) 10 (c_X11_kept G.l G.D G.cA G.ad G.bs G.X C0.2.2.2.2.2.2.2.2.2.1 C0.2.2.2.2.2.2.2.2.2.2.2.2 hl hc 0 x1 x2 I L R _ h) rfl lc_X11_kept lt_L_44 (by decide) (by decide) ⟨_, rfl, rfl⟩ rfl (by rw [erm]; exact ⟨by decide, by decide⟩) (by rw [erm]; exact ⟨Nat.le_refl 1, Nat.le_refl 6⟩) (Nat.le_of_ble_eq_true rfl) dL_kept_5 [⟨0, 10, 13, 31⟩] ⟨0, 10, 17, 13⟩ [] htab (fun e9 he9 => by rw [List.mem_singleton.mp he9]; exact ⟨by decide, by decide, _, kl_L_31, (hse _ C0.2.2.2.2.2.2.2.2.2.2.2.1).2.2⟩) (by decide) (by decide) kl_L_13 ((hc _ C0.2.2.2.2.2.2.2.2.2.2.2.1).1 _ kx_13) (fun q => ?_)
  exact VH_tail5 C0 (by rw [eNL]; decide) (by decide) dL_kept_17 dL_kept_19 dL_kept_20
