/-! Catching what a callee threw. cx_go, cx_caught follow the library's proofs (Shelf42/NT86, NT97: a catching row whose class may be cold), which the rounds do not import. -/
def cxTo (e : Env) (s : State) (f : JFrame) (a : Addr) (h : Handler) (vm' : Vm) : Prop :=
  ∀ (Q : Handler → (Bool → List Action → State → Prop)) (E : CtlPost) (d : Bool) (acts : List Action), wp (findHandler f a) Q E e d acts s ↔ Q h d acts (s.setVm vm')
theorem cx_goYes {Q : Handler → (Bool → List Action → State → Prop)} {E : CtlPost} {e : Env} {d : Bool} {acts : List Action} {s : State} {f : JFrame} {a : Addr} {x : ExceptionTableEntry} {t : List ExceptionTableEntry} {c : ClassId} {cell : Cell} (hx : covers x f.pc = true) (h0 : x.catchType ≠ 0)
    (hl : s.vm.ClassLinks e.platform f.method.cls x.catchType c) (hcell : s.heap[a]? = some cell) (hobj : ∀ k, cell.vm ≠ .statics k)
    (hk : ∃ k, s.vm.classes[cell.cls]? = some k) (hc : ∃ k, s.vm.classes[c]? = some k) (hfit : s.vm.assignable cell.cls c = true) :
    wp (findHandler.go f a (x :: t)) Q E e d acts s ↔ Q (.found x.handlerPc) d acts (s.setVm (s.vm.noted f.method.cls x.catchType (.cls c))) := by
  simp only [covers] at hx
  obtain ⟨ha, ht⟩ := (resolveClass_links e.toSetting hl).op (op := VmOp.resolveClass f.method.cls x.catchType) rfl
  have hal : s.vm.Alike (s.vm.noted f.method.cls x.catchType (.cls c)) := (Vm.Alike.refl s.vm).noted _ _ _
  obtain ⟨k1, hk1⟩ := hk
  obtain ⟨k2, hk2⟩ := hc
  obtain ⟨k1', hk1', -⟩ := hal.2.2 _ _ hk1
  obtain ⟨k2', hk2', -⟩ := hal.2.2 _ _ hk2
  have hfit' : (s.vm.noted f.method.cls x.catchType (.cls c)).assignable cell.cls c = true := by rw [hal.assignable]; exact hfit
  simp [findHandler.go, hx, h0, ha, ht, hcell, hobj, hk1', hk2', hfit', VmOp.dirties, VmOp.acts]
theorem cx_goNo {Q : Handler → (Bool → List Action → State → Prop)} {E : CtlPost} {e : Env} {d : Bool} {acts : List Action} {s : State} {f : JFrame} {a : Addr} {x : ExceptionTableEntry} {t : List ExceptionTableEntry} {c : ClassId} {cell : Cell} (hx : covers x f.pc = true) (h0 : x.catchType ≠ 0)
    (hl : s.vm.ClassLinks e.platform f.method.cls x.catchType c) (hcell : s.heap[a]? = some cell) (hobj : ∀ k, cell.vm ≠ .statics k)
    (hk : ∃ k, s.vm.classes[cell.cls]? = some k) (hc : ∃ k, s.vm.classes[c]? = some k) (hno : s.vm.assignable cell.cls c = false) :
    wp (findHandler.go f a (x :: t)) Q E e d acts s ↔ wp (findHandler.go f a t) Q E e d acts (s.setVm (s.vm.noted f.method.cls x.catchType (.cls c))) := by
  simp only [covers] at hx
  obtain ⟨ha, ht⟩ := (resolveClass_links e.toSetting hl).op (op := VmOp.resolveClass f.method.cls x.catchType) rfl
  have hal : s.vm.Alike (s.vm.noted f.method.cls x.catchType (.cls c)) := (Vm.Alike.refl s.vm).noted _ _ _
  obtain ⟨k1, hk1⟩ := hk
  obtain ⟨k2, hk2⟩ := hc
  obtain ⟨k1', hk1', -⟩ := hal.2.2 _ _ hk1
  obtain ⟨k2', hk2', -⟩ := hal.2.2 _ _ hk2
  have hno' : (s.vm.noted f.method.cls x.catchType (.cls c)).assignable cell.cls c = false := by rw [hal.assignable]; exact hno
  simp [findHandler.go, hx, h0, ha, ht, hcell, hobj, hk1', hk2', hno', VmOp.dirties, VmOp.acts]
/-- a row of the table that links to a class, and whether the thrown one is of it -/
def cxRow (pl : Platform) (s₀ : State) (d thrown : ClassId) (b : Bool) (y : ExceptionTableEntry) : Prop := y.catchType ≠ 0 ∧ ∃ c, s₀.vm.ClassLinks pl d y.catchType c ∧ s₀.vm.assignable thrown c = b
theorem cx_go {e : Env} {s₀ : State} {f : JFrame} {a : Addr} {cell : Cell} (hobj : ∀ k, cell.vm ≠ .statics k) (hk0 : ∃ k, s₀.vm.classes[cell.cls]? = some k)
    (x : ExceptionTableEntry) (rest : List ExceptionTableEntry) (hx : covers x f.pc = true) (hend : cxRow e.platform s₀ f.method.cls cell.cls true x) :
    ∀ (pre : List ExceptionTableEntry) (S : State), s₀.WarmedH S.vm → S.heap[a]? = some cell → (∀ y ∈ pre, covers y f.pc = true ∧ cxRow e.platform s₀ f.method.cls cell.cls false y) →
      ∃ vm', s₀.WarmedH vm' ∧ ∀ (Q : Handler → (Bool → List Action → State → Prop)) (E : CtlPost) (d : Bool) (acts : List Action), wp (findHandler.go f a (pre ++ x :: rest)) Q E e d acts S ↔ Q (.found x.handlerPc) d acts (S.setVm vm') := by
  obtain ⟨k0, hk0⟩ := hk0
  intro pre
  induction pre with
  | nil =>
    intro S hW hcell _
    obtain ⟨k0', hk0', -⟩ := hW.alike.2.2 _ _ hk0
    obtain ⟨h0, c, hl, hfit⟩ := hend
    obtain ⟨dk, _, _, kt, hd, _, _, _, _, hkt, _, hopen⟩ := hl.here
    obtain ⟨kt', hkt', -⟩ := hW.alike.2.2 _ _ hkt
    exact ⟨_, hW.noted hd hopen (State.rightAt_cls hl), fun Q E d acts => by
      rw [List.nil_append]
      exact cx_goYes hx h0 (hW.classLinks hl) hcell hobj ⟨k0', hk0'⟩ ⟨kt', hkt'⟩ (by rw [hW.alike.assignable]; exact hfit)⟩
  | cons y ys ih =>
    intro S hW hcell hpass
    obtain ⟨k0', hk0', -⟩ := hW.alike.2.2 _ _ hk0
    obtain ⟨hcov, h0, c, hl, hno⟩ := hpass y (List.mem_cons_self ..)
    obtain ⟨dk, _, _, kt, hd, _, _, _, _, hkt, _, hopen⟩ := hl.here
    obtain ⟨kt', hkt', -⟩ := hW.alike.2.2 _ _ hkt
    obtain ⟨vm', hW', hq⟩ := ih (S.setVm (S.vm.noted f.method.cls y.catchType (.cls c))) (hW.noted hd hopen (State.rightAt_cls hl)) hcell (fun z hz => hpass z (List.mem_cons_of_mem _ hz))
    exact ⟨vm', hW', fun Q E d acts => by
      rw [List.cons_append, cx_goNo hcov h0 (hW.classLinks hl) hcell hobj ⟨k0', hk0'⟩ ⟨kt', hkt'⟩ (by rw [hW.alike.assignable]; exact hno)]
      exact hq Q E d acts⟩
theorem cx_step {e : Env} {s : State} {a : Addr} {f : JFrame} {r : List Frame} {pc : Nat} {vm' : Vm} (hfind : cxTo e s f a (.found pc) vm') :
    (stepThrowing e s a (.java f :: r)).Is ((s.setVm vm').setFrames (.java { f with pc := pc, stack := [.ref a] } :: r)) [] := by
  simp only [stepThrowing, searchFrame, vmDo]
  generalize hr : Sem.go _ e false [] s = res
  obtain ⟨as, rfl, ha⟩ := Sem.eq_ok_of hr (a := Handler.found pc) (s' := s.setVm vm') (acts' := []) (by simp [hfind _ _ _ _])
  exact ⟨rfl, ha⟩
theorem cx_caught {tb : Tables} [Ours tb] {e : Env} {s target : State} {g : JFrame} {c : Code} {below : List Frame} {a : Addr} (h : At s g.method c below) {pc : Nat} {vm' : Vm}
    (hfind : cxTo e ((s.setTop g).pushFrame (.throwing a)) g a (.found pc) vm') (hrest : Steps tb e below ((s.setVm vm').setTop { g with pc := pc, stack := [.ref a] }) target) :
    Steps tb e below ((s.setTop g).pushFrame (.throwing a)) target := by
  obtain ⟨hgo, hw⟩ := h.throwing a
  refine Steps.head hgo hw ?_
  rw [stepThread_throwing (frames_entered h.top _), (cx_step (s := (s.setTop g).pushFrame (.throwing a)) hfind).1]
  obtain ⟨g₀, hg⟩ := Option.isSome_iff_exists.mp h.top
  obtain ⟨r, hr⟩ := State.topJava?_eq_some.mp hg
  have hr' : (s.setVm vm').frames = .java g₀ :: r := hr
  rw [State.setTop_of_frames _ hr'] at hrest
  have hh : ∀ (u : State) (F G9 : List Frame), ((u.setFrames F).setVm vm').setFrames G9 = (u.setVm vm').setFrames G9 := fun u F G9 => by
    have h1 : (u.setFrames F).setVm vm' = (u.setVm vm').setFrames F := rfl
    rw [h1, State.setFrames_setFrames]
  rw [hr, List.tail_cons, State.pushFrame, hh, State.setTop_of_frames _ hr, hh]
  exact hrest
/-- V with cells and slots that were used -/
def VH (G : Gm) (f : State → Prop) (c9 s9 pc : Nat) (lv : List (Nat × Value)) (st : List Value) (I : MI) (L : ML) (R : MR) : Prop :=
  ∀ (H : Heap) (locs : List Loc) (ls : Array Slot), va_P G.D vwCl (wl G.cA G.ad I L R) H → va_S (Ab G.bs) G.s.heap H locs → lv_has ls G.nL lv →
    W G.p G.l G.e G.rm G.s G.m G.args G.below G.meth G.c H locs c9 s9 f (F0 G.m pc ls st)
def noC (a b : String) (U : State) : Prop := ∀ ca cb : ClassId, U.vm.findClass a = some ca → U.vm.findClass b = some cb → U.vm.assignable ca cb = false
theorem noC.moved {a b : String} {u U : State} (hvm : u.vm.Alike U.vm) (h : noC a b u) : noC a b U := fun ca cb h1 h2 => by
  rw [hvm.findClass] at h1 h2
  rw [hvm.assignable]
  exact h ca cb h1 h2
theorem noC.of {a b : String} {A : Array Value} {U : State} (h : (Cond.not (.castable a b)).before A U = true) : noC a b U := fun ca cb h1 h2 => by
  have hv := Cond.holds_not_iff.mp h
  simp only [Cond.value, h1, h2] at hv
  exact Option.some.inj hv
/-- a call that throws, and the table's row that catches it -/
theorem V_callC {G : Gm} {f : State → Prop} {own : String} {cc : ByteArray} {rt : Option FieldType} {pc : Nat} {lv : List (Nat × Value)} {st : List Value} {I : MI} {L : ML} {R : MR} (C0 : Cx G own cc rt) {index fr lo mL n o : Nat} {y : MethodName} {bytes : ByteArray} {ret : Option FieldType} {As : List Value} {z : Fz} {g : String × MI × ML × MR} (ci : Nat) (hM : CnT G.l G.D G.cA G.ad G.bs G.X y bytes mL ret fr lo (.ref (G.ad o) :: As) I L R z) (hz : z = .inr g) (hc : LkC y bytes mL ret n) (hl0 : Cond.methodLink own index y ∈ gW ∧ Cond.instanceMethod y ∈ gW ∧ Cond.selects y.cls y y ∈ gW) (ho : o < NN) (hk : kd o = ci) (hq : ∃ q : vw_C, vwCl[ci]? = some q ∧ q.1 = y.cls) (hn : As.length = n) (hR : fr + 1 ≤ G.rm.frames ∧ 8 + (mL + 11) + lo ≤ G.rm.locals) (hRc : 1 ≤ G.rm.cells ∧ 6 ≤ G.rm.slots) (hst : (st.map fun v => v.category).sum ≤ 8) (hd : decode cc pc = .ok (.invokevirtual index, 3))
    (pre : List ExceptionTableEntry) (x : ExceptionTableEntry) (rest : List ExceptionTableEntry) (hsplit : G.c.exceptionTable.toList = pre ++ x :: rest) (hpre : ∀ e9 ∈ pre, covers e9 pc = true ∧ e9.catchType ≠ 0 ∧ ∃ nm, Cond.classLink own e9.catchType nm ∈ gW ∧ noC g.1 nm G.s) (hx : covers x pc = true) (h0 : x.catchType ≠ 0) (hxl : Cond.classLink own x.catchType g.1 ∈ gW) (hca : va_Nw (.castable g.1 g.1) G.s)
    (k : ∀ q : Nat, VH G f 1 6 x.handlerPc lv [.ref q] g.2.1 g.2.2.1 g.2.2.2) : V G f pc lv (As.reverse ++ .ref (G.ad o) :: st) I L R := by
  subst hz
  intro H locs ls hP hS hl T hT X
  have hPat := Pv_at C0 (As := .ref (G.ad o) :: As) hP hS
  obtain ⟨hx9, hb, hml, hrt, hlk, hown, hts, hK, hN, hAd, hbs, hXs, hXb⟩ := C0
  obtain ⟨hcd, hini, hy⟩ := hc
  obtain ⟨h, hin, hse⟩ := hl0
  obtain ⟨q, hq1, hq2⟩ := hq
  have hrec : ∃ cellB : Cell, H[G.ad o]? = some cellB ∧ cellB.vm.isStatics = false ∧ G.s.vm.findClass y.cls = some cellB.cls := by
    rw [← hq2]
    exact va_recv hK hP hq1 (q0 := o) (by rw [wl_at ho, ce_obj hk (vwCl_lt hq1)])
  have hr := vx_runV (Ts := gW) (locs := locs) (cells := 0) (slots := 0) (below := G.below) (e := G.e) (meth := G.meth) (g := F0 G.m pc ls (As.reverse ++ .ref (G.ad o) :: st)) (rest := st) ⟨hx9, hb, hml, hown, hts⟩ hM ⟨callB_of (Ts := gW) n hts (gW_good hcd) rfl rfl rfl (hts _ hini) (hts _ h) hy hR, hts _ hin, hts _ hse⟩ ⟨Pv_blind hXb, hrec, hPat⟩ rfl hn hl.1 rfl (lv_room hst) hd ⟨by show 0 + 1 ≤ _; omega, by show 0 + 6 ≤ _; omega⟩
  rcases hr T hT X with ⟨v, st₀, t, T', L1, h0', X', hL, e1, e2, ⟨f1, hf1, -⟩, -⟩ | ⟨q9, st₀, t, T', L1, E, ce9, h0', X', hL, e1, e2, ⟨M, hM9, hP1, hz, hkk⟩, hc1, hc2, hc3, stp⟩
  · cases hf1
  · cases hM9
    rw [h0'] at hz hkk
    have hS1 : va_S (Ab G.bs) G.s.heap T'.heap (locs ++ L1) := ⟨Nat.le_trans hS.1 (by rw [e1]; exact hz), fun q h1 h2 => by rw [e1, hkk q (Nat.lt_of_lt_of_le h1 hS.1) h2]; exact hS.2.1 q h1 h2, fun q hq => by
        rcases List.mem_append.mp hq with h | h
        · exact hS.2.2 q h
        · exact hL q h⟩
    have hpl : G.e.platform.magicAccessors = ({} : Platform).magicAccessors := by rw [X'.admits.platform]
    have hfc : G.s.vm.findClass E = some ce9.cls := hc3
    obtain ⟨c3, c4, hc3', hc4', hasg⟩ := Cond.castable_spec (va_Nw.use (A := G.args) rfl hca)
    cases Option.some.inj (hc3'.symm.trans hfc)
    cases Option.some.inj (hc4'.symm.trans hfc)
    obtain ⟨c', hc', hcl⟩ := Cond.classLink_spec hown (hts _ hxl) G.e.platform hpl
    cases Option.some.inj (hc'.symm.trans hfc)
    obtain ⟨dk, _, _, kt, hd9, _, _, _, _, hkt, _, hopen⟩ := hcl.here
    have hobj : ∀ k9, ce9.vm ≠ .statics k9 := fun k9 h9 => by rw [hc2] at h9; cases h9
    obtain ⟨vm', hW', hgo⟩ := cx_go (e := G.e) (s₀ := G.s) (f := { F0 G.m pc ls (As.reverse ++ .ref (G.ad o) :: st) with stack := st }) (a := q9) (cell := ce9) hobj ⟨kt, hkt⟩ x rest hx ⟨h0, _, hcl, hasg⟩ pre ((T'.setTop { F0 G.m pc ls (As.reverse ++ .ref (G.ad o) :: st) with stack := st }).pushFrame (.throwing q9)) X'.warmed (by
        show T'.heap[q9]? = some ce9
        rw [e1]; exact hc1) (fun e9 he9 => by
        obtain ⟨g1, g2, nm, g3, g4⟩ := hpre e9 he9
        obtain ⟨cn, hcn, hln⟩ := Cond.classLink_spec hown (hts _ g3) G.e.platform hpl
        exact ⟨g1, g2, cn, hln, g4 _ _ hfc hcn⟩)
    have hfd : cxTo G.e ((T'.setTop { F0 G.m pc ls (As.reverse ++ .ref (G.ad o) :: st) with stack := st }).pushFrame (.throwing q9)) { F0 G.m pc ls (As.reverse ++ .ref (G.ad o) :: st) with stack := st } q9 (.found x.handlerPc) vm' := fun Q E d acts => by
      rw [W.findHandler_eq (meth := G.meth) (code := G.c) X'.method' X'.code, hsplit]
      exact hgo Q E d acts
    have XV := X'.noted hW'
    obtain ⟨t2, a1, b1⟩ := k q9 T'.heap (locs ++ L1) ls (by rw [e1]; exact hP1) hS1 hl (T'.setVm vm') rfl XV
    exact ⟨t2, stp.trans (cx_caught X'.here hfd a1), b1⟩
