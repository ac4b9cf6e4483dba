/-! 'throw new NoSuchElementException("text")': its constructor passes on by another index. Follows JvmDerived/BundleOwnThrow.lean (ctorThrowS) with another first link; says less of the cell. -/
def ns13 : ByteArray := ⟨#[0x2a, 0x2b, 0xb7, 0x00, 0x0d, 0xb1]⟩
theorem ns13_0 : decode ns13 0 = .ok (.aload_n 0, 1) := by decide +kernel
theorem ns13_1 : decode ns13 1 = .ok (.aload_n 1, 1) := by decide +kernel
theorem ns13_2 : decode ns13 2 = .ok (.invokespecial 13, 3) := by decide +kernel
theorem ns13_5 : decode ns13 5 = .ok (.return_, 1) := by decide +kernel
def nsEnd (own : String) (ic : Nat) (X : String) : List Cond := (Bundle.ownAtoms own ic X []).drop (Bundle.throwableAtoms ++ Bundle.throwableSAtoms ++ Bundle.chainSAtoms X []).length
def nsAtoms (own : String) (ic : Nat) (X Y : String) (names : List String) : List Cond :=
  Bundle.throwableAtoms ++ Bundle.throwableSAtoms ++ (Bundle.passSAtoms X Y 13 ns13 ++ Bundle.chainSAtoms Y names) ++ nsEnd own ic X
theorem nsEnd_eq (own : String) (ic : Nat) (X : String) : nsEnd own ic X =
  [.methodLink own ic (Bundle.initS X), .instantiable X 6, .castable X X, .selects X Bundle.tFill0 Bundle.tFill0, .selects X Bundle.tFill Bundle.tFill,
   .lays X Bundle.tN "cause" "Ljava/lang/Throwable;", .lays X Bundle.tN "stackTrace" Bundle.steD, .lays X Bundle.tN "suppressedExceptions" Bundle.listD, .lays X Bundle.tN "detailMessage" "Ljava/lang/String;",
   .isRef (.static Bundle.tN "UNASSIGNED_STACK" Bundle.steD), .isRef (.static Bundle.tN "SUPPRESSED_SENTINEL" Bundle.listD),
   .fieldLink Bundle.tN 198 Bundle.tN "backtrace" "Ljava/lang/Object;", .lays Bundle.tN Bundle.tN "backtrace" "Ljava/lang/Object;", .lays X Bundle.tN "backtrace" "Ljava/lang/Object;"] := by
  unfold nsEnd Bundle.ownAtoms
  rw [List.drop_left]
theorem nsChain {args : Array Value} {s : State} {pl : Platform} (hpl : pl.magicAccessors = ({} : Platform).magicAccessors) {top : MethodId} (htop : s.methodNamed? (Bundle.initS Bundle.tN) = some top)
    (names : List String) (X Y : String) (hX : Bundle.fit X = true) (hY : Bundle.fit Y = true) (hn : ∀ n ∈ names, Bundle.fit n = true) (h : ∀ c ∈ Bundle.passSAtoms X Y 13 ns13 ++ Bundle.chainSAtoms Y names, c.before args s = true) :
      ∃ (P1 : PassC) (Ps : List PassC), Ps.length = names.length + 1 ∧ P1.LinksS pl s ∧ (∀ P, P ∈ Ps → P.LinksS pl s) ∧ s.methodNamed? (Bundle.initS X) = some P1.m ∧
        P1.sup = firstOf top (Ps.map (·.toPassT)) ∧ PassesOn top (Ps.map (·.toPassT)) := by
  obtain ⟨P, L, hm, hs⟩ := PassC.ofS_atoms (args := args) (s := s) hpl (X := X) (Y := Y) (Bundle.fit_spec hX).1 (Bundle.fit_spec hY).2 ns13_0 ns13_1 ns13_2 ns13_5 (fun c hc => h c (List.mem_append_left _ hc))
  obtain ⟨P', Ps, hlen, L', hL, hm', hsup, hpass⟩ := Bundle.chainS (args := args) hpl htop names Y hY hn (fun c hc => h c (List.mem_append_right _ hc))
  refine ⟨P, P' :: Ps, by simp [hlen], L, ?_, hm, Option.some.inj (hs.symm.trans hm'), hsup, hpass⟩
  intro Q hQ
  rcases List.mem_cons.mp hQ with rfl | hQ
  · exact L'
  · exact hL Q hQ
section NSEE
variable {p : Program} {l : Launch} {e : Env} {R : Room} {s : State} {m₀ : MethodId} {args : Array Value} {below : List Frame} {meth : Method} {c : Code} {W0 : State} {locs : List Loc} {cells slots : Nat}
set_option maxHeartbeats 1000000 in
theorem ns_ctor (X : Stand p l e R s m₀ args below meth c W0 locs cells slots) (hexec : p.tables.exec = Jvm.exec) (htr : e.platform.stackTraces = false) {own cls Y9 : String} {names : List String} {ic : Nat}
    (hown : s.vm.findClass own = some m₀.cls) (hcls : Bundle.fit cls = true) (hY9 : Bundle.fit Y9 = true) (hnames : ∀ n ∈ names, Bundle.fit n = true)
    (h : ∀ a ∈ nsAtoms own ic cls Y9 names, a.before args s = true)
    (hlocs : ∀ x ∈ locs, ∀ cell, s.heap[x.base]? = some cell → cell.vm.isStatics = false)
    {a : Addr} {cX : ClassId} {kX : Class} (hfoundX : s.vm.findClass cls = some cX) (hkX : s.vm.classes[cX]? = some kX) (hcell : W0.heap[a]? = some (freshCell cX kX)) (hnew : s.heap.size ≤ a)
    {msg : Value} (hmsg : msg.isRef = true)
    {g : JFrame} (hg : g.method = m₀) (hsize : g.locals.size = c.maxLocals) (hlocked : g.locked = none) (hentered : g.entered = []) {rest : List Value} (hstack : g.stack = msg :: .ref a :: .ref a :: rest)
    (hd6 : decode c.code g.pc = .ok (.invokespecial ic, 3)) (hd9 : decode c.code (g.pc + 3) = .ok (.athrow, 1)) (hout : ∀ x ∈ c.exceptionTable.toList, covers x (g.pc + 3) = false)
    (hRframes : names.length + 4 < R.frames) (hRlocals : 2 * g.monitorRoom + ((Value.ref a :: rest).map fun v => v.category).sum + (13 * (names.length + 2) + 42) ≤ R.locals) (hlocks : meth.locks = false) :
    ∃ U : State, Steps p.tables e below (W0.setTop g) U ∧ U.status = .running ∧ Ended U below (.threw a) ∧ s.WarmedH U.vm ∧ s.sameButNew ({ U with vm := s.vm } : State) locs cells slots ∧
      ∃ ce, U.heap[a]? = some ce ∧ s.vm.findClass cls = some ce.cls ∧ ce.vm = .none := by
  have howns : e.platform.frameOwnsMonitors = true := by rw [X.admits.platform]
  have hfin : e.platform.finalization = false := by rw [X.admits.platform]
  have hpl : e.platform.magicAccessors = ({} : Platform).magicAccessors := by rw [X.admits.platform]
  have hE : ∀ x, x ∈ nsEnd own ic cls → x.holds args s none s [] = true := fun x hx => h x (List.mem_append_right _ hx)
  rw [nsEnd_eq] at hE
  have hC : ∀ x ∈ Bundle.passSAtoms cls Y9 13 ns13 ++ Bundle.chainSAtoms Y9 names, x.before args s = true := fun x hx => h x (List.mem_append_left _ (List.mem_append_right _ hx))
  obtain ⟨T, Z0, L, -, Y⟩ := ThrowableC.of_atoms (args := args) howns hfin hpl (fun x hx => h x (List.mem_append_left _ (List.mem_append_left _ (List.mem_append_left _ hx))))
  obtain ⟨Z, M, LZ, LM, hnZ⟩ := Init0T.ofS_atoms (args := args) hpl L Y (fun x hx => h x (List.mem_append_left _ (List.mem_append_left _ (List.mem_append_right _ hx))))
  obtain ⟨P1, Ps, hlen, L1, hL, hP1m, hlink1, hlink⟩ := nsChain (args := args) hpl hnZ names cls Y9 hcls hY9 hnames hC
  have hfound : s.vm.findClass cls = some P1.m.cls := findClass_of_methodNamed hP1m
  cases Option.some.inj (hfoundX.symm.trans hfound)
  obtain ⟨c1, kX', hc1, hk, hord, -, -, hn6⟩ := Cond.instantiable_spec (hE (.instantiable cls 6) (by simp))
  cases Option.some.inj (hc1.symm.trans hfound)
  cases Option.some.inj (hkX.symm.trans hk)
  have hsel0 : selectMethod e.platform s.vm P1.m.cls T.fill0 = .method T.fill0 := by
    obtain ⟨c2, r2, m2, q1, q2, q3, q4, -⟩ := Cond.selects_spec (hE (.selects cls Bundle.tFill0 Bundle.tFill0) (by simp))
    cases Option.some.inj (q1.symm.trans hfound)
    cases Option.some.inj (q2.symm.trans (State.methodFound?_of_named Y.fill0 (by decide)))
    cases Option.some.inj (q3.symm.trans Y.fill0)
    rw [Launch.admits_selectMethod X.admits]; exact q4
  have hselF : selectMethod e.platform s.vm P1.m.cls T.fill = .method T.fill := by
    obtain ⟨c2, r2, m2, q1, q2, q3, q4, -⟩ := Cond.selects_spec (hE (.selects cls Bundle.tFill Bundle.tFill) (by simp))
    cases Option.some.inj (q1.symm.trans hfound)
    cases Option.some.inj (q2.symm.trans (State.methodFound?_of_named Y.fill (by decide)))
    cases Option.some.inj (q3.symm.trans Y.fill)
    rw [Launch.admits_selectMethod X.admits]; exact q4
  obtain ⟨cellS0, hcS0, hiss⟩ := Y.statics
  obtain ⟨u0, hu0⟩ := Cond.staticRefV Y.unassigned L.unassignedStatic L.statics hcS0 hiss (hE (.isRef (.static Bundle.tN "UNASSIGNED_STACK" Bundle.steD)) (by simp))
  obtain ⟨sen, hsen⟩ := Cond.staticRefV Y.sentinel L.sentinelStatic L.statics hcS0 hiss (hE (.isRef (.static Bundle.tN "SUPPRESSED_SENTINEL" Bundle.listD)) (by simp))
  obtain ⟨ci198, i198, fB, hk198, hg198, ha198, hsB, -, hnB, htB, hffB⟩ := Cond.ownField (t := .object "java/lang/Object") Y.found L.cls (by decide +kernel) (hE (.fieldLink Bundle.tN 198 Bundle.tN "backtrace" "Ljava/lang/Object;") (by simp)) (hE (.lays Bundle.tN Bundle.tN "backtrace" "Ljava/lang/Object;") (by simp)) e.platform hpl
  obtain ⟨cellS, hcS', heS, -, hkeep⟩ := X.same.2.2.2.2.2 T.aS cellS0 hcS0
  have hcellS : W0.heap[T.aS]? = some cellS := hcS'
  have hout' : ∀ i, (⟨T.aS, i⟩ : Loc) ∉ locs := fun i hmem => by
    have := hlocs _ hmem cellS0 hcS0
    rw [hiss] at this; cases this
  have hknownS : cellS.vm ≠ .unknown := by
    rw [heS]; intro hu
    rw [show cellS0.vm = .unknown from hu] at hiss
    cases hiss
  have hneS : T.aS ≠ a := Nat.ne_of_lt (Nat.lt_of_lt_of_le (Array.getElem?_eq_some_iff.mp hcS0).1 hnew)
  obtain ⟨iM, hffM⟩ := Y.msg
  obtain ⟨tyC, dC, hdC, hdnC⟩ := Cond.laysAt hfound hk Y.cause (hE (.lays cls Bundle.tN "cause" "Ljava/lang/Throwable;") (by simp))
  obtain ⟨tyS, dS, hdS, hdnS⟩ := Cond.laysAt hfound hk Y.stack (hE (.lays cls Bundle.tN "stackTrace" Bundle.steD) (by simp))
  obtain ⟨tyP, dP, hdP, hdnP⟩ := Cond.laysAt hfound hk Y.supp (hE (.lays cls Bundle.tN "suppressedExceptions" Bundle.listD) (by simp))
  obtain ⟨tyM, dM, hdM, hdnM⟩ := Cond.laysAt hfound hk hffM (hE (.lays cls Bundle.tN "detailMessage" "Ljava/lang/String;") (by simp))
  obtain ⟨tyB, dB, hdB, hdnB⟩ := Cond.laysAt hfound hk hffB (hE (.lays cls Bundle.tN "backtrace" "Ljava/lang/Object;") (by simp))
  have bC := Cond.laysApart hdB hdC hdnB hdnC (by rw [hnB, Y.causeName]; decide)
  have bS := Cond.laysApart hdB hdS hdnB hdnS (by rw [hnB, Y.stackName]; decide)
  have bP := Cond.laysApart hdB hdP hdnB hdnP (by rw [hnB, Y.suppName]; decide)
  have hskip : SkipFacts T e.platform s (fun u => u) u0 ((preparedCellV T.toThrowableT (freshCell P1.m.cls kX) a u0 sen).withEntry W0.cur) :=
    ⟨{ ci198 := ci198, i198 := i198, fBack := fB }, ⟨hk198, hg198, ha198, hsB⟩, by
      have := fresh_default (c := P1.m.cls) tyB
      rw [htB] at this
      simpa [preparedCellV, Cell.setSlot, Cell.withEntry, Array.getElem?_setIfInBounds, bC, bS, bP, bC.symm, bS.symm, bP.symm, defaultValue] using this, fun _ _ => rfl⟩
  obtain ⟨tm, methC, cdC, kC, vm₁, hnC, -, -, -, -, -, -, -, hW₁, st1⟩ := Steps.initColdS (tb := p.tables) (e := e) (below := below) (s := s) (U := W0) X.here hexec X.warmed hpl hown (t := Bundle.initS cls) rfl rfl (Bundle.fit_spec hcls).2
    (hE (.methodLink own ic (Bundle.initS cls)) (by simp)) (hC (.instanceMethod (Bundle.initS cls)) (by simp [Bundle.passSAtoms])) (bytes := ns13) (maxL := 2) (hC (.code (Bundle.initS cls) ns13 2 none) (by simp [Bundle.passSAtoms]))
    (f := g) hg (a := a) (msg := msg) (rest := .ref a :: rest) hstack hd6
  cases Option.some.inj (hnC.symm.trans hP1m)
  have X₁ := X.noted hW₁
  obtain ⟨vm₂, X₂, st2⟩ := X₁.ctorMessageOffV hexec (g := { g with stack := .ref a :: rest }) hg hsize T L Z LZ M LM (P1 :: Ps)
    (fun P hP => by rcases List.mem_cons.mp hP with rfl | hP; exact L1; exact hL P hP) ⟨hlink1, hlink⟩ (u0 := u0) (sen := sen) (self := a) hmsg (cell := freshCell P1.m.cls kX) (cellS := cellS)
    hcell (fun _ => by simp) (by simp) rfl rfl hsel0 hselF hcellS hneS hknownS (by rw [hkeep _ (hout' _)]; exact hu0) (by rw [hkeep _ (hout' _)]; exact hsen)
    (Takes.of_laid hk hord tyC (by rw [Y.causeType]; rfl)) (Takes.of_laid hk hord tyS (by rw [Y.stackType]; exact fits_refV_array _ u0)) (Takes.of_laid hk hord tyP (by rw [Y.suppType]; exact fits_refV_object _ sen))
    (Takes.of_laid hk hord tyM (by rw [Y.msgType]; exact fits_refV_object _ ⟨msg, hmsg⟩)) Y.objLocals hskip htr [] hd6
    (by simp only [List.length_cons, hlen]; omega) (by simp only [List.length_cons, hlen]; omega)
  obtain ⟨hwalk, hrun, hended, hWU, hsame⟩ := X₂.athrowLeaves hexec (g := { g with stack := .ref a :: rest, pc := g.pc + 3 }) hg hlocked hentered hout (a := a) (rest := rest) rfl hd9
  have hlt : a < ((W0.setVm vm₁).setVm vm₂).heap.size := (Array.getElem?_eq_some_iff.mp hcell).1
  have hU := heapAt_setCell_self (s := (W0.setVm vm₁).setVm vm₂) (plainBareV T.toThrowableT (freshCell P1.m.cls kX) a u0 sen msg) hlt
  refine ⟨_, st1 _ (fun acts => ?_), hrun, hended, hWU, hsame.weaken (fun y hy hlt' => ?_) (Nat.le_refl _) (Nat.le_refl _), _, hU, hfound, rfl⟩
  · rw [doInvoke_state]
    exact st2 _ hwalk
  · rcases List.mem_append.mp hy with h1 | h1
    · exact h1
    · exfalso
      have hb : y.base = a := by
        simp only [List.mem_cons, List.not_mem_nil, or_false] at h1
        rcases h1 with rfl | rfl | rfl | rfl | rfl <;> rfl
      rw [hb] at hlt'
      exact Nat.not_lt.mpr hnew hlt'
end NSEE
def ns_at (own : String) (ic : Nat) (X Y : String) (names : List String) : List Cond := (nsAtoms own ic X Y names).filter vx_no
section NSE2
variable {p : Program} {l : Launch} {e : Env} {R : Room} {s : State} {m : MethodId} {args : Array Value} {below : List Frame} {meth : Method} {c : Code} {H : Heap} {locs : List Loc} {cells slots : Nat} {Q : State → Prop}
variable {mc ms : Nat} {free : Addr → Prop} {A0 A1 : Nat → Prop} {H0 : Heap} {a : Array Value} {ls : Array Slot} {st0 rest : List Value}
variable {Qc : Array Value → State → Outcome → State → Prop} {XC : String → State → State → Prop}
theorem ns_throw {cc : ByteArray} {pc : Nat} (hexec : p.tables.exec = Jvm.exec) (hb : c.code = cc) (hl : l.stackTraces = false) {own cls Y9 text : String} {names : List String} {ik is ic mc ms sa : Nat} {A : Nat → Prop}
    (hown : s.vm.findClass own = some m.cls) (hcls : Bundle.fit cls = true) (hY9 : Bundle.fit Y9 = true) (hnames : ∀ n ∈ names, Bundle.fit n = true)
    (hk : (Cond.classLink own ik cls).before args s = true) (hini : (Cond.initialized cls).before args s = true) (hstr : vk_R own is text sa s) (hat : ∀ w ∈ ns_at own ic cls Y9 names, w.before args s = true)
    (hgood : ∀ w ∈ Cond.classLink own ik cls :: Cond.initialized cls :: ns_at own ic cls Y9 names, vx_ot w = true)
    (hU : vx_Zq Bundle.tN "UNASSIGNED_STACK" Bundle.steD A s s.heap) (hN : vx_Zq Bundle.tN "SUPPRESSED_SENTINEL" Bundle.listD A s s.heap) (hS : va_S A s.heap H locs) (hsize : ls.size = c.maxLocals)
    (d0 : decode cc pc = .ok (.new ik, 3)) (d3 : decode cc (pc + 3) = .ok (.dup, 1)) (d4 : decode cc (pc + 4) = .ok (.ldc is, 2)) (d6 : decode cc (pc + 6) = .ok (.invokespecial ic, 3)) (d9 : decode cc (pc + 9) = .ok (.athrow, 1))
    (hout : ∀ x ∈ c.exceptionTable.toList, covers x (pc + 9) = false)
    (hRframes : names.length + 4 < R.frames) (hRlocals : (rest.map fun v => v.category).sum + (13 * (names.length + 2) + 43) ≤ R.locals) (hRcells : cells + 1 ≤ R.cells) (hRslots : slots + 6 ≤ R.slots) (hlocks : meth.locks = false)
    (hx : ∀ t : State, s.vm.Alike t.vm → H.size ≤ t.heap.size → (∀ q : Nat, q < H.size → t.heap[q]? = H[q]?) → XC cls s t)
    (hf : ∀ z ∈ locs, free z.base) (hc : cells + 1 ≤ mc) (hs : slots + 6 ≤ ms) :
    W p l e R s m args below meth c H locs cells slots (vx_MQ below Qc XC args s mc ms free) (F0 m pc ls rest) := by
  intro T hT X
  have htr : e.platform.stackTraces = false := (show e.platform.stackTraces = l.stackTraces by rw [X.admits.platform]).trans hl
  have Y := vx_rebase X (R' := { frames := R.frames, locals := R.locals, cells := 1, slots := 6 }) (Nat.le_refl _) (Nat.le_refl _) hRcells hRslots
  obtain ⟨s', hA⟩ : ∃ z, z = (T.setVm s.vm).setFrames (.invoking m args :: below) := ⟨_, rfl⟩
  rw [← hA] at Y
  have hvm : s'.vm = s.vm := by rw [hA]; rfl
  have hhp : s'.heap = H := by rw [hA]; exact hT
  have hW0 : s.WarmedH s'.vm := by rw [hvm]; exact State.WarmedH.refl s
  have hat' : ∀ w ∈ ns_at own ic cls Y9 names, w.before args s' = true := fun w hw => vx_ot_at hW0 hvm.symm (hgood w (List.mem_cons_of_mem _ (List.mem_cons_of_mem _ hw))) (hat w hw)
  have hk' : (Cond.classLink own ik cls).before args s' = true := vx_ot_at hW0 hvm.symm (hgood _ List.mem_cons_self) hk
  have hini' : (Cond.initialized cls).before args s' = true := vx_ot_at hW0 hvm.symm (hgood _ (List.mem_cons_of_mem _ List.mem_cons_self)) hini
  have hU' : vx_Zq Bundle.tN "UNASSIGNED_STACK" Bundle.steD A s' s'.heap := by rw [hhp]; exact vx_Zq.moved hW0.alike (hU.kept hS.2.1)
  have hN' : vx_Zq Bundle.tN "SUPPRESSED_SENTINEL" Bundle.listD A s' s'.heap := by rw [hhp]; exact vx_Zq.moved hW0.alike (hN.kept hS.2.1)
  have h : ∀ w ∈ nsAtoms own ic cls Y9 names, w.before args s' = true := vx_own hat' (vx_isRefq hU'.1) (vx_isRefq hN'.1) hU'.2.word hN'.2.word
  have hown' : s'.vm.findClass own = some m.cls := by rw [hvm]; exact hown
  have hins : (Cond.instantiable cls 6).before args s' = true := h _ (by simp [nsAtoms, nsEnd_eq])
  obtain ⟨vm₁, cX, kX, hfX, hkX, -, -, X₁, st1⟩ := Y.newCold hexec (own := own) (C := cls) (index := ik) (n := 6) hown' hk' hins hini'
    (g := F0 m pc ls rest) rfl (by rw [hb]; exact d0) (Nat.le_refl _) (Nat.le_refl _)
  generalize hT1 : (T.setVm vm₁).pushCell { cls := cX, slots := kX.instanceTypes.map defaultValue, vm := .none } = T1 at X₁ st1
  have hcat : (Value.ref T.heap.size).category = 1 := rfl
  have hcellA : T1.heap[T.heap.size]? = some (freshCell cX kX) := by rw [← hT1]; exact State.heap_pushCell_size _ _
  have d3' : decode c.code (pc + 3) = .ok (.dup, 1) := by rw [hb]; exact d3
  have d4' : decode c.code (pc + 4) = .ok (.ldc is, 2) := by rw [hb]; exact d4
  have hstr' : vk_R own is text sa s' := vk_R.warm hW0 hstr
  obtain ⟨U, hsteps, hrun, hend, hW, hsame, ce, hce, hO, hOv⟩ := ns_ctor X₁ hexec htr (own := own) (cls := cls) (Y9 := Y9) (names := names) (ic := ic) hown' hcls hY9 hnames h (fun x hx => nomatch hx) hfX hkX hcellA (by rw [hhp, hT]; exact Nat.le_refl _) (msg := .ref sa) rfl
    (g := { method := m, pc := pc + 6, locals := ls, stack := .ref sa :: .ref T.heap.size :: .ref T.heap.size :: rest, locked := none }) rfl hsize rfl rfl (rest := rest) rfl
    (by rw [hb]; exact d6) (by rw [hb]; exact d9) hout hRframes (by simp only [List.map_cons, List.sum_cons, hcat]; omega) hlocks
  obtain ⟨f1, f2⟩ := vx_frame hsame
  rw [hhp] at f1 f2
  have hWs : s.WarmedH U.vm := State.WarmedH.trans hW0 hW
  have hcl : s.vm.findClass cls = some ce.cls := by
    have h9 := hO
    rw [hvm] at h9
    exact h9
  have hall : s.sameButNew ({ U with vm := s.vm } : State) locs mc ms := by
    subst hA
    obtain ⟨e1, e2⟩ := hsame
    rw [State.setFrames_setFrames] at e1
    have h2 : (T.setVm s.vm).sameButNew ({ U with vm := s.vm } : State) [] (0 + 1) (0 + 6) := ⟨e1, e2⟩
    have h3 := X.same.trans h2
    rw [List.append_nil] at h3
    exact h3.mono hc hs
  refine ⟨U, ?_, .threw T.heap.size, hrun, hend, Or.inr ⟨T.heap.size, rfl, cls, ce, locs, hx U hWs.alike f1 (fun q hq => f2 q hq (fun z hz => nomatch hz)), hce, hOv, hcl, hWs, hall, hf⟩⟩
  refine st1 _ ?_
  show Steps p.tables e below (T1.setTop { method := m, pc := pc + 3, locals := ls, stack := .ref T.heap.size :: rest, locked := none }) _
  jvm_step X₁.here [X₁.here.top, hexec, d3', Value.category]
  exact X₁.ldcString hexec (own := own) (text := text) (index := is) (a := sa) hown' hstr'.1 hstr'.2
    (g := { method := m, pc := pc + 4, locals := ls, stack := .ref T.heap.size :: .ref T.heap.size :: rest, locked := none }) rfl d4' _ hsteps
end NSE2
def TkN (own : String) (ik is ic : Nat) (cls text : String) : Prop := Bundle.fit cls = true ∧ Cond.classLink own ik cls ∈ gW ∧ Cond.initialized cls ∈ gW ∧ (∀ w ∈ ns_at own ic cls "java/lang/RuntimeException" ["java/lang/Exception"], w ∈ gW ∨ w ∈ eW) ∧ (own, is, text) ∈ mRf
theorem V_throwN {G : Gm} {own cls text : String} {cc : ByteArray} {rt : Option FieldType} {pc : Nat} {lv : List (Nat × Value)} {st : List Value} {I : MI} {L : ML} {R : MR} (C0 : Cx G own cc rt) (hl0 : G.l.stackTraces = false) (hz : SXc G.bs G.s) (htab : ∀ x ∈ G.c.exceptionTable.toList, False) {ik is ic : Nat} (tk : TkN own ik is ic cls text)
    (d0 : decode cc pc = .ok (.new ik, 3)) (d3 : decode cc (pc + 3) = .ok (.dup, 1)) (d4 : decode cc (pc + 4) = .ok (.ldc is, 2)) (d6 : decode cc (pc + 6) = .ok (.invokespecial ic, 3)) (d9 : decode cc (pc + 9) = .ok (.athrow, 1))
    (hR : 6 ≤ G.rm.frames ∧ 90 ≤ G.rm.locals) (hRc : 1 ≤ G.rm.cells ∧ 6 ≤ G.rm.slots) (hst : (st.map fun v => v.category).sum ≤ 8) : V G (qt G (.inr (cls, I, L, R))) pc lv st I L R := by
  intro H locs ls hP hS hl
  obtain ⟨hx, hb, hml, hrt, hlk, hown, hts, hK, hN, hAd, hbs, hXs, hXb⟩ := C0
  obtain ⟨t1, t2, t3, t4, t5⟩ := tk
  obtain ⟨sa, hsa⟩ := hz.2.2.2 _ t5
  refine ns_throw (Y9 := "java/lang/RuntimeException") (names := ["java/lang/Exception"]) (A := Ab G.bs) (mc := 1) (ms := 6) hx hb hl0 hown t1 (by decide +kernel) (by decide +kernel) (hts _ t2) (hts _ t3) hsa (fun w hw => (t4 w hw).elim (fun q => hts _ q) (fun q => va_Nw.use (eW_tab q) (hz.1 w q))) ?_ hz.2.1 hz.2.2.1 hS (hl.1.trans hml.symm) d0 d3 d4 d6 d9 (fun x h => absurd h (fun q => htab x q)) (by show 1 + 4 < _; omega) (by show _ + (13 * (1 + 2) + 43) ≤ _; omega) (by omega) (by omega) hlk ?_ hS.2.2 (Nat.le_refl _) (Nat.le_refl _)
  · intro w hw
    have hg : w ∈ gW ∨ w ∈ eW := by
      rcases List.mem_cons.mp hw with rfl | hw
      · exact Or.inl t2
      · rcases List.mem_cons.mp hw with rfl | hw
        · exact Or.inl t3
        · exact t4 w hw
    unfold vx_ot
    rcases hg with hg | hg
    · rw [(List.mem_filter.mp hg).2, Bool.or_true]
    · rw [eW_tab hg, Bool.true_or]
  · intro t hA hsz hsame
    refine ⟨(I, L, R), rfl, fun k q hk => ?_, Nat.le_trans hS.1 hsz, fun q h1 h2 => ?_⟩
    · exact (hP k q hk).kept (hsame _ (hP k q hk).lt)
    · rw [hsame q (Nat.lt_of_lt_of_le h1 hS.1)]
      exact hS.2.1 q h1 h2
theorem tk_134_136 : TkN RX11 134 136 138 "java/util/NoSuchElementException" "no such part" := ⟨by decide +kernel, gW_in _ (tb_6 _ (List.mem_of_getElem? (i := 227) rfl)) rfl, gW_in _ (tb_1 _ (List.mem_of_getElem? (i := 26) rfl)) rfl, tk_in (by decide +kernel), by decide⟩
theorem tk_134_146 : TkN RX11 134 146 138 "java/util/NoSuchElementException" "no such question" := ⟨by decide +kernel, gW_in _ (tb_6 _ (List.mem_of_getElem? (i := 227) rfl)) rfl, gW_in _ (tb_1 _ (List.mem_of_getElem? (i := 26) rfl)) rfl, tk_in (by decide +kernel), by decide⟩
theorem tk_134_154 : TkN RX11 134 154 138 "java/util/NoSuchElementException" "no such note" := ⟨by decide +kernel, gW_in _ (tb_6 _ (List.mem_of_getElem? (i := 227) rfl)) rfl, gW_in _ (tb_1 _ (List.mem_of_getElem? (i := 26) rfl)) rfl, tk_in (by decide +kernel), by decide⟩
theorem lk_X11_129 : LkV RX11 129 yX9_owns := ⟨Or.inl (gW_in _ (tb_6 _ (List.mem_of_getElem? (i := 221) rfl)) rfl), gW_in _ (tb_6 _ (List.mem_of_getElem? (i := 222) rfl)) rfl, gW_in _ (tb_6 _ (List.mem_of_getElem? (i := 223) rfl)) rfl⟩
theorem lk_X11_139 : LkV RX11 139 yX9_value := ⟨Or.inl (gW_in _ (tb_7 _ (List.mem_of_getElem? (i := 3) rfl)) rfl), gW_in _ (tb_6 _ (List.mem_of_getElem? (i := 144) rfl)) rfl, gW_in _ (tb_6 _ (List.mem_of_getElem? (i := 145) rfl)) rfl⟩
theorem lk_X11_143 : LkV RX11 143 yX9_tells := ⟨Or.inl (gW_in _ (tb_7 _ (List.mem_of_getElem? (i := 11) rfl)) rfl), gW_in _ (tb_7 _ (List.mem_of_getElem? (i := 12) rfl)) rfl, gW_in _ (tb_7 _ (List.mem_of_getElem? (i := 13) rfl)) rfl⟩
theorem lk_X11_148 : LkV RX11 148 yX9_answer := ⟨Or.inl (gW_in _ (tb_7 _ (List.mem_of_getElem? (i := 17) rfl)) rfl), gW_in _ (tb_7 _ (List.mem_of_getElem? (i := 18) rfl)) rfl, gW_in _ (tb_7 _ (List.mem_of_getElem? (i := 19) rfl)) rfl⟩
theorem lk_X11_151 : LkV RX11 151 yX10_hasNote := ⟨Or.inl (gW_in _ (tb_7 _ (List.mem_of_getElem? (i := 34) rfl)) rfl), gW_in _ (tb_7 _ (List.mem_of_getElem? (i := 35) rfl)) rfl, gW_in _ (tb_7 _ (List.mem_of_getElem? (i := 36) rfl)) rfl⟩
theorem lk_X11_156 : LkV RX11 156 yX10_noteValue := ⟨Or.inl (gW_in _ (tb_7 _ (List.mem_of_getElem? (i := 39) rfl)) rfl), gW_in _ (tb_7 _ (List.mem_of_getElem? (i := 40) rfl)) rfl, gW_in _ (tb_7 _ (List.mem_of_getElem? (i := 41) rfl)) rfl⟩
theorem lc_X10_hasNote : LkC yX10_hasNote cX10_hasNote 2 (some .boolean) 1 := ⟨gW_in _ (tb_7 _ (List.mem_of_getElem? (i := 37) rfl)) rfl, gW_in _ (tb_1 _ (List.mem_of_getElem? (i := 2) rfl)) rfl, by decide +kernel⟩
theorem lc_X10_noteValue : LkC yX10_noteValue cX10_noteValue 4 (some .int) 2 := ⟨gW_in _ (tb_7 _ (List.mem_of_getElem? (i := 42) rfl)) rfl, gW_in _ (tb_1 _ (List.mem_of_getElem? (i := 2) rfl)) rfl, by decide +kernel⟩
theorem lc_X9_answer : LkC yX9_answer cX9_answer 2 (some .int) 1 := ⟨gW_in _ (tb_7 _ (List.mem_of_getElem? (i := 20) rfl)) rfl, gW_in _ (tb_1 _ (List.mem_of_getElem? (i := 3) rfl)) rfl, by decide +kernel⟩
theorem lc_X9_owns : LkC yX9_owns cX9_owns 2 (some .boolean) 1 := ⟨gW_in _ (tb_6 _ (List.mem_of_getElem? (i := 224) rfl)) rfl, gW_in _ (tb_1 _ (List.mem_of_getElem? (i := 3) rfl)) rfl, by decide +kernel⟩
theorem lc_X9_tells : LkC yX9_tells cX9_tells 2 (some .boolean) 1 := ⟨gW_in _ (tb_7 _ (List.mem_of_getElem? (i := 14) rfl)) rfl, gW_in _ (tb_1 _ (List.mem_of_getElem? (i := 3) rfl)) rfl, by decide +kernel⟩
theorem dX11_part_0 : decode cX11_part 0 = .ok (.aload_n 0, 1) := by decide +kernel
theorem dX11_part_1 : decode cX11_part 1 = .ok (.iload_n 1, 1) := by decide +kernel
theorem dX11_part_2 : decode cX11_part 2 = .ok (.invokevirtual 122, 3) := by decide +kernel
theorem dX11_part_5 : decode cX11_part 5 = .ok (.aload_n 0, 1) := by decide +kernel
theorem dX11_part_6 : decode cX11_part 6 = .ok (.getfield 26, 3) := by decide +kernel
theorem dX11_part_9 : decode cX11_part 9 = .ok (.iload_n 1, 1) := by decide +kernel
theorem dX11_part_10 : decode cX11_part 10 = .ok (.invokevirtual 125, 3) := by decide +kernel
theorem dX11_part_13 : decode cX11_part 13 = .ok (.astore_n 3, 1) := by decide +kernel
theorem dX11_part_14 : decode cX11_part 14 = .ok (.aload_n 3, 1) := by decide +kernel
theorem dX11_part_15 : decode cX11_part 15 = .ok (.iload_n 2, 1) := by decide +kernel
theorem dX11_part_16 : decode cX11_part 16 = .ok (.invokevirtual 129, 3) := by decide +kernel
theorem dX11_part_19 : decode cX11_part 19 = .ok (.ifCond .ne 13, 3) := by decide +kernel
theorem dX11_part_22 : decode cX11_part 22 = .ok (.new 134, 3) := by decide +kernel
theorem dX11_part_25 : decode cX11_part 25 = .ok (.dup, 1) := by decide +kernel
theorem dX11_part_26 : decode cX11_part 26 = .ok (.ldc 136, 2) := by decide +kernel
theorem dX11_part_28 : decode cX11_part 28 = .ok (.invokespecial 138, 3) := by decide +kernel
theorem dX11_part_31 : decode cX11_part 31 = .ok (.athrow, 1) := by decide +kernel
theorem dX11_part_32 : decode cX11_part 32 = .ok (.aload_n 3, 1) := by decide +kernel
theorem dX11_part_33 : decode cX11_part 33 = .ok (.iload_n 2, 1) := by decide +kernel
theorem dX11_part_34 : decode cX11_part 34 = .ok (.invokevirtual 139, 3) := by decide +kernel
theorem dX11_part_37 : decode cX11_part 37 = .ok (.ireturn, 1) := by decide +kernel
theorem dX11_ask_0 : decode cX11_ask 0 = .ok (.aload_n 0, 1) := by decide +kernel
theorem dX11_ask_1 : decode cX11_ask 1 = .ok (.iload_n 1, 1) := by decide +kernel
theorem dX11_ask_2 : decode cX11_ask 2 = .ok (.invokevirtual 122, 3) := by decide +kernel
theorem dX11_ask_5 : decode cX11_ask 5 = .ok (.aload_n 0, 1) := by decide +kernel
theorem dX11_ask_6 : decode cX11_ask 6 = .ok (.getfield 26, 3) := by decide +kernel
theorem dX11_ask_9 : decode cX11_ask 9 = .ok (.iload_n 1, 1) := by decide +kernel
theorem dX11_ask_10 : decode cX11_ask 10 = .ok (.invokevirtual 125, 3) := by decide +kernel
theorem dX11_ask_13 : decode cX11_ask 13 = .ok (.astore_n 3, 1) := by decide +kernel
theorem dX11_ask_14 : decode cX11_ask 14 = .ok (.aload_n 3, 1) := by decide +kernel
theorem dX11_ask_15 : decode cX11_ask 15 = .ok (.iload_n 2, 1) := by decide +kernel
theorem dX11_ask_16 : decode cX11_ask 16 = .ok (.invokevirtual 143, 3) := by decide +kernel
theorem dX11_ask_19 : decode cX11_ask 19 = .ok (.ifCond .ne 13, 3) := by decide +kernel
theorem dX11_ask_22 : decode cX11_ask 22 = .ok (.new 134, 3) := by decide +kernel
theorem dX11_ask_25 : decode cX11_ask 25 = .ok (.dup, 1) := by decide +kernel
theorem dX11_ask_26 : decode cX11_ask 26 = .ok (.ldc 146, 2) := by decide +kernel
theorem dX11_ask_28 : decode cX11_ask 28 = .ok (.invokespecial 138, 3) := by decide +kernel
theorem dX11_ask_31 : decode cX11_ask 31 = .ok (.athrow, 1) := by decide +kernel
theorem dX11_ask_32 : decode cX11_ask 32 = .ok (.aload_n 3, 1) := by decide +kernel
theorem dX11_ask_33 : decode cX11_ask 33 = .ok (.iload_n 2, 1) := by decide +kernel
theorem dX11_ask_34 : decode cX11_ask 34 = .ok (.invokevirtual 148, 3) := by decide +kernel
theorem dX11_ask_37 : decode cX11_ask 37 = .ok (.ireturn, 1) := by decide +kernel
theorem dX11_note_0 : decode cX11_note 0 = .ok (.aload_n 0, 1) := by decide +kernel
theorem dX11_note_1 : decode cX11_note 1 = .ok (.getfield 26, 3) := by decide +kernel
theorem dX11_note_4 : decode cX11_note 4 = .ok (.iload_n 1, 1) := by decide +kernel
theorem dX11_note_5 : decode cX11_note 5 = .ok (.invokevirtual 151, 3) := by decide +kernel
theorem dX11_note_8 : decode cX11_note 8 = .ok (.ifCond .eq 12, 3) := by decide +kernel
theorem dX11_note_11 : decode cX11_note 11 = .ok (.iload_n 2, 1) := by decide +kernel
theorem dX11_note_12 : decode cX11_note 12 = .ok (.ifCond .lt 8, 3) := by decide +kernel
theorem dX11_note_15 : decode cX11_note 15 = .ok (.iload_n 2, 1) := by decide +kernel
theorem dX11_note_16 : decode cX11_note 16 = .ok (.iconst 2, 1) := by decide +kernel
theorem dX11_note_17 : decode cX11_note 17 = .ok (.if_icmp .le 13, 3) := by decide +kernel
theorem dX11_note_20 : decode cX11_note 20 = .ok (.new 134, 3) := by decide +kernel
theorem dX11_note_23 : decode cX11_note 23 = .ok (.dup, 1) := by decide +kernel
theorem dX11_note_24 : decode cX11_note 24 = .ok (.ldc 154, 2) := by decide +kernel
theorem dX11_note_26 : decode cX11_note 26 = .ok (.invokespecial 138, 3) := by decide +kernel
theorem dX11_note_29 : decode cX11_note 29 = .ok (.athrow, 1) := by decide +kernel
theorem dX11_note_30 : decode cX11_note 30 = .ok (.aload_n 0, 1) := by decide +kernel
theorem dX11_note_31 : decode cX11_note 31 = .ok (.getfield 26, 3) := by decide +kernel
theorem dX11_note_34 : decode cX11_note 34 = .ok (.iload_n 1, 1) := by decide +kernel
theorem dX11_note_35 : decode cX11_note 35 = .ok (.iload_n 2, 1) := by decide +kernel
theorem dX11_note_36 : decode cX11_note 36 = .ok (.invokevirtual 156, 3) := by decide +kernel
theorem dX11_note_39 : decode cX11_note 39 = .ok (.ireturn, 1) := by decide +kernel
set_option maxRecDepth 100000 in
set_option maxHeartbeats 4000000 in
theorem c_X11_part (l : Launch) (D : va_G) (cA : Nat → ClassId) (ad : Nat → Nat) (bs : Nat) (X : State → Prop) (hAd : Ax ad bs) (hX : Stb bs X) (hl : l.stackTraces = false) (hc : Ssc bs X) (hs : Ssx ad bs X) (x0 : Nat) (x1 : Int32) (x2 : Int32) (I : MI) (L : ML) (R : MR) (w : Sum String (Int32)) (h : F_X11_part x0 x1 x2 I L R = some w) : CnT l D cA ad bs X yX11_part cX11_part 4 (some .int) 7 111 [.ref (ad x0), .int x1, .int x2] I L R (zT (fun (r : Int32) => (some (.int r), I, L, R)) I L R w) := by
  refine CnT.ofV hAd hX [(0, .ref (ad x0)), (1, .int x1), (2, .int x2)] rfl (Nat.le_of_ble_eq_true rfl) (by decide) ?_
  intro G el eD ecA ead ebs eX erm0 eNL htab C0
  subst el eD ecA ead ebs eX
  have hz := hc _ C0.2.2.2.2.2.2.2.2.2.2.2.1
  have erm : G.rm.frames = 7 ∧ G.rm.locals = 111 := by rw [erm0]; exact ⟨rfl, rfl⟩
  have hsx := hs _ C0.2.2.2.2.2.2.2.2.2.2.2.1
  unfold F_X11_part at h
  obtain ⟨c_x0, h⟩ := ite_some h
  refine V_aload_n C0 0 rfl rfl dX11_part_0 ?_
  refine V_iload_n C0 1 rfl rfl dX11_part_1 ?_
  rcases bsm_some h with ⟨e2, q1, h⟩ | ⟨z3, q1, h⟩
  · cases h
    exact V_callX C0 htab (st := []) (As := [.int x1]) 10 (c_X11_checkUnit G.l G.D G.cA G.ad G.bs G.X C0.2.2.2.2.2.2.2.2.2.1 C0.2.2.2.2.2.2.2.2.2.2.2.2 hl hc x0 x1 I L R _ q1) rfl lc_X11_checkUnit lt_X11_122 c_x0.2 c_x0.1 ⟨_, rfl, rfl⟩ rfl (by rw [erm.1, erm.2]; decide) (by rw [erm0]; exact ⟨Nat.le_refl 1, Nat.le_refl 6⟩) (Nat.le_of_ble_eq_true rfl) dX11_part_2
  · refine V_callT C0 (st := []) (As := [.int x1]) 10 (c_X11_checkUnit G.l G.D G.cA G.ad G.bs G.X C0.2.2.2.2.2.2.2.2.2.1 C0.2.2.2.2.2.2.2.2.2.2.2.2 hl hc x0 x1 I L R _ q1) rfl lc_X11_checkUnit lt_X11_122 c_x0.2 c_x0.1 ⟨_, rfl, rfl⟩ rfl (by rw [erm.1, erm.2]; decide) (Nat.le_of_ble_eq_true rfl) dX11_part_2 ?_
    show V G _ 5 [(0, .ref (G.ad x0)), (1, .int x1), (2, .int x2)] [] I L R
    refine V_aload_n C0 0 rfl rfl dX11_part_5 ?_
    obtain ⟨a4, qa4, h⟩ := bnd_some h
    refine V_getR C0 10 2 fl_X11_26 c_x0.2 c_x0.1 rfl (rf_at qa4) dX11_part_6 ?_
    refine V_iload_n C0 1 rfl rfl dX11_part_9 ?_
    obtain ⟨a5, q6, h⟩ := bn1_some h
    refine V_callV C0 (st := []) (As := [.int x1]) 9 (c_X10_unitAt G.l G.D G.cA G.ad G.bs G.X C0.2.2.2.2.2.2.2.2.2.1 C0.2.2.2.2.2.2.2.2.2.2.2.2 a4 x1 I L R a5 q6) lc_X10_unitAt lk_X11_125 (rf_lt qa4) (rf_kd qa4) ⟨_, rfl, rfl⟩ rfl (by rw [erm.1, erm.2]; decide) (Nat.le_of_ble_eq_true rfl) dX11_part_10 ?_
    show V G _ 13 [(0, .ref (G.ad x0)), (1, .int x1), (2, .int x2)] [.ref (G.ad a5)] I L R
    obtain ⟨c7, h⟩ := ite_some h
    refine V_astore_n C0 [(3, .ref (G.ad a5)), (0, .ref (G.ad x0)), (1, .int x1), (2, .int x2)] rfl (by rw [eNL]; decide) rfl dX11_part_13 ?_
    refine V_aload_n C0 0 rfl rfl dX11_part_14 ?_
    refine V_iload_n C0 3 rfl rfl dX11_part_15 ?_
    obtain ⟨b8, q9, h⟩ := bn1_some h
    refine V_callV C0 (st := []) (As := [.int x2]) 8 (c_X9_owns G.l G.D G.cA G.ad G.bs G.X C0.2.2.2.2.2.2.2.2.2.1 C0.2.2.2.2.2.2.2.2.2.2.2.2 hs a5 x2 I L R b8 q9) lc_X9_owns lk_X11_129 c7.2 c7.1 ⟨_, rfl, rfl⟩ rfl (by rw [erm.1, erm.2]; decide) (Nat.le_of_ble_eq_true rfl) dX11_part_16 ?_
    show V G _ 19 [(3, .ref (G.ad a5)), (0, .ref (G.ad x0)), (1, .int x1), (2, .int x2)] [.int (b2i b8)] I L R
    refine V_if_ne C0 (tgt := 32) (by decide) dX11_part_19 (fun c10 => ?_) (fun c10 => ?_)
    · have h := (if_neg c10).symm.trans h
      refine V_aload_n C0 0 rfl rfl dX11_part_32 ?_
      refine V_iload_n C0 3 rfl rfl dX11_part_33 ?_
      obtain ⟨v11, q12, h⟩ := bn1_some h
      refine V_callV C0 (st := []) (As := [.int x2]) 8 (c_X9_value G.l G.D G.cA G.ad G.bs G.X C0.2.2.2.2.2.2.2.2.2.1 C0.2.2.2.2.2.2.2.2.2.2.2.2 a5 x2 I L R v11 q12) lc_X9_value lk_X11_139 c7.2 c7.1 ⟨_, rfl, rfl⟩ rfl (by rw [erm.1, erm.2]; decide) (Nat.le_of_ble_eq_true rfl) dX11_part_34 ?_
      show V G _ 37 [(3, .ref (G.ad a5)), (0, .ref (G.ad x0)), (1, .int x1), (2, .int x2)] [.int v11] I L R
      cases h
      refine V_retT ?_
      exact V_iret C0 dX11_part_37
    · have h := (if_pos c10).symm.trans h
      cases h
      exact V_throwN C0 hl hz htab tk_134_136 dX11_part_22 dX11_part_25 dX11_part_26 dX11_part_28 dX11_part_31 (by rw [erm.1, erm.2]; decide) (by rw [erm0]; exact ⟨Nat.le_refl 1, Nat.le_refl 6⟩) (Nat.le_of_ble_eq_true rfl)
set_option maxRecDepth 100000 in
set_option maxHeartbeats 4000000 in
theorem c_X11_ask (l : Launch) (D : va_G) (cA : Nat → ClassId) (ad : Nat → Nat) (bs : Nat) (X : State → Prop) (hAd : Ax ad bs) (hX : Stb bs X) (hl : l.stackTraces = false) (hc : Ssc bs X) (N : Nat) (x0 : Nat) (x1 : Int32) (x2 : Int32) (I : MI) (L : ML) (R : MR) (w : Sum String (Int32)) (h : F_X11_ask N x0 x1 x2 I L R = some w) : CnT l D cA ad bs X yX11_ask cX11_ask 4 (some .int) 7 111 [.ref (ad x0), .int x1, .int x2] I L R (zT (fun (r : Int32) => (some (.int r), I, L, R)) I L R w) := by
  refine CnT.ofV hAd hX [(0, .ref (ad x0)), (1, .int x1), (2, .int x2)] rfl (Nat.le_of_ble_eq_true rfl) (by decide) ?_
  intro G el eD ecA ead ebs eX erm0 eNL htab C0
  subst el eD ecA ead ebs eX
  have hz := hc _ C0.2.2.2.2.2.2.2.2.2.2.2.1
  have erm : G.rm.frames = 7 ∧ G.rm.locals = 111 := by rw [erm0]; exact ⟨rfl, rfl⟩
  unfold F_X11_ask at h
  obtain ⟨c_x0, h⟩ := ite_some h
  refine V_aload_n C0 0 rfl rfl dX11_ask_0 ?_
  refine V_iload_n C0 1 rfl rfl dX11_ask_1 ?_
  rcases bsm_some h with ⟨e2, q1, h⟩ | ⟨z3, q1, h⟩
  · cases h
    exact V_callX C0 htab (st := []) (As := [.int x1]) 10 (c_X11_checkUnit G.l G.D G.cA G.ad G.bs G.X C0.2.2.2.2.2.2.2.2.2.1 C0.2.2.2.2.2.2.2.2.2.2.2.2 hl hc x0 x1 I L R _ q1) rfl lc_X11_checkUnit lt_X11_122 c_x0.2 c_x0.1 ⟨_, rfl, rfl⟩ rfl (by rw [erm.1, erm.2]; decide) (by rw [erm0]; exact ⟨Nat.le_refl 1, Nat.le_refl 6⟩) (Nat.le_of_ble_eq_true rfl) dX11_ask_2
  · refine V_callT C0 (st := []) (As := [.int x1]) 10 (c_X11_checkUnit G.l G.D G.cA G.ad G.bs G.X C0.2.2.2.2.2.2.2.2.2.1 C0.2.2.2.2.2.2.2.2.2.2.2.2 hl hc x0 x1 I L R _ q1) rfl lc_X11_checkUnit lt_X11_122 c_x0.2 c_x0.1 ⟨_, rfl, rfl⟩ rfl (by rw [erm.1, erm.2]; decide) (Nat.le_of_ble_eq_true rfl) dX11_ask_2 ?_
    show V G _ 5 [(0, .ref (G.ad x0)), (1, .int x1), (2, .int x2)] [] I L R
    refine V_aload_n C0 0 rfl rfl dX11_ask_5 ?_
    obtain ⟨a4, qa4, h⟩ := bnd_some h
    refine V_getR C0 10 2 fl_X11_26 c_x0.2 c_x0.1 rfl (rf_at qa4) dX11_ask_6 ?_
    refine V_iload_n C0 1 rfl rfl dX11_ask_9 ?_
    obtain ⟨a5, q6, h⟩ := bn1_some h
    refine V_callV C0 (st := []) (As := [.int x1]) 9 (c_X10_unitAt G.l G.D G.cA G.ad G.bs G.X C0.2.2.2.2.2.2.2.2.2.1 C0.2.2.2.2.2.2.2.2.2.2.2.2 a4 x1 I L R a5 q6) lc_X10_unitAt lk_X11_125 (rf_lt qa4) (rf_kd qa4) ⟨_, rfl, rfl⟩ rfl (by rw [erm.1, erm.2]; decide) (Nat.le_of_ble_eq_true rfl) dX11_ask_10 ?_
    show V G _ 13 [(0, .ref (G.ad x0)), (1, .int x1), (2, .int x2)] [.ref (G.ad a5)] I L R
    obtain ⟨c7, h⟩ := ite_some h
    refine V_astore_n C0 [(3, .ref (G.ad a5)), (0, .ref (G.ad x0)), (1, .int x1), (2, .int x2)] rfl (by rw [eNL]; decide) rfl dX11_ask_13 ?_
    refine V_aload_n C0 0 rfl rfl dX11_ask_14 ?_
    refine V_iload_n C0 3 rfl rfl dX11_ask_15 ?_
    obtain ⟨b8, q9, h⟩ := bn1_some h
    refine V_callV C0 (st := []) (As := [.int x2]) 8 (c_X9_tells G.l G.D G.cA G.ad G.bs G.X C0.2.2.2.2.2.2.2.2.2.1 C0.2.2.2.2.2.2.2.2.2.2.2.2 a5 x2 I L R b8 q9) lc_X9_tells lk_X11_143 c7.2 c7.1 ⟨_, rfl, rfl⟩ rfl (by rw [erm.1, erm.2]; decide) (Nat.le_of_ble_eq_true rfl) dX11_ask_16 ?_
    show V G _ 19 [(3, .ref (G.ad a5)), (0, .ref (G.ad x0)), (1, .int x1), (2, .int x2)] [.int (b2i b8)] I L R
    refine V_if_ne C0 (tgt := 32) (by decide) dX11_ask_19 (fun c10 => ?_) (fun c10 => ?_)
    · have h := (if_neg c10).symm.trans h
      refine V_aload_n C0 0 rfl rfl dX11_ask_32 ?_
      refine V_iload_n C0 3 rfl rfl dX11_ask_33 ?_
      obtain ⟨v11, q12, h⟩ := bn1_some h
      refine V_callV C0 (st := []) (As := [.int x2]) 8 (c_X9_answer G.l G.D G.cA G.ad G.bs G.X C0.2.2.2.2.2.2.2.2.2.1 C0.2.2.2.2.2.2.2.2.2.2.2.2 N a5 x2 I L R v11 q12) lc_X9_answer lk_X11_148 c7.2 c7.1 ⟨_, rfl, rfl⟩ rfl (by rw [erm.1, erm.2]; decide) (Nat.le_of_ble_eq_true rfl) dX11_ask_34 ?_
      show V G _ 37 [(3, .ref (G.ad a5)), (0, .ref (G.ad x0)), (1, .int x1), (2, .int x2)] [.int v11] I L R
      cases h
      refine V_retT ?_
      exact V_iret C0 dX11_ask_37
    · have h := (if_pos c10).symm.trans h
      cases h
      exact V_throwN C0 hl hz htab tk_134_146 dX11_ask_22 dX11_ask_25 dX11_ask_26 dX11_ask_28 dX11_ask_31 (by rw [erm.1, erm.2]; decide) (by rw [erm0]; exact ⟨Nat.le_refl 1, Nat.le_refl 6⟩) (Nat.le_of_ble_eq_true rfl)
set_option maxRecDepth 100000 in
set_option maxHeartbeats 4000000 in
theorem c_X11_note (l : Launch) (D : va_G) (cA : Nat → ClassId) (ad : Nat → Nat) (bs : Nat) (X : State → Prop) (hAd : Ax ad bs) (hX : Stb bs X) (hl : l.stackTraces = false) (hc : Ssc bs X) (x0 : Nat) (x1 : Int32) (x2 : Int32) (I : MI) (L : ML) (R : MR) (w : Sum String (Int32)) (h : F_X11_note x0 x1 x2 I L R = some w) : CnT l D cA ad bs X yX11_note cX11_note 3 (some .int) 6 90 [.ref (ad x0), .int x1, .int x2] I L R (zT (fun (r : Int32) => (some (.int r), I, L, R)) I L R w) := by
  refine CnT.ofV hAd hX [(0, .ref (ad x0)), (1, .int x1), (2, .int x2)] rfl (Nat.le_of_ble_eq_true rfl) (by decide) ?_
  intro G el eD ecA ead ebs eX erm0 eNL htab C0
  subst el eD ecA ead ebs eX
  have hz := hc _ C0.2.2.2.2.2.2.2.2.2.2.2.1
  have erm : G.rm.frames = 6 ∧ G.rm.locals = 90 := by rw [erm0]; exact ⟨rfl, rfl⟩
  unfold F_X11_note at h
  obtain ⟨c_x0, h⟩ := ite_some h
  refine V_aload_n C0 0 rfl rfl dX11_note_0 ?_
  obtain ⟨a1, qa1, h⟩ := bnd_some h
  refine V_getR C0 10 2 fl_X11_26 c_x0.2 c_x0.1 rfl (rf_at qa1) dX11_note_1 ?_
  refine V_iload_n C0 1 rfl rfl dX11_note_4 ?_
  obtain ⟨b2, q3, h⟩ := bn1_some h
  refine V_callV C0 (st := []) (As := [.int x1]) 9 (c_X10_hasNote G.l G.D G.cA G.ad G.bs G.X C0.2.2.2.2.2.2.2.2.2.1 C0.2.2.2.2.2.2.2.2.2.2.2.2 a1 x1 I L R b2 q3) lc_X10_hasNote lk_X11_151 (rf_lt qa1) (rf_kd qa1) ⟨_, rfl, rfl⟩ rfl (by rw [erm.1, erm.2]; decide) (Nat.le_of_ble_eq_true rfl) dX11_note_5 ?_
  show V G _ 8 [(0, .ref (G.ad x0)), (1, .int x1), (2, .int x2)] [.int (b2i b2)] I L R
  refine V_if_eq C0 (tgt := 20) (by decide) dX11_note_8 (fun c4 => ?_) (fun c4 => ?_)
  · have h := (if_pos c4).symm.trans h
    cases h
    exact V_throwN C0 hl hz htab tk_134_154 dX11_note_20 dX11_note_23 dX11_note_24 dX11_note_26 dX11_note_29 (by rw [erm.1, erm.2]; decide) (by rw [erm0]; exact ⟨Nat.le_refl 1, Nat.le_refl 6⟩) (Nat.le_of_ble_eq_true rfl)
  · have h := (if_neg c4).symm.trans h
    refine V_iload_n C0 2 rfl rfl dX11_note_11 ?_
    refine V_if_lt C0 (tgt := 20) (by decide) dX11_note_12 (fun c5 => ?_) (fun c5 => ?_)
    · have h := (if_pos c5).symm.trans h
      cases h
      exact V_throwN C0 hl hz htab tk_134_154 dX11_note_20 dX11_note_23 dX11_note_24 dX11_note_26 dX11_note_29 (by rw [erm.1, erm.2]; decide) (by rw [erm0]; exact ⟨Nat.le_refl 1, Nat.le_refl 6⟩) (Nat.le_of_ble_eq_true rfl)
    · have h := (if_neg c5).symm.trans h
      refine V_iload_n C0 2 rfl rfl dX11_note_15 ?_
      refine V_iconst C0 (v := (2 : Int32)) (by decide) dX11_note_16 ?_
      refine V_icmp_le C0 (tgt := 30) (by decide) dX11_note_17 (fun c6 => ?_) (fun c6 => ?_)
      · have h := (if_pos c6).symm.trans h
        refine V_aload_n C0 0 rfl rfl dX11_note_30 ?_
        refine V_getR C0 10 2 fl_X11_26 c_x0.2 c_x0.1 rfl (rf_at qa1) dX11_note_31 ?_
        refine V_iload_n C0 1 rfl rfl dX11_note_34 ?_
        refine V_iload_n C0 2 rfl rfl dX11_note_35 ?_
        obtain ⟨v7, q8, h⟩ := bn1_some h
        refine V_callV C0 (st := []) (As := [.int x1, .int x2]) 9 (c_X10_noteValue G.l G.D G.cA G.ad G.bs G.X C0.2.2.2.2.2.2.2.2.2.1 C0.2.2.2.2.2.2.2.2.2.2.2.2 a1 x1 x2 I L R v7 q8) lc_X10_noteValue lk_X11_156 (rf_lt qa1) (rf_kd qa1) ⟨_, rfl, rfl⟩ rfl (by rw [erm.1, erm.2]; decide) (Nat.le_of_ble_eq_true rfl) dX11_note_36 ?_
        show V G _ 39 [(0, .ref (G.ad x0)), (1, .int x1), (2, .int x2)] [.int v7] I L R
        cases h
        refine V_retT ?_
        exact V_iret C0 dX11_note_39
      · have h := (if_neg c6).symm.trans h
        cases h
        exact V_throwN C0 hl hz htab tk_134_154 dX11_note_20 dX11_note_23 dX11_note_24 dX11_note_26 dX11_note_29 (by rw [erm.1, erm.2]; decide) (by rw [erm0]; exact ⟨Nat.le_refl 1, Nat.le_refl 6⟩) (Nat.le_of_ble_eq_true rfl)
