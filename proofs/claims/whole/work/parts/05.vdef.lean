/-! The judgement V: the machine at a frame, over abstract memory. Gm bundles all that a walk carries. -/
abbrev Gm : Type := Program × Launch × Env × Room × State × MethodId × Array Value × List Frame × Method × Code × va_G × (Nat → ClassId) × (Nat → Nat) × Nat × (State → Prop) × Nat
abbrev Gm.p (G : Gm) : Program := G.1
abbrev Gm.l (G : Gm) : Launch := G.2.1
abbrev Gm.e (G : Gm) : Env := G.2.2.1
abbrev Gm.rm (G : Gm) : Room := G.2.2.2.1
abbrev Gm.s (G : Gm) : State := G.2.2.2.2.1
abbrev Gm.m (G : Gm) : MethodId := G.2.2.2.2.2.1
abbrev Gm.args (G : Gm) : Array Value := G.2.2.2.2.2.2.1
abbrev Gm.below (G : Gm) : List Frame := G.2.2.2.2.2.2.2.1
abbrev Gm.meth (G : Gm) : Method := G.2.2.2.2.2.2.2.2.1
abbrev Gm.c (G : Gm) : Code := G.2.2.2.2.2.2.2.2.2.1
abbrev Gm.D (G : Gm) : va_G := G.2.2.2.2.2.2.2.2.2.2.1
abbrev Gm.cA (G : Gm) : Nat → ClassId := G.2.2.2.2.2.2.2.2.2.2.2.1
abbrev Gm.ad (G : Gm) : Nat → Nat := G.2.2.2.2.2.2.2.2.2.2.2.2.1
abbrev Gm.bs (G : Gm) : Nat := G.2.2.2.2.2.2.2.2.2.2.2.2.2.1
abbrev Gm.X (G : Gm) : State → Prop := G.2.2.2.2.2.2.2.2.2.2.2.2.2.2.1
abbrev Gm.nL (G : Gm) : Nat := G.2.2.2.2.2.2.2.2.2.2.2.2.2.2.2
/-- what an answer is: the value, and the three memories behind it -/
abbrev Fin4 : Type := Option Value × MI × ML × MR
/-- a fact of the tables and of the cells that lie below bs stays -/
def Stb (bs : Nat) (X : State → Prop) : Prop := ∀ U U' : State, X U → U.WarmedH U'.vm → U.heap.size ≤ U'.heap.size → (∀ q : Nat, q < U.heap.size → ¬ Ab bs q → U'.heap[q]? = U.heap[q]?) → X U'
def Qv (D : va_G) (cA : Nat → ClassId) (ad : Nat → Nat) (bs : Nat) (f : Fin4) : Array Value → State → Outcome → State → Prop := fun _ st oc t =>
  oc = .returned f.1 ∧ va_P D vwCl (wl cA ad f.2.1 f.2.2.1 f.2.2.2) t.heap ∧ va_F (Ab bs) st t
def Pv (D : va_G) (cA : Nat → ClassId) (ad : Nat → Nat) (bs : Nat) (X : State → Prop) (As : List Value) (I : MI) (L : ML) (R : MR) : Array Value → State → Prop := fun v U =>
  v = As.toArray ∧ va_P D vwCl (wl cA ad I L R) U.heap ∧ va_K D vwCl (tyA cA) U ∧ (∀ w ∈ nW, va_Nw w U) ∧ bs ≤ U.heap.size ∧ X U
/-- a method's contract: called with As over this memory it comes back with f -/
def Cn (l : Launch) (D : va_G) (cA : Nat → ClassId) (ad : Nat → Nat) (bs : Nat) (X : State → Prop) (y : MethodName) (cc : ByteArray) (mL : Nat) (rt : Option FieldType) (fr lo : Nat) (As : List Value) (I : MI) (L : ML) (R : MR) (f : Fin4) : Prop :=
  Met l y (.code y cc mL rt :: gW) ({ frames := fr, cells := 0, slots := 0, locals := lo }) (Pv D cA ad bs X As I L R) (Qv D cA ad bs f) 0 0 (Ab bs)
/-- the facts that a walk carries -/
def Cx (G : Gm) (own : String) (cc : ByteArray) (rt : Option FieldType) : Prop :=
  G.p.tables.exec = Jvm.exec ∧ G.c.code = cc ∧ G.c.maxLocals = G.nL ∧ G.meth.sig.returnType = rt ∧ G.meth.locks = false ∧ G.s.vm.findClass own = some G.m.cls ∧ (∀ w ∈ gW, w.before G.args G.s = true) ∧
  va_K G.D vwCl (tyA G.cA) G.s ∧ (∀ w ∈ nW, va_Nw w G.s) ∧ Ax G.ad G.bs ∧ G.bs ≤ G.s.heap.size ∧ G.X G.s ∧ Stb G.bs G.X
/-- what is owed at the end of a method that comes back with f -/
def qf (G : Gm) (f : Fin4) : State → Prop := MQ G.below (Qv G.D G.cA G.ad G.bs f) G.args G.s 0 0 (Ab G.bs)
/-- from here the method comes to its end, with f -/
def V (G : Gm) (f : State → Prop) (pc : Nat) (lv : List (Nat × Value)) (st : List Value) (I : MI) (L : ML) (R : MR) : Prop :=
  ∀ (H : Heap) (locs : List Loc) (ls : Array Slot), va_P G.D vwCl (wl G.cA G.ad I L R) H → va_S (Ab G.bs) G.s.heap H locs → lv_has ls G.nL lv →
    W G.p G.l G.e G.rm G.s G.m G.args G.below G.meth G.c H locs 0 0 f (F0 G.m pc ls st)
theorem nW_same {u U : State} (h : u.vm = U.vm) (hn : ∀ w ∈ nW, va_Nw w u) : ∀ w ∈ nW, va_Nw w U := by
  intro w hw
  have h0 := hn w hw
  have h1 : isN w = true := (List.mem_filter.mp hw).2
  cases w <;> first | exact va_Nw.same rfl h h0 | (simp [isN] at h1)
theorem Pv_blind {D : va_G} {cA : Nat → ClassId} {ad : Nat → Nat} {bs : Nat} {X : State → Prop} {As : List Value} {I : MI} {L : ML} {R : MR} (hX : Stb bs X) : FrameBlind (Pv D cA ad bs X As I L R) := by
  intro a U g mk h
  obtain ⟨h1, h2, h3, h4, h5, h6⟩ := h
  exact ⟨h1, h2, va_K.moved (u := U) (U := U.calling g mk a) (Vm.Alike.refl U.vm) h3, nW_same (u := U) (U := U.calling g mk a) rfl h4, h5, hX U _ h6 (State.WarmedH.refl U) (Nat.le_refl _) (fun _ _ _ => rfl)⟩
theorem nW_warm {s U : State} (hW : s.WarmedH U.vm) (h : ∀ w ∈ nW, va_Nw w s) : ∀ w ∈ nW, va_Nw w U := by
  intro w hw
  have h0 := h w hw
  have h1 : isN w = true := (List.mem_filter.mp hw).2
  cases w <;> first | exact va_Nw.warmF hW h0 | exact va_Nw.warmM hW h0 | (simp [isN] at h1)
theorem Met.ofWF {l : Launch} {y : MethodName} {ws ws' : List Cond} {rm : Room} {Pc : Array Value → State → Prop} {Qc : Array Value → State → Outcome → State → Prop} {mc ms : Nat} {free : Addr → Prop} {cc : ByteArray} {maxL : Nat} {ret : Option FieldType}
    (hy : plainFor y = true) (hw : ws = Cond.code y cc maxL ret :: ws')
    (body : ∀ p e s m args below meth c s₁, BodyLoose p l y (headSpec ws rm) cc maxL ret e s m args below meth c s₁ → c.maxLocals = maxL → Pc args s →
      W p l e (headSpec ws rm).room s m args below meth c s.heap [] 0 0 (MQ below Qc args s mc ms free) (entryFrame m args maxL)) : Met l y ws rm Pc Qc mc ms free := by
  refine MetFree.of_bodySF (code := cc) (maxLocals := maxL) (ret := ret) hy ?_ ?_
  · intro args s m h hn
    obtain ⟨meth, c, h1, h2, h3, h4, h5, h6, -, -⟩ := Cond.code_spec hn (atoms_spec (ws := ws) h _ (by rw [hw]; exact List.mem_cons_self))
    exact ⟨meth, c, h1, h2, h3, h4, h5, h6⟩
  · intro p e s m args below meth c s₁ B hml hP _
    have hh0 : s₁.heap = s.heap := by rw [B.state]; rfl
    obtain ⟨t, a1, o, b1, b2, b3⟩ := body p e s m args below meth c s₁ B hml hP s₁ hh0 (Stand.of_body B)
    exact ⟨t, o, a1, b1, b2, ⟨b3.1, b3.2⟩⟩
theorem Cn.ofV {l : Launch} {D : va_G} {cA : Nat → ClassId} {ad : Nat → Nat} {bs : Nat} {X : State → Prop} {y : MethodName} {cc : ByteArray} {mL : Nat} {rt : Option FieldType} {fr lo : Nat} {As : List Value} {I : MI} {L : ML} {R : MR} {f : Fin4} (hAd : Ax ad bs) (hX : Stb bs X) (lv : List (Nat × Value)) (hlv : lv_args 0 As = lv) (hlen : (lg_sl As).length ≤ mL) (hy : plainFor y = true)
    (body : ∀ (G : Gm), G.l = l → G.D = D → G.cA = cA → G.ad = ad → G.bs = bs → G.X = X → G.rm = ({ frames := fr, cells := 0, slots := 0, locals := lo } : Room) → G.nL = mL → Cx G y.cls cc rt → V G (qf G f) 0 lv [] I L R) : Cn l D cA ad bs X y cc mL rt fr lo As I L R f := by
  refine Met.ofWF (cc := cc) (maxL := mL) (ret := rt) hy rfl ?_
  intro p e s m args below meth c s₁ B hml hv
  obtain ⟨rfl, hP, hK, hN, hbs, hXs⟩ := hv
  have hl := lv_entry As (n := mL) hlen
  rw [lg_entry_eq]
  rw [hlv] at hl
  have C0 : Cx (p, l, e, (headSpec (Cond.code y cc mL rt :: gW) { frames := fr, cells := 0, slots := 0, locals := lo }).room, s, m, As.toArray, below, meth, c, D, cA, ad, bs, X, mL) y.cls cc rt :=
    ⟨B.exec, B.bytes, hml, B.returns, B.notSynchronized, findClass_of_methodNamed B.named, fun w hw => atoms_spec (ws := Cond.code y cc mL rt :: gW) B.pre w (List.mem_cons_of_mem _ hw), hK, hN, hAd, hbs, hXs, hX⟩
  exact body (p, l, e, (headSpec (Cond.code y cc mL rt :: gW) { frames := fr, cells := 0, slots := 0, locals := lo }).room, s, m, As.toArray, below, meth, c, D, cA, ad, bs, X, mL) rfl rfl rfl rfl rfl rfl rfl rfl C0 s.heap [] _ hP va_S.rf hl
/-- fewer locals, in another order -/
theorem V_sub {G : Gm} {f : State → Prop} {pc : Nat} {lv lv' : List (Nat × Value)} {st : List Value} {I : MI} {L : ML} {R : MR} (ks : List Nat) (hk : lv_pick lv ks = lv') (k : V G f pc lv' st I L R) : V G f pc lv st I L R :=
  fun H locs ls hP hS hl => k H locs ls hP hS (lv_sub hl ks hk)
