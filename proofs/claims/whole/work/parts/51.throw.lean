/-! Methods that throw: the end, the contract, the rows -/
abbrev Fz : Type := Sum Fin4 (String × MI × ML × MR)
def QcT (D : va_G) (cA : Nat → ClassId) (ad : Nat → Nat) (bs : Nat) (z : Fz) : Array Value → State → Outcome → State → Prop := fun a st oc t => ∃ f, z = .inl f ∧ Qv D cA ad bs f a st oc t
def XcT (D : va_G) (cA : Nat → ClassId) (ad : Nat → Nat) (bs : Nat) (z : Fz) : String → State → State → Prop := fun E st t => ∃ M : MI × ML × MR, z = .inr (E, M) ∧ va_P D vwCl (wl cA ad M.1 M.2.1 M.2.2) t.heap ∧ va_F (Ab bs) st t
def mcz (z : Fz) : Nat := match z with
  | .inl _ => 0
  | .inr _ => 1
def msz (z : Fz) : Nat := match z with
  | .inl _ => 0
  | .inr _ => 6
def qt (G : Gm) (z : Fz) : State → Prop := vx_MQ G.below (QcT G.D G.cA G.ad G.bs z) (XcT G.D G.cA G.ad G.bs z) G.args G.s (mcz z) (msz z) (Ab G.bs)
def zT {α : Type} (fin : α → Fin4) (I : MI) (L : ML) (R : MR) (w : Sum String α) : Fz := match w with
  | .inl E => .inr (E, I, L, R)
  | .inr r => .inl (fin r)
def CnT (l : Launch) (D : va_G) (cA : Nat → ClassId) (ad : Nat → Nat) (bs : Nat) (X : State → Prop) (y : MethodName) (cc : ByteArray) (mL : Nat) (rt : Option FieldType) (fr lo : Nat) (As : List Value) (I : MI) (L : ML) (R : MR) (z : Fz) : Prop :=
  vx_Met l y (.code y cc mL rt :: gW) ({ frames := fr, cells := mcz z, slots := msz z, locals := lo }) (Pv D cA ad bs X As I L R) (QcT D cA ad bs z) (XcT D cA ad bs z) (mcz z) (msz z) (Ab bs)
theorem CnT.ofV {l : Launch} {D : va_G} {cA : Nat → ClassId} {ad : Nat → Nat} {bs : Nat} {X : State → Prop} {y : MethodName} {cc : ByteArray} {mL : Nat} {rt : Option FieldType} {fr lo : Nat} {As : List Value} {I : MI} {L : ML} {R : MR} {z : Fz} (hAd : Ax ad bs) (hX : Stb bs X) (lv : List (Nat × Value)) (hlv : lv_args 0 As = lv) (hlen : (lg_sl As).length ≤ mL) (hy : plainName y.cls = true)
    (body : ∀ (G : Gm), G.l = l → G.D = D → G.cA = cA → G.ad = ad → G.bs = bs → G.X = X → G.rm = ({ frames := fr, cells := mcz z, slots := msz z, locals := lo } : Room) → G.nL = mL → (∀ x ∈ G.c.exceptionTable.toList, False) → Cx G y.cls cc rt → V G (qt G z) 0 lv [] I L R) : CnT l D cA ad bs X y cc mL rt fr lo As I L R z := by
  refine vx_ofW (cc := cc) (maxL := mL) (ret := rt) hy rfl ?_
  intro p e s m args below meth c s₁ B hml htab hv
  obtain ⟨rfl, hP, hK, hN, hbs, hXs⟩ := hv
  have hl := lv_entry As (n := mL) hlen
  rw [lg_entry_eq]
  rw [hlv] at hl
  have C0 : Cx (p, l, e, (headSpec (Cond.code y cc mL rt :: gW) { frames := fr, cells := mcz z, slots := msz z, locals := lo }).room, s, m, As.toArray, below, meth, c, D, cA, ad, bs, X, mL) y.cls cc rt :=
    ⟨B.exec, B.bytes, hml, B.returns, B.notSynchronized, findClass_of_methodNamed B.named, fun w hw => atoms_spec (ws := Cond.code y cc mL rt :: gW) B.pre w (List.mem_cons_of_mem _ hw), hK, hN, hAd, hbs, hXs, hX⟩
  exact body (p, l, e, (headSpec (Cond.code y cc mL rt :: gW) { frames := fr, cells := mcz z, slots := msz z, locals := lo }).room, s, m, As.toArray, below, meth, c, D, cA, ad, bs, X, mL) rfl rfl rfl rfl rfl rfl rfl rfl htab C0 s.heap [] _ hP va_S.rf hl
theorem V_retT {G : Gm} {f : Fin4} {pc : Nat} {lv : List (Nat × Value)} {st : List Value} {I : MI} {L : ML} {R : MR} (k : V G (qf G f) pc lv st I L R) : V G (qt G (.inl f)) pc lv st I L R := by
  intro H locs ls hP hS hl T hT X
  obtain ⟨t, a1, o, b1, b2, b3, L1, b4, b5⟩ := k H locs ls hP hS hl T hT X
  exact ⟨t, a1, o, b1, b2, Or.inl ⟨⟨f, rfl, b3⟩, L1, b4, b5⟩⟩
/-- a call that may throw, and comes back -/
theorem V_callT {G : Gm} {f : State → Prop} {own : String} {cc : ByteArray} {rt : Option FieldType} {pc : Nat} {lv : List (Nat × Value)} {st : List Value} {I : MI} {L : ML} {R : MR} (C0 : Cx G own cc rt) {index fr lo mL n o : Nat} {y : MethodName} {bytes : ByteArray} {ret : Option FieldType} {As : List Value} {z : Fz} {g : Fin4} (ci : Nat) (hM : CnT G.l G.D G.cA G.ad G.bs G.X y bytes mL ret fr lo (.ref (G.ad o) :: As) I L R z) (hz : z = .inl g) (hc : LkC y bytes mL ret n) (hl0 : Cond.methodLink own index y ∈ gW ∧ Cond.instanceMethod y ∈ gW ∧ Cond.selects y.cls y y ∈ gW) (ho : o < NN) (hk : kd o = ci) (hq : ∃ q : vw_C, vwCl[ci]? = some q ∧ q.1 = y.cls) (hn : As.length = n) (hR : fr + 1 ≤ G.rm.frames ∧ 8 + (mL + 11) + lo ≤ G.rm.locals) (hst : (st.map fun v => v.category).sum ≤ 8) (hd : decode cc pc = .ok (.invokevirtual index, 3))
    (k : V G f (pc + 3) lv (g.1.toList ++ st) g.2.1 g.2.2.1 g.2.2.2) : V G f pc lv (As.reverse ++ .ref (G.ad o) :: st) I L R := by
  subst hz
  intro H locs ls hP hS hl T hT X
  have hPat := Pv_at C0 (As := .ref (G.ad o) :: As) hP hS
  obtain ⟨hx, hb, hml, hrt, hlk, hown, hts, hK, hN, hAd, hbs, hXs, hXb⟩ := C0
  obtain ⟨hcd, hini, hy⟩ := hc
  obtain ⟨h, hin, hse⟩ := hl0
  obtain ⟨q, hq1, hq2⟩ := hq
  have hrec : ∃ cellB : Cell, H[G.ad o]? = some cellB ∧ cellB.vm.isStatics = false ∧ G.s.vm.findClass y.cls = some cellB.cls := by
    rw [← hq2]
    exact va_recv hK hP hq1 (q0 := o) (by rw [wl_at ho, ce_obj hk (vwCl_lt hq1)])
  have hr := vx_runV (Ts := gW) (locs := locs) (cells := 0) (slots := 0) (below := G.below) (e := G.e) (meth := G.meth) (g := F0 G.m pc ls (As.reverse ++ .ref (G.ad o) :: st)) (rest := st) ⟨hx, hb, hml, hown, hts⟩ hM ⟨callB_of (Ts := gW) n hts (gW_good hcd) rfl rfl rfl (hts _ hini) (hts _ h) hy hR, hts _ hin, hts _ hse⟩ ⟨Pv_blind hXb, hrec, hPat⟩ rfl hn hl.1 rfl (lv_room hst) hd ⟨Nat.zero_le _, Nat.zero_le _⟩
  rcases hr T hT X with ⟨v, st₀, t, T', L1, h0, X', hL, e1, e2, ⟨f1, hf1, hv, hP1, hz, hkk⟩, stp⟩ | ⟨q9, st₀, t, T', L1, E, ce9, h0, X', hL, e1, e2, ⟨M, hM9, -⟩, -⟩
  · cases hf1
    cases hv
    rw [h0] at hz hkk
    obtain ⟨t2, a1, b1⟩ := k T'.heap (locs ++ L1) ls (by rw [e1]; exact hP1)
      ⟨Nat.le_trans hS.1 (by rw [e1]; exact hz), fun q h1 h2 => by rw [e1, hkk q (Nat.lt_of_lt_of_le h1 hS.1) h2]; exact hS.2.1 q h1 h2, fun q hq => by
        rcases List.mem_append.mp hq with h | h
        · exact hS.2.2 q h
        · exact hL q h⟩ hl T' rfl X'
    exact ⟨t2, stp t2 a1, b1⟩
  · cases hM9
/-- a call that throws: it goes on to the caller -/
theorem V_callX {G : Gm} {own : String} {cc : ByteArray} {rt : Option FieldType} {pc : Nat} {lv : List (Nat × Value)} {st : List Value} {I : MI} {L : ML} {R : MR} (C0 : Cx G own cc rt) (htab : ∀ x ∈ G.c.exceptionTable.toList, False) {index fr lo mL n o : Nat} {y : MethodName} {bytes : ByteArray} {ret : Option FieldType} {As : List Value} {z : Fz} {g : String × MI × ML × MR} (ci : Nat) (hM : CnT G.l G.D G.cA G.ad G.bs G.X y bytes mL ret fr lo (.ref (G.ad o) :: As) I L R z) (hz : z = .inr g) (hc : LkC y bytes mL ret n) (hl0 : Cond.methodLink own index y ∈ gW ∧ Cond.instanceMethod y ∈ gW ∧ Cond.selects y.cls y y ∈ gW) (ho : o < NN) (hk : kd o = ci) (hq : ∃ q : vw_C, vwCl[ci]? = some q ∧ q.1 = y.cls) (hn : As.length = n) (hR : fr + 1 ≤ G.rm.frames ∧ 8 + (mL + 11) + lo ≤ G.rm.locals) (hRc : 1 ≤ G.rm.cells ∧ 6 ≤ G.rm.slots) (hst : (st.map fun v => v.category).sum ≤ 8) (hd : decode cc pc = .ok (.invokevirtual index, 3)) : V G (qt G (.inr g)) pc lv (As.reverse ++ .ref (G.ad o) :: st) I L R := by
  subst hz
  intro H locs ls hP hS hl T hT X
  have hPat := Pv_at C0 (As := .ref (G.ad o) :: As) hP hS
  obtain ⟨hx, hb, hml, hrt, hlk, hown, hts, hK, hN, hAd, hbs, hXs, hXb⟩ := C0
  obtain ⟨hcd, hini, hy⟩ := hc
  obtain ⟨h, hin, hse⟩ := hl0
  obtain ⟨q, hq1, hq2⟩ := hq
  have hrec : ∃ cellB : Cell, H[G.ad o]? = some cellB ∧ cellB.vm.isStatics = false ∧ G.s.vm.findClass y.cls = some cellB.cls := by
    rw [← hq2]
    exact va_recv hK hP hq1 (q0 := o) (by rw [wl_at ho, ce_obj hk (vwCl_lt hq1)])
  have hr := vx_runV (Ts := gW) (locs := locs) (cells := 0) (slots := 0) (below := G.below) (e := G.e) (meth := G.meth) (g := F0 G.m pc ls (As.reverse ++ .ref (G.ad o) :: st)) (rest := st) ⟨hx, hb, hml, hown, hts⟩ hM ⟨callB_of (Ts := gW) n hts (gW_good hcd) rfl rfl rfl (hts _ hini) (hts _ h) hy hR, hts _ hin, hts _ hse⟩ ⟨Pv_blind hXb, hrec, hPat⟩ rfl hn hl.1 rfl (lv_room hst) hd ⟨by show 0 + 1 ≤ _; omega, by show 0 + 6 ≤ _; omega⟩
  rcases hr T hT X with ⟨v, st₀, t, T', L1, h0, X', hL, e1, e2, ⟨f1, hf1, -⟩, -⟩ | ⟨q9, st₀, t, T', L1, E, ce9, h0, X', hL, e1, e2, ⟨M, hM9, hP1, hz, hkk⟩, hc1, hc2, hc3, stp⟩
  · cases hf1
  · cases hM9
    rw [h0] at hz hkk
    have hS1 : va_S (Ab G.bs) G.s.heap T'.heap (locs ++ L1) := ⟨Nat.le_trans hS.1 (by rw [e1]; exact hz), fun q h1 h2 => by rw [e1, hkk q (Nat.lt_of_lt_of_le h1 hS.1) h2]; exact hS.2.1 q h1 h2, fun q hq => by
        rcases List.mem_append.mp hq with h | h
        · exact hS.2.2 q h
        · exact hL q h⟩
    have ko := vx_out (p := G.p) (l := G.l) (e := G.e) (R := G.rm) (s := G.s) (m := G.m) (args := G.args) (below := G.below) (meth := G.meth) (c := G.c) (H := T'.heap) (locs := locs ++ L1) (cells := 0 + 1) (slots := 0 + 6) (mc := 1) (ms := 6) (free := Ab G.bs) (Qc := QcT G.D G.cA G.ad G.bs (.inr (E, M))) (XC := XcT G.D G.cA G.ad G.bs (.inr (E, M))) (pc := pc) (ls := ls) (rest := st) (E := E) (ce := ce9) (q := q9)
      (fun x hx => absurd hx (fun h => htab x h)) hlk (by rw [e1]; exact hc1) hc2 hc3 (fun t ht hA => ⟨M, rfl, by rw [ht, e1]; exact hP1, hS1.F ht⟩) (fun z hz => hS1.2.2 z hz) (Nat.le_refl _) (Nat.le_refl _)
    obtain ⟨t2, a1, b1⟩ := ko T' rfl X'
    exact ⟨t2, stp.trans a1, b1⟩
/-- what a throw needs of the statics, and the texts that are thrown -/
def mRf : List (String × Nat × String) := [("SmallCraft", 60, "no such length"), ("SmallCraft", 102, "no units"), ("SmallCraft", 105, "no such number of ticks"), ("SmallCraft", 117, "no such act"), ("SmallCraft", 241, "no such unit"), ("SmallCraft", 136, "no such part"), ("SmallCraft", 146, "no such question"), ("SmallCraft", 154, "no such note"), ("SmallCraft", 165, "no such letter"), ("SmallCraft", 179, "no recorder")]
def isE (w : Cond) : Bool := match w with
  | .declares _ => true
  | .castable .. => true
  | _ => false
def eW : List Cond := lw_tbl.filter isE
theorem eW_tab {w : Cond} (hw : w ∈ eW) : w.onTables = true := by
  have h1 : isE w = true := (List.mem_filter.mp hw).2
  cases w <;> first | rfl | (simp [isE] at h1)
def SXc (bs : Nat) (U : State) : Prop := (∀ w ∈ eW, va_Nw w U) ∧ vx_Zq Bundle.tN "UNASSIGNED_STACK" Bundle.steD (Ab bs) U U.heap ∧ vx_Zq Bundle.tN "SUPPRESSED_SENTINEL" Bundle.listD (Ab bs) U U.heap ∧ ∀ q ∈ mRf, ∃ a, vk_R q.1 q.2.1 q.2.2 a U
def Ssc (bs : Nat) (X : State → Prop) : Prop := ∀ U, X U → SXc bs U
def nmE : List String := ["java/lang/RuntimeException", "java/lang/Exception"]
def Tk (own : String) (ik is ic : Nat) (cls text : String) : Prop := Bundle.fit cls = true ∧ Cond.classLink own ik cls ∈ gW ∧ Cond.initialized cls ∈ gW ∧ (∀ w ∈ vx_atS own ic cls nmE, w ∈ gW ∨ w ∈ eW) ∧ (own, is, text) ∈ mRf
theorem tk_in {ws : List Cond} (h : ws.all (fun w => decide (w ∈ lw_tbl) && (goodWord w || isE w)) = true) : ∀ w ∈ ws, w ∈ gW ∨ w ∈ eW := by
  intro w hw
  have h1 := List.all_eq_true.mp h w hw
  simp only [Bool.and_eq_true, decide_eq_true_eq, Bool.or_eq_true] at h1
  rcases h1.2 with h2 | h2
  · exact Or.inl (gW_in w h1.1 h2)
  · exact Or.inr (List.mem_filter.mpr ⟨h1.1, h2⟩)
theorem V_throw {G : Gm} {own cls text : String} {cc : ByteArray} {rt : Option FieldType} {pc : Nat} {lv : List (Nat × Value)} {st : List Value} {I : MI} {L : ML} {R : MR} (C0 : Cx G own cc rt) (hl0 : G.l.stackTraces = false) (hz : SXc G.bs G.s) (htab : ∀ x ∈ G.c.exceptionTable.toList, False) {ik is ic : Nat} (tk : Tk own ik is ic cls text)
    (d0 : decode cc pc = .ok (.new ik, 3)) (d3 : decode cc (pc + 3) = .ok (.dup, 1)) (d4 : decode cc (pc + 4) = .ok (.ldc is, 2)) (d6 : decode cc (pc + 6) = .ok (.invokespecial ic, 3)) (d9 : decode cc (pc + 9) = .ok (.athrow, 1))
    (hR : 6 ≤ G.rm.frames ∧ 90 ≤ G.rm.locals) (hRc : 1 ≤ G.rm.cells ∧ 6 ≤ G.rm.slots) (hst : (st.map fun v => v.category).sum ≤ 8) : V G (qt G (.inr (cls, I, L, R))) pc lv st I L R := by
  intro H locs ls hP hS hl
  obtain ⟨hx, hb, hml, hrt, hlk, hown, hts, hK, hN, hAd, hbs, hXs, hXb⟩ := C0
  obtain ⟨t1, t2, t3, t4, t5⟩ := tk
  obtain ⟨sa, hsa⟩ := hz.2.2.2 _ t5
  refine vx_throwS (names := nmE) (A := Ab G.bs) (mc := 1) (ms := 6) hx hb hl0 hown t1 (by decide +kernel) (hts _ t2) (hts _ t3) hsa (fun w hw => (t4 w hw).elim (fun q => hts _ q) (fun q => va_Nw.use (eW_tab q) (hz.1 w q))) ?_ hz.2.1 hz.2.2.1 hS (hl.1.trans hml.symm) d0 d3 d4 d6 d9 (fun x h => absurd h (fun q => htab x q)) (by show 2 + 3 < _; omega) (by show _ + (13 * (2 + 1) + 43) ≤ _; omega) (by omega) (by omega) hlk ?_ hS.2.2 (Nat.le_refl _) (Nat.le_refl _)
  · intro w hw
    have hg : w ∈ gW ∨ w ∈ eW := by
      rcases List.mem_cons.mp hw with rfl | hw
      · exact Or.inl t2
      · rcases List.mem_cons.mp hw with rfl | hw
        · exact Or.inl t3
        · exact t4 w hw
    unfold vx_ot
    rcases hg with hg | hg
    · rw [(List.mem_filter.mp hg).2, Bool.or_true]
    · rw [eW_tab hg, Bool.true_or]
  · intro t hA hsz hsame
    refine ⟨(I, L, R), rfl, fun k q hk => ?_, Nat.le_trans hS.1 hsz, fun q h1 h2 => ?_⟩
    · exact (hP k q hk).kept (hsame _ (hP k q hk).lt)
    · rw [hsame q (Nat.lt_of_lt_of_le h1 hS.1)]
      exact hS.2.1 q h1 h2
theorem tk_58_60 : Tk RX11 58 60 62 "java/lang/IllegalArgumentException" "no such length" := ⟨by decide +kernel, gW_in _ (tb_3 _ (List.mem_of_getElem? (i := 48) rfl)) rfl, gW_in _ (tb_1 _ (List.mem_of_getElem? (i := 16) rfl)) rfl, tk_in (by decide +kernel), by decide⟩
theorem tk_58_105 : Tk RX11 58 105 62 "java/lang/IllegalArgumentException" "no such number of ticks" := ⟨by decide +kernel, gW_in _ (tb_3 _ (List.mem_of_getElem? (i := 48) rfl)) rfl, gW_in _ (tb_1 _ (List.mem_of_getElem? (i := 16) rfl)) rfl, tk_in (by decide +kernel), by decide⟩
theorem tk_58_117 : Tk RX11 58 117 62 "java/lang/IllegalArgumentException" "no such act" := ⟨by decide +kernel, gW_in _ (tb_3 _ (List.mem_of_getElem? (i := 48) rfl)) rfl, gW_in _ (tb_1 _ (List.mem_of_getElem? (i := 16) rfl)) rfl, tk_in (by decide +kernel), by decide⟩
theorem tk_58_179 : Tk RX11 58 179 62 "java/lang/IllegalArgumentException" "no recorder" := ⟨by decide +kernel, gW_in _ (tb_3 _ (List.mem_of_getElem? (i := 48) rfl)) rfl, gW_in _ (tb_1 _ (List.mem_of_getElem? (i := 16) rfl)) rfl, tk_in (by decide +kernel), by decide⟩
theorem tk_100_102 : Tk RX11 100 102 104 "java/lang/IllegalStateException" "no units" := ⟨by decide +kernel, gW_in _ (tb_5 _ (List.mem_of_getElem? (i := 109) rfl)) rfl, gW_in _ (tb_1 _ (List.mem_of_getElem? (i := 24) rfl)) rfl, tk_in (by decide +kernel), by decide⟩
theorem tk_163_165 : Tk RX11 163 165 167 "java/lang/IndexOutOfBoundsException" "no such letter" := ⟨by decide +kernel, gW_in _ (tb_6 _ (List.mem_of_getElem? (i := 205) rfl)) rfl, gW_in _ (tb_1 _ (List.mem_of_getElem? (i := 25) rfl)) rfl, tk_in (by decide +kernel), by decide⟩
theorem tk_163_241 : Tk RX11 163 241 167 "java/lang/IndexOutOfBoundsException" "no such unit" := ⟨by decide +kernel, gW_in _ (tb_6 _ (List.mem_of_getElem? (i := 205) rfl)) rfl, gW_in _ (tb_1 _ (List.mem_of_getElem? (i := 25) rfl)) rfl, tk_in (by decide +kernel), by decide⟩
