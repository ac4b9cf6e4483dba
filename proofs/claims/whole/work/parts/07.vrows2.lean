theorem ce_I {cA : Nat → ClassId} {ad : Nat → Nat} {I : MI} {L : ML} {R : MR} {id : Nat} (h : kd id = 20) : ce cA ad I L R id = .inl (cA 0, ln id, .inl (I id)) := by simp [ce, h]
theorem ce_L {cA : Nat → ClassId} {ad : Nat → Nat} {I : MI} {L : ML} {R : MR} {id : Nat} (h : kd id = 21) : ce cA ad I L R id = .inl (cA 1, ln id, .inr (.inl (L id))) := by simp [ce, h]
theorem ce_Z {cA : Nat → ClassId} {ad : Nat → Nat} {I : MI} {L : ML} {R : MR} {id : Nat} (h : kd id = 22) : ce cA ad I L R id = .inl (cA 2, ln id, .inl (I id)) := by simp [ce, h]
theorem ce_U {cA : Nat → ClassId} {ad : Nat → Nat} {I : MI} {L : ML} {R : MR} {id : Nat} (h : kd id = 23) : ce cA ad I L R id = .inl (cA 3, ln id, .inr (.inr (.inr (.inr (fun j => (R id j).map ad))))) := by simp [ce, h]
theorem ce_T {cA : Nat → ClassId} {ad : Nat → Nat} {I : MI} {L : ML} {R : MR} {id : Nat} (h : kd id = 24) : ce cA ad I L R id = .inl (cA 4, ln id, .inr (.inr (.inr (.inr (fun j => (R id j).map ad))))) := by simp [ce, h]
theorem upd_uI {I : MI} {o k : Nat} {x : Int32} : upd (I o) k x = uI I o k x o := by
  funext y
  by_cases h : y = k <;> simp [upd, uI, h]
theorem upd_uL {L : ML} {o k : Nat} {x : Int64} : vp_updL (L o) k x = uL L o k x o := by
  funext y
  by_cases h : y = k <;> simp [vp_updL, uL, h]
theorem V_iald {G : Gm} {f : State → Prop} {own : String} {cc : ByteArray} {rt : Option FieldType} {pc : Nat} {lv : List (Nat × Value)} {st : List Value} {I : MI} {L : ML} {R : MR} (C0 : Cx G own cc rt) {o : Nat} {i : Int32} (ho : o < NN) (hk : kd o = 20) (hin : vp_in i (ln o)) (hd : decode cc pc = .ok (.iaload, 1)) (k : V G f (pc + 1) lv (.int (I o (ix i)) :: st) I L R) : V G f pc lv (.int i :: .ref (G.ad o) :: st) I L R :=
  fun H locs ls hP hS hl => va_iald C0.1 C0.2.1 C0.2.2.2.2.2.2.2.1 hP o 0 (by rw [wl_at ho, ce_I hk]) rfl hin hd (k H locs ls hP hS hl)
theorem V_zald {G : Gm} {f : State → Prop} {own : String} {cc : ByteArray} {rt : Option FieldType} {pc : Nat} {lv : List (Nat × Value)} {st : List Value} {I : MI} {L : ML} {R : MR} (C0 : Cx G own cc rt) {o : Nat} {i : Int32} (ho : o < NN) (hk : kd o = 22) (hin : vp_in i (ln o)) (hd : decode cc pc = .ok (.baload, 1)) (k : V G f (pc + 1) lv (.int (I o (ix i)) :: st) I L R) : V G f pc lv (.int i :: .ref (G.ad o) :: st) I L R :=
  fun H locs ls hP hS hl => va_zald C0.1 C0.2.1 C0.2.2.2.2.2.2.2.1 hP o 2 (by rw [wl_at ho, ce_Z hk]) rfl hin hd (k H locs ls hP hS hl)
theorem V_lald {G : Gm} {f : State → Prop} {own : String} {cc : ByteArray} {rt : Option FieldType} {pc : Nat} {lv : List (Nat × Value)} {st : List Value} {I : MI} {L : ML} {R : MR} (C0 : Cx G own cc rt) {o : Nat} {i : Int32} (ho : o < NN) (hk : kd o = 21) (hin : vp_in i (ln o)) (hd : decode cc pc = .ok (.laload, 1)) (k : V G f (pc + 1) lv (.long (L o (ix i)) :: st) I L R) : V G f pc lv (.int i :: .ref (G.ad o) :: st) I L R :=
  fun H locs ls hP hS hl => va_lald C0.1 C0.2.1 C0.2.2.2.2.2.2.2.1 hP o 1 (by rw [wl_at ho, ce_L hk]) rfl hin hd (k H locs ls hP hS hl)
theorem V_aald {G : Gm} {f : State → Prop} {own : String} {cc : ByteArray} {rt : Option FieldType} {pc : Nat} {lv : List (Nat × Value)} {st : List Value} {I : MI} {L : ML} {R : MR} (C0 : Cx G own cc rt) {o a : Nat} {i : Int32} (ho : o < NN) (hk : kd o = 23 ∨ kd o = 24) (hin : vp_in i (ln o)) (ha : R o (ix i) = some a) (hd : decode cc pc = .ok (.aaload, 1)) (k : V G f (pc + 1) lv (.ref (G.ad a) :: st) I L R) : V G f pc lv (.int i :: .ref (G.ad o) :: st) I L R := by
  intro H locs ls hP hS hl
  have ha' : R o i.toNatClampNeg = some a := ha
  rcases hk with hk | hk
  · refine va_aldq C0.1 C0.2.1 C0.2.2.2.2.2.2.2.1 hP o 3 (by rw [wl_at ho, ce_U hk]) rfl hin hd ?_
    simp only [ha', Option.map, va_rf]
    exact k H locs ls hP hS hl
  · refine va_aldq C0.1 C0.2.1 C0.2.2.2.2.2.2.2.1 hP o 4 (by rw [wl_at ho, ce_T hk]) rfl hin hd ?_
    simp only [ha', Option.map, va_rf]
    exact k H locs ls hP hS hl
theorem V_alen {G : Gm} {f : State → Prop} {own : String} {cc : ByteArray} {rt : Option FieldType} {pc : Nat} {lv : List (Nat × Value)} {st : List Value} {I : MI} {L : ML} {R : MR} (C0 : Cx G own cc rt) {o : Nat} {v : Int32} (ho : o < NN) (hk : kd o = 20 ∨ kd o = 21 ∨ kd o = 22 ∨ kd o = 23 ∨ kd o = 24) (hv : Int32.ofNat (ln o) = v) (hd : decode cc pc = .ok (.arraylength, 1)) (k : V G f (pc + 1) lv (.int v :: st) I L R) : V G f pc lv (.ref (G.ad o) :: st) I L R := by
  intro H locs ls hP hS hl
  rcases hk with hk | hk | hk | hk | hk
  · exact va_alen C0.1 C0.2.1 C0.2.2.2.2.2.2.2.1 hP o 0 (by rw [wl_at ho, ce_I hk]) rfl hv hd (k H locs ls hP hS hl)
  · exact va_alen C0.1 C0.2.1 C0.2.2.2.2.2.2.2.1 hP o 1 (by rw [wl_at ho, ce_L hk]) rfl hv hd (k H locs ls hP hS hl)
  · exact va_alen C0.1 C0.2.1 C0.2.2.2.2.2.2.2.1 hP o 2 (by rw [wl_at ho, ce_Z hk]) rfl hv hd (k H locs ls hP hS hl)
  · exact va_alen C0.1 C0.2.1 C0.2.2.2.2.2.2.2.1 hP o 3 (by rw [wl_at ho, ce_U hk]) rfl hv hd (k H locs ls hP hS hl)
  · exact va_alen C0.1 C0.2.1 C0.2.2.2.2.2.2.2.1 hP o 4 (by rw [wl_at ho, ce_T hk]) rfl hv hd (k H locs ls hP hS hl)
theorem V_iast {G : Gm} {f : State → Prop} {own : String} {cc : ByteArray} {rt : Option FieldType} {pc : Nat} {lv : List (Nat × Value)} {st : List Value} {I : MI} {L : ML} {R : MR} (C0 : Cx G own cc rt) {o : Nat} {i x : Int32} (ho : o < NN) (hk : kd o = 20) (hin : vp_in i (ln o)) (hd : decode cc pc = .ok (.iastore, 1)) (k : V G f (pc + 1) lv st (uI I o (ix i) x) L R) : V G f pc lv (.int x :: .int i :: .ref (G.ad o) :: st) I L R := by
  intro H locs ls hP hS hl
  refine va_iast C0.1 C0.2.1 C0.2.2.2.2.2.2.2.1 hP (wl_D C0.2.2.2.2.2.2.2.2.2.1) hS o 0 (by rw [wl_at ho, ce_I hk]) rfl hin hd (fun H1 locs1 hP1 _ hS1 => ?_)
  rw [wl_set (I' := uI I o (ix i) x) (L' := L) (R' := R) (by rw [ce_I hk, ← upd_uI]; rfl) (fun j hj => ce_congr (uI_ne hj) rfl rfl)] at hP1
  exact k H1 locs1 ls hP1 hS1 hl
theorem V_zast {G : Gm} {f : State → Prop} {own : String} {cc : ByteArray} {rt : Option FieldType} {pc : Nat} {lv : List (Nat × Value)} {st : List Value} {I : MI} {L : ML} {R : MR} (C0 : Cx G own cc rt) {o : Nat} {i x : Int32} (ho : o < NN) (hk : kd o = 22) (hx01 : x = 0 ∨ x = 1) (hin : vp_in i (ln o)) (hd : decode cc pc = .ok (.bastore, 1)) (k : V G f (pc + 1) lv st (uI I o (ix i) x) L R) : V G f pc lv (.int x :: .int i :: .ref (G.ad o) :: st) I L R := by
  intro H locs ls hP hS hl
  have e : vp_nar .boolean x = x := by rcases hx01 with rfl | rfl <;> decide
  refine va_zast C0.1 C0.2.1 C0.2.2.2.2.2.2.2.1 hP (wl_D C0.2.2.2.2.2.2.2.2.2.1) hS o 2 (by rw [wl_at ho, ce_Z hk]) rfl hin hd (fun H1 locs1 hP1 _ hS1 => ?_)
  rw [e, wl_set (I' := uI I o (ix i) x) (L' := L) (R' := R) (by rw [ce_Z hk, ← upd_uI]; rfl) (fun j hj => ce_congr (uI_ne hj) rfl rfl)] at hP1
  exact k H1 locs1 ls hP1 hS1 hl
theorem V_last {G : Gm} {f : State → Prop} {own : String} {cc : ByteArray} {rt : Option FieldType} {pc : Nat} {lv : List (Nat × Value)} {st : List Value} {I : MI} {L : ML} {R : MR} (C0 : Cx G own cc rt) {o : Nat} {i : Int32} {x : Int64} (ho : o < NN) (hk : kd o = 21) (hin : vp_in i (ln o)) (hd : decode cc pc = .ok (.lastore, 1)) (k : V G f (pc + 1) lv st I (uL L o (ix i) x) R) : V G f pc lv (.long x :: .int i :: .ref (G.ad o) :: st) I L R := by
  intro H locs ls hP hS hl
  refine va_last C0.1 C0.2.1 C0.2.2.2.2.2.2.2.1 hP (wl_D C0.2.2.2.2.2.2.2.2.2.1) hS o 1 (by rw [wl_at ho, ce_L hk]) rfl hin hd (fun H1 locs1 hP1 _ hS1 => ?_)
  rw [wl_set (I' := I) (L' := uL L o (ix i) x) (R' := R) (by rw [ce_L hk, ← upd_uL]; rfl) (fun j hj => ce_congr rfl (uL_ne hj) rfl)] at hP1
  exact k H1 locs1 ls hP1 hS1 hl
theorem V_iret {G : Gm} {own : String} {cc : ByteArray} {pc : Nat} {lv : List (Nat × Value)} {I : MI} {L : ML} {R : MR} {x : Int32} (C0 : Cx G own cc (some .int)) (hd : decode cc pc = .ok (.ireturn, 1)) : V G (qf G (some (.int x), I, L, R)) pc lv [.int x] I L R :=
  fun H locs ls hP hS hl => W.iret (v := x) C0.1 C0.2.1 C0.2.2.2.1 (fun t ht hW => ⟨rfl, by rw [ht]; exact hP, hS.F ht⟩) hS.2.2 hd C0.2.2.2.2.1
theorem V_lret {G : Gm} {own : String} {cc : ByteArray} {pc : Nat} {lv : List (Nat × Value)} {I : MI} {L : ML} {R : MR} {x : Int64} (C0 : Cx G own cc (some .long)) (hd : decode cc pc = .ok (.lreturn, 1)) : V G (qf G (some (.long x), I, L, R)) pc lv [.long x] I L R :=
  fun H locs ls hP hS hl => W.lret (v := x) C0.1 C0.2.1 C0.2.2.2.1 (fun t ht hW => ⟨rfl, by rw [ht]; exact hP, hS.F ht⟩) hS.2.2 hd C0.2.2.2.2.1
theorem V_zret {G : Gm} {own : String} {cc : ByteArray} {pc : Nat} {lv : List (Nat × Value)} {I : MI} {L : ML} {R : MR} {x : Int32} (C0 : Cx G own cc (some .boolean)) (hx01 : x = 0 ∨ x = 1) (hd : decode cc pc = .ok (.ireturn, 1)) : V G (qf G (some (.int x), I, L, R)) pc lv [.int x] I L R :=
  fun H locs ls hP hS hl => W.zret (v := x) C0.1 C0.2.1 C0.2.2.2.1 (by rcases hx01 with rfl | rfl <;> decide) (fun t ht hW => ⟨rfl, by rw [ht]; exact hP, hS.F ht⟩) hS.2.2 hd C0.2.2.2.2.1
theorem V_vret {G : Gm} {own : String} {cc : ByteArray} {pc : Nat} {lv : List (Nat × Value)} {I : MI} {L : ML} {R : MR} (C0 : Cx G own cc none) (hd : decode cc pc = .ok (.return_, 1)) : V G (qf G (none, I, L, R)) pc lv [] I L R :=
  fun H locs ls hP hS hl => W.vret C0.1 C0.2.1 C0.2.2.2.1 (fun t ht hW => ⟨rfl, by rw [ht]; exact hP, hS.F ht⟩) hS.2.2 hd C0.2.2.2.2.1
theorem V_aret {G : Gm} {own : String} {cc : ByteArray} {pc : Nat} {lv : List (Nat × Value)} {I : MI} {L : ML} {R : MR} {a : Nat} {nm : String} (C0 : Cx G own cc (some (.object nm))) (hd : decode cc pc = .ok (.areturn, 1)) : V G (qf G (some (.ref (G.ad a)), I, L, R)) pc lv [.ref (G.ad a)] I L R :=
  fun H locs ls hP hS hl => W.aret (v := .ref (G.ad a)) C0.1 C0.2.1 C0.2.2.2.1 (Or.inl ⟨_, rfl⟩) (Or.inr ⟨_, rfl⟩) (fun t ht hW => ⟨rfl, by rw [ht]; exact hP, hS.F ht⟩) hS.2.2 hd C0.2.2.2.2.1
/-- behind a call: its answer and memory -/
theorem V_run {G : Gm} {f : State → Prop} {pc : Nat} {lv : List (Nat × Value)} {st : List Value} {I : MI} {L : ML} {R : MR} {rest : List Value} {g : Fin4} {As : Array Value} (hr : ∀ (H : Heap) (locs : List Loc) (ls : Array Slot), va_P G.D vwCl (wl G.cA G.ad I L R) H → va_S (Ab G.bs) G.s.heap H locs → lv_has ls G.nL lv → va_Run G.p G.l G.e G.rm G.s G.m G.args G.below G.meth G.c H locs 0 0 0 0 (F0 G.m pc ls st) rest (Qv G.D G.cA G.ad G.bs g As) (Ab G.bs)) (k : V G f (pc + 3) lv (g.1.toList ++ rest) g.2.1 g.2.2.1 g.2.2.2) : V G f pc lv st I L R := by
  intro H locs ls hP hS hl T hT X
  obtain ⟨v, st₀, t, T', L1, h0, X', hL, e1, e2, ⟨hv, hP1, hz, hk⟩, stp⟩ := hr H locs ls hP hS hl T hT X
  cases hv
  rw [h0] at hz hk
  obtain ⟨t2, a1, b1⟩ := k T'.heap (locs ++ L1) ls (by rw [e1]; exact hP1)
    ⟨Nat.le_trans hS.1 (by rw [e1]; exact hz), fun q h1 h2 => by rw [e1, hk q (Nat.lt_of_lt_of_le h1 hS.1) h2]; exact hS.2.1 q h1 h2, fun q hq => by
      rcases List.mem_append.mp hq with h | h
      · exact hS.2.2 q h
      · exact hL q h⟩ hl T' rfl X'
  exact ⟨t2, stp t2 a1, b1⟩
/-- what a call's words are -/
def LkC (y : MethodName) (bytes : ByteArray) (mL : Nat) (ret : Option FieldType) (n : Nat) : Prop := Cond.code y bytes mL ret ∈ gW ∧ Cond.initialized y.cls ∈ gW ∧ (y.cls ≠ "java/lang/invoke/MethodHandle" ∧ y.cls ≠ "java/lang/invoke/VarHandle" ∧ (parseMethodDescriptor y.desc).map (fun d => d.parameters.length) = some n)
def LkV (own : String) (index : Nat) (y : MethodName) : Prop := (Cond.methodLink own index y ∈ gW ∨ ∃ host, Cond.methodLinkNest own index y host ∈ nW) ∧ Cond.instanceMethod y ∈ gW ∧ Cond.selects y.cls y y ∈ gW
def LkS (own : String) (index : Nat) (y : MethodName) : Prop := (Cond.methodLink own index y ∈ gW ∨ ∃ host, Cond.methodLinkNest own index y host ∈ nW) ∧ Cond.static y ∈ gW
theorem gW_good {y : MethodName} {bytes : ByteArray} {mL : Nat} {ret : Option FieldType} (h : Cond.code y bytes mL ret ∈ gW) : GoodIn gW (Cond.code y bytes mL ret :: gW) := by
  intro w hw
  have hw2 : w ∈ gW := by
    rcases List.mem_cons.mp hw with rfl | h2
    · exact h
    · exact h2
  exact ⟨hw2, good_of_word (List.mem_filter.mp hw2).2⟩
theorem Pv_at {G : Gm} {own : String} {cc : ByteArray} {rt : Option FieldType} {I : MI} {L : ML} {R : MR} (C0 : Cx G own cc rt) {H : Heap} {locs : List Loc} {As : List Value} (hP : va_P G.D vwCl (wl G.cA G.ad I L R) H) (hS : va_S (Ab G.bs) G.s.heap H locs) : ∀ U : State, U.heap = H → G.s.WarmedH U.vm → Pv G.D G.cA G.ad G.bs G.X As I L R As.toArray U := by
  intro U hU hW
  obtain ⟨-, -, -, -, -, -, -, hK, hN, -, hbs, hXs, hXb⟩ := C0
  exact ⟨rfl, by rw [hU]; exact hP, va_K.moved hW.alike hK, nW_warm hW hN, by rw [hU]; exact Nat.le_trans hbs hS.1, hXb G.s U hXs hW (by rw [hU]; exact hS.1) (fun q h1 h2 => by rw [hU]; exact hS.2.1 q h1 h2)⟩
theorem V_callV {G : Gm} {f : State → Prop} {own : String} {cc : ByteArray} {rt : Option FieldType} {pc : Nat} {lv : List (Nat × Value)} {st : List Value} {I : MI} {L : ML} {R : MR} (C0 : Cx G own cc rt) {index fr lo mL n o : Nat} {y : MethodName} {bytes : ByteArray} {ret : Option FieldType} {As : List Value} {g : Fin4} (ci : Nat) (hM : Cn G.l G.D G.cA G.ad G.bs G.X y bytes mL ret fr lo (.ref (G.ad o) :: As) I L R g) (hc : LkC y bytes mL ret n) (hl0 : LkV own index y) (ho : o < NN) (hk : kd o = ci) (hq : ∃ q : vw_C, vwCl[ci]? = some q ∧ q.1 = y.cls) (hn : As.length = n) (hR : fr + 1 ≤ G.rm.frames ∧ 8 + (mL + 11) + lo ≤ G.rm.locals) (hst : (st.map fun v => v.category).sum ≤ 8) (hd : decode cc pc = .ok (.invokevirtual index, 3))
    (k : V G f (pc + 3) lv (g.1.toList ++ st) g.2.1 g.2.2.1 g.2.2.2) : V G f pc lv (As.reverse ++ .ref (G.ad o) :: st) I L R := by
  refine V_run (rest := st) (g := g) (As := (Value.ref (G.ad o) :: As).toArray) (fun H locs ls hP hS hl => ?_) k
  have hPat := Pv_at C0 (As := .ref (G.ad o) :: As) hP hS
  obtain ⟨hx, hb, hml, hrt, hlk, hown, hts, hK, hN, hAd, hbs, hXs, hXb⟩ := C0
  obtain ⟨hcd, hini, hy⟩ := hc
  obtain ⟨hl1, hin, hse⟩ := hl0
  obtain ⟨q, hq1, hq2⟩ := hq
  have hrec : ∃ cellB : Cell, H[G.ad o]? = some cellB ∧ cellB.vm.isStatics = false ∧ G.s.vm.findClass y.cls = some cellB.cls := by
    rw [← hq2]
    exact va_recv hK hP hq1 (q0 := o) (by rw [wl_at ho, ce_obj hk (vwCl_lt hq1)])
  rcases hl1 with h | ⟨host, h⟩
  · exact va_runV (Ts := gW) ⟨hx, hb, hml, hown, hts⟩ hM ⟨callB_of (Ts := gW) n hts (gW_good hcd) rfl rfl rfl (hts _ hini) (hts _ h) hy hR, hts _ hin, hts _ hse⟩ ⟨Pv_blind hXb, hrec, hPat⟩ rfl hn hl.1 rfl (lv_room hst) hd ⟨Nat.zero_le _, Nat.zero_le _⟩
  · exact va_runVN (Ts := gW) ⟨hx, hb, hml, hown, hts⟩ hM ⟨va_cnB (Ts := gW) n hts (gW_good hcd) rfl rfl rfl (hN _ h) (hts _ hini) hy hR, hts _ hin, hts _ hse⟩ ⟨Pv_blind hXb, hrec, hPat⟩ rfl hn hl.1 rfl (lv_room hst) hd ⟨Nat.zero_le _, Nat.zero_le _⟩
theorem V_callS {G : Gm} {f : State → Prop} {own : String} {cc : ByteArray} {rt : Option FieldType} {pc : Nat} {lv : List (Nat × Value)} {st : List Value} {I : MI} {L : ML} {R : MR} (C0 : Cx G own cc rt) {index fr lo mL n : Nat} {y : MethodName} {bytes : ByteArray} {ret : Option FieldType} {As : List Value} {g : Fin4} (hM : Cn G.l G.D G.cA G.ad G.bs G.X y bytes mL ret fr lo As I L R g) (hc : LkC y bytes mL ret n) (hl0 : LkS own index y) (hn : As.length = n) (hR : fr + 1 ≤ G.rm.frames ∧ 8 + (mL + 11) + lo ≤ G.rm.locals) (hst : (st.map fun v => v.category).sum ≤ 8) (hd : decode cc pc = .ok (.invokestatic index, 3))
    (k : V G f (pc + 3) lv (g.1.toList ++ st) g.2.1 g.2.2.1 g.2.2.2) : V G f pc lv (As.reverse ++ st) I L R := by
  refine V_run (rest := st) (g := g) (As := As.toArray) (fun H locs ls hP hS hl => ?_) k
  have hPat := Pv_at C0 (As := As) hP hS
  obtain ⟨hx, hb, hml, hrt, hlk, hown, hts, hK, hN, hAd, hbs, hXs, hXb⟩ := C0
  obtain ⟨hcd, hini, hy⟩ := hc
  obtain ⟨hl1, hin⟩ := hl0
  rcases hl1 with h | ⟨host, h⟩
  · exact va_runS (Ts := gW) ⟨hx, hb, hml, hown, hts⟩ hM ⟨callB_of (Ts := gW) n hts (gW_good hcd) rfl rfl rfl (hts _ hini) (hts _ h) hy hR, hts _ hin⟩ ⟨Pv_blind hXb, hPat⟩ rfl hn hl.1 rfl (lv_room hst) hd ⟨Nat.zero_le _, Nat.zero_le _⟩
  · exact va_runSN (Ts := gW) ⟨hx, hb, hml, hown, hts⟩ hM ⟨va_cnB (Ts := gW) n hts (gW_good hcd) rfl rfl rfl (hN _ h) (hts _ hini) hy hR, hts _ hin, trivial⟩ ⟨Pv_blind hXb, hPat⟩ rfl hn hl.1 rfl (lv_room hst) hd ⟨Nat.zero_le _, Nat.zero_le _⟩
