/-! The growing world: what the constructors make. k cells stand at bs, bs + 1, ..; E says what each holds. -/
def upE (E : Nat → va_E) (p : Nat) (x : va_E) : Nat → va_E := fun j => if j = p then x else E j
def wk (bs k : Nat) (E : Nat → va_E) : va_W := (List.range k).map (fun j => (bs + j, E j))
theorem wk_at {bs k : Nat} {E : Nat → va_E} {j : Nat} (h : j < k) : (wk bs k E)[j]? = some (bs + j, E j) := by
  simp [wk, List.getElem?_map, List.getElem?_range h]
theorem wk_D (bs k : Nat) (E : Nat → va_E) : va_D (Ab bs) (wk bs k E) := by
  have key : ∀ (i : Nat) (q : Nat × va_E), (wk bs k E)[i]? = some q → i < k ∧ q.1 = bs + i := by
    intro i q hq
    by_cases hk : i < k
    · rw [wk_at hk] at hq
      cases hq
      exact ⟨hk, rfl⟩
    · simp [wk, List.getElem?_map, List.getElem?_range, hk] at hq
  refine ⟨fun i j p q hi hj e => ?_, fun i q hi => ?_⟩
  · obtain ⟨a1, a2⟩ := key i p hi
    obtain ⟨b1, b2⟩ := key j q hj
    omega
  · obtain ⟨a1, a2⟩ := key i q hi
    rw [a2]
    exact Nat.le_add_right _ _
theorem wk_set {bs k : Nat} {E : Nat → va_E} {p : Nat} {x : va_E} : (wk bs k E).set p (bs + p, x) = wk bs k (upE E p x) := by
  apply List.ext_getElem?
  intro j
  by_cases hj : j < k
  · rw [wk_at hj, List.getElem?_set]
    by_cases e : p = j
    · subst e
      simp [wk, hj, upE]
    · rw [if_neg e, wk_at hj]
      simp [upE, Ne.symm e]
  · rw [List.getElem?_eq_none (by simp [wk]; omega), List.getElem?_eq_none (by simp [wk]; omega)]
theorem wk_push {D : va_G} {cl : List vw_C} {bs k : Nat} {E : Nat → va_E} {x : va_E} {H H1 : Heap} (hP : va_P D cl (wk bs k E) H) (ho : ∀ q, q < H.size → H1[q]? = H[q]?) (hx : va_at D cl (bs + k, x) H1) : va_P D cl (wk bs (k + 1) (upE E k x)) H1 := by
  intro j q hq
  by_cases hj : j < k + 1
  · rw [wk_at hj] at hq
    cases hq
    by_cases e : j = k
    · subst e
      simpa [upE] using hx
    · have h1 := hP j _ (wk_at (by omega))
      simp only [upE, if_neg e]
      exact h1.kept (ho _ h1.lt)
  · rw [List.getElem?_eq_none (by simp [wk]; omega)] at hq
    cases hq
def VK (G : Gm) (f : State → Prop) (k c9 s9 : Nat) (pc : Nat) (lv : List (Nat × Value)) (st : List Value) (E : Nat → va_E) : Prop :=
  ∀ (H : Heap) (locs : List Loc) (ls : Array Slot), va_P G.D vwCl (wk G.bs k E) H → va_S (Ab G.bs) G.s.heap H locs → H.size = G.bs + k → lv_has ls G.nL lv →
    W G.p G.l G.e G.rm G.s G.m G.args G.below G.meth G.c H locs c9 s9 f (F0 G.m pc ls st)
/-- no more cells than were made -/
theorem VK.re {G : Gm} {f : State → Prop} {k9 c9 s9 pc : Nat} {lv : List (Nat × Value)} {st : List Value} {E : Nat → va_E} {p : Nat} (h : VK G f k9 c9 s9 pc lv st E) (hcz : G.s.heap.size + c9 = G.bs + k9) (hp : p < k9) : ∀ (H : Heap) (locs : List Loc) (ls : Array Slot), va_P G.D vwCl (wk G.bs k9 E) H → va_S (Ab G.bs) G.s.heap H locs → lv_has ls G.nL lv →
    W G.p G.l G.e G.rm G.s G.m G.args G.below G.meth G.c H locs c9 s9 f (F0 G.m pc ls st) := by
  intro H locs ls hP hS hl T hT X
  have h1 := X.heapSize
  have h2 : G.bs + (k9 - 1) < H.size := (hP (k9 - 1) _ (wk_at (by omega))).lt
  rw [hT] at h1
  exact h H locs ls hP hS (by omega) hl T hT X
theorem VK_iconst {G : Gm} {f : State → Prop} {own : String} {cc : ByteArray} {rt : Option FieldType} {pc : Nat} {lv : List (Nat × Value)} {st : List Value} {k9 c9 s9 : Nat} {E : Nat → va_E} (C0 : Cx G own cc rt) {n : Int} {v : Int32} (hv : Int32.ofInt n = v) (hd : decode cc pc = .ok (.iconst n, 1)) (k : VK G f k9 c9 s9 (pc + 1) lv (.int v :: st) E) : VK G f k9 c9 s9 pc lv st E :=
  fun H locs ls hP hS hz hl => lv_iconst C0.1 C0.2.1 hd hv (k H locs ls hP hS hz hl)
theorem VK_bipush {G : Gm} {f : State → Prop} {own : String} {cc : ByteArray} {rt : Option FieldType} {pc : Nat} {lv : List (Nat × Value)} {st : List Value} {k9 c9 s9 : Nat} {E : Nat → va_E} (C0 : Cx G own cc rt) {n : Int} {v : Int32} (hv : (Int8.ofInt n).toInt32 = v) (hd : decode cc pc = .ok (.bipush n, 2)) (k : VK G f k9 c9 s9 (pc + 2) lv (.int v :: st) E) : VK G f k9 c9 s9 pc lv st E :=
  fun H locs ls hP hS hz hl => lv_bipush C0.1 C0.2.1 hd hv (k H locs ls hP hS hz hl)
theorem VK_sipush {G : Gm} {f : State → Prop} {own : String} {cc : ByteArray} {rt : Option FieldType} {pc : Nat} {lv : List (Nat × Value)} {st : List Value} {k9 c9 s9 : Nat} {E : Nat → va_E} (C0 : Cx G own cc rt) {n : Int} {v : Int32} (hv : (Int16.ofInt n).toInt32 = v) (hd : decode cc pc = .ok (.sipush n, 3)) (k : VK G f k9 c9 s9 (pc + 3) lv (.int v :: st) E) : VK G f k9 c9 s9 pc lv st E :=
  fun H locs ls hP hS hz hl => lv_sipush C0.1 C0.2.1 hd hv (k H locs ls hP hS hz hl)
theorem VK_ldc {G : Gm} {f : State → Prop} {own : String} {cc : ByteArray} {rt : Option FieldType} {pc : Nat} {lv : List (Nat × Value)} {st : List Value} {k9 c9 s9 : Nat} {E : Nat → va_E} (C0 : Cx G own cc rt) {v : Int32} {index : Nat} (hw : Cond.constant own index v ∈ gW) (hd : decode cc pc = .ok (.ldc index, 2)) (k : VK G f k9 c9 s9 (pc + 2) lv (.int v :: st) E) : VK G f k9 c9 s9 pc lv st E :=
  fun H locs ls hP hS hz hl => lv_ldc C0.1 C0.2.1 C0.2.2.2.2.2.1 (C0.2.2.2.2.2.2.1 _ hw) hd (k H locs ls hP hS hz hl)
theorem VK_iload_n {G : Gm} {f : State → Prop} {own : String} {cc : ByteArray} {rt : Option FieldType} {pc : Nat} {lv : List (Nat × Value)} {st : List Value} {k9 c9 s9 : Nat} {E : Nat → va_E} (C0 : Cx G own cc rt) {n : Fin 4} {i : Nat} {x : Int32} (q : Nat) (hi : (n : Nat) = i) (hq : lv[q]? = some (i, .int x)) (hd : decode cc pc = .ok (.iload_n n, 1)) (k : VK G f k9 c9 s9 (pc + 1) lv (.int x :: st) E) : VK G f k9 c9 s9 pc lv st E :=
  fun H locs ls hP hS hz hl => lv_iload_n C0.1 C0.2.1 hd hi (lv_at hl q hq) (k H locs ls hP hS hz hl)
theorem VK_aload_n {G : Gm} {f : State → Prop} {own : String} {cc : ByteArray} {rt : Option FieldType} {pc : Nat} {lv : List (Nat × Value)} {st : List Value} {k9 c9 s9 : Nat} {E : Nat → va_E} (C0 : Cx G own cc rt) {n : Fin 4} {i : Nat} {x : Nat} (q : Nat) (hi : (n : Nat) = i) (hq : lv[q]? = some (i, .ref x)) (hd : decode cc pc = .ok (.aload_n n, 1)) (k : VK G f k9 c9 s9 (pc + 1) lv (.ref x :: st) E) : VK G f k9 c9 s9 pc lv st E :=
  fun H locs ls hP hS hz hl => lv_aload_n C0.1 C0.2.1 hd hi (lv_at hl q hq) (k H locs ls hP hS hz hl)
theorem VK_istore_n {G : Gm} {f : State → Prop} {own : String} {cc : ByteArray} {rt : Option FieldType} {pc : Nat} {lv : List (Nat × Value)} {st : List Value} {k9 c9 s9 : Nat} {E : Nat → va_E} (C0 : Cx G own cc rt) {n : Fin 4} {i : Nat} {x : Int32} (lv' : List (Nat × Value)) (hi : (n : Nat) = i) (hn : i < G.nL) (hl' : (i, Value.int x) :: lv.filter (fun q => !(q.1 == i) && !(q.1 + 1 == i && q.2.category == 2)) = lv') (hd : decode cc pc = .ok (.istore_n n, 1)) (k : VK G f k9 c9 s9 (pc + 1) lv' st E) : VK G f k9 c9 s9 pc lv (Value.int x :: st) E :=
  fun H locs ls hP hS hz hl => lv_istore_n C0.1 C0.2.1 hd hi hl hn hl' (fun ls hl => k H locs ls hP hS hz hl)
theorem VK_astore_n {G : Gm} {f : State → Prop} {own : String} {cc : ByteArray} {rt : Option FieldType} {pc : Nat} {lv : List (Nat × Value)} {st : List Value} {k9 c9 s9 : Nat} {E : Nat → va_E} (C0 : Cx G own cc rt) {n : Fin 4} {i : Nat} {x : Nat} (lv' : List (Nat × Value)) (hi : (n : Nat) = i) (hn : i < G.nL) (hl' : (i, Value.ref x) :: lv.filter (fun q => !(q.1 == i) && !(q.1 + 1 == i && q.2.category == 2)) = lv') (hd : decode cc pc = .ok (.astore_n n, 1)) (k : VK G f k9 c9 s9 (pc + 1) lv' st E) : VK G f k9 c9 s9 pc lv (Value.ref x :: st) E :=
  fun H locs ls hP hS hz hl => lv_astore_n C0.1 C0.2.1 hd hi hl hn hl' (fun ls hl => k H locs ls hP hS hz hl)
theorem VK_iinc {G : Gm} {f : State → Prop} {own : String} {cc : ByteArray} {rt : Option FieldType} {pc : Nat} {lv : List (Nat × Value)} {st : List Value} {k9 c9 s9 : Nat} {E : Nat → va_E} (C0 : Cx G own cc rt) {i : Nat} {n : Int} {y x : Int32} (q : Nat) (lv' : List (Nat × Value)) (hq : lv[q]? = some (i, .int y)) (hv : y + Int32.ofInt n = x) (hn : i < G.nL) (hl' : (i, Value.int x) :: lv.filter (fun q => !(q.1 == i) && !(q.1 + 1 == i && q.2.category == 2)) = lv') (hd : decode cc pc = .ok (.iinc i n, 3)) (k : VK G f k9 c9 s9 (pc + 3) lv' st E) : VK G f k9 c9 s9 pc lv st E :=
  fun H locs ls hP hS hz hl => lv_iinc C0.1 C0.2.1 hd hl hq hv hn hl' (fun ls hl => k H locs ls hP hS hz hl)
theorem VK_dup {G : Gm} {f : State → Prop} {own : String} {cc : ByteArray} {rt : Option FieldType} {pc : Nat} {lv : List (Nat × Value)} {st : List Value} {k9 c9 s9 : Nat} {E : Nat → va_E} (C0 : Cx G own cc rt) {va : Value} (h1 : va.category = 1) (hd : decode cc pc = .ok (.dup, 1)) (k : VK G f k9 c9 s9 (pc + 1) lv (va :: va :: st) E) : VK G f k9 c9 s9 pc lv (va :: st) E :=
  fun H locs ls hP hS hz hl => lv_dup C0.1 C0.2.1 hd h1 (k H locs ls hP hS hz hl)
theorem VK_goto {G : Gm} {f : State → Prop} {own : String} {cc : ByteArray} {rt : Option FieldType} {pc : Nat} {lv : List (Nat × Value)} {st : List Value} {k9 c9 s9 : Nat} {E : Nat → va_E} (C0 : Cx G own cc rt) {off : Int} {tgt : Nat} (ht : (pc : Int) + off = (tgt : Int)) (hd : decode cc pc = .ok (.goto off, 3)) (k : VK G f k9 c9 s9 tgt lv st E) : VK G f k9 c9 s9 pc lv st E :=
  fun H locs ls hP hS hz hl => lv_goto C0.1 C0.2.1 hd ht (k H locs ls hP hS hz hl)
theorem VK_icmp_ge {G : Gm} {f : State → Prop} {own : String} {cc : ByteArray} {rt : Option FieldType} {pc : Nat} {lv : List (Nat × Value)} {st : List Value} {k9 c9 s9 : Nat} {E : Nat → va_E} (C0 : Cx G own cc rt) {x y : Int32} {off : Int} {tgt : Nat} (ht : (pc : Int) + off = (tgt : Int)) (hd : decode cc pc = .ok (.if_icmp .ge off, 3)) (kt : y ≤ x → VK G f k9 c9 s9 tgt lv st E) (kf : ¬ y ≤ x → VK G f k9 c9 s9 (pc + 3) lv st E) : VK G f k9 c9 s9 pc lv (.int y :: .int x :: st) E :=
  fun H locs ls hP hS hz hl => lv_icmp_ge C0.1 C0.2.1 hd ht (fun h => kt h H locs ls hP hS hz hl) (fun h => kf h H locs ls hP hS hz hl)
theorem Cx.ab {G : Gm} {own : String} {cc : ByteArray} {rt : Option FieldType} (C0 : Cx G own cc rt) : ∀ q, G.s.heap.size ≤ q → Ab G.bs q := fun _ h => Nat.le_trans C0.2.2.2.2.2.2.2.2.2.2.1 h
theorem grown {A : Nat → Prop} {H0 H H1 : Heap} {locs : List Loc} (hS : va_S A H0 H locs) (hz : H1.size = H.size + 1) (ho : ∀ q, q < H.size → H1[q]? = H[q]?) : va_S A H0 H1 locs :=
  ⟨Nat.le_trans hS.1 (by omega), fun x h1 h2 => (ho x (Nat.lt_of_lt_of_le h1 hS.1)).trans (hS.2.1 x h1 h2), hS.2.2⟩
/-- a class's fields when it is new -/
def dfl (ci : Nat) : List Value := (sg.getD ci []).map (fun t => if t = 0 then .int 0 else if t = 1 then .long 0 else .null)
theorem dfOk {ci : Nat} {q : vw_C} (h : vwCl[ci]? = some q) : ∃ ty : Nat → FieldType, (∀ k, k < q.2.2 → parseFieldDescriptor (q.2.1 k).2.2.1 = some (ty k)) ∧ ∀ j, j < q.2.2 → defaultValue (ty j) = vp_V (dfl ci) j := by
  match ci, h with
  | 0, h => cases h; exact ⟨_, tyX0_ok, by decide +kernel⟩
  | 1, h => cases h; exact ⟨_, tyX1_ok, by decide +kernel⟩
  | 2, h => cases h; exact ⟨_, tyX2_ok, by decide +kernel⟩
  | 3, h => cases h; exact ⟨_, tyX3_ok, by decide +kernel⟩
  | 4, h => cases h; exact ⟨_, tyX5_ok, by decide +kernel⟩
  | 5, h => cases h; exact ⟨_, tyX6_ok, by decide +kernel⟩
  | 6, h => cases h; exact ⟨_, tyX7_ok, by decide +kernel⟩
  | 7, h => cases h; exact ⟨_, tyX8_ok, by decide +kernel⟩
  | 8, h => cases h; exact ⟨_, tyX9_ok, by decide +kernel⟩
  | 9, h => cases h; exact ⟨_, tyX10_ok, by decide +kernel⟩
  | 10, h => cases h; exact ⟨_, tyX11_ok, by decide +kernel⟩
  | 11, h => cases h; exact ⟨_, tyX12_ok, by decide +kernel⟩
  | n + 12, h => simp [vwCl] at h
theorem VK_new {G : Gm} {f : State → Prop} {own : String} {cc : ByteArray} {rt : Option FieldType} {pc : Nat} {lv : List (Nat × Value)} {st : List Value} {k9 c9 s9 : Nat} {E : Nat → va_E} (C0 : Cx G own cc rt) {index : Nat} (ci : Nat) (C : String) (T : u_T) (N : Nat) (hq : vwCl[ci]? = some (C, T, N)) (hcl : Cond.classLink own index C ∈ gW) (hins : Cond.instantiable C N ∈ gW) (hini : Cond.initialized C ∈ gW) (hcells : c9 + 1 ≤ G.rm.cells) (hslots : s9 + N ≤ G.rm.slots) (hd : decode cc pc = .ok (.new index, 3))
    (kk : VK G f (k9 + 1) (c9 + 1) (s9 + N) (pc + 3) lv (.ref (G.bs + k9) :: st) (upE E k9 (.inr (ci, dfl ci)))) : VK G f k9 c9 s9 pc lv st E := by
  intro H locs ls hP hS hz hl
  obtain ⟨hx, hb, -, -, -, hown, hts, hK, hN, -, -, -, -⟩ := C0
  have hKn := hK.1 ci _ hq
  obtain ⟨ty, ht1, ht2⟩ := dfOk hq
  refine W.newcK hx hb hown (hts _ hcl) (hts _ hins) (hts _ hini) rfl hd hcells hslots hKn.2.1 rfl fun H1 kC hkC e1 z1 o1 => ?_
  rw [hz] at e1
  have hb9 := (u_born ty hts (clOk hq).1 hKn hkC e1 ht1).to ht2
  have h := kk H1 locs ls (wk_push hP o1 ⟨_, hq, hb9⟩) (grown hS z1 o1) (by omega) hl
  rw [hz]
  exact h
theorem VK_newa {G : Gm} {f : State → Prop} {own : String} {cc : ByteArray} {rt : Option FieldType} {pc : Nat} {lv : List (Nat × Value)} {st : List Value} {k9 c9 s9 : Nat} {E : Nat → va_E} (C0 : Cx G own cc rt) {atype : ArrayType} {ty : FieldType} {c0 : ClassId} (t0 : Nat) (hty : newarray.typeOf atype = ty) (ht0 : (tyA G.cA)[t0]? = some (c0, ty)) (hRA : ∀ U : State, va_RA U c0 ty → U.vm.findClass ("[" ++ ty.toString) = some c0) (harr : Cond.arrayClass ty ∈ gW) {n : Int32} (N' : Nat) {a0 : vp_A} (ha : ∀ cA : ClassId, vp_cell cA a0 = arrV cA N' (fun _ => defaultValue ty)) (hn : ¬ n < 0) (hN : n.toNatClampNeg = N') (hbytes : N' * componentBytes ty ≤ 536870912) (hcells : c9 + 1 ≤ G.rm.cells) (hslots : s9 + N' ≤ G.rm.slots) (hd : decode cc pc = .ok (.newarray atype, 2))
    (kk : VK G f (k9 + 1) (c9 + 1) (s9 + N') (pc + 2) lv (.ref (G.bs + k9) :: st) (upE E k9 (.inl (c0, a0)))) : VK G f k9 c9 s9 pc lv (.int n :: st) E := by
  intro H locs ls hP hS hz hl
  obtain ⟨hx, hb, -, -, -, hown, hts, hK, hN9, -, -, -, -⟩ := C0
  subst hty
  refine va_newaK hx hb (hts _ harr) rfl hd rfl hn hN hbytes hcells hslots rfl fun H1 cA e1 z1 o1 hAr hNm => ?_
  have ec : c0 = cA := Option.some.inj ((hRA _ (hK.2 t0 _ ht0).2).symm.trans hNm)
  subst ec
  rw [hz] at e1
  have h := kk H1 locs ls (wk_push hP o1 (by show H1[G.bs + k9]? = some (vp_cell _ _); rw [ha]; exact e1)) (grown hS z1 o1) (by omega) hl
  rw [hz]
  exact h
theorem VK_newI {G : Gm} {f : State → Prop} {own : String} {cc : ByteArray} {rt : Option FieldType} {pc : Nat} {lv : List (Nat × Value)} {st : List Value} {k9 c9 s9 : Nat} {E : Nat → va_E} (C0 : Cx G own cc rt) {n : Int32} (N' : Nat) (hn : ¬ n < 0) (hN : n.toNatClampNeg = N') (hbytes : N' * 4 ≤ 536870912) (hcells : c9 + 1 ≤ G.rm.cells) (hslots : s9 + N' ≤ G.rm.slots) (hd : decode cc pc = .ok (.newarray .int, 2))
    (kk : VK G f (k9 + 1) (c9 + 1) (s9 + N') (pc + 2) lv (.ref (G.bs + k9) :: st) (upE E k9 (.inl (G.cA 0, N', .inl (fun _ => 0))))) : VK G f k9 c9 s9 pc lv (.int n :: st) E :=
  VK_newa C0 (ty := .int) (c0 := G.cA 0) 0 rfl rfl (fun _ h => h) (gW_in _ (tb_1 _ (List.mem_of_getElem? (i := 90) rfl)) rfl) N' (fun _ => rfl) hn hN hbytes hcells hslots hd kk
theorem VK_newL {G : Gm} {f : State → Prop} {own : String} {cc : ByteArray} {rt : Option FieldType} {pc : Nat} {lv : List (Nat × Value)} {st : List Value} {k9 c9 s9 : Nat} {E : Nat → va_E} (C0 : Cx G own cc rt) {n : Int32} (N' : Nat) (hn : ¬ n < 0) (hN : n.toNatClampNeg = N') (hbytes : N' * 8 ≤ 536870912) (hcells : c9 + 1 ≤ G.rm.cells) (hslots : s9 + N' ≤ G.rm.slots) (hd : decode cc pc = .ok (.newarray .long, 2))
    (kk : VK G f (k9 + 1) (c9 + 1) (s9 + N') (pc + 2) lv (.ref (G.bs + k9) :: st) (upE E k9 (.inl (G.cA 1, N', .inr (.inl (fun _ => 0)))))) : VK G f k9 c9 s9 pc lv (.int n :: st) E :=
  VK_newa C0 (ty := .long) (c0 := G.cA 1) 1 rfl rfl (fun _ h => h) (gW_in _ (tb_1 _ (List.mem_of_getElem? (i := 175) rfl)) rfl) N' (fun _ => rfl) hn hN hbytes hcells hslots hd kk
theorem VK_newZ {G : Gm} {f : State → Prop} {own : String} {cc : ByteArray} {rt : Option FieldType} {pc : Nat} {lv : List (Nat × Value)} {st : List Value} {k9 c9 s9 : Nat} {E : Nat → va_E} (C0 : Cx G own cc rt) {n : Int32} (N' : Nat) (hn : ¬ n < 0) (hN : n.toNatClampNeg = N') (hbytes : N' * 1 ≤ 536870912) (hcells : c9 + 1 ≤ G.rm.cells) (hslots : s9 + N' ≤ G.rm.slots) (hd : decode cc pc = .ok (.newarray .boolean, 2))
    (kk : VK G f (k9 + 1) (c9 + 1) (s9 + N') (pc + 2) lv (.ref (G.bs + k9) :: st) (upE E k9 (.inl (G.cA 2, N', .inl (fun _ => 0))))) : VK G f k9 c9 s9 pc lv (.int n :: st) E :=
  VK_newa C0 (ty := .boolean) (c0 := G.cA 2) 2 rfl rfl (fun _ h => h) (gW_in _ (tb_8 _ (List.mem_of_getElem? (i := 21) rfl)) rfl) N' (fun _ => rfl) hn hN hbytes hcells hslots hd kk
theorem VK_anew {G : Gm} {f : State → Prop} {own : String} {cc : ByteArray} {rt : Option FieldType} {pc : Nat} {lv : List (Nat × Value)} {st : List Value} {k9 c9 s9 : Nat} {E : Nat → va_E} (C0 : Cx G own cc rt) {index : Nat} {C : String} {c0 : ClassId} (t0 : Nat) (ht0 : (tyA G.cA)[t0]? = some (c0, .object C)) (hcl : Cond.classLink own index C ∈ gW) (hover : va_AO C G.s) {n : Int32} (N' : Nat) (hn : ¬ n < 0) (hN : n.toNatClampNeg = N') (hbytes : N' * 4 ≤ 536870912) (hcells : c9 + 1 ≤ G.rm.cells) (hslots : s9 + N' ≤ G.rm.slots) (hd : decode cc pc = .ok (.anewarray index, 3))
    (kk : VK G f (k9 + 1) (c9 + 1) (s9 + N') (pc + 3) lv (.ref (G.bs + k9) :: st) (upE E k9 (.inl (c0, N', .inr (.inr (.inr (.inr (fun _ => none)))))))) : VK G f k9 c9 s9 pc lv (.int n :: st) E := by
  intro H locs ls hP hS hz hl
  obtain ⟨hx, hb, -, -, -, hown, hts, hK, hN9, -, -, -, -⟩ := C0
  subst hN
  refine W.anew hx hb hown (hts _ hcl) (va_AO.use hover) rfl hd rfl hn hbytes hcells hslots fun cA kA comp f1 f2 f3 f4 => ?_
  generalize hH1 : H.push ({ cls := cA, slots := Array.replicate n.toNatClampNeg .null, vm := .none } : Cell) = H1
  have z1 : H1.size = H.size + 1 := by rw [← hH1, Array.size_push]
  have e1 : H1[H.size]? = some (arrV cA n.toNatClampNeg (fun _ => .null)) := by rw [← hH1, Array.getElem?_push_size, ← arrV_new]
  have o1 : ∀ q : Nat, q < H.size → H1[q]? = H[q]? := fun q hq => by rw [← hH1, Array.getElem?_push, if_neg (Nat.ne_of_lt hq)]
  obtain ⟨kA', comp', -, -, -, h4⟩ := (hK.2 t0 _ ht0).2
  have ec : c0 = cA := Option.some.inj (h4.symm.trans f1)
  subst ec
  rw [hz] at e1
  have h := kk H1 locs ls (wk_push hP o1 (by show H1[G.bs + k9]? = some (vp_cell _ _); rw [vp_cell_q]; exact e1)) (grown hS z1 o1) (by omega) hl
  rw [hz]
  exact h
def FFk (own : String) (index ci k : Nat) (d : String) : Prop := ∃ q : vw_C, vwCl[ci]? = some q ∧ k < q.2.2 ∧ (q.2.1 k).2.2.2 = true ∧ (q.2.1 k).1 = own ∧ (q.2.1 k).2.2.1 = d ∧ Cond.fieldLink own index (q.2.1 k).1 (q.2.1 k).2.1 (q.2.1 k).2.2.1 ∈ gW
theorem VK_putF {G : Gm} {f : State → Prop} {own : String} {cc : ByteArray} {rt : Option FieldType} {pc : Nat} {lv : List (Nat × Value)} {st : List Value} {k9 c9 s9 : Nat} {E : Nat → va_E} (C0 : Cx G own cc rt) (hcz : G.s.heap.size + c9 = G.bs + k9) (hin2 : G.meth.name = "<init>") {index : Nat} {d : String} {ty : FieldType} {v : Value} {fs : List Value} (ci k p : Nat) (hf : FFk own index ci k d) (hp : p < k9) (he : E p = .inr (ci, fs)) (hlen : k < fs.length) (hty : parseFieldDescriptor d = some ty) (hn : narrow ty v = v) (hfit : fits ty v = true) (hd : decode cc pc = .ok (.putfield index, 3))
    (kk : VK G f k9 c9 s9 (pc + 3) lv st (upE E p (.inr (ci, fs.set k v)))) : VK G f k9 c9 s9 pc lv (v :: .ref (G.bs + p) :: st) E := by
  intro H locs ls hP hS hz hl
  obtain ⟨hx, hb, -, -, -, hown, hts, hK, hN, -, hbs, -, -⟩ := C0
  obtain ⟨q, hq, hkN, hfin, hdecl, hde, hlk⟩ := hf
  obtain ⟨hin, ⟨ty0, hty0⟩, hnm⟩ := clOk hq
  refine va_putF hx hb hts hin ty0 hty0 hnm hown hK hP (wk_D _ _ _) hS p (by rw [wk_at hp, he]) hq k hkN (hts _ hlk) (fun _ z => z) hfin hin2 hdecl (by rw [hde]; exact hty) hn hfit hlen hd (fun H1 locs1 hP1 _ hS1 => ?_)
  rw [wk_set] at hP1
  exact kk.re hcz hp H1 locs1 ls hP1 hS1 hl
theorem VK_put {G : Gm} {f : State → Prop} {own : String} {cc : ByteArray} {rt : Option FieldType} {pc : Nat} {lv : List (Nat × Value)} {st : List Value} {k9 c9 s9 : Nat} {E : Nat → va_E} (C0 : Cx G own cc rt) (hcz : G.s.heap.size + c9 = G.bs + k9) {index : Nat} {d : String} {ty : FieldType} {v : Value} {fs : List Value} (ci k p : Nat) (hf : FPk own index ci k d) (hp : p < k9) (he : E p = .inr (ci, fs)) (hlen : k < fs.length) (hty : parseFieldDescriptor d = some ty) (hn : narrow ty v = v) (hfit : fits ty v = true) (hd : decode cc pc = .ok (.putfield index, 3))
    (kk : VK G f k9 c9 s9 (pc + 3) lv st (upE E p (.inr (ci, fs.set k v)))) : VK G f k9 c9 s9 pc lv (v :: .ref (G.bs + p) :: st) E := by
  intro H locs ls hP hS hz hl
  obtain ⟨hx, hb, -, -, -, hown, hts, hK, hN, -, hbs, -, -⟩ := C0
  obtain ⟨q, hq, hkN, hfin, hde, hlk⟩ := hf
  obtain ⟨hin, ⟨ty0, hty0⟩, hnm⟩ := clOk hq
  have fin : ∀ (H1 : Heap) (locs1 : List Loc), va_P G.D vwCl ((wk G.bs k9 E).set p (G.bs + p, .inr (ci, fs.set k v))) H1 → va_S (Ab G.bs) G.s.heap H1 locs1 → W G.p G.l G.e G.rm G.s G.m G.args G.below G.meth G.c H1 locs1 c9 s9 f (F0 G.m (pc + 3) ls st) := fun H1 locs1 hP1 hS1 => by
    rw [wk_set] at hP1
    exact kk.re hcz hp H1 locs1 ls hP1 hS1 hl
  rcases hlk with h | ⟨host, h⟩
  · exact va_put hx hb hts hin ty0 hty0 hnm hown hK hP (wk_D _ _ _) hS p (by rw [wk_at hp, he]) hq k hkN (hts _ h) (fun _ z => z) hfin (by rw [hde]; exact hty) hn hfit hlen hd (fun H1 locs1 hP1 _ hS1 => fin H1 locs1 hP1 hS1)
  · exact va_putN hx hb hts hin ty0 hty0 hnm hown hK hP (wk_D _ _ _) hS p (by rw [wk_at hp, he]) hq k hkN (va_Nw.use (isN_tab h) (hN _ h)) (fun _ z => z) hfin (by rw [hde]; exact hty) hn hfit hlen hd (fun H1 locs1 hP1 _ hS1 => fin H1 locs1 hP1 hS1)
theorem VK_get {G : Gm} {f : State → Prop} {own : String} {cc : ByteArray} {rt : Option FieldType} {pc : Nat} {lv : List (Nat × Value)} {st : List Value} {k9 c9 s9 : Nat} {E : Nat → va_E} (C0 : Cx G own cc rt) {index : Nat} {v : Value} {fs : List Value} (ci k p : Nat) (hf : FLk own index ci k) (hp : p < k9) (he : E p = .inr (ci, fs)) (hv : fs[k]? = some v) (hd : decode cc pc = .ok (.getfield index, 3)) (kk : VK G f k9 c9 s9 (pc + 3) lv (v :: st) E) : VK G f k9 c9 s9 pc lv (.ref (G.bs + p) :: st) E := by
  intro H locs ls hP hS hz hl
  obtain ⟨hx, hb, -, -, -, hown, hts, hK, hN, -, -, -, -⟩ := C0
  obtain ⟨q, hq, hkN, hlk⟩ := hf
  obtain ⟨hin, -, -⟩ := clOk hq
  rcases hlk with h | ⟨host, h⟩
  · exact va_get hx hb hts hin hown hK hP p (by rw [wk_at hp, he]) hq k hkN (hts _ h) (fun _ z => z) hv hd (kk H locs ls hP hS hz hl)
  · exact va_getN hx hb hts hin hown hK hP p (by rw [wk_at hp, he]) hq k hkN (va_Nw.use (isN_tab h) (hN _ h)) (fun _ z => z) hv hd (kk H locs ls hP hS hz hl)
theorem VK_alenq {G : Gm} {f : State → Prop} {own : String} {cc : ByteArray} {rt : Option FieldType} {pc : Nat} {lv : List (Nat × Value)} {st : List Value} {k9 c9 s9 : Nat} {E : Nat → va_E} (C0 : Cx G own cc rt) {c0 : ClassId} {C : String} {n : Nat} {g : Nat → Option Nat} {v : Int32} (t0 p : Nat) (ht0 : (tyA G.cA)[t0]? = some (c0, .object C)) (hp : p < k9) (he : E p = .inl (c0, n, .inr (.inr (.inr (.inr g))))) (hv : Int32.ofNat n = v) (hd : decode cc pc = .ok (.arraylength, 1)) (kk : VK G f k9 c9 s9 (pc + 1) lv (.int v :: st) E) : VK G f k9 c9 s9 pc lv (.ref (G.bs + p) :: st) E :=
  fun H locs ls hP hS hz hl => va_alen C0.1 C0.2.1 C0.2.2.2.2.2.2.2.1 hP p t0 (by rw [wk_at hp, he]) ht0 hv hd (kk H locs ls hP hS hz hl)
theorem VK_aast {G : Gm} {f : State → Prop} {own : String} {cc : ByteArray} {rt : Option FieldType} {pc : Nat} {lv : List (Nat × Value)} {st : List Value} {k9 c9 s9 : Nat} {E : Nat → va_E} (C0 : Cx G own cc rt) (hcz : G.s.heap.size + c9 = G.bs + k9) {c0 : ClassId} {q : vw_C} {n : Nat} {g : Nat → Option Nat} {vs : List Value} {i : Int32} (t0 p pv ci : Nat) (hq : vwCl[ci]? = some q) (ht0 : (tyA G.cA)[t0]? = some (c0, .object q.1)) (hp : p < k9) (he : E p = .inl (c0, n, .inr (.inr (.inr (.inr g))))) (hpv : pv < k9) (hev : E pv = .inr (ci, vs)) (hin : vp_in i n) (hd : decode cc pc = .ok (.aastore, 1))
    (kk : VK G f k9 c9 s9 (pc + 1) lv st (upE E p (.inl (c0, n, .inr (.inr (.inr (.inr (va_up g i.toNatClampNeg (some (G.bs + pv)))))))))) : VK G f k9 c9 s9 pc lv (.ref (G.bs + pv) :: .int i :: .ref (G.bs + p) :: st) E := by
  intro H locs ls hP hS hz hl
  refine va_astq C0.1 C0.2.1 C0.2.2.2.2.2.2.2.1 hP (wk_D _ _ _) hS p t0 pv ci (by rw [wk_at hp, he]) ht0 (by rw [wk_at hpv, hev]) hq hin hd (fun H1 locs1 hP1 _ hS1 => ?_)
  rw [wk_set] at hP1
  exact kk.re hcz hp H1 locs1 ls hP1 hS1 hl
theorem VK_iast {G : Gm} {f : State → Prop} {own : String} {cc : ByteArray} {rt : Option FieldType} {pc : Nat} {lv : List (Nat × Value)} {st : List Value} {k9 c9 s9 : Nat} {E : Nat → va_E} (C0 : Cx G own cc rt) (hcz : G.s.heap.size + c9 = G.bs + k9) {n : Nat} {g : Nat → Int32} {i x : Int32} (p : Nat) (hp : p < k9) (he : E p = .inl (G.cA 0, n, .inl g)) (hin : vp_in i n) (hd : decode cc pc = .ok (.iastore, 1))
    (kk : VK G f k9 c9 s9 (pc + 1) lv st (upE E p (.inl (G.cA 0, n, .inl (upd g i.toNatClampNeg x))))) : VK G f k9 c9 s9 pc lv (.int x :: .int i :: .ref (G.bs + p) :: st) E := by
  intro H locs ls hP hS hz hl
  refine va_iast C0.1 C0.2.1 C0.2.2.2.2.2.2.2.1 hP (wk_D _ _ _) hS p 0 (by rw [wk_at hp, he]) rfl hin hd (fun H1 locs1 hP1 _ hS1 => ?_)
  rw [wk_set] at hP1
  exact kk.re hcz hp H1 locs1 ls hP1 hS1 hl
theorem ob_in : Cond.instanceMethod Lib.objectInit ∈ gW := gW_in _ (tb_1 _ (List.mem_of_getElem? (i := 33) rfl)) rfl
theorem ob_code : Cond.code Lib.objectInit ⟨#[0xb1]⟩ 1 none ∈ gW := gW_in _ (tb_1 _ (List.mem_of_getElem? (i := 34) rfl)) rfl
theorem VK_obj {G : Gm} {f : State → Prop} {own : String} {cc : ByteArray} {rt : Option FieldType} {pc : Nat} {lv : List (Nat × Value)} {st : List Value} {k9 c9 s9 : Nat} {E : Nat → va_E} (C0 : Cx G own cc rt) {index a : Nat} (hl0 : Cond.methodLink own index Lib.objectInit ∈ gW) (hR : 1 ≤ G.rm.frames ∧ 20 ≤ G.rm.locals) (hst : (st.map fun v => v.category).sum ≤ 8) (hd : decode cc pc = .ok (.invokespecial index, 3)) (kk : VK G f k9 c9 s9 (pc + 3) lv st E) : VK G f k9 c9 s9 pc lv (.ref a :: st) E := by
  intro H locs ls hP hS hz hl
  obtain ⟨hx, hb, hml, -, -, hown, hts, hK, hN, -, -, -, -⟩ := C0
  refine W.objInit hx hb hown (hts _ hl0) (hts _ ob_in) (hts _ ob_code) rfl (hl.1.trans hml.symm) rfl hd hR.1 ?_ (kk H locs ls hP hS hz hl)
  have h9 : 2 * (F0 G.m pc ls (Value.ref a :: st)).monitorRoom + (st.map fun v => v.category).sum ≤ 8 := lv_room hst
  omega
def PvK (D : va_G) (cA : Nat → ClassId) (bs : Nat) (X : State → Prop) (As : List Value) (k : Nat) (E : Nat → va_E) : Array Value → State → Prop := fun v U =>
  v = As.toArray ∧ va_P D vwCl (wk bs k E) U.heap ∧ U.heap.size = bs + k ∧ va_K D vwCl (tyA cA) U ∧ (∀ w ∈ nW, va_Nw w U) ∧ X U
def QvK (D : va_G) (bs k : Nat) (E : Nat → va_E) : Array Value → State → Outcome → State → Prop := fun _ st oc t =>
  oc = .returned none ∧ va_P D vwCl (wk bs k E) t.heap ∧ t.heap.size = bs + k ∧ va_F (Ab bs) st t
def CnK (l : Launch) (D : va_G) (cA : Nat → ClassId) (bs : Nat) (X : State → Prop) (y : MethodName) (cc : ByteArray) (mL fr lo nc ns : Nat) (As : List Value) (k : Nat) (E : Nat → va_E) (k' : Nat) (E' : Nat → va_E) : Prop :=
  Met l y (.code y cc mL none :: gW) ({ frames := fr, cells := nc, slots := ns, locals := lo }) (PvK D cA bs X As k E) (QvK D bs k' E') nc ns (Ab bs)
def qk (G : Gm) (nc ns k : Nat) (E : Nat → va_E) : State → Prop := MQ G.below (QvK G.D G.bs k E) G.args G.s nc ns (Ab G.bs)
theorem PvK_blind {D : va_G} {cA : Nat → ClassId} {bs : Nat} {X : State → Prop} {As : List Value} {k : Nat} {E : Nat → va_E} (hX : Stb bs X) : FrameBlind (PvK D cA bs X As k E) := by
  intro a U g mk h
  obtain ⟨h1, h2, h3, h4, h5, h6⟩ := h
  exact ⟨h1, h2, h3, va_K.moved (u := U) (U := U.calling g mk a) (Vm.Alike.refl U.vm) h4, nW_same (u := U) (U := U.calling g mk a) rfl h5, hX U _ h6 (State.WarmedH.refl U) (Nat.le_refl _) (fun _ _ _ => rfl)⟩
theorem CnK.ofV {l : Launch} {D : va_G} {cA : Nat → ClassId} {ad : Nat → Nat} {bs : Nat} {X : State → Prop} {y : MethodName} {cc : ByteArray} {mL fr lo nc ns : Nat} {As : List Value} {k k' : Nat} {E E' : Nat → va_E} (hAd : Ax ad bs) (hX : Stb bs X) (lv : List (Nat × Value)) (hlv : lv_args 0 As = lv) (hlen : (lg_sl As).length ≤ mL) (hy : plainFor y = true)
    (body : ∀ (G : Gm), G.l = l → G.D = D → G.cA = cA → G.ad = ad → G.bs = bs → G.X = X → G.rm = ({ frames := fr, cells := nc, slots := ns, locals := lo } : Room) → G.nL = mL → G.meth.name = y.name → G.s.heap.size = bs + k → Cx G y.cls cc none → VK G (qk G nc ns k' E') k 0 0 0 lv [] E) : CnK l D cA bs X y cc mL fr lo nc ns As k E k' E' := by
  refine Met.ofWF (cc := cc) (maxL := mL) (ret := none) hy rfl ?_
  intro p e s m args below meth c s₁ B hml hv
  obtain ⟨rfl, hP, hz, hK, hN, hXs⟩ := hv
  have hl := lv_entry As (n := mL) hlen
  rw [lg_entry_eq]
  rw [hlv] at hl
  have C0 : Cx (p, l, e, (headSpec (Cond.code y cc mL none :: gW) { frames := fr, cells := nc, slots := ns, locals := lo }).room, s, m, As.toArray, below, meth, c, D, cA, ad, bs, X, mL) y.cls cc none :=
    ⟨B.exec, B.bytes, hml, B.returns, B.notSynchronized, findClass_of_methodNamed B.named, fun w hw => atoms_spec (ws := Cond.code y cc mL none :: gW) B.pre w (List.mem_cons_of_mem _ hw), hK, hN, hAd, by show bs ≤ s.heap.size; omega, hXs, hX⟩
  exact body (p, l, e, (headSpec (Cond.code y cc mL none :: gW) { frames := fr, cells := nc, slots := ns, locals := lo }).room, s, m, As.toArray, below, meth, c, D, cA, ad, bs, X, mL) rfl rfl rfl rfl rfl rfl rfl rfl (name_of_methodNamed B.named B.method).1 hz C0 s.heap [] _ hP va_S.rf hz hl
theorem VK_vret {G : Gm} {own : String} {cc : ByteArray} {pc : Nat} {lv : List (Nat × Value)} {k9 c9 s9 : Nat} {E : Nat → va_E} (C0 : Cx G own cc none) (hd : decode cc pc = .ok (.return_, 1)) : VK G (qk G c9 s9 k9 E) k9 c9 s9 pc lv [] E :=
  fun H locs ls hP hS hz hl => W.vret C0.1 C0.2.1 C0.2.2.2.1 (fun t ht hW => ⟨rfl, by rw [ht]; exact hP, by rw [ht]; exact hz, hS.F ht⟩) hS.2.2 hd C0.2.2.2.2.1
def LkI (own : String) (index : Nat) (y : MethodName) : Prop := (Cond.methodLink own index y ∈ gW ∨ ∃ host, Cond.methodLinkNest own index y host ∈ nW) ∧ Cond.instanceMethod y ∈ gW
theorem VK_callI {G : Gm} {f : State → Prop} {own : String} {cc : ByteArray} {rt : Option FieldType} {pc : Nat} {lv : List (Nat × Value)} {st : List Value} {k9 c9 s9 : Nat} {E : Nat → va_E} (C0 : Cx G own cc rt) {index fr lo mL n p nc ns k' : Nat} {E' : Nat → va_E} {y : MethodName} {bytes : ByteArray} {As : List Value} (hM : CnK G.l G.D G.cA G.bs G.X y bytes mL fr lo nc ns (.ref (G.bs + p) :: As) k9 E k' E') (hc : LkC y bytes mL none n) (hl0 : LkI own index y) (hy1 : y.name = "<init>") (hn : As.length = n) (hR : fr + 1 ≤ G.rm.frames ∧ 8 + (mL + 11) + lo ≤ G.rm.locals) (hcs : c9 + nc ≤ G.rm.cells ∧ s9 + ns ≤ G.rm.slots) (hst : (st.map fun v => v.category).sum ≤ 8) (hd : decode cc pc = .ok (.invokespecial index, 3))
    (kk : VK G f k' (c9 + nc) (s9 + ns) (pc + 3) lv st E') : VK G f k9 c9 s9 pc lv (As.reverse ++ .ref (G.bs + p) :: st) E := by
  intro H locs ls hP hS hz0 hl
  obtain ⟨hx, hb, hml, hrt, hlk, hown, hts, hK, hN, hAd, hbs, hXs, hXb⟩ := C0
  have hPat : ∀ U : State, U.heap = H → G.s.WarmedH U.vm → PvK G.D G.cA G.bs G.X (.ref (G.bs + p) :: As) k9 E (Value.ref (G.bs + p) :: As).toArray U := by
    intro U hU hW
    exact ⟨rfl, by rw [hU]; exact hP, by rw [hU]; exact hz0, va_K.moved hW.alike hK, nW_warm hW hN, hXb G.s U hXs hW (by rw [hU]; exact hS.1) (fun q h1 h2 => by rw [hU]; exact hS.2.1 q h1 h2)⟩
  obtain ⟨hcd, hini, hy⟩ := hc
  obtain ⟨hl1, hin⟩ := hl0
  have hr : va_Run G.p G.l G.e G.rm G.s G.m G.args G.below G.meth G.c H locs c9 s9 nc ns (F0 G.m pc ls (As.reverse ++ .ref (G.bs + p) :: st)) st (QvK G.D G.bs k' E' (Value.ref (G.bs + p) :: As).toArray) (Ab G.bs) := by
    rcases hl1 with h | ⟨host, h⟩
    · exact va_runI (Ts := gW) ⟨hx, hb, hml, hown, hts⟩ hM ⟨callB_of (Ts := gW) n hts (gW_good hcd) rfl rfl rfl (hts _ hini) (hts _ h) hy hR, hy1, hts _ hin⟩ ⟨PvK_blind hXb, hPat⟩ rfl hn hl.1 rfl (lv_room hst) hd hcs
    · exact va_runIN (Ts := gW) ⟨hx, hb, hml, hown, hts⟩ hM ⟨va_cnB (Ts := gW) n hts (gW_good hcd) rfl rfl rfl (hN _ h) (hts _ hini) hy hR, hy1, hts _ hin⟩ ⟨PvK_blind hXb, hPat⟩ rfl hn hl.1 rfl (lv_room hst) hd hcs
  intro T hT X
  obtain ⟨v, st₀, t, T', L1, h0, X', hL, e1, e2, ⟨hv, hP1, hz1, hz, hk⟩, stp⟩ := hr T hT X
  cases hv
  rw [h0] at hz hk
  obtain ⟨t2, a1, b1⟩ := kk T'.heap (locs ++ L1) ls (by rw [e1]; exact hP1)
    ⟨Nat.le_trans hS.1 (by rw [e1]; exact hz), fun q h1 h2 => by rw [e1, hk q (Nat.lt_of_lt_of_le h1 hS.1) h2]; exact hS.2.1 q h1 h2, fun q hq => by
      rcases List.mem_append.mp hq with h | h
      · exact hS.2.2 q h
      · exact hL q h⟩ (by rw [e1]; exact hz1) hl T' rfl X'
  exact ⟨t2, stp t2 a1, b1⟩
theorem upE_upE {E : Nat → va_E} {p : Nat} {x y : va_E} : upE (upE E p x) p y = upE E p y := by
  funext j
  by_cases h : j = p <;> simp [upE, h]
/-- a small number pushed -/
def pushAt (cc : ByteArray) (pc : Nat) (v : Int32) : Option Nat := match decode cc pc with
  | .ok (.iconst n, 1) => if Int32.ofInt n = v then some (pc + 1) else none
  | .ok (.bipush n, 2) => if (Int8.ofInt n).toInt32 = v then some (pc + 2) else none
  | .ok (.sipush n, 3) => if (Int16.ofInt n).toInt32 = v then some (pc + 3) else none
  | _ => none
def isDup (cc : ByteArray) (pc : Nat) : Bool := match decode cc pc with
  | .ok (.dup, 1) => true
  | _ => false
def isIast (cc : ByteArray) (pc : Nat) : Bool := match decode cc pc with
  | .ok (.iastore, 1) => true
  | _ => false
/-- a table's bytes: dup; the index; the value; iastore, again and again -/
def tblAt (cc : ByteArray) : Nat → Nat → List Int32 → Option Nat
  | pc, _, [] => some pc
  | pc, i, v :: vs => if isDup cc pc then (pushAt cc (pc + 1) (Int32.ofNat i)).bind fun p1 => (pushAt cc p1 v).bind fun p2 => if isIast cc p2 then tblAt cc (p2 + 1) (i + 1) vs else none else none
def filled (g : Nat → Int32) : Nat → List Int32 → Nat → Int32
  | _, [] => g
  | i, v :: vs => filled (upd g i v) (i + 1) vs
theorem isDup_ok {cc : ByteArray} {pc : Nat} (h : isDup cc pc = true) : decode cc pc = .ok (.dup, 1) := by
  unfold isDup at h
  split at h
  · assumption
  · cases h
theorem isIast_ok {cc : ByteArray} {pc : Nat} (h : isIast cc pc = true) : decode cc pc = .ok (.iastore, 1) := by
  unfold isIast at h
  split at h
  · assumption
  · cases h
theorem VK_push {G : Gm} {f : State → Prop} {own : String} {cc : ByteArray} {rt : Option FieldType} {pc : Nat} {lv : List (Nat × Value)} {st : List Value} {k9 c9 s9 : Nat} {E : Nat → va_E} (C0 : Cx G own cc rt) {p' : Nat} {v : Int32} (h : pushAt cc pc v = some p') (kk : VK G f k9 c9 s9 p' lv (.int v :: st) E) : VK G f k9 c9 s9 pc lv st E := by
  unfold pushAt at h
  split at h
  · rename_i n hd
    split at h
    · cases h
      exact VK_iconst C0 (by assumption) hd kk
    · cases h
  · rename_i n hd
    split at h
    · cases h
      exact VK_bipush C0 (by assumption) hd kk
    · cases h
  · rename_i n hd
    split at h
    · cases h
      exact VK_sipush C0 (by assumption) hd kk
    · cases h
  · cases h
theorem VK_fill {G : Gm} {f : State → Prop} {own : String} {cc : ByteArray} {rt : Option FieldType} {lv : List (Nat × Value)} {st : List Value} {k9 c9 s9 : Nat} (C0 : Cx G own cc rt) (hcz : G.s.heap.size + c9 = G.bs + k9) {n p p' : Nat} (hp : p < k9) (hn : n < 2 ^ 31) :
    ∀ (vs : List Int32) (i pc : Nat) (g : Nat → Int32) (E : Nat → va_E), E p = .inl (G.cA 0, n, .inl g) → i + vs.length ≤ n → tblAt cc pc i vs = some p' →
      VK G f k9 c9 s9 p' lv (.ref (G.bs + p) :: st) (upE E p (.inl (G.cA 0, n, .inl (filled g i vs)))) → VK G f k9 c9 s9 pc lv (.ref (G.bs + p) :: st) E := by
  intro vs
  induction vs with
  | nil =>
    intro i pc g E he _ h kk
    cases h
    have e : upE E p (.inl (G.cA 0, n, .inl (filled g i []))) = E := by
      funext j
      by_cases hj : j = p
      · subst hj
        simp [upE, filled, he]
      · simp [upE, hj]
    rw [e] at kk
    exact kk
  | cons v vs ih =>
    intro i pc g E he hlen h kk
    unfold tblAt at h
    split at h
    · rename_i h1
      obtain ⟨p1, hp1, h⟩ := Option.bind_eq_some_iff.mp h
      obtain ⟨p2, hp2, h⟩ := Option.bind_eq_some_iff.mp h
      split at h
      · rename_i h2
        simp only [List.length_cons] at hlen
        have hi : (Int32.ofNat i).toNatClampNeg = i := Int32.toNatClampNeg_ofNat_of_lt (by omega)
        refine VK_dup C0 rfl (isDup_ok h1) (VK_push C0 hp1 (VK_push C0 hp2 (VK_iast C0 hcz p hp he ?_ (isIast_ok h2) ?_)))
        · show ¬ (_ ∨ _)
          rw [hi]
          rintro (q | q)
          · have := Int32.lt_iff_toInt_lt.mp q
            rw [Int32.toInt_ofNat_of_lt (by omega)] at this
            simp at this
            omega
          · omega
        · rw [hi]
          refine ih (i + 1) (p2 + 1) (upd g i v) _ (by simp [upE]) (by omega) h ?_
          rw [upE_upE]
          exact kk
      · cases h
    · cases h
